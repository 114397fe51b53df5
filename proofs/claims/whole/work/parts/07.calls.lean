theorem d_Store_advance_0 : decode prog_1_method_2_code 0 = .ok (.iload_n 1, 1) := by decide +kernel
theorem d_Store_advance_1 : decode prog_1_method_2_code 1 = .ok (.ifCond .lt 10, 3) := by decide +kernel
theorem d_Store_advance_4 : decode prog_1_method_2_code 4 = .ok (.iload_n 1, 1) := by decide +kernel
theorem d_Store_advance_5 : decode prog_1_method_2_code 5 = .ok (.sipush 1000, 3) := by decide +kernel
theorem d_Store_advance_8 : decode prog_1_method_2_code 8 = .ok (.if_icmp .le 5, 3) := by decide +kernel
theorem d_Store_advance_11 : decode prog_1_method_2_code 11 = .ok (.iconst (-1), 1) := by decide +kernel
theorem d_Store_advance_12 : decode prog_1_method_2_code 12 = .ok (.ireturn, 1) := by decide +kernel
theorem d_Store_advance_13 : decode prog_1_method_2_code 13 = .ok (.aload_n 0, 1) := by decide +kernel
theorem d_Store_advance_14 : decode prog_1_method_2_code 14 = .ok (.dup, 1) := by decide +kernel
theorem d_Store_advance_15 : decode prog_1_method_2_code 15 = .ok (.getfield 48, 3) := by decide +kernel
theorem d_Store_advance_18 : decode prog_1_method_2_code 18 = .ok (.iload_n 1, 1) := by decide +kernel
theorem d_Store_advance_19 : decode prog_1_method_2_code 19 = .ok (.iadd, 1) := by decide +kernel
theorem d_Store_advance_20 : decode prog_1_method_2_code 20 = .ok (.putfield 48, 3) := by decide +kernel
theorem d_Store_advance_23 : decode prog_1_method_2_code 23 = .ok (.aload_n 0, 1) := by decide +kernel
theorem d_Store_advance_24 : decode prog_1_method_2_code 24 = .ok (.getfield 48, 3) := by decide +kernel
theorem d_Store_advance_27 : decode prog_1_method_2_code 27 = .ok (.ireturn, 1) := by decide +kernel
def S_Store_advance (n : Nat) (π : Nat → Nat) (s : S3) (d : Int32) : S3 := if d < 0 then s else if d ≤ 1000 then (u3 s 0 4 0 ((s 0 4 0) + d)) else s
def v_Store_advance (n : Nat) (π : Nat → Nat) (s : S3) (d : Int32) : Int32 := if d < 0 then (-1) else if d ≤ 1000 then ((s 0 4 0) + d) else (-1)
set_option maxHeartbeats 4000000 in
set_option maxRecDepth 100000 in
theorem c_Store_advance {l : Launch} {D : va_G} {K : Nat → ClassId} {ad : Nat → Nat → Nat} {n : Nat} {π : Nat → Nat} {s : S3} {d : Int32} (hJ : zw_J (cRL n) ad) : zM l y_Store_advance ws_Store_advance ({ frames := 0, cells := 0, slots := 0, locals := 0 }) D zCl (zTys K) (cRL n) ad [.ref (ad 0 0), .int d] (kC K ad n s π) (some (.int (v_Store_advance n π s d))) (kC K ad n (S_Store_advance n π s d) π) := by
  refine zM.of (cc := prog_1_method_2_code) (maxL := 2) (ret := (Option.some Jvm.ClassFile.FieldType.int)) (by decide) rfl (Nat.le_of_ble_eq_true rfl) ?_
  intro pP eE U mM bL mT cO S hr hlk hK
  have hts := S.2.2.2.2
  have ht := fun w h => hts w (List.mem_cons_of_mem _ h)
  refine z_iload_n S d_Store_advance_0 rfl 1 rfl 1 rfl ?_
  refine z_if_lt S d_Store_advance_1 11 (by decide) 4 rfl (fun h1 => ?_) (fun h1 => ?_)
  · refine z_iconst S d_Store_advance_11 (-1) (by decide) 12 rfl ?_
    exact z_iret S hr hlk d_Store_advance_12 (by unfold v_Store_advance; simp only [if_pos h1]) (kC_eq (by unfold S_Store_advance; simp only [if_pos h1]))
  · refine z_iload_n S d_Store_advance_4 rfl 1 rfl 5 rfl ?_
    refine z_sipush S d_Store_advance_5 1000 (by decide) 8 rfl ?_
    refine z_icmp_le S d_Store_advance_8 13 (by decide) 11 rfl (fun h2 => ?_) (fun h2 => ?_)
    · refine z_aload_n S d_Store_advance_13 rfl 0 rfl 14 rfl ?_
      refine z_dup S d_Store_advance_14 rfl 15 rfl ?_
      refine z_get S hK hin_Store rl_0 kC_0 rfl 4 (Nat.le_of_ble_eq_true rfl) (ht _ w_282) (fun _ h => h) d_Store_advance_15 18 rfl (.int (s 0 4 0)) rfl ?_
      refine z_iload_n S d_Store_advance_18 rfl 1 rfl 19 rfl ?_
      refine z_iadd S d_Store_advance_19 20 rfl ?_
      refine z_put S hJ hK hin_Store t_Store ok_Store nm_Store rl_0 kC_0 rfl 4 (Nat.le_of_ble_eq_true rfl) (ht _ w_282) (fun _ h => h) rfl rfl rfl (Nat.le_of_ble_eq_true rfl) up_0_4 d_Store_advance_20 23 rfl ?_
      refine z_aload_n S d_Store_advance_23 rfl 0 rfl 24 rfl ?_
      refine z_get S hK hin_Store rl_0 kC_0 rfl 4 (Nat.le_of_ble_eq_true rfl) (ht _ w_282) (fun _ h => h) d_Store_advance_24 27 rfl (.int ((s 0 4 0) + d)) rfl ?_
      exact z_iret S hr hlk d_Store_advance_27 (by unfold v_Store_advance; simp only [if_neg h1, if_pos h2]) (kC_eq (by unfold S_Store_advance; simp only [if_neg h1, if_pos h2]))
    · refine z_iconst S d_Store_advance_11 (-1) (by decide) 12 rfl ?_
      exact z_iret S hr hlk d_Store_advance_12 (by unfold v_Store_advance; simp only [if_neg h1, if_neg h2]) (kC_eq (by unfold S_Store_advance; simp only [if_neg h1, if_neg h2]))
theorem d_Store_skew_0 : decode prog_1_method_3_code 0 = .ok (.aload_n 0, 1) := by decide +kernel
theorem d_Store_skew_1 : decode prog_1_method_3_code 1 = .ok (.iload_n 1, 1) := by decide +kernel
theorem d_Store_skew_2 : decode prog_1_method_3_code 2 = .ok (.invokevirtual 52, 3) := by decide +kernel
theorem d_Store_skew_5 : decode prog_1_method_3_code 5 = .ok (.ifCond .eq 15, 3) := by decide +kernel
theorem d_Store_skew_8 : decode prog_1_method_3_code 8 = .ok (.iload_n 2, 1) := by decide +kernel
theorem d_Store_skew_9 : decode prog_1_method_3_code 9 = .ok (.bipush (-10), 2) := by decide +kernel
theorem d_Store_skew_11 : decode prog_1_method_3_code 11 = .ok (.if_icmp .lt 9, 3) := by decide +kernel
theorem d_Store_skew_14 : decode prog_1_method_3_code 14 = .ok (.iload_n 2, 1) := by decide +kernel
theorem d_Store_skew_15 : decode prog_1_method_3_code 15 = .ok (.bipush 10, 2) := by decide +kernel
theorem d_Store_skew_17 : decode prog_1_method_3_code 17 = .ok (.if_icmp .le 5, 3) := by decide +kernel
theorem d_Store_skew_20 : decode prog_1_method_3_code 20 = .ok (.iconst 0, 1) := by decide +kernel
theorem d_Store_skew_21 : decode prog_1_method_3_code 21 = .ok (.ireturn, 1) := by decide +kernel
theorem d_Store_skew_22 : decode prog_1_method_3_code 22 = .ok (.aload_n 0, 1) := by decide +kernel
theorem d_Store_skew_23 : decode prog_1_method_3_code 23 = .ok (.getfield 20, 3) := by decide +kernel
theorem d_Store_skew_26 : decode prog_1_method_3_code 26 = .ok (.iload_n 1, 1) := by decide +kernel
theorem d_Store_skew_27 : decode prog_1_method_3_code 27 = .ok (.aaload, 1) := by decide +kernel
theorem d_Store_skew_28 : decode prog_1_method_3_code 28 = .ok (.iload_n 2, 1) := by decide +kernel
theorem d_Store_skew_29 : decode prog_1_method_3_code 29 = .ok (.putfield 56, 3) := by decide +kernel
theorem d_Store_skew_32 : decode prog_1_method_3_code 32 = .ok (.iconst 1, 1) := by decide +kernel
theorem d_Store_skew_33 : decode prog_1_method_3_code 33 = .ok (.ireturn, 1) := by decide +kernel
def S_Store_skew (n : Nat) (π : Nat → Nat) (s : S3) (x : Int32) (o : Int32) : S3 := if (v_Store_isServer n x) = 0 then s else if o < (-10) then s else if o ≤ 10 then (u3 s 1 4 x.toNatClampNeg o) else s
def v_Store_skew (n : Nat) (π : Nat → Nat) (s : S3) (x : Int32) (o : Int32) : Int32 := if (v_Store_isServer n x) = 0 then 0 else if o < (-10) then 0 else if o ≤ 10 then 1 else 0
theorem zbv_Store_skew {n : Nat} {π : Nat → Nat} {s : S3} {x : Int32} {o : Int32} : zb (v_Store_skew n π s x o) := by
  unfold v_Store_skew
  repeat' split
  all_goals first | with_reducible exact zb_0 | with_reducible exact zb_1 | with_reducible exact zbv_View_hasBackup | with_reducible exact zbv_Server_isPrimary | with_reducible exact zbv_Server_isPrimaryOf | with_reducible exact zbv_Server_isBackupOf | with_reducible exact zbv_Client_takeAnswer | with_reducible exact zbv_Service_isFresh | with_reducible exact zbv_Post_has | with_reducible exact zbv_Store_isServer | with_reducible exact zbv_Store_isClient | with_reducible exact zbv_Store_isCell | with_reducible exact zbv_Store_takeRead | with_reducible exact zbv_Store_takeWrite | with_reducible exact zbv_Store_takeAsk | with_reducible exact zbv_Store_takePassed | with_reducible exact zbv_Store_takePass | with_reducible exact zbv_Store_takeFilled | with_reducible exact zbv_Store_takeFill | with_reducible exact zbv_Store_takeView | with_reducible exact zbv_Store_takePing | with_reducible exact zbv_Store_takesEffect
set_option maxHeartbeats 4000000 in
set_option maxRecDepth 100000 in
theorem c_Store_skew {l : Launch} {D : va_G} {K : Nat → ClassId} {ad : Nat → Nat → Nat} {n : Nat} {π : Nat → Nat} {s : S3} {x o : Int32} (hJ : zw_J (cRL n) ad) (hn5 : n ≤ 5) : zM l y_Store_skew ws_Store_skew ({ frames := 1, cells := 0, slots := 0, locals := 21 }) D zCl (zTys K) (cRL n) ad [.ref (ad 0 0), .int x, .int o] (kC K ad n s π) (some (.int (v_Store_skew n π s x o))) (kC K ad n (S_Store_skew n π s x o) π) := by
  refine zM.of (cc := prog_1_method_3_code) (maxL := 3) (ret := (Option.some Jvm.ClassFile.FieldType.boolean)) (by decide) rfl (Nat.le_of_ble_eq_true rfl) ?_
  intro pP eE U mM bL mT cO S hr hlk hK
  have hts := S.2.2.2.2
  have ht := fun w h => hts w (List.mem_cons_of_mem _ h)
  refine z_aload_n S d_Store_skew_0 rfl 0 rfl 1 rfl ?_
  refine z_iload_n S d_Store_skew_1 rfl 1 rfl 2 rfl ?_
  refine z_callV S hK (As := [.int x]) (rest := []) (c_Store_isServer (x := x) hJ) (cw_Store_isServer hts w_302 rfl rfl ⟨(Nat.le_of_ble_eq_true rfl), (Nat.le_of_ble_eq_true rfl)⟩) rl_0 kC_0 rfl rfl rfl (Nat.le_of_ble_eq_true rfl) d_Store_skew_2 5 rfl [.int (v_Store_isServer n x)] rfl ?_
  refine z_if_eq S d_Store_skew_5 20 (by decide) 8 rfl (fun h1 => ?_) (fun h1 => ?_)
  · refine z_iconst S d_Store_skew_20 0 (by decide) 21 rfl ?_
    exact z_zret S hr (zb_n zb_0) hlk d_Store_skew_21 (by unfold v_Store_skew; simp only [if_pos h1]) (kC_eq (by unfold S_Store_skew; simp only [if_pos h1]))
  · refine z_iload_n S d_Store_skew_8 rfl 2 rfl 9 rfl ?_
    refine z_bipush S d_Store_skew_9 (-10) (by decide) 11 rfl ?_
    refine z_icmp_lt S d_Store_skew_11 20 (by decide) 14 rfl (fun h2 => ?_) (fun h2 => ?_)
    · refine z_iconst S d_Store_skew_20 0 (by decide) 21 rfl ?_
      exact z_zret S hr (zb_n zb_0) hlk d_Store_skew_21 (by unfold v_Store_skew; simp only [if_neg h1, if_pos h2]) (kC_eq (by unfold S_Store_skew; simp only [if_neg h1, if_pos h2]))
    · refine z_iload_n S d_Store_skew_14 rfl 2 rfl 15 rfl ?_
      refine z_bipush S d_Store_skew_15 10 (by decide) 17 rfl ?_
      refine z_icmp_le S d_Store_skew_17 22 (by decide) 20 rfl (fun h3 => ?_) (fun h3 => ?_)
      · refine z_aload_n S d_Store_skew_22 rfl 0 rfl 23 rfl ?_
        refine z_get S hK hin_Store rl_0 kC_0 rfl 0 (Nat.le_of_ble_eq_true rfl) (ht _ w_278) (fun _ h => h) d_Store_skew_23 26 rfl (.ref (ad 10 0)) rfl ?_
        refine z_iload_n S d_Store_skew_26 rfl 1 rfl 27 rfl ?_
        refine z_aald S hK rl_10 3 kC_10 rfl (in_srv hn5 h1) rfl d_Store_skew_27 28 rfl ?_
        refine z_iload_n S d_Store_skew_28 rfl 2 rfl 29 rfl ?_
        refine z_put S hJ hK hin_Server t_Server ok_Server nm_Server (rl_srv (vp_lt (in_srv hn5 h1))) kC_1 rfl 4 (Nat.le_of_ble_eq_true rfl) (ht _ w_126) (fun _ h => h) rfl rfl rfl (Nat.le_of_ble_eq_true rfl) up_1_4 d_Store_skew_29 32 rfl ?_
        refine z_iconst S d_Store_skew_32 1 (by decide) 33 rfl ?_
        exact z_zret S hr (zb_n zb_1) hlk d_Store_skew_33 (by unfold v_Store_skew; simp only [if_neg h1, if_neg h2, if_pos h3]) (kC_eq (by unfold S_Store_skew; simp only [if_neg h1, if_neg h2, if_pos h3]))
      · refine z_iconst S d_Store_skew_20 0 (by decide) 21 rfl ?_
        exact z_zret S hr (zb_n zb_0) hlk d_Store_skew_21 (by unfold v_Store_skew; simp only [if_neg h1, if_neg h2, if_neg h3]) (kC_eq (by unfold S_Store_skew; simp only [if_neg h1, if_neg h2, if_neg h3]))
theorem d_Store_ping_0 : decode prog_1_method_4_code 0 = .ok (.aload_n 0, 1) := by decide +kernel
theorem d_Store_ping_1 : decode prog_1_method_4_code 1 = .ok (.iload_n 1, 1) := by decide +kernel
theorem d_Store_ping_2 : decode prog_1_method_4_code 2 = .ok (.invokevirtual 52, 3) := by decide +kernel
theorem d_Store_ping_5 : decode prog_1_method_4_code 5 = .ok (.ifCond .eq 15, 3) := by decide +kernel
theorem d_Store_ping_8 : decode prog_1_method_4_code 8 = .ok (.aload_n 0, 1) := by decide +kernel
theorem d_Store_ping_9 : decode prog_1_method_4_code 9 = .ok (.getfield 20, 3) := by decide +kernel
theorem d_Store_ping_12 : decode prog_1_method_4_code 12 = .ok (.iload_n 1, 1) := by decide +kernel
theorem d_Store_ping_13 : decode prog_1_method_4_code 13 = .ok (.aaload, 1) := by decide +kernel
theorem d_Store_ping_14 : decode prog_1_method_4_code 14 = .ok (.getfield 59, 3) := by decide +kernel
theorem d_Store_ping_17 : decode prog_1_method_4_code 17 = .ok (.ifCond .eq 5, 3) := by decide +kernel
theorem d_Store_ping_20 : decode prog_1_method_4_code 20 = .ok (.iconst 0, 1) := by decide +kernel
theorem d_Store_ping_21 : decode prog_1_method_4_code 21 = .ok (.ireturn, 1) := by decide +kernel
theorem d_Store_ping_22 : decode prog_1_method_4_code 22 = .ok (.aload_n 0, 1) := by decide +kernel
theorem d_Store_ping_23 : decode prog_1_method_4_code 23 = .ok (.getfield 20, 3) := by decide +kernel
theorem d_Store_ping_26 : decode prog_1_method_4_code 26 = .ok (.iload_n 1, 1) := by decide +kernel
theorem d_Store_ping_27 : decode prog_1_method_4_code 27 = .ok (.aaload, 1) := by decide +kernel
theorem d_Store_ping_28 : decode prog_1_method_4_code 28 = .ok (.astore_n 2, 1) := by decide +kernel
theorem d_Store_ping_29 : decode prog_1_method_4_code 29 = .ok (.aload_n 0, 1) := by decide +kernel
theorem d_Store_ping_30 : decode prog_1_method_4_code 30 = .ok (.getfield 44, 3) := by decide +kernel
theorem d_Store_ping_33 : decode prog_1_method_4_code 33 = .ok (.iconst 1, 1) := by decide +kernel
theorem d_Store_ping_34 : decode prog_1_method_4_code 34 = .ok (.iload_n 1, 1) := by decide +kernel
theorem d_Store_ping_35 : decode prog_1_method_4_code 35 = .ok (.invokevirtual 63, 3) := by decide +kernel
theorem d_Store_ping_38 : decode prog_1_method_4_code 38 = .ok (.astore_n 3, 1) := by decide +kernel
theorem d_Store_ping_39 : decode prog_1_method_4_code 39 = .ok (.aload_n 3, 1) := by decide +kernel
theorem d_Store_ping_40 : decode prog_1_method_4_code 40 = .ok (.aload_n 2, 1) := by decide +kernel
theorem d_Store_ping_41 : decode prog_1_method_4_code 41 = .ok (.invokevirtual 67, 3) := by decide +kernel
theorem d_Store_ping_44 : decode prog_1_method_4_code 44 = .ok (.putfield 71, 3) := by decide +kernel
theorem d_Store_ping_47 : decode prog_1_method_4_code 47 = .ok (.aload_n 3, 1) := by decide +kernel
theorem d_Store_ping_48 : decode prog_1_method_4_code 48 = .ok (.aload_n 0, 1) := by decide +kernel
theorem d_Store_ping_49 : decode prog_1_method_4_code 49 = .ok (.aload_n 2, 1) := by decide +kernel
theorem d_Store_ping_50 : decode prog_1_method_4_code 50 = .ok (.invokevirtual 76, 3) := by decide +kernel
theorem d_Store_ping_53 : decode prog_1_method_4_code 53 = .ok (.putfield 80, 3) := by decide +kernel
theorem d_Store_ping_56 : decode prog_1_method_4_code 56 = .ok (.iconst 1, 1) := by decide +kernel
theorem d_Store_ping_57 : decode prog_1_method_4_code 57 = .ok (.ireturn, 1) := by decide +kernel
def S_Store_ping (n : Nat) (π : Nat → Nat) (s : S3) (x : Int32) : S3 := if (v_Store_isServer n x) = 0 then s else if (s 1 6 x.toNatClampNeg) = 0 then (u3 (u3 (S_Post_next π s 1 x) 5 5 (nxL (s 4 2 0) π) (v_Server_confirmedNumber (s 6 1 x.toNatClampNeg) (s 1 0 x.toNatClampNeg) (s 6 0 x.toNatClampNeg) (s 1 7 x.toNatClampNeg))) 5 6 (nxL (s 4 2 0) π) ((s 0 4 0) + (s 1 4 x.toNatClampNeg))) else s
def v_Store_ping (n : Nat) (π : Nat → Nat) (s : S3) (x : Int32) : Int32 := if (v_Store_isServer n x) = 0 then 0 else if (s 1 6 x.toNatClampNeg) = 0 then 1 else 0
theorem zbv_Store_ping {n : Nat} {π : Nat → Nat} {s : S3} {x : Int32} : zb (v_Store_ping n π s x) := by
  unfold v_Store_ping
  repeat' split
  all_goals first | with_reducible exact zb_0 | with_reducible exact zb_1 | with_reducible exact zbv_View_hasBackup | with_reducible exact zbv_Server_isPrimary | with_reducible exact zbv_Server_isPrimaryOf | with_reducible exact zbv_Server_isBackupOf | with_reducible exact zbv_Client_takeAnswer | with_reducible exact zbv_Service_isFresh | with_reducible exact zbv_Post_has | with_reducible exact zbv_Store_isServer | with_reducible exact zbv_Store_isClient | with_reducible exact zbv_Store_isCell | with_reducible exact zbv_Store_takeRead | with_reducible exact zbv_Store_takeWrite | with_reducible exact zbv_Store_takeAsk | with_reducible exact zbv_Store_takePassed | with_reducible exact zbv_Store_takePass | with_reducible exact zbv_Store_takeFilled | with_reducible exact zbv_Store_takeFill | with_reducible exact zbv_Store_takeView | with_reducible exact zbv_Store_takePing | with_reducible exact zbv_Store_takesEffect | with_reducible exact zbv_Store_skew
set_option maxHeartbeats 4000000 in
set_option maxRecDepth 100000 in
theorem c_Store_ping {l : Launch} {D : va_G} {K : Nat → ClassId} {ad : Nat → Nat → Nat} {n : Nat} {π : Nat → Nat} {s : S3} {x : Int32} (hJ : zw_J (cRL n) ad) (hn5 : n ≤ 5) (hw : vp_in (s 4 2 0) 33) (hπ : ∀ j, π j < 34) : zM l y_Store_ping ws_Store_ping ({ frames := 2, cells := 0, slots := 0, locals := 40 }) D zCl (zTys K) (cRL n) ad [.ref (ad 0 0), .int x] (kC K ad n s π) (some (.int (v_Store_ping n π s x))) (kC K ad n (S_Store_ping n π s x) π) := by
  refine zM.of (cc := prog_1_method_4_code) (maxL := 4) (ret := (Option.some Jvm.ClassFile.FieldType.boolean)) (by decide) rfl (Nat.le_of_ble_eq_true rfl) ?_
  intro pP eE U mM bL mT cO S hr hlk hK
  have hts := S.2.2.2.2
  have ht := fun w h => hts w (List.mem_cons_of_mem _ h)
  refine z_aload_n S d_Store_ping_0 rfl 0 rfl 1 rfl ?_
  refine z_iload_n S d_Store_ping_1 rfl 1 rfl 2 rfl ?_
  refine z_callV S hK (As := [.int x]) (rest := []) (c_Store_isServer (x := x) hJ) (cw_Store_isServer hts w_302 rfl rfl ⟨(Nat.le_of_ble_eq_true rfl), (Nat.le_of_ble_eq_true rfl)⟩) rl_0 kC_0 rfl rfl rfl (Nat.le_of_ble_eq_true rfl) d_Store_ping_2 5 rfl [.int (v_Store_isServer n x)] rfl ?_
  refine z_if_eq S d_Store_ping_5 20 (by decide) 8 rfl (fun h1 => ?_) (fun h1 => ?_)
  · refine z_iconst S d_Store_ping_20 0 (by decide) 21 rfl ?_
    exact z_zret S hr (zb_n zb_0) hlk d_Store_ping_21 (by unfold v_Store_ping; simp only [if_pos h1]) (kC_eq (by unfold S_Store_ping; simp only [if_pos h1]))
  · refine z_aload_n S d_Store_ping_8 rfl 0 rfl 9 rfl ?_
    refine z_get S hK hin_Store rl_0 kC_0 rfl 0 (Nat.le_of_ble_eq_true rfl) (ht _ w_278) (fun _ h => h) d_Store_ping_9 12 rfl (.ref (ad 10 0)) rfl ?_
    refine z_iload_n S d_Store_ping_12 rfl 1 rfl 13 rfl ?_
    refine z_aald S hK rl_10 3 kC_10 rfl (in_srv hn5 h1) rfl d_Store_ping_13 14 rfl ?_
    refine z_get S hK hin_Server (rl_srv (vp_lt (in_srv hn5 h1))) kC_1 rfl 6 (Nat.le_of_ble_eq_true rfl) (ht _ w_130) (fun _ h => h) d_Store_ping_14 17 rfl (.int (s 1 6 x.toNatClampNeg)) rfl ?_
    refine z_if_eq S d_Store_ping_17 22 (by decide) 20 rfl (fun h2 => ?_) (fun h2 => ?_)
    · refine z_aload_n S d_Store_ping_22 rfl 0 rfl 23 rfl ?_
      refine z_get S hK hin_Store rl_0 kC_0 rfl 0 (Nat.le_of_ble_eq_true rfl) (ht _ w_278) (fun _ h => h) d_Store_ping_23 26 rfl (.ref (ad 10 0)) rfl ?_
      refine z_iload_n S d_Store_ping_26 rfl 1 rfl 27 rfl ?_
      refine z_aald S hK rl_10 3 kC_10 rfl (in_srv hn5 h1) rfl d_Store_ping_27 28 rfl ?_
      refine z_astore_n S d_Store_ping_28 rfl (Nat.le_of_ble_eq_true rfl) [(2, .ref (ad 1 x.toNatClampNeg)), (0, .ref (ad 0 0)), (1, .int x)] rfl 29 rfl ?_
      refine z_aload_n S d_Store_ping_29 rfl 1 rfl 30 rfl ?_
      refine z_get S hK hin_Store rl_0 kC_0 rfl 3 (Nat.le_of_ble_eq_true rfl) (ht _ w_281) (fun _ h => h) d_Store_ping_30 33 rfl (.ref (ad 4 0)) rfl ?_
      refine z_iconst S d_Store_ping_33 1 (by decide) 34 rfl ?_
      refine z_iload_n S d_Store_ping_34 rfl 2 rfl 35 rfl ?_
      refine z_callV S hK (As := [.int 1, .int x]) (rest := []) (c_Post_next (k := 1) (p := x) hJ hw hπ) (cw_Post_next hts w_310 rfl rfl ⟨(Nat.le_of_ble_eq_true rfl), (Nat.le_of_ble_eq_true rfl)⟩) rl_4 kC_4 rfl rfl rfl (Nat.le_of_ble_eq_true rfl) d_Store_ping_35 38 rfl [.ref (ad 5 (nxL (s 4 2 0) π))] rfl ?_
      refine z_astore_n S d_Store_ping_38 rfl (Nat.le_of_ble_eq_true rfl) [(3, .ref (ad 5 (nxL (s 4 2 0) π))), (2, .ref (ad 1 x.toNatClampNeg)), (0, .ref (ad 0 0)), (1, .int x)] rfl 39 rfl ?_
      refine z_aload_n S d_Store_ping_39 rfl 0 rfl 40 rfl ?_
      refine z_aload_n S d_Store_ping_40 rfl 1 rfl 41 rfl ?_
      refine z_callV S hK (As := []) (rest := [.ref (ad 5 (nxL (s 4 2 0) π))]) (c_Server_confirmedNumber (i := x.toNatClampNeg) hJ (rl_srv (vp_lt (in_srv hn5 h1)))) (cw_Server_confirmedNumber hts w_314 rfl rfl ⟨(Nat.le_of_ble_eq_true rfl), (Nat.le_of_ble_eq_true rfl)⟩) (rl_srv (vp_lt (in_srv hn5 h1))) kC_1 rfl rfl rfl (Nat.le_of_ble_eq_true rfl) d_Store_ping_41 44 rfl [.int (v_Server_confirmedNumber (s 6 1 x.toNatClampNeg) (s 1 0 x.toNatClampNeg) (s 6 0 x.toNatClampNeg) (s 1 7 x.toNatClampNeg)), .ref (ad 5 (nxL (s 4 2 0) π))] rfl ?_
      refine z_put S hJ hK hin_Letter t_Letter ok_Letter nm_Letter (rl_nx hπ) kC_5 rfl 5 (Nat.le_of_ble_eq_true rfl) (ht _ w_239) (fun _ h => h) rfl rfl rfl (Nat.le_of_ble_eq_true rfl) up_5_5 d_Store_ping_44 47 rfl ?_
      refine z_aload_n S d_Store_ping_47 rfl 0 rfl 48 rfl ?_
      refine z_aload_n S d_Store_ping_48 rfl 2 rfl 49 rfl ?_
      refine z_aload_n S d_Store_ping_49 rfl 1 rfl 50 rfl ?_
      refine z_callV S hK (As := [.ref (ad 1 x.toNatClampNeg)]) (rest := [.ref (ad 5 (nxL (s 4 2 0) π))]) (c_Store_clockOf (i := x.toNatClampNeg) hJ (rl_srv (vp_lt (in_srv hn5 h1)))) (cw_Store_clockOf hts w_322 rfl rfl ⟨(Nat.le_of_ble_eq_true rfl), (Nat.le_of_ble_eq_true rfl)⟩) rl_0 kC_0 rfl rfl rfl (Nat.le_of_ble_eq_true rfl) d_Store_ping_50 53 rfl [.int ((s 0 4 0) + (s 1 4 x.toNatClampNeg)), .ref (ad 5 (nxL (s 4 2 0) π))] rfl ?_
      refine z_put S hJ hK hin_Letter t_Letter ok_Letter nm_Letter (rl_nx hπ) kC_5 rfl 6 (Nat.le_of_ble_eq_true rfl) (ht _ w_241) (fun _ h => h) rfl rfl rfl (Nat.le_of_ble_eq_true rfl) up_5_6 d_Store_ping_53 56 rfl ?_
      refine z_iconst S d_Store_ping_56 1 (by decide) 57 rfl ?_
      exact z_zret S hr (zb_n zb_1) hlk d_Store_ping_57 (by unfold v_Store_ping; simp only [if_neg h1, if_pos h2]) (kC_eq (by unfold S_Store_ping; simp only [if_neg h1, if_pos h2]))
    · refine z_iconst S d_Store_ping_20 0 (by decide) 21 rfl ?_
      exact z_zret S hr (zb_n zb_0) hlk d_Store_ping_21 (by unfold v_Store_ping; simp only [if_neg h1, if_neg h2]) (kC_eq (by unfold S_Store_ping; simp only [if_neg h1, if_neg h2]))
theorem d_Store_push_0 : decode prog_1_method_6_code 0 = .ok (.aload_n 0, 1) := by decide +kernel
theorem d_Store_push_1 : decode prog_1_method_6_code 1 = .ok (.iload_n 1, 1) := by decide +kernel
theorem d_Store_push_2 : decode prog_1_method_6_code 2 = .ok (.invokevirtual 52, 3) := by decide +kernel
theorem d_Store_push_5 : decode prog_1_method_6_code 5 = .ok (.ifCond .eq 15, 3) := by decide +kernel
theorem d_Store_push_8 : decode prog_1_method_6_code 8 = .ok (.aload_n 0, 1) := by decide +kernel
theorem d_Store_push_9 : decode prog_1_method_6_code 9 = .ok (.getfield 20, 3) := by decide +kernel
theorem d_Store_push_12 : decode prog_1_method_6_code 12 = .ok (.iload_n 1, 1) := by decide +kernel
theorem d_Store_push_13 : decode prog_1_method_6_code 13 = .ok (.aaload, 1) := by decide +kernel
theorem d_Store_push_14 : decode prog_1_method_6_code 14 = .ok (.getfield 59, 3) := by decide +kernel
theorem d_Store_push_17 : decode prog_1_method_6_code 17 = .ok (.ifCond .eq 5, 3) := by decide +kernel
theorem d_Store_push_20 : decode prog_1_method_6_code 20 = .ok (.iconst 0, 1) := by decide +kernel
theorem d_Store_push_21 : decode prog_1_method_6_code 21 = .ok (.ireturn, 1) := by decide +kernel
theorem d_Store_push_22 : decode prog_1_method_6_code 22 = .ok (.aload_n 0, 1) := by decide +kernel
theorem d_Store_push_23 : decode prog_1_method_6_code 23 = .ok (.getfield 20, 3) := by decide +kernel
theorem d_Store_push_26 : decode prog_1_method_6_code 26 = .ok (.iload_n 1, 1) := by decide +kernel
theorem d_Store_push_27 : decode prog_1_method_6_code 27 = .ok (.aaload, 1) := by decide +kernel
theorem d_Store_push_28 : decode prog_1_method_6_code 28 = .ok (.astore_n 2, 1) := by decide +kernel
theorem d_Store_push_29 : decode prog_1_method_6_code 29 = .ok (.aload_n 2, 1) := by decide +kernel
theorem d_Store_push_30 : decode prog_1_method_6_code 30 = .ok (.invokevirtual 97, 3) := by decide +kernel
theorem d_Store_push_33 : decode prog_1_method_6_code 33 = .ok (.ifCond .eq 13, 3) := by decide +kernel
theorem d_Store_push_36 : decode prog_1_method_6_code 36 = .ok (.aload_n 2, 1) := by decide +kernel
theorem d_Store_push_37 : decode prog_1_method_6_code 37 = .ok (.getfield 101, 3) := by decide +kernel
theorem d_Store_push_40 : decode prog_1_method_6_code 40 = .ok (.invokevirtual 104, 3) := by decide +kernel
theorem d_Store_push_43 : decode prog_1_method_6_code 43 = .ok (.ifCond .ne 5, 3) := by decide +kernel
theorem d_Store_push_46 : decode prog_1_method_6_code 46 = .ok (.iconst 0, 1) := by decide +kernel
theorem d_Store_push_47 : decode prog_1_method_6_code 47 = .ok (.ireturn, 1) := by decide +kernel
theorem d_Store_push_48 : decode prog_1_method_6_code 48 = .ok (.aload_n 2, 1) := by decide +kernel
theorem d_Store_push_49 : decode prog_1_method_6_code 49 = .ok (.getfield 107, 3) := by decide +kernel
theorem d_Store_push_52 : decode prog_1_method_6_code 52 = .ok (.ifCond .ne 10, 3) := by decide +kernel
theorem d_Store_push_55 : decode prog_1_method_6_code 55 = .ok (.aload_n 0, 1) := by decide +kernel
theorem d_Store_push_56 : decode prog_1_method_6_code 56 = .ok (.aload_n 2, 1) := by decide +kernel
theorem d_Store_push_57 : decode prog_1_method_6_code 57 = .ok (.invokevirtual 110, 3) := by decide +kernel
theorem d_Store_push_60 : decode prog_1_method_6_code 60 = .ok (.iconst 1, 1) := by decide +kernel
theorem d_Store_push_61 : decode prog_1_method_6_code 61 = .ok (.ireturn, 1) := by decide +kernel
theorem d_Store_push_62 : decode prog_1_method_6_code 62 = .ok (.aload_n 2, 1) := by decide +kernel
theorem d_Store_push_63 : decode prog_1_method_6_code 63 = .ok (.getfield 114, 3) := by decide +kernel
theorem d_Store_push_66 : decode prog_1_method_6_code 66 = .ok (.ifCond .eq 10, 3) := by decide +kernel
theorem d_Store_push_69 : decode prog_1_method_6_code 69 = .ok (.aload_n 0, 1) := by decide +kernel
theorem d_Store_push_70 : decode prog_1_method_6_code 70 = .ok (.aload_n 2, 1) := by decide +kernel
theorem d_Store_push_71 : decode prog_1_method_6_code 71 = .ok (.invokevirtual 117, 3) := by decide +kernel
theorem d_Store_push_74 : decode prog_1_method_6_code 74 = .ok (.iconst 1, 1) := by decide +kernel
theorem d_Store_push_75 : decode prog_1_method_6_code 75 = .ok (.ireturn, 1) := by decide +kernel
theorem d_Store_push_76 : decode prog_1_method_6_code 76 = .ok (.iconst 0, 1) := by decide +kernel
theorem d_Store_push_77 : decode prog_1_method_6_code 77 = .ok (.ireturn, 1) := by decide +kernel
def S_Store_push (n : Nat) (π : Nat → Nat) (s : S3) (x : Int32) : S3 := if (v_Store_isServer n x) = 0 then s else if (s 1 6 x.toNatClampNeg) = 0 then (if (v_Server_isPrimary (s 6 1 x.toNatClampNeg) (s 1 0 x.toNatClampNeg)) = 0 then s else if (v_View_hasBackup (s 6 2 x.toNatClampNeg)) = 0 then s else if (s 1 7 x.toNatClampNeg) = 0 then (S_Store_sendFill π s x.toNatClampNeg) else if (s 1 8 x.toNatClampNeg) = 0 then s else S_Store_sendPass π s x.toNatClampNeg) else s
def v_Store_push (n : Nat) (π : Nat → Nat) (s : S3) (x : Int32) : Int32 := if (v_Store_isServer n x) = 0 then 0 else if (s 1 6 x.toNatClampNeg) = 0 then (if (v_Server_isPrimary (s 6 1 x.toNatClampNeg) (s 1 0 x.toNatClampNeg)) = 0 then 0 else if (v_View_hasBackup (s 6 2 x.toNatClampNeg)) = 0 then 0 else if (s 1 7 x.toNatClampNeg) = 0 then 1 else if (s 1 8 x.toNatClampNeg) = 0 then 0 else 1) else 0
theorem zbv_Store_push {n : Nat} {π : Nat → Nat} {s : S3} {x : Int32} : zb (v_Store_push n π s x) := by
  unfold v_Store_push
  repeat' split
  all_goals first | with_reducible exact zb_0 | with_reducible exact zb_1 | with_reducible exact zbv_View_hasBackup | with_reducible exact zbv_Server_isPrimary | with_reducible exact zbv_Server_isPrimaryOf | with_reducible exact zbv_Server_isBackupOf | with_reducible exact zbv_Client_takeAnswer | with_reducible exact zbv_Service_isFresh | with_reducible exact zbv_Post_has | with_reducible exact zbv_Store_isServer | with_reducible exact zbv_Store_isClient | with_reducible exact zbv_Store_isCell | with_reducible exact zbv_Store_takeRead | with_reducible exact zbv_Store_takeWrite | with_reducible exact zbv_Store_takeAsk | with_reducible exact zbv_Store_takePassed | with_reducible exact zbv_Store_takePass | with_reducible exact zbv_Store_takeFilled | with_reducible exact zbv_Store_takeFill | with_reducible exact zbv_Store_takeView | with_reducible exact zbv_Store_takePing | with_reducible exact zbv_Store_takesEffect | with_reducible exact zbv_Store_skew | with_reducible exact zbv_Store_ping
set_option maxHeartbeats 4000000 in
set_option maxRecDepth 100000 in
theorem c_Store_push {l : Launch} {D : va_G} {K : Nat → ClassId} {ad : Nat → Nat → Nat} {n : Nat} {π : Nat → Nat} {s : S3} {x : Int32} (hJ : zw_J (cRL n) ad) (hn5 : n ≤ 5) (hw : vp_in (s 4 2 0) 33) (hπ : ∀ j, π j < 34) (hop : opOK s) : zM l y_Store_push ws_Store_push ({ frames := 3, cells := 0, slots := 0, locals := 123 }) D zCl (zTys K) (cRL n) ad [.ref (ad 0 0), .int x] (kC K ad n s π) (some (.int (v_Store_push n π s x))) (kC K ad n (S_Store_push n π s x) π) := by
  refine zM.of (cc := prog_1_method_6_code) (maxL := 3) (ret := (Option.some Jvm.ClassFile.FieldType.boolean)) (by decide) rfl (Nat.le_of_ble_eq_true rfl) ?_
  intro pP eE U mM bL mT cO S hr hlk hK
  have hts := S.2.2.2.2
  have ht := fun w h => hts w (List.mem_cons_of_mem _ h)
  refine z_aload_n S d_Store_push_0 rfl 0 rfl 1 rfl ?_
  refine z_iload_n S d_Store_push_1 rfl 1 rfl 2 rfl ?_
  refine z_callV S hK (As := [.int x]) (rest := []) (c_Store_isServer (x := x) hJ) (cw_Store_isServer hts w_302 rfl rfl ⟨(Nat.le_of_ble_eq_true rfl), (Nat.le_of_ble_eq_true rfl)⟩) rl_0 kC_0 rfl rfl rfl (Nat.le_of_ble_eq_true rfl) d_Store_push_2 5 rfl [.int (v_Store_isServer n x)] rfl ?_
  refine z_if_eq S d_Store_push_5 20 (by decide) 8 rfl (fun h1 => ?_) (fun h1 => ?_)
  · refine z_iconst S d_Store_push_20 0 (by decide) 21 rfl ?_
    exact z_zret S hr (zb_n zb_0) hlk d_Store_push_21 (by unfold v_Store_push; simp only [if_pos h1]) (kC_eq (by unfold S_Store_push; simp only [if_pos h1]))
  · refine z_aload_n S d_Store_push_8 rfl 0 rfl 9 rfl ?_
    refine z_get S hK hin_Store rl_0 kC_0 rfl 0 (Nat.le_of_ble_eq_true rfl) (ht _ w_278) (fun _ h => h) d_Store_push_9 12 rfl (.ref (ad 10 0)) rfl ?_
    refine z_iload_n S d_Store_push_12 rfl 1 rfl 13 rfl ?_
    refine z_aald S hK rl_10 3 kC_10 rfl (in_srv hn5 h1) rfl d_Store_push_13 14 rfl ?_
    refine z_get S hK hin_Server (rl_srv (vp_lt (in_srv hn5 h1))) kC_1 rfl 6 (Nat.le_of_ble_eq_true rfl) (ht _ w_130) (fun _ h => h) d_Store_push_14 17 rfl (.int (s 1 6 x.toNatClampNeg)) rfl ?_
    refine z_if_eq S d_Store_push_17 22 (by decide) 20 rfl (fun h2 => ?_) (fun h2 => ?_)
    · refine z_aload_n S d_Store_push_22 rfl 0 rfl 23 rfl ?_
      refine z_get S hK hin_Store rl_0 kC_0 rfl 0 (Nat.le_of_ble_eq_true rfl) (ht _ w_278) (fun _ h => h) d_Store_push_23 26 rfl (.ref (ad 10 0)) rfl ?_
      refine z_iload_n S d_Store_push_26 rfl 1 rfl 27 rfl ?_
      refine z_aald S hK rl_10 3 kC_10 rfl (in_srv hn5 h1) rfl d_Store_push_27 28 rfl ?_
      refine z_astore_n S d_Store_push_28 rfl (Nat.le_of_ble_eq_true rfl) [(2, .ref (ad 1 x.toNatClampNeg)), (0, .ref (ad 0 0)), (1, .int x)] rfl 29 rfl ?_
      refine z_aload_n S d_Store_push_29 rfl 0 rfl 30 rfl ?_
      refine z_callV S hK (As := []) (rest := []) (c_Server_isPrimary (i := x.toNatClampNeg) hJ (rl_srv (vp_lt (in_srv hn5 h1)))) (cw_Server_isPrimary hts w_354 rfl rfl ⟨(Nat.le_of_ble_eq_true rfl), (Nat.le_of_ble_eq_true rfl)⟩) (rl_srv (vp_lt (in_srv hn5 h1))) kC_1 rfl rfl rfl (Nat.le_of_ble_eq_true rfl) d_Store_push_30 33 rfl [.int (v_Server_isPrimary (s 6 1 x.toNatClampNeg) (s 1 0 x.toNatClampNeg))] rfl ?_
      refine z_if_eq S d_Store_push_33 46 (by decide) 36 rfl (fun h3 => ?_) (fun h3 => ?_)
      · refine z_iconst S d_Store_push_46 0 (by decide) 47 rfl ?_
        exact z_zret S hr (zb_n zb_0) hlk d_Store_push_47 (by unfold v_Store_push; simp only [if_neg h1, if_pos h2, if_pos h3]) (kC_eq (by unfold S_Store_push; simp only [if_neg h1, if_pos h2, if_pos h3]))
      · refine z_aload_n S d_Store_push_36 rfl 0 rfl 37 rfl ?_
        refine z_get S hK hin_Server (rl_srv (vp_lt (in_srv hn5 h1))) kC_1 rfl 1 (Nat.le_of_ble_eq_true rfl) (ht _ w_120) (fun _ h => h) d_Store_push_37 40 rfl (.ref (ad 6 x.toNatClampNeg)) rfl ?_
        refine z_callV S hK (As := []) (rest := []) (c_View_hasBackup (a := x.toNatClampNeg) hJ (rl_sv (rl_srv (vp_lt (in_srv hn5 h1))))) (cw_View_hasBackup hts w_355 rfl rfl ⟨(Nat.le_of_ble_eq_true rfl), (Nat.le_of_ble_eq_true rfl)⟩) (rl_sv (rl_srv (vp_lt (in_srv hn5 h1)))) kC_6 rfl rfl rfl (Nat.le_of_ble_eq_true rfl) d_Store_push_40 43 rfl [.int (v_View_hasBackup (s 6 2 x.toNatClampNeg))] rfl ?_
        refine z_if_ne S d_Store_push_43 48 (by decide) 46 rfl (fun h4 => ?_) (fun h4 => ?_)
        · refine z_aload_n S d_Store_push_48 rfl 0 rfl 49 rfl ?_
          refine z_get S hK hin_Server (rl_srv (vp_lt (in_srv hn5 h1))) kC_1 rfl 7 (Nat.le_of_ble_eq_true rfl) (ht _ w_132) (fun _ h => h) d_Store_push_49 52 rfl (.int (s 1 7 x.toNatClampNeg)) rfl ?_
          refine z_if_ne S d_Store_push_52 62 (by decide) 55 rfl (fun h5 => ?_) (fun h5 => ?_)
          · refine z_aload_n S d_Store_push_62 rfl 0 rfl 63 rfl ?_
            refine z_get S hK hin_Server (rl_srv (vp_lt (in_srv hn5 h1))) kC_1 rfl 8 (Nat.le_of_ble_eq_true rfl) (ht _ w_134) (fun _ h => h) d_Store_push_63 66 rfl (.int (s 1 8 x.toNatClampNeg)) rfl ?_
            refine z_if_eq S d_Store_push_66 76 (by decide) 69 rfl (fun h6 => ?_) (fun h6 => ?_)
            · refine z_iconst S d_Store_push_76 0 (by decide) 77 rfl ?_
              exact z_zret S hr (zb_n zb_0) hlk d_Store_push_77 (by unfold v_Store_push; simp only [if_neg h1, if_pos h2, if_neg h3, if_neg h4, if_neg h5, if_pos h6]) (kC_eq (by unfold S_Store_push; simp only [if_neg h1, if_pos h2, if_neg h3, if_neg h4, if_neg h5, if_pos h6]))
            · refine z_aload_n S d_Store_push_69 rfl 1 rfl 70 rfl ?_
              refine z_aload_n S d_Store_push_70 rfl 0 rfl 71 rfl ?_
              refine z_callV S hK (As := [.ref (ad 1 x.toNatClampNeg)]) (rest := []) (c_Store_sendPass (i := x.toNatClampNeg) hJ (rl_srv (vp_lt (in_srv hn5 h1))) hw hπ hop) (cw_Store_sendPass hts w_371 rfl rfl ⟨(Nat.le_of_ble_eq_true rfl), (Nat.le_of_ble_eq_true rfl)⟩) rl_0 kC_0 rfl rfl rfl (Nat.le_of_ble_eq_true rfl) d_Store_push_71 74 rfl [] rfl ?_
              refine z_iconst S d_Store_push_74 1 (by decide) 75 rfl ?_
              exact z_zret S hr (zb_n zb_1) hlk d_Store_push_75 (by unfold v_Store_push; simp only [if_neg h1, if_pos h2, if_neg h3, if_neg h4, if_neg h5, if_neg h6]) (kC_eq (by unfold S_Store_push; simp only [if_neg h1, if_pos h2, if_neg h3, if_neg h4, if_neg h5, if_neg h6]))
          · refine z_aload_n S d_Store_push_55 rfl 1 rfl 56 rfl ?_
            refine z_aload_n S d_Store_push_56 rfl 0 rfl 57 rfl ?_
            refine z_callV S hK (As := [.ref (ad 1 x.toNatClampNeg)]) (rest := []) (c_Store_sendFill (i := x.toNatClampNeg) hJ (rl_srv (vp_lt (in_srv hn5 h1))) hw hπ) (cw_Store_sendFill hts w_356 rfl rfl ⟨(Nat.le_of_ble_eq_true rfl), (Nat.le_of_ble_eq_true rfl)⟩) rl_0 kC_0 rfl rfl rfl (Nat.le_of_ble_eq_true rfl) d_Store_push_57 60 rfl [] rfl ?_
            refine z_iconst S d_Store_push_60 1 (by decide) 61 rfl ?_
            exact z_zret S hr (zb_n zb_1) hlk d_Store_push_61 (by unfold v_Store_push; simp only [if_neg h1, if_pos h2, if_neg h3, if_neg h4, if_pos h5]) (kC_eq (by unfold S_Store_push; simp only [if_neg h1, if_pos h2, if_neg h3, if_neg h4, if_pos h5]))
        · refine z_iconst S d_Store_push_46 0 (by decide) 47 rfl ?_
          exact z_zret S hr (zb_n zb_0) hlk d_Store_push_47 (by unfold v_Store_push; simp only [if_neg h1, if_pos h2, if_neg h3, if_pos h4]) (kC_eq (by unfold S_Store_push; simp only [if_neg h1, if_pos h2, if_neg h3, if_pos h4]))
    · refine z_iconst S d_Store_push_20 0 (by decide) 21 rfl ?_
      exact z_zret S hr (zb_n zb_0) hlk d_Store_push_21 (by unfold v_Store_push; simp only [if_neg h1, if_neg h2]) (kC_eq (by unfold S_Store_push; simp only [if_neg h1, if_neg h2]))
theorem d_Store_crash_0 : decode prog_1_method_11_code 0 = .ok (.aload_n 0, 1) := by decide +kernel
theorem d_Store_crash_1 : decode prog_1_method_11_code 1 = .ok (.iload_n 1, 1) := by decide +kernel
theorem d_Store_crash_2 : decode prog_1_method_11_code 2 = .ok (.invokevirtual 52, 3) := by decide +kernel
theorem d_Store_crash_5 : decode prog_1_method_11_code 5 = .ok (.ifCond .eq 15, 3) := by decide +kernel
theorem d_Store_crash_8 : decode prog_1_method_11_code 8 = .ok (.aload_n 0, 1) := by decide +kernel
theorem d_Store_crash_9 : decode prog_1_method_11_code 9 = .ok (.getfield 20, 3) := by decide +kernel
theorem d_Store_crash_12 : decode prog_1_method_11_code 12 = .ok (.iload_n 1, 1) := by decide +kernel
theorem d_Store_crash_13 : decode prog_1_method_11_code 13 = .ok (.aaload, 1) := by decide +kernel
theorem d_Store_crash_14 : decode prog_1_method_11_code 14 = .ok (.getfield 59, 3) := by decide +kernel
theorem d_Store_crash_17 : decode prog_1_method_11_code 17 = .ok (.ifCond .eq 5, 3) := by decide +kernel
theorem d_Store_crash_20 : decode prog_1_method_11_code 20 = .ok (.iconst 0, 1) := by decide +kernel
theorem d_Store_crash_21 : decode prog_1_method_11_code 21 = .ok (.ireturn, 1) := by decide +kernel
theorem d_Store_crash_22 : decode prog_1_method_11_code 22 = .ok (.aload_n 0, 1) := by decide +kernel
theorem d_Store_crash_23 : decode prog_1_method_11_code 23 = .ok (.getfield 20, 3) := by decide +kernel
theorem d_Store_crash_26 : decode prog_1_method_11_code 26 = .ok (.iload_n 1, 1) := by decide +kernel
theorem d_Store_crash_27 : decode prog_1_method_11_code 27 = .ok (.aaload, 1) := by decide +kernel
theorem d_Store_crash_28 : decode prog_1_method_11_code 28 = .ok (.iconst 1, 1) := by decide +kernel
theorem d_Store_crash_29 : decode prog_1_method_11_code 29 = .ok (.putfield 59, 3) := by decide +kernel
theorem d_Store_crash_32 : decode prog_1_method_11_code 32 = .ok (.iconst 1, 1) := by decide +kernel
theorem d_Store_crash_33 : decode prog_1_method_11_code 33 = .ok (.ireturn, 1) := by decide +kernel
def S_Store_crash (n : Nat) (π : Nat → Nat) (s : S3) (x : Int32) : S3 := if (v_Store_isServer n x) = 0 then s else if (s 1 6 x.toNatClampNeg) = 0 then (u3 s 1 6 x.toNatClampNeg 1) else s
def v_Store_crash (n : Nat) (π : Nat → Nat) (s : S3) (x : Int32) : Int32 := if (v_Store_isServer n x) = 0 then 0 else if (s 1 6 x.toNatClampNeg) = 0 then 1 else 0
theorem zbv_Store_crash {n : Nat} {π : Nat → Nat} {s : S3} {x : Int32} : zb (v_Store_crash n π s x) := by
  unfold v_Store_crash
  repeat' split
  all_goals first | with_reducible exact zb_0 | with_reducible exact zb_1 | with_reducible exact zbv_View_hasBackup | with_reducible exact zbv_Server_isPrimary | with_reducible exact zbv_Server_isPrimaryOf | with_reducible exact zbv_Server_isBackupOf | with_reducible exact zbv_Client_takeAnswer | with_reducible exact zbv_Service_isFresh | with_reducible exact zbv_Post_has | with_reducible exact zbv_Store_isServer | with_reducible exact zbv_Store_isClient | with_reducible exact zbv_Store_isCell | with_reducible exact zbv_Store_takeRead | with_reducible exact zbv_Store_takeWrite | with_reducible exact zbv_Store_takeAsk | with_reducible exact zbv_Store_takePassed | with_reducible exact zbv_Store_takePass | with_reducible exact zbv_Store_takeFilled | with_reducible exact zbv_Store_takeFill | with_reducible exact zbv_Store_takeView | with_reducible exact zbv_Store_takePing | with_reducible exact zbv_Store_takesEffect | with_reducible exact zbv_Store_skew | with_reducible exact zbv_Store_ping | with_reducible exact zbv_Store_push
set_option maxHeartbeats 4000000 in
set_option maxRecDepth 100000 in
theorem c_Store_crash {l : Launch} {D : va_G} {K : Nat → ClassId} {ad : Nat → Nat → Nat} {n : Nat} {π : Nat → Nat} {s : S3} {x : Int32} (hJ : zw_J (cRL n) ad) (hn5 : n ≤ 5) : zM l y_Store_crash ws_Store_crash ({ frames := 1, cells := 0, slots := 0, locals := 21 }) D zCl (zTys K) (cRL n) ad [.ref (ad 0 0), .int x] (kC K ad n s π) (some (.int (v_Store_crash n π s x))) (kC K ad n (S_Store_crash n π s x) π) := by
  refine zM.of (cc := prog_1_method_11_code) (maxL := 2) (ret := (Option.some Jvm.ClassFile.FieldType.boolean)) (by decide) rfl (Nat.le_of_ble_eq_true rfl) ?_
  intro pP eE U mM bL mT cO S hr hlk hK
  have hts := S.2.2.2.2
  have ht := fun w h => hts w (List.mem_cons_of_mem _ h)
  refine z_aload_n S d_Store_crash_0 rfl 0 rfl 1 rfl ?_
  refine z_iload_n S d_Store_crash_1 rfl 1 rfl 2 rfl ?_
  refine z_callV S hK (As := [.int x]) (rest := []) (c_Store_isServer (x := x) hJ) (cw_Store_isServer hts w_302 rfl rfl ⟨(Nat.le_of_ble_eq_true rfl), (Nat.le_of_ble_eq_true rfl)⟩) rl_0 kC_0 rfl rfl rfl (Nat.le_of_ble_eq_true rfl) d_Store_crash_2 5 rfl [.int (v_Store_isServer n x)] rfl ?_
  refine z_if_eq S d_Store_crash_5 20 (by decide) 8 rfl (fun h1 => ?_) (fun h1 => ?_)
  · refine z_iconst S d_Store_crash_20 0 (by decide) 21 rfl ?_
    exact z_zret S hr (zb_n zb_0) hlk d_Store_crash_21 (by unfold v_Store_crash; simp only [if_pos h1]) (kC_eq (by unfold S_Store_crash; simp only [if_pos h1]))
  · refine z_aload_n S d_Store_crash_8 rfl 0 rfl 9 rfl ?_
    refine z_get S hK hin_Store rl_0 kC_0 rfl 0 (Nat.le_of_ble_eq_true rfl) (ht _ w_278) (fun _ h => h) d_Store_crash_9 12 rfl (.ref (ad 10 0)) rfl ?_
    refine z_iload_n S d_Store_crash_12 rfl 1 rfl 13 rfl ?_
    refine z_aald S hK rl_10 3 kC_10 rfl (in_srv hn5 h1) rfl d_Store_crash_13 14 rfl ?_
    refine z_get S hK hin_Server (rl_srv (vp_lt (in_srv hn5 h1))) kC_1 rfl 6 (Nat.le_of_ble_eq_true rfl) (ht _ w_130) (fun _ h => h) d_Store_crash_14 17 rfl (.int (s 1 6 x.toNatClampNeg)) rfl ?_
    refine z_if_eq S d_Store_crash_17 22 (by decide) 20 rfl (fun h2 => ?_) (fun h2 => ?_)
    · refine z_aload_n S d_Store_crash_22 rfl 0 rfl 23 rfl ?_
      refine z_get S hK hin_Store rl_0 kC_0 rfl 0 (Nat.le_of_ble_eq_true rfl) (ht _ w_278) (fun _ h => h) d_Store_crash_23 26 rfl (.ref (ad 10 0)) rfl ?_
      refine z_iload_n S d_Store_crash_26 rfl 1 rfl 27 rfl ?_
      refine z_aald S hK rl_10 3 kC_10 rfl (in_srv hn5 h1) rfl d_Store_crash_27 28 rfl ?_
      refine z_iconst S d_Store_crash_28 1 (by decide) 29 rfl ?_
      refine z_put S hJ hK hin_Server t_Server ok_Server nm_Server (rl_srv (vp_lt (in_srv hn5 h1))) kC_1 rfl 6 (Nat.le_of_ble_eq_true rfl) (ht _ w_130) (fun _ h => h) rfl (zb_n zb_1) (zb_f zb_1) (Nat.le_of_ble_eq_true rfl) up_1_6 d_Store_crash_29 32 rfl ?_
      refine z_iconst S d_Store_crash_32 1 (by decide) 33 rfl ?_
      exact z_zret S hr (zb_n zb_1) hlk d_Store_crash_33 (by unfold v_Store_crash; simp only [if_neg h1, if_pos h2]) (kC_eq (by unfold S_Store_crash; simp only [if_neg h1, if_pos h2]))
    · refine z_iconst S d_Store_crash_20 0 (by decide) 21 rfl ?_
      exact z_zret S hr (zb_n zb_0) hlk d_Store_crash_21 (by unfold v_Store_crash; simp only [if_neg h1, if_neg h2]) (kC_eq (by unfold S_Store_crash; simp only [if_neg h1, if_neg h2]))
theorem d_Store_letters_0 : decode prog_1_method_12_code 0 = .ok (.aload_n 0, 1) := by decide +kernel
theorem d_Store_letters_1 : decode prog_1_method_12_code 1 = .ok (.getfield 44, 3) := by decide +kernel
theorem d_Store_letters_4 : decode prog_1_method_12_code 4 = .ok (.getfield 159, 3) := by decide +kernel
theorem d_Store_letters_7 : decode prog_1_method_12_code 7 = .ok (.ireturn, 1) := by decide +kernel
set_option maxHeartbeats 4000000 in
set_option maxRecDepth 100000 in
theorem c_Store_letters {l : Launch} {D : va_G} {K : Nat → ClassId} {ad : Nat → Nat → Nat} {n : Nat} {π : Nat → Nat} {s : S3} (hJ : zw_J (cRL n) ad) : zM l y_Store_letters ws_Store_letters ({ frames := 0, cells := 0, slots := 0, locals := 0 }) D zCl (zTys K) (cRL n) ad [.ref (ad 0 0)] (kC K ad n s π) (some (.int (s 4 2 0))) (kC K ad n (s) π) := by
  refine zM.of (cc := prog_1_method_12_code) (maxL := 1) (ret := (Option.some Jvm.ClassFile.FieldType.int)) (by decide) rfl (Nat.le_of_ble_eq_true rfl) ?_
  intro pP eE U mM bL mT cO S hr hlk hK
  have hts := S.2.2.2.2
  have ht := fun w h => hts w (List.mem_cons_of_mem _ h)
  refine z_aload_n S d_Store_letters_0 rfl 0 rfl 1 rfl ?_
  refine z_get S hK hin_Store rl_0 kC_0 rfl 3 (Nat.le_of_ble_eq_true rfl) (ht _ w_281) (fun _ h => h) d_Store_letters_1 4 rfl (.ref (ad 4 0)) rfl ?_
  refine z_get S hK hin_Post rl_4 kC_4 rfl 2 (Nat.le_of_ble_eq_true rfl) (ht _ w_270) (fun _ h => h) d_Store_letters_4 7 rfl (.int (s 4 2 0)) rfl ?_
  exact z_iret S hr hlk d_Store_letters_7 rfl rfl
theorem d_Store_letter_0 : decode prog_1_method_13_code 0 = .ok (.aload_n 0, 1) := by decide +kernel
theorem d_Store_letter_1 : decode prog_1_method_13_code 1 = .ok (.getfield 44, 3) := by decide +kernel
theorem d_Store_letter_4 : decode prog_1_method_13_code 4 = .ok (.iload_n 1, 1) := by decide +kernel
theorem d_Store_letter_5 : decode prog_1_method_13_code 5 = .ok (.invokevirtual 145, 3) := by decide +kernel
theorem d_Store_letter_8 : decode prog_1_method_13_code 8 = .ok (.ifCond .ne 5, 3) := by decide +kernel
theorem d_Store_letter_11 : decode prog_1_method_13_code 11 = .ok (.iconst (-1), 1) := by decide +kernel
theorem d_Store_letter_12 : decode prog_1_method_13_code 12 = .ok (.ireturn, 1) := by decide +kernel
theorem d_Store_letter_13 : decode prog_1_method_13_code 13 = .ok (.aload_n 0, 1) := by decide +kernel
theorem d_Store_letter_14 : decode prog_1_method_13_code 14 = .ok (.getfield 44, 3) := by decide +kernel
theorem d_Store_letter_17 : decode prog_1_method_13_code 17 = .ok (.getfield 162, 3) := by decide +kernel
theorem d_Store_letter_20 : decode prog_1_method_13_code 20 = .ok (.iload_n 1, 1) := by decide +kernel
theorem d_Store_letter_21 : decode prog_1_method_13_code 21 = .ok (.aaload, 1) := by decide +kernel
theorem d_Store_letter_22 : decode prog_1_method_13_code 22 = .ok (.astore_n 2, 1) := by decide +kernel
theorem d_Store_letter_23 : decode prog_1_method_13_code 23 = .ok (.aload_n 2, 1) := by decide +kernel
theorem d_Store_letter_24 : decode prog_1_method_13_code 24 = .ok (.getfield 156, 3) := by decide +kernel
theorem d_Store_letter_27 : decode prog_1_method_13_code 27 = .ok (.bipush 16, 2) := by decide +kernel
theorem d_Store_letter_29 : decode prog_1_method_13_code 29 = .ok (.aload_n 2, 1) := by decide +kernel
theorem d_Store_letter_30 : decode prog_1_method_13_code 30 = .ok (.getfield 166, 3) := by decide +kernel
theorem d_Store_letter_33 : decode prog_1_method_13_code 33 = .ok (.imul, 1) := by decide +kernel
theorem d_Store_letter_34 : decode prog_1_method_13_code 34 = .ok (.iadd, 1) := by decide +kernel
theorem d_Store_letter_35 : decode prog_1_method_13_code 35 = .ok (.ireturn, 1) := by decide +kernel
def v_Store_letter (x0 : Int32) (x1 : Int32) (x2 : Int32) (x : Int32) : Int32 := if (v_Post_has (x0) x) = 0 then (-1) else (x1) + (16 * (x2))
set_option maxHeartbeats 4000000 in
set_option maxRecDepth 100000 in
theorem c_Store_letter {l : Launch} {D : va_G} {K : Nat → ClassId} {ad : Nat → Nat → Nat} {n : Nat} {π : Nat → Nat} {s : S3} {x : Int32} (hJ : zw_J (cRL n) ad) (hw : vp_in (s 4 2 0) 33) (hπ : ∀ j, π j < 34) : zM l y_Store_letter ws_Store_letter ({ frames := 1, cells := 0, slots := 0, locals := 21 }) D zCl (zTys K) (cRL n) ad [.ref (ad 0 0), .int x] (kC K ad n s π) (some (.int (v_Store_letter (s 4 2 0) (s 5 3 (π x.toNatClampNeg)) (s 5 4 (π x.toNatClampNeg)) x))) (kC K ad n (s) π) := by
  refine zM.of (cc := prog_1_method_13_code) (maxL := 3) (ret := (Option.some Jvm.ClassFile.FieldType.int)) (by decide) rfl (Nat.le_of_ble_eq_true rfl) ?_
  intro pP eE U mM bL mT cO S hr hlk hK
  have hts := S.2.2.2.2
  have ht := fun w h => hts w (List.mem_cons_of_mem _ h)
  refine z_aload_n S d_Store_letter_0 rfl 0 rfl 1 rfl ?_
  refine z_get S hK hin_Store rl_0 kC_0 rfl 3 (Nat.le_of_ble_eq_true rfl) (ht _ w_281) (fun _ h => h) d_Store_letter_1 4 rfl (.ref (ad 4 0)) rfl ?_
  refine z_iload_n S d_Store_letter_4 rfl 1 rfl 5 rfl ?_
  refine z_callV S hK (As := [.int x]) (rest := []) (c_Post_has (x := x) hJ) (cw_Post_has hts w_403 rfl rfl ⟨(Nat.le_of_ble_eq_true rfl), (Nat.le_of_ble_eq_true rfl)⟩) rl_4 kC_4 rfl rfl rfl (Nat.le_of_ble_eq_true rfl) d_Store_letter_5 8 rfl [.int (v_Post_has (s 4 2 0) x)] rfl ?_
  refine z_if_ne S d_Store_letter_8 13 (by decide) 11 rfl (fun h1 => ?_) (fun h1 => ?_)
  · refine z_aload_n S d_Store_letter_13 rfl 0 rfl 14 rfl ?_
    refine z_get S hK hin_Store rl_0 kC_0 rfl 3 (Nat.le_of_ble_eq_true rfl) (ht _ w_281) (fun _ h => h) d_Store_letter_14 17 rfl (.ref (ad 4 0)) rfl ?_
    refine z_get S hK hin_Post rl_4 kC_4 rfl 0 (Nat.le_of_ble_eq_true rfl) (ht _ w_267) (fun _ h => h) d_Store_letter_17 20 rfl (.ref (ad 12 0)) rfl ?_
    refine z_iload_n S d_Store_letter_20 rfl 1 rfl 21 rfl ?_
    refine z_aald S hK rl_12 5 kC_12 rfl (in_has hw h1) rfl d_Store_letter_21 22 rfl ?_
    refine z_astore_n S d_Store_letter_22 rfl (Nat.le_of_ble_eq_true rfl) [(2, .ref (ad 5 (π x.toNatClampNeg))), (0, .ref (ad 0 0)), (1, .int x)] rfl 23 rfl ?_
    refine z_aload_n S d_Store_letter_23 rfl 0 rfl 24 rfl ?_
    refine z_get S hK hin_Letter (rl_let (hπ _)) kC_5 rfl 3 (Nat.le_of_ble_eq_true rfl) (ht _ w_232) (fun _ h => h) d_Store_letter_24 27 rfl (.int (s 5 3 (π x.toNatClampNeg))) rfl ?_
    refine z_bipush S d_Store_letter_27 16 (by decide) 29 rfl ?_
    refine z_aload_n S d_Store_letter_29 rfl 0 rfl 30 rfl ?_
    refine z_get S hK hin_Letter (rl_let (hπ _)) kC_5 rfl 4 (Nat.le_of_ble_eq_true rfl) (ht _ w_236) (fun _ h => h) d_Store_letter_30 33 rfl (.int (s 5 4 (π x.toNatClampNeg))) rfl ?_
    refine z_imul S d_Store_letter_33 34 rfl ?_
    refine z_iadd S d_Store_letter_34 35 rfl ?_
    exact z_iret S hr hlk d_Store_letter_35 (by unfold v_Store_letter; simp only [if_neg h1]) rfl
  · refine z_iconst S d_Store_letter_11 (-1) (by decide) 12 rfl ?_
    exact z_iret S hr hlk d_Store_letter_12 (by unfold v_Store_letter; simp only [if_pos h1]) rfl
theorem d_Store_view_0 : decode prog_1_method_14_code 0 = .ok (.iload_n 1, 1) := by decide +kernel
theorem d_Store_view_1 : decode prog_1_method_14_code 1 = .ok (.iconst (-1), 1) := by decide +kernel
theorem d_Store_view_2 : decode prog_1_method_14_code 2 = .ok (.if_icmp .ne 14, 3) := by decide +kernel
theorem d_Store_view_5 : decode prog_1_method_14_code 5 = .ok (.aload_n 0, 1) := by decide +kernel
theorem d_Store_view_6 : decode prog_1_method_14_code 6 = .ok (.getfield 37, 3) := by decide +kernel
theorem d_Store_view_9 : decode prog_1_method_14_code 9 = .ok (.getfield 88, 3) := by decide +kernel
theorem d_Store_view_12 : decode prog_1_method_14_code 12 = .ok (.invokevirtual 169, 3) := by decide +kernel
theorem d_Store_view_15 : decode prog_1_method_14_code 15 = .ok (.ireturn, 1) := by decide +kernel
theorem d_Store_view_16 : decode prog_1_method_14_code 16 = .ok (.aload_n 0, 1) := by decide +kernel
theorem d_Store_view_17 : decode prog_1_method_14_code 17 = .ok (.iload_n 1, 1) := by decide +kernel
theorem d_Store_view_18 : decode prog_1_method_14_code 18 = .ok (.invokevirtual 52, 3) := by decide +kernel
theorem d_Store_view_21 : decode prog_1_method_14_code 21 = .ok (.ifCond .eq 18, 3) := by decide +kernel
theorem d_Store_view_24 : decode prog_1_method_14_code 24 = .ok (.aload_n 0, 1) := by decide +kernel
theorem d_Store_view_25 : decode prog_1_method_14_code 25 = .ok (.getfield 20, 3) := by decide +kernel
theorem d_Store_view_28 : decode prog_1_method_14_code 28 = .ok (.iload_n 1, 1) := by decide +kernel
theorem d_Store_view_29 : decode prog_1_method_14_code 29 = .ok (.aaload, 1) := by decide +kernel
theorem d_Store_view_30 : decode prog_1_method_14_code 30 = .ok (.getfield 101, 3) := by decide +kernel
theorem d_Store_view_33 : decode prog_1_method_14_code 33 = .ok (.invokevirtual 169, 3) := by decide +kernel
theorem d_Store_view_36 : decode prog_1_method_14_code 36 = .ok (.goto 4, 3) := by decide +kernel
theorem d_Store_view_39 : decode prog_1_method_14_code 39 = .ok (.iconst (-1), 1) := by decide +kernel
theorem d_Store_view_40 : decode prog_1_method_14_code 40 = .ok (.ireturn, 1) := by decide +kernel
def v_Store_view (n : Nat) (x0 : Int32) (x1 : Int32) (x2 : Int32) (x3 : Int32) (x4 : Int32) (x5 : Int32) (x : Int32) : Int32 := if x = (-1) then (v_View_shown (x0) (x1) (x2)) else if (v_Store_isServer n x) = 0 then (-1) else v_View_shown (x3) (x4) (x5)
set_option maxHeartbeats 4000000 in
set_option maxRecDepth 100000 in
theorem c_Store_view {l : Launch} {D : va_G} {K : Nat → ClassId} {ad : Nat → Nat → Nat} {n : Nat} {π : Nat → Nat} {s : S3} {x : Int32} (hJ : zw_J (cRL n) ad) (hn5 : n ≤ 5) : zM l y_Store_view ws_Store_view ({ frames := 1, cells := 0, slots := 0, locals := 21 }) D zCl (zTys K) (cRL n) ad [.ref (ad 0 0), .int x] (kC K ad n s π) (some (.int (v_Store_view n (s 6 0 7) (s 6 1 7) (s 6 2 7) (s 6 0 x.toNatClampNeg) (s 6 1 x.toNatClampNeg) (s 6 2 x.toNatClampNeg) x))) (kC K ad n (s) π) := by
  refine zM.of (cc := prog_1_method_14_code) (maxL := 2) (ret := (Option.some Jvm.ClassFile.FieldType.int)) (by decide) rfl (Nat.le_of_ble_eq_true rfl) ?_
  intro pP eE U mM bL mT cO S hr hlk hK
  have hts := S.2.2.2.2
  have ht := fun w h => hts w (List.mem_cons_of_mem _ h)
  refine z_iload_n S d_Store_view_0 rfl 1 rfl 1 rfl ?_
  refine z_iconst S d_Store_view_1 (-1) (by decide) 2 rfl ?_
  refine z_icmp_ne S d_Store_view_2 16 (by decide) 5 rfl (fun h1 => ?_) (fun h1 => ?_)
  · refine z_aload_n S d_Store_view_16 rfl 0 rfl 17 rfl ?_
    refine z_iload_n S d_Store_view_17 rfl 1 rfl 18 rfl ?_
    refine z_callV S hK (As := [.int x]) (rest := []) (c_Store_isServer (x := x) hJ) (cw_Store_isServer hts w_302 rfl rfl ⟨(Nat.le_of_ble_eq_true rfl), (Nat.le_of_ble_eq_true rfl)⟩) rl_0 kC_0 rfl rfl rfl (Nat.le_of_ble_eq_true rfl) d_Store_view_18 21 rfl [.int (v_Store_isServer n x)] rfl ?_
    refine z_if_eq S d_Store_view_21 39 (by decide) 24 rfl (fun h2 => ?_) (fun h2 => ?_)
    · refine z_iconst S d_Store_view_39 (-1) (by decide) 40 rfl ?_
      exact z_iret S hr hlk d_Store_view_40 (by unfold v_Store_view; simp only [if_neg h1, if_pos h2]) rfl
    · refine z_aload_n S d_Store_view_24 rfl 0 rfl 25 rfl ?_
      refine z_get S hK hin_Store rl_0 kC_0 rfl 0 (Nat.le_of_ble_eq_true rfl) (ht _ w_278) (fun _ h => h) d_Store_view_25 28 rfl (.ref (ad 10 0)) rfl ?_
      refine z_iload_n S d_Store_view_28 rfl 1 rfl 29 rfl ?_
      refine z_aald S hK rl_10 3 kC_10 rfl (in_srv hn5 h2) rfl d_Store_view_29 30 rfl ?_
      refine z_get S hK hin_Server (rl_srv (vp_lt (in_srv hn5 h2))) kC_1 rfl 1 (Nat.le_of_ble_eq_true rfl) (ht _ w_120) (fun _ h => h) d_Store_view_30 33 rfl (.ref (ad 6 x.toNatClampNeg)) rfl ?_
      refine z_callV S hK (As := []) (rest := []) (c_View_shown (a := x.toNatClampNeg) hJ (rl_sv (rl_srv (vp_lt (in_srv hn5 h2))))) (cw_View_shown hts w_503 rfl rfl ⟨(Nat.le_of_ble_eq_true rfl), (Nat.le_of_ble_eq_true rfl)⟩) (rl_sv (rl_srv (vp_lt (in_srv hn5 h2)))) kC_6 rfl rfl rfl (Nat.le_of_ble_eq_true rfl) d_Store_view_33 36 rfl [.int (v_View_shown (s 6 0 x.toNatClampNeg) (s 6 1 x.toNatClampNeg) (s 6 2 x.toNatClampNeg))] rfl ?_
      refine z_goto S d_Store_view_36 40 (by decide) ?_
      exact z_iret S hr hlk d_Store_view_40 (by unfold v_Store_view; simp only [if_neg h1, if_neg h2]) rfl
  · refine z_aload_n S d_Store_view_5 rfl 0 rfl 6 rfl ?_
    refine z_get S hK hin_Store rl_0 kC_0 rfl 2 (Nat.le_of_ble_eq_true rfl) (ht _ w_280) (fun _ h => h) d_Store_view_6 9 rfl (.ref (ad 3 0)) rfl ?_
    refine z_get S hK hin_Service rl_3 kC_3 rfl 0 (Nat.le_of_ble_eq_true rfl) (ht _ w_193) (fun _ h => h) d_Store_view_9 12 rfl (.ref (ad 6 7)) rfl ?_
    refine z_callV S hK (As := []) (rest := []) (c_View_shown (a := 7) hJ rl_67) (cw_View_shown hts w_503 rfl rfl ⟨(Nat.le_of_ble_eq_true rfl), (Nat.le_of_ble_eq_true rfl)⟩) rl_67 kC_6 rfl rfl rfl (Nat.le_of_ble_eq_true rfl) d_Store_view_12 15 rfl [.int (v_View_shown (s 6 0 7) (s 6 1 7) (s 6 2 7))] rfl ?_
    exact z_iret S hr hlk d_Store_view_15 (by unfold v_Store_view; simp only [if_pos h1]) rfl
theorem d_Store_role_0 : decode prog_1_method_15_code 0 = .ok (.aload_n 0, 1) := by decide +kernel
theorem d_Store_role_1 : decode prog_1_method_15_code 1 = .ok (.iload_n 1, 1) := by decide +kernel
theorem d_Store_role_2 : decode prog_1_method_15_code 2 = .ok (.invokevirtual 52, 3) := by decide +kernel
theorem d_Store_role_5 : decode prog_1_method_15_code 5 = .ok (.ifCond .ne 5, 3) := by decide +kernel
theorem d_Store_role_8 : decode prog_1_method_15_code 8 = .ok (.iconst (-1), 1) := by decide +kernel
theorem d_Store_role_9 : decode prog_1_method_15_code 9 = .ok (.ireturn, 1) := by decide +kernel
theorem d_Store_role_10 : decode prog_1_method_15_code 10 = .ok (.aload_n 0, 1) := by decide +kernel
theorem d_Store_role_11 : decode prog_1_method_15_code 11 = .ok (.getfield 20, 3) := by decide +kernel
theorem d_Store_role_14 : decode prog_1_method_15_code 14 = .ok (.iload_n 1, 1) := by decide +kernel
theorem d_Store_role_15 : decode prog_1_method_15_code 15 = .ok (.aaload, 1) := by decide +kernel
theorem d_Store_role_16 : decode prog_1_method_15_code 16 = .ok (.invokevirtual 172, 3) := by decide +kernel
theorem d_Store_role_19 : decode prog_1_method_15_code 19 = .ok (.istore_n 2, 1) := by decide +kernel
theorem d_Store_role_20 : decode prog_1_method_15_code 20 = .ok (.aload_n 0, 1) := by decide +kernel
theorem d_Store_role_21 : decode prog_1_method_15_code 21 = .ok (.getfield 20, 3) := by decide +kernel
theorem d_Store_role_24 : decode prog_1_method_15_code 24 = .ok (.iload_n 1, 1) := by decide +kernel
theorem d_Store_role_25 : decode prog_1_method_15_code 25 = .ok (.aaload, 1) := by decide +kernel
theorem d_Store_role_26 : decode prog_1_method_15_code 26 = .ok (.getfield 59, 3) := by decide +kernel
theorem d_Store_role_29 : decode prog_1_method_15_code 29 = .ok (.ifCond .eq 10, 3) := by decide +kernel
theorem d_Store_role_32 : decode prog_1_method_15_code 32 = .ok (.iload_n 2, 1) := by decide +kernel
theorem d_Store_role_33 : decode prog_1_method_15_code 33 = .ok (.bipush 8, 2) := by decide +kernel
theorem d_Store_role_35 : decode prog_1_method_15_code 35 = .ok (.iadd, 1) := by decide +kernel
theorem d_Store_role_36 : decode prog_1_method_15_code 36 = .ok (.goto 4, 3) := by decide +kernel
theorem d_Store_role_39 : decode prog_1_method_15_code 39 = .ok (.iload_n 2, 1) := by decide +kernel
theorem d_Store_role_40 : decode prog_1_method_15_code 40 = .ok (.ireturn, 1) := by decide +kernel
def v_Store_role (n : Nat) (x0 : Int32) (x1 : Int32) (x2 : Int32) (x3 : Int32) (x4 : Int32) (x5 : Int32) (x6 : Int32) (x7 : Int32) (x : Int32) : Int32 := if (v_Store_isServer n x) = 0 then (-1) else if (x0) = 0 then (v_Server_liveRole (x1) (x2) (x3) (x4) (x5) (x6) (x7)) else (v_Server_liveRole (x1) (x2) (x3) (x4) (x5) (x6) (x7)) + 8
set_option maxHeartbeats 4000000 in
set_option maxRecDepth 100000 in
theorem c_Store_role {l : Launch} {D : va_G} {K : Nat → ClassId} {ad : Nat → Nat → Nat} {n : Nat} {π : Nat → Nat} {s : S3} {x : Int32} (hJ : zw_J (cRL n) ad) (hn5 : n ≤ 5) : zM l y_Store_role ws_Store_role ({ frames := 1, cells := 0, slots := 0, locals := 21 }) D zCl (zTys K) (cRL n) ad [.ref (ad 0 0), .int x] (kC K ad n s π) (some (.int (v_Store_role n (s 1 6 x.toNatClampNeg) (s 6 0 x.toNatClampNeg) (s 6 1 x.toNatClampNeg) (s 1 0 x.toNatClampNeg) (s 1 7 x.toNatClampNeg) (s 1 8 x.toNatClampNeg) (s 6 2 x.toNatClampNeg) (s 1 9 x.toNatClampNeg) x))) (kC K ad n (s) π) := by
  refine zM.of (cc := prog_1_method_15_code) (maxL := 3) (ret := (Option.some Jvm.ClassFile.FieldType.int)) (by decide) rfl (Nat.le_of_ble_eq_true rfl) ?_
  intro pP eE U mM bL mT cO S hr hlk hK
  have hts := S.2.2.2.2
  have ht := fun w h => hts w (List.mem_cons_of_mem _ h)
  refine z_aload_n S d_Store_role_0 rfl 0 rfl 1 rfl ?_
  refine z_iload_n S d_Store_role_1 rfl 1 rfl 2 rfl ?_
  refine z_callV S hK (As := [.int x]) (rest := []) (c_Store_isServer (x := x) hJ) (cw_Store_isServer hts w_302 rfl rfl ⟨(Nat.le_of_ble_eq_true rfl), (Nat.le_of_ble_eq_true rfl)⟩) rl_0 kC_0 rfl rfl rfl (Nat.le_of_ble_eq_true rfl) d_Store_role_2 5 rfl [.int (v_Store_isServer n x)] rfl ?_
  refine z_if_ne S d_Store_role_5 10 (by decide) 8 rfl (fun h1 => ?_) (fun h1 => ?_)
  · refine z_aload_n S d_Store_role_10 rfl 0 rfl 11 rfl ?_
    refine z_get S hK hin_Store rl_0 kC_0 rfl 0 (Nat.le_of_ble_eq_true rfl) (ht _ w_278) (fun _ h => h) d_Store_role_11 14 rfl (.ref (ad 10 0)) rfl ?_
    refine z_iload_n S d_Store_role_14 rfl 1 rfl 15 rfl ?_
    refine z_aald S hK rl_10 3 kC_10 rfl (in_srv hn5 h1) rfl d_Store_role_15 16 rfl ?_
    refine z_callV S hK (As := []) (rest := []) (c_Server_liveRole (i := x.toNatClampNeg) hJ (rl_srv (vp_lt (in_srv hn5 h1)))) (cw_Server_liveRole hts w_511 rfl rfl ⟨(Nat.le_of_ble_eq_true rfl), (Nat.le_of_ble_eq_true rfl)⟩) (rl_srv (vp_lt (in_srv hn5 h1))) kC_1 rfl rfl rfl (Nat.le_of_ble_eq_true rfl) d_Store_role_16 19 rfl [.int (v_Server_liveRole (s 6 0 x.toNatClampNeg) (s 6 1 x.toNatClampNeg) (s 1 0 x.toNatClampNeg) (s 1 7 x.toNatClampNeg) (s 1 8 x.toNatClampNeg) (s 6 2 x.toNatClampNeg) (s 1 9 x.toNatClampNeg))] rfl ?_
    refine z_istore_n S d_Store_role_19 rfl (Nat.le_of_ble_eq_true rfl) [(2, .int (v_Server_liveRole (s 6 0 x.toNatClampNeg) (s 6 1 x.toNatClampNeg) (s 1 0 x.toNatClampNeg) (s 1 7 x.toNatClampNeg) (s 1 8 x.toNatClampNeg) (s 6 2 x.toNatClampNeg) (s 1 9 x.toNatClampNeg))), (0, .ref (ad 0 0)), (1, .int x)] rfl 20 rfl ?_
    refine z_aload_n S d_Store_role_20 rfl 1 rfl 21 rfl ?_
    refine z_get S hK hin_Store rl_0 kC_0 rfl 0 (Nat.le_of_ble_eq_true rfl) (ht _ w_278) (fun _ h => h) d_Store_role_21 24 rfl (.ref (ad 10 0)) rfl ?_
    refine z_iload_n S d_Store_role_24 rfl 2 rfl 25 rfl ?_
    refine z_aald S hK rl_10 3 kC_10 rfl (in_srv hn5 h1) rfl d_Store_role_25 26 rfl ?_
    refine z_get S hK hin_Server (rl_srv (vp_lt (in_srv hn5 h1))) kC_1 rfl 6 (Nat.le_of_ble_eq_true rfl) (ht _ w_130) (fun _ h => h) d_Store_role_26 29 rfl (.int (s 1 6 x.toNatClampNeg)) rfl ?_
    refine z_if_eq S d_Store_role_29 39 (by decide) 32 rfl (fun h2 => ?_) (fun h2 => ?_)
    · refine z_iload_n S d_Store_role_39 rfl 0 rfl 40 rfl ?_
      exact z_iret S hr hlk d_Store_role_40 (by unfold v_Store_role; simp only [if_neg h1, if_pos h2]) rfl
    · refine z_iload_n S d_Store_role_32 rfl 0 rfl 33 rfl ?_
      refine z_bipush S d_Store_role_33 8 (by decide) 35 rfl ?_
      refine z_iadd S d_Store_role_35 36 rfl ?_
      refine z_goto S d_Store_role_36 40 (by decide) ?_
      exact z_iret S hr hlk d_Store_role_40 (by unfold v_Store_role; simp only [if_neg h1, if_neg h2]) rfl
  · refine z_iconst S d_Store_role_8 (-1) (by decide) 9 rfl ?_
    exact z_iret S hr hlk d_Store_role_9 (by unfold v_Store_role; simp only [if_pos h1]) rfl
theorem d_Store_cell_0 : decode prog_1_method_16_code 0 = .ok (.aload_n 0, 1) := by decide +kernel
theorem d_Store_cell_1 : decode prog_1_method_16_code 1 = .ok (.iload_n 1, 1) := by decide +kernel
theorem d_Store_cell_2 : decode prog_1_method_16_code 2 = .ok (.invokevirtual 52, 3) := by decide +kernel
theorem d_Store_cell_5 : decode prog_1_method_16_code 5 = .ok (.ifCond .eq 28, 3) := by decide +kernel
theorem d_Store_cell_8 : decode prog_1_method_16_code 8 = .ok (.aload_n 0, 1) := by decide +kernel
theorem d_Store_cell_9 : decode prog_1_method_16_code 9 = .ok (.iload_n 2, 1) := by decide +kernel
theorem d_Store_cell_10 : decode prog_1_method_16_code 10 = .ok (.invokevirtual 123, 3) := by decide +kernel
theorem d_Store_cell_13 : decode prog_1_method_16_code 13 = .ok (.ifCond .eq 20, 3) := by decide +kernel
theorem d_Store_cell_16 : decode prog_1_method_16_code 16 = .ok (.aload_n 0, 1) := by decide +kernel
theorem d_Store_cell_17 : decode prog_1_method_16_code 17 = .ok (.getfield 20, 3) := by decide +kernel
theorem d_Store_cell_20 : decode prog_1_method_16_code 20 = .ok (.iload_n 1, 1) := by decide +kernel
theorem d_Store_cell_21 : decode prog_1_method_16_code 21 = .ok (.aaload, 1) := by decide +kernel
theorem d_Store_cell_22 : decode prog_1_method_16_code 22 = .ok (.getfield 175, 3) := by decide +kernel
theorem d_Store_cell_25 : decode prog_1_method_16_code 25 = .ok (.getfield 179, 3) := by decide +kernel
theorem d_Store_cell_28 : decode prog_1_method_16_code 28 = .ok (.iload_n 2, 1) := by decide +kernel
theorem d_Store_cell_29 : decode prog_1_method_16_code 29 = .ok (.iaload, 1) := by decide +kernel
theorem d_Store_cell_30 : decode prog_1_method_16_code 30 = .ok (.goto 4, 3) := by decide +kernel
theorem d_Store_cell_33 : decode prog_1_method_16_code 33 = .ok (.iconst 0, 1) := by decide +kernel
theorem d_Store_cell_34 : decode prog_1_method_16_code 34 = .ok (.ireturn, 1) := by decide +kernel
def v_Store_cell (n : Nat) (x0 : Int32) (x : Int32) (k : Int32) : Int32 := if (v_Store_isServer n x) = 0 then 0 else if (v_Store_isCell k) = 0 then 0 else (x0)
set_option maxHeartbeats 4000000 in
set_option maxRecDepth 100000 in
theorem c_Store_cell {l : Launch} {D : va_G} {K : Nat → ClassId} {ad : Nat → Nat → Nat} {n : Nat} {π : Nat → Nat} {s : S3} {x k : Int32} (hJ : zw_J (cRL n) ad) (hn5 : n ≤ 5) : zM l y_Store_cell ws_Store_cell ({ frames := 1, cells := 0, slots := 0, locals := 21 }) D zCl (zTys K) (cRL n) ad [.ref (ad 0 0), .int x, .int k] (kC K ad n s π) (some (.int (v_Store_cell n (s 9 x.toNatClampNeg k.toNatClampNeg) x k))) (kC K ad n (s) π) := by
  refine zM.of (cc := prog_1_method_16_code) (maxL := 3) (ret := (Option.some Jvm.ClassFile.FieldType.int)) (by decide) rfl (Nat.le_of_ble_eq_true rfl) ?_
  intro pP eE U mM bL mT cO S hr hlk hK
  have hts := S.2.2.2.2
  have ht := fun w h => hts w (List.mem_cons_of_mem _ h)
  refine z_aload_n S d_Store_cell_0 rfl 0 rfl 1 rfl ?_
  refine z_iload_n S d_Store_cell_1 rfl 1 rfl 2 rfl ?_
  refine z_callV S hK (As := [.int x]) (rest := []) (c_Store_isServer (x := x) hJ) (cw_Store_isServer hts w_302 rfl rfl ⟨(Nat.le_of_ble_eq_true rfl), (Nat.le_of_ble_eq_true rfl)⟩) rl_0 kC_0 rfl rfl rfl (Nat.le_of_ble_eq_true rfl) d_Store_cell_2 5 rfl [.int (v_Store_isServer n x)] rfl ?_
  refine z_if_eq S d_Store_cell_5 33 (by decide) 8 rfl (fun h1 => ?_) (fun h1 => ?_)
  · refine z_iconst S d_Store_cell_33 0 (by decide) 34 rfl ?_
    exact z_iret S hr hlk d_Store_cell_34 (by unfold v_Store_cell; simp only [if_pos h1]) rfl
  · refine z_aload_n S d_Store_cell_8 rfl 0 rfl 9 rfl ?_
    refine z_iload_n S d_Store_cell_9 rfl 2 rfl 10 rfl ?_
    refine z_callV S hK (As := [.int k]) (rest := []) (c_Store_isCell (x := k) hJ) (cw_Store_isCell hts w_387 rfl rfl ⟨(Nat.le_of_ble_eq_true rfl), (Nat.le_of_ble_eq_true rfl)⟩) rl_0 kC_0 rfl rfl rfl (Nat.le_of_ble_eq_true rfl) d_Store_cell_10 13 rfl [.int (v_Store_isCell k)] rfl ?_
    refine z_if_eq S d_Store_cell_13 33 (by decide) 16 rfl (fun h2 => ?_) (fun h2 => ?_)
    · refine z_iconst S d_Store_cell_33 0 (by decide) 34 rfl ?_
      exact z_iret S hr hlk d_Store_cell_34 (by unfold v_Store_cell; simp only [if_neg h1, if_pos h2]) rfl
    · refine z_aload_n S d_Store_cell_16 rfl 0 rfl 17 rfl ?_
      refine z_get S hK hin_Store rl_0 kC_0 rfl 0 (Nat.le_of_ble_eq_true rfl) (ht _ w_278) (fun _ h => h) d_Store_cell_17 20 rfl (.ref (ad 10 0)) rfl ?_
      refine z_iload_n S d_Store_cell_20 rfl 1 rfl 21 rfl ?_
      refine z_aald S hK rl_10 3 kC_10 rfl (in_srv hn5 h1) rfl d_Store_cell_21 22 rfl ?_
      refine z_get S hK hin_Server (rl_srv (vp_lt (in_srv hn5 h1))) kC_1 rfl 2 (Nat.le_of_ble_eq_true rfl) (ht _ w_122) (fun _ h => h) d_Store_cell_22 25 rfl (.ref (ad 8 x.toNatClampNeg)) rfl ?_
      refine z_get S hK hin_State (rl_ss (rl_srv (vp_lt (in_srv hn5 h1)))) kC_8 rfl 0 (Nat.le_of_ble_eq_true rfl) (ht _ w_66) (fun _ h => h) d_Store_cell_25 28 rfl (.ref (ad 9 x.toNatClampNeg)) rfl ?_
      refine z_iload_n S d_Store_cell_28 rfl 2 rfl 29 rfl ?_
      refine z_iald S hK (rl_s9 (rl_ss (rl_srv (vp_lt (in_srv hn5 h1))))) 0 kC_9 rfl (in_cel h2) d_Store_cell_29 30 rfl (s 9 x.toNatClampNeg k.toNatClampNeg) rfl ?_
      refine z_goto S d_Store_cell_30 34 (by decide) ?_
      exact z_iret S hr hlk d_Store_cell_34 (by unfold v_Store_cell; simp only [if_neg h1, if_neg h2]) rfl
theorem d_Store_count_0 : decode prog_1_method_17_code 0 = .ok (.aload_n 0, 1) := by decide +kernel
theorem d_Store_count_1 : decode prog_1_method_17_code 1 = .ok (.iload_n 1, 1) := by decide +kernel
theorem d_Store_count_2 : decode prog_1_method_17_code 2 = .ok (.invokevirtual 52, 3) := by decide +kernel
theorem d_Store_count_5 : decode prog_1_method_17_code 5 = .ok (.ifCond .eq 18, 3) := by decide +kernel
theorem d_Store_count_8 : decode prog_1_method_17_code 8 = .ok (.aload_n 0, 1) := by decide +kernel
theorem d_Store_count_9 : decode prog_1_method_17_code 9 = .ok (.getfield 20, 3) := by decide +kernel
theorem d_Store_count_12 : decode prog_1_method_17_code 12 = .ok (.iload_n 1, 1) := by decide +kernel
theorem d_Store_count_13 : decode prog_1_method_17_code 13 = .ok (.aaload, 1) := by decide +kernel
theorem d_Store_count_14 : decode prog_1_method_17_code 14 = .ok (.getfield 175, 3) := by decide +kernel
theorem d_Store_count_17 : decode prog_1_method_17_code 17 = .ok (.getfield 185, 3) := by decide +kernel
theorem d_Store_count_20 : decode prog_1_method_17_code 20 = .ok (.goto 4, 3) := by decide +kernel
theorem d_Store_count_23 : decode prog_1_method_17_code 23 = .ok (.iconst (-1), 1) := by decide +kernel
theorem d_Store_count_24 : decode prog_1_method_17_code 24 = .ok (.ireturn, 1) := by decide +kernel
def v_Store_count (n : Nat) (x0 : Int32) (x : Int32) : Int32 := if (v_Store_isServer n x) = 0 then (-1) else (x0)
set_option maxHeartbeats 4000000 in
set_option maxRecDepth 100000 in
theorem c_Store_count {l : Launch} {D : va_G} {K : Nat → ClassId} {ad : Nat → Nat → Nat} {n : Nat} {π : Nat → Nat} {s : S3} {x : Int32} (hJ : zw_J (cRL n) ad) (hn5 : n ≤ 5) : zM l y_Store_count ws_Store_count ({ frames := 1, cells := 0, slots := 0, locals := 21 }) D zCl (zTys K) (cRL n) ad [.ref (ad 0 0), .int x] (kC K ad n s π) (some (.int (v_Store_count n (s 8 3 x.toNatClampNeg) x))) (kC K ad n (s) π) := by
  refine zM.of (cc := prog_1_method_17_code) (maxL := 2) (ret := (Option.some Jvm.ClassFile.FieldType.int)) (by decide) rfl (Nat.le_of_ble_eq_true rfl) ?_
  intro pP eE U mM bL mT cO S hr hlk hK
  have hts := S.2.2.2.2
  have ht := fun w h => hts w (List.mem_cons_of_mem _ h)
  refine z_aload_n S d_Store_count_0 rfl 0 rfl 1 rfl ?_
  refine z_iload_n S d_Store_count_1 rfl 1 rfl 2 rfl ?_
  refine z_callV S hK (As := [.int x]) (rest := []) (c_Store_isServer (x := x) hJ) (cw_Store_isServer hts w_302 rfl rfl ⟨(Nat.le_of_ble_eq_true rfl), (Nat.le_of_ble_eq_true rfl)⟩) rl_0 kC_0 rfl rfl rfl (Nat.le_of_ble_eq_true rfl) d_Store_count_2 5 rfl [.int (v_Store_isServer n x)] rfl ?_
  refine z_if_eq S d_Store_count_5 23 (by decide) 8 rfl (fun h1 => ?_) (fun h1 => ?_)
  · refine z_iconst S d_Store_count_23 (-1) (by decide) 24 rfl ?_
    exact z_iret S hr hlk d_Store_count_24 (by unfold v_Store_count; simp only [if_pos h1]) rfl
  · refine z_aload_n S d_Store_count_8 rfl 0 rfl 9 rfl ?_
    refine z_get S hK hin_Store rl_0 kC_0 rfl 0 (Nat.le_of_ble_eq_true rfl) (ht _ w_278) (fun _ h => h) d_Store_count_9 12 rfl (.ref (ad 10 0)) rfl ?_
    refine z_iload_n S d_Store_count_12 rfl 1 rfl 13 rfl ?_
    refine z_aald S hK rl_10 3 kC_10 rfl (in_srv hn5 h1) rfl d_Store_count_13 14 rfl ?_
    refine z_get S hK hin_Server (rl_srv (vp_lt (in_srv hn5 h1))) kC_1 rfl 2 (Nat.le_of_ble_eq_true rfl) (ht _ w_122) (fun _ h => h) d_Store_count_14 17 rfl (.ref (ad 8 x.toNatClampNeg)) rfl ?_
    refine z_get S hK hin_State (rl_ss (rl_srv (vp_lt (in_srv hn5 h1)))) kC_8 rfl 3 (Nat.le_of_ble_eq_true rfl) (ht _ w_72) (fun _ h => h) d_Store_count_17 20 rfl (.int (s 8 3 x.toNatClampNeg)) rfl ?_
    refine z_goto S d_Store_count_20 24 (by decide) ?_
    exact z_iret S hr hlk d_Store_count_24 (by unfold v_Store_count; simp only [if_neg h1]) rfl
theorem d_Store_finished_0 : decode prog_1_method_18_code 0 = .ok (.aload_n 0, 1) := by decide +kernel
theorem d_Store_finished_1 : decode prog_1_method_18_code 1 = .ok (.iload_n 1, 1) := by decide +kernel
theorem d_Store_finished_2 : decode prog_1_method_18_code 2 = .ok (.invokevirtual 120, 3) := by decide +kernel
theorem d_Store_finished_5 : decode prog_1_method_18_code 5 = .ok (.ifCond .eq 15, 3) := by decide +kernel
theorem d_Store_finished_8 : decode prog_1_method_18_code 8 = .ok (.aload_n 0, 1) := by decide +kernel
theorem d_Store_finished_9 : decode prog_1_method_18_code 9 = .ok (.getfield 29, 3) := by decide +kernel
theorem d_Store_finished_12 : decode prog_1_method_18_code 12 = .ok (.iload_n 1, 1) := by decide +kernel
theorem d_Store_finished_13 : decode prog_1_method_18_code 13 = .ok (.aaload, 1) := by decide +kernel
theorem d_Store_finished_14 : decode prog_1_method_18_code 14 = .ok (.getfield 188, 3) := by decide +kernel
theorem d_Store_finished_17 : decode prog_1_method_18_code 17 = .ok (.goto 4, 3) := by decide +kernel
theorem d_Store_finished_20 : decode prog_1_method_18_code 20 = .ok (.iconst (-1), 1) := by decide +kernel
theorem d_Store_finished_21 : decode prog_1_method_18_code 21 = .ok (.ireturn, 1) := by decide +kernel
def v_Store_finished (x0 : Int32) (x : Int32) : Int32 := if (v_Store_isClient x) = 0 then (-1) else (x0)
set_option maxHeartbeats 4000000 in
set_option maxRecDepth 100000 in
theorem c_Store_finished {l : Launch} {D : va_G} {K : Nat → ClassId} {ad : Nat → Nat → Nat} {n : Nat} {π : Nat → Nat} {s : S3} {x : Int32} (hJ : zw_J (cRL n) ad) : zM l y_Store_finished ws_Store_finished ({ frames := 1, cells := 0, slots := 0, locals := 21 }) D zCl (zTys K) (cRL n) ad [.ref (ad 0 0), .int x] (kC K ad n s π) (some (.int (v_Store_finished (s 2 2 x.toNatClampNeg) x))) (kC K ad n (s) π) := by
  refine zM.of (cc := prog_1_method_18_code) (maxL := 2) (ret := (Option.some Jvm.ClassFile.FieldType.int)) (by decide) rfl (Nat.le_of_ble_eq_true rfl) ?_
  intro pP eE U mM bL mT cO S hr hlk hK
  have hts := S.2.2.2.2
  have ht := fun w h => hts w (List.mem_cons_of_mem _ h)
  refine z_aload_n S d_Store_finished_0 rfl 0 rfl 1 rfl ?_
  refine z_iload_n S d_Store_finished_1 rfl 1 rfl 2 rfl ?_
  refine z_callV S hK (As := [.int x]) (rest := []) (c_Store_isClient (x := x) hJ) (cw_Store_isClient hts w_383 rfl rfl ⟨(Nat.le_of_ble_eq_true rfl), (Nat.le_of_ble_eq_true rfl)⟩) rl_0 kC_0 rfl rfl rfl (Nat.le_of_ble_eq_true rfl) d_Store_finished_2 5 rfl [.int (v_Store_isClient x)] rfl ?_
  refine z_if_eq S d_Store_finished_5 20 (by decide) 8 rfl (fun h1 => ?_) (fun h1 => ?_)
  · refine z_iconst S d_Store_finished_20 (-1) (by decide) 21 rfl ?_
    exact z_iret S hr hlk d_Store_finished_21 (by unfold v_Store_finished; simp only [if_pos h1]) rfl
  · refine z_aload_n S d_Store_finished_8 rfl 0 rfl 9 rfl ?_
    refine z_get S hK hin_Store rl_0 kC_0 rfl 1 (Nat.le_of_ble_eq_true rfl) (ht _ w_279) (fun _ h => h) d_Store_finished_9 12 rfl (.ref (ad 11 0)) rfl ?_
    refine z_iload_n S d_Store_finished_12 rfl 1 rfl 13 rfl ?_
    refine z_aald S hK rl_11 4 kC_11 rfl (in_cli h1) rfl d_Store_finished_13 14 rfl ?_
    refine z_get S hK hin_Client (rl_cli (vp_lt (in_cli h1))) kC_2 rfl 2 (Nat.le_of_ble_eq_true rfl) (ht _ w_172) (fun _ h => h) d_Store_finished_14 17 rfl (.int (s 2 2 x.toNatClampNeg)) rfl ?_
    refine z_goto S d_Store_finished_17 21 (by decide) ?_
    exact z_iret S hr hlk d_Store_finished_21 (by unfold v_Store_finished; simp only [if_neg h1]) rfl
theorem d_Store_result_0 : decode prog_1_method_19_code 0 = .ok (.aload_n 0, 1) := by decide +kernel
theorem d_Store_result_1 : decode prog_1_method_19_code 1 = .ok (.iload_n 1, 1) := by decide +kernel
theorem d_Store_result_2 : decode prog_1_method_19_code 2 = .ok (.invokevirtual 120, 3) := by decide +kernel
theorem d_Store_result_5 : decode prog_1_method_19_code 5 = .ok (.ifCond .eq 15, 3) := by decide +kernel
theorem d_Store_result_8 : decode prog_1_method_19_code 8 = .ok (.aload_n 0, 1) := by decide +kernel
theorem d_Store_result_9 : decode prog_1_method_19_code 9 = .ok (.getfield 29, 3) := by decide +kernel
theorem d_Store_result_12 : decode prog_1_method_19_code 12 = .ok (.iload_n 1, 1) := by decide +kernel
theorem d_Store_result_13 : decode prog_1_method_19_code 13 = .ok (.aaload, 1) := by decide +kernel
theorem d_Store_result_14 : decode prog_1_method_19_code 14 = .ok (.getfield 191, 3) := by decide +kernel
theorem d_Store_result_17 : decode prog_1_method_19_code 17 = .ok (.goto 4, 3) := by decide +kernel
theorem d_Store_result_20 : decode prog_1_method_19_code 20 = .ok (.iconst 0, 1) := by decide +kernel
theorem d_Store_result_21 : decode prog_1_method_19_code 21 = .ok (.ireturn, 1) := by decide +kernel
def v_Store_result (x0 : Int32) (x : Int32) : Int32 := if (v_Store_isClient x) = 0 then 0 else (x0)
set_option maxHeartbeats 4000000 in
set_option maxRecDepth 100000 in
theorem c_Store_result {l : Launch} {D : va_G} {K : Nat → ClassId} {ad : Nat → Nat → Nat} {n : Nat} {π : Nat → Nat} {s : S3} {x : Int32} (hJ : zw_J (cRL n) ad) : zM l y_Store_result ws_Store_result ({ frames := 1, cells := 0, slots := 0, locals := 21 }) D zCl (zTys K) (cRL n) ad [.ref (ad 0 0), .int x] (kC K ad n s π) (some (.int (v_Store_result (s 2 3 x.toNatClampNeg) x))) (kC K ad n (s) π) := by
  refine zM.of (cc := prog_1_method_19_code) (maxL := 2) (ret := (Option.some Jvm.ClassFile.FieldType.int)) (by decide) rfl (Nat.le_of_ble_eq_true rfl) ?_
  intro pP eE U mM bL mT cO S hr hlk hK
  have hts := S.2.2.2.2
  have ht := fun w h => hts w (List.mem_cons_of_mem _ h)
  refine z_aload_n S d_Store_result_0 rfl 0 rfl 1 rfl ?_
  refine z_iload_n S d_Store_result_1 rfl 1 rfl 2 rfl ?_
  refine z_callV S hK (As := [.int x]) (rest := []) (c_Store_isClient (x := x) hJ) (cw_Store_isClient hts w_383 rfl rfl ⟨(Nat.le_of_ble_eq_true rfl), (Nat.le_of_ble_eq_true rfl)⟩) rl_0 kC_0 rfl rfl rfl (Nat.le_of_ble_eq_true rfl) d_Store_result_2 5 rfl [.int (v_Store_isClient x)] rfl ?_
  refine z_if_eq S d_Store_result_5 20 (by decide) 8 rfl (fun h1 => ?_) (fun h1 => ?_)
  · refine z_iconst S d_Store_result_20 0 (by decide) 21 rfl ?_
    exact z_iret S hr hlk d_Store_result_21 (by unfold v_Store_result; simp only [if_pos h1]) rfl
  · refine z_aload_n S d_Store_result_8 rfl 0 rfl 9 rfl ?_
    refine z_get S hK hin_Store rl_0 kC_0 rfl 1 (Nat.le_of_ble_eq_true rfl) (ht _ w_279) (fun _ h => h) d_Store_result_9 12 rfl (.ref (ad 11 0)) rfl ?_
    refine z_iload_n S d_Store_result_12 rfl 1 rfl 13 rfl ?_
    refine z_aald S hK rl_11 4 kC_11 rfl (in_cli h1) rfl d_Store_result_13 14 rfl ?_
    refine z_get S hK hin_Client (rl_cli (vp_lt (in_cli h1))) kC_2 rfl 3 (Nat.le_of_ble_eq_true rfl) (ht _ w_174) (fun _ h => h) d_Store_result_14 17 rfl (.int (s 2 3 x.toNatClampNeg)) rfl ?_
    refine z_goto S d_Store_result_17 21 (by decide) ?_
    exact z_iret S hr hlk d_Store_result_21 (by unfold v_Store_result; simp only [if_neg h1]) rfl
theorem d_Store_begin_0 : decode prog_1_method_7_code 0 = .ok (.aload_n 0, 1) := by decide +kernel
theorem d_Store_begin_1 : decode prog_1_method_7_code 1 = .ok (.iload_n 1, 1) := by decide +kernel
theorem d_Store_begin_2 : decode prog_1_method_7_code 2 = .ok (.invokevirtual 120, 3) := by decide +kernel
theorem d_Store_begin_5 : decode prog_1_method_7_code 5 = .ok (.ifCond .eq 11, 3) := by decide +kernel
theorem d_Store_begin_8 : decode prog_1_method_7_code 8 = .ok (.aload_n 0, 1) := by decide +kernel
theorem d_Store_begin_9 : decode prog_1_method_7_code 9 = .ok (.iload_n 3, 1) := by decide +kernel
theorem d_Store_begin_10 : decode prog_1_method_7_code 10 = .ok (.invokevirtual 123, 3) := by decide +kernel
theorem d_Store_begin_13 : decode prog_1_method_7_code 13 = .ok (.ifCond .ne 5, 3) := by decide +kernel
theorem d_Store_begin_16 : decode prog_1_method_7_code 16 = .ok (.iconst (-1), 1) := by decide +kernel
theorem d_Store_begin_17 : decode prog_1_method_7_code 17 = .ok (.ireturn, 1) := by decide +kernel
theorem d_Store_begin_18 : decode prog_1_method_7_code 18 = .ok (.aload_n 0, 1) := by decide +kernel
theorem d_Store_begin_19 : decode prog_1_method_7_code 19 = .ok (.getfield 29, 3) := by decide +kernel
theorem d_Store_begin_22 : decode prog_1_method_7_code 22 = .ok (.iload_n 1, 1) := by decide +kernel
theorem d_Store_begin_23 : decode prog_1_method_7_code 23 = .ok (.aaload, 1) := by decide +kernel
theorem d_Store_begin_24 : decode prog_1_method_7_code 24 = .ok (.astore 5, 2) := by decide +kernel
theorem d_Store_begin_26 : decode prog_1_method_7_code 26 = .ok (.aload 5, 2) := by decide +kernel
theorem d_Store_begin_28 : decode prog_1_method_7_code 28 = .ok (.getfield 126, 3) := by decide +kernel
theorem d_Store_begin_31 : decode prog_1_method_7_code 31 = .ok (.ifCond .eq 6, 3) := by decide +kernel
theorem d_Store_begin_34 : decode prog_1_method_7_code 34 = .ok (.bipush (-2), 2) := by decide +kernel
theorem d_Store_begin_36 : decode prog_1_method_7_code 36 = .ok (.ireturn, 1) := by decide +kernel
theorem d_Store_begin_37 : decode prog_1_method_7_code 37 = .ok (.aload 5, 2) := by decide +kernel
theorem d_Store_begin_39 : decode prog_1_method_7_code 39 = .ok (.iload_n 2, 1) := by decide +kernel
theorem d_Store_begin_40 : decode prog_1_method_7_code 40 = .ok (.iload_n 3, 1) := by decide +kernel
theorem d_Store_begin_41 : decode prog_1_method_7_code 41 = .ok (.iload 4, 2) := by decide +kernel
theorem d_Store_begin_43 : decode prog_1_method_7_code 43 = .ok (.invokevirtual 129, 3) := by decide +kernel
theorem d_Store_begin_46 : decode prog_1_method_7_code 46 = .ok (.aload 5, 2) := by decide +kernel
theorem d_Store_begin_48 : decode prog_1_method_7_code 48 = .ok (.getfield 133, 3) := by decide +kernel
theorem d_Store_begin_51 : decode prog_1_method_7_code 51 = .ok (.getfield 137, 3) := by decide +kernel
theorem d_Store_begin_54 : decode prog_1_method_7_code 54 = .ok (.ireturn, 1) := by decide +kernel
def S_Store_begin (n : Nat) (π : Nat → Nat) (s : S3) (x : Int32) (w : Int32) (k : Int32) (v : Int32) : S3 := if (v_Store_isClient x) = 0 then s else if (v_Store_isCell k) = 0 then s else if (s 2 1 x.toNatClampNeg) = 0 then (S_Client_start π s x.toNatClampNeg w k v) else s
def v_Store_begin (n : Nat) (π : Nat → Nat) (s : S3) (x : Int32) (w : Int32) (k : Int32) (v : Int32) : Int32 := if (v_Store_isClient x) = 0 then (-1) else if (v_Store_isCell k) = 0 then (-1) else if (s 2 1 x.toNatClampNeg) = 0 then ((u3 s 7 1 (5 + x.toNatClampNeg) ((s 7 1 (5 + x.toNatClampNeg)) + 1)) 7 1 (5 + (x.toNatClampNeg))) else (-2)
set_option maxHeartbeats 4000000 in
set_option maxRecDepth 100000 in
theorem c_Store_begin {l : Launch} {D : va_G} {K : Nat → ClassId} {ad : Nat → Nat → Nat} {n : Nat} {π : Nat → Nat} {s : S3} {x w k v : Int32} (hJ : zw_J (cRL n) ad) (hz : zb w) : zM l y_Store_begin ws_Store_begin ({ frames := 1, cells := 0, slots := 0, locals := 23 }) D zCl (zTys K) (cRL n) ad [.ref (ad 0 0), .int x, .int w, .int k, .int v] (kC K ad n s π) (some (.int (v_Store_begin n π s x w k v))) (kC K ad n (S_Store_begin n π s x w k v) π) := by
  refine zM.of (cc := prog_1_method_7_code) (maxL := 6) (ret := (Option.some Jvm.ClassFile.FieldType.int)) (by decide) rfl (Nat.le_of_ble_eq_true rfl) ?_
  intro pP eE U mM bL mT cO S hr hlk hK
  have hts := S.2.2.2.2
  have ht := fun w h => hts w (List.mem_cons_of_mem _ h)
  refine z_aload_n S d_Store_begin_0 rfl 0 rfl 1 rfl ?_
  refine z_iload_n S d_Store_begin_1 rfl 1 rfl 2 rfl ?_
  refine z_callV S hK (As := [.int x]) (rest := []) (c_Store_isClient (x := x) hJ) (cw_Store_isClient hts w_383 rfl rfl ⟨(Nat.le_of_ble_eq_true rfl), (Nat.le_of_ble_eq_true rfl)⟩) rl_0 kC_0 rfl rfl rfl (Nat.le_of_ble_eq_true rfl) d_Store_begin_2 5 rfl [.int (v_Store_isClient x)] rfl ?_
  refine z_if_eq S d_Store_begin_5 16 (by decide) 8 rfl (fun h1 => ?_) (fun h1 => ?_)
  · refine z_iconst S d_Store_begin_16 (-1) (by decide) 17 rfl ?_
    exact z_iret S hr hlk d_Store_begin_17 (by unfold v_Store_begin; simp only [if_pos h1]) (kC_eq (by unfold S_Store_begin; simp only [if_pos h1]))
  · refine z_aload_n S d_Store_begin_8 rfl 0 rfl 9 rfl ?_
    refine z_iload_n S d_Store_begin_9 rfl 3 rfl 10 rfl ?_
    refine z_callV S hK (As := [.int k]) (rest := []) (c_Store_isCell (x := k) hJ) (cw_Store_isCell hts w_387 rfl rfl ⟨(Nat.le_of_ble_eq_true rfl), (Nat.le_of_ble_eq_true rfl)⟩) rl_0 kC_0 rfl rfl rfl (Nat.le_of_ble_eq_true rfl) d_Store_begin_10 13 rfl [.int (v_Store_isCell k)] rfl ?_
    refine z_if_ne S d_Store_begin_13 18 (by decide) 16 rfl (fun h2 => ?_) (fun h2 => ?_)
    · refine z_aload_n S d_Store_begin_18 rfl 0 rfl 19 rfl ?_
      refine z_get S hK hin_Store rl_0 kC_0 rfl 1 (Nat.le_of_ble_eq_true rfl) (ht _ w_279) (fun _ h => h) d_Store_begin_19 22 rfl (.ref (ad 11 0)) rfl ?_
      refine z_iload_n S d_Store_begin_22 rfl 1 rfl 23 rfl ?_
      refine z_aald S hK rl_11 4 kC_11 rfl (in_cli h1) rfl d_Store_begin_23 24 rfl ?_
      refine z_astore S d_Store_begin_24 (Nat.le_of_ble_eq_true rfl) [(5, .ref (ad 2 x.toNatClampNeg)), (0, .ref (ad 0 0)), (1, .int x), (2, .int w), (3, .int k), (4, .int v)] rfl 26 rfl ?_
      refine z_aload S d_Store_begin_26 0 rfl 28 rfl ?_
      refine z_get S hK hin_Client (rl_cli (vp_lt (in_cli h1))) kC_2 rfl 1 (Nat.le_of_ble_eq_true rfl) (ht _ w_170) (fun _ h => h) d_Store_begin_28 31 rfl (.int (s 2 1 x.toNatClampNeg)) rfl ?_
      refine z_if_eq S d_Store_begin_31 37 (by decide) 34 rfl (fun h3 => ?_) (fun h3 => ?_)
      · refine z_aload S d_Store_begin_37 0 rfl 39 rfl ?_
        refine z_iload_n S d_Store_begin_39 rfl 3 rfl 40 rfl ?_
        refine z_iload_n S d_Store_begin_40 rfl 4 rfl 41 rfl ?_
        refine z_iload S d_Store_begin_41 5 rfl 43 rfl ?_
        refine z_callV S hK (As := [.int w, .int k, .int v]) (rest := []) (c_Client_start (c := x.toNatClampNeg) (w := w) (k := k) (v := v) hJ (rl_cli (vp_lt (in_cli h1))) hz) (cw_Client_start hts w_391 rfl rfl ⟨(Nat.le_of_ble_eq_true rfl), (Nat.le_of_ble_eq_true rfl)⟩) (rl_cli (vp_lt (in_cli h1))) kC_2 rfl rfl rfl (Nat.le_of_ble_eq_true rfl) d_Store_begin_43 46 rfl [] rfl ?_
        refine z_aload S d_Store_begin_46 0 rfl 48 rfl ?_
        refine z_get S hK hin_Client (rl_cli (vp_lt (in_cli h1))) kC_2 rfl 0 (Nat.le_of_ble_eq_true rfl) (ht _ w_168) (fun _ h => h) d_Store_begin_48 51 rfl (.ref (ad 7 (5 + (x.toNatClampNeg)))) rfl ?_
        refine z_get S hK hin_Operation (rl_co (rl_cli (vp_lt (in_cli h1)))) kC_7 rfl 1 (Nat.le_of_ble_eq_true rfl) (ht _ w_96) (fun _ h => h) d_Store_begin_51 54 rfl (.int ((u3 s 7 1 (5 + x.toNatClampNeg) ((s 7 1 (5 + x.toNatClampNeg)) + 1)) 7 1 (5 + (x.toNatClampNeg)))) rfl ?_
        exact z_iret S hr hlk d_Store_begin_54 (by unfold v_Store_begin; simp only [if_neg h1, if_neg h2, if_pos h3]) (kC_eq (by unfold S_Store_begin; simp only [if_neg h1, if_neg h2, if_pos h3]))
      · refine z_bipush S d_Store_begin_34 (-2) (by decide) 36 rfl ?_
        exact z_iret S hr hlk d_Store_begin_36 (by unfold v_Store_begin; simp only [if_neg h1, if_neg h2, if_neg h3]) (kC_eq (by unfold S_Store_begin; simp only [if_neg h1, if_neg h2, if_neg h3]))
    · refine z_iconst S d_Store_begin_16 (-1) (by decide) 17 rfl ?_
      exact z_iret S hr hlk d_Store_begin_17 (by unfold v_Store_begin; simp only [if_neg h1, if_pos h2]) (kC_eq (by unfold S_Store_begin; simp only [if_neg h1, if_pos h2]))
theorem d_Store_send_0 : decode prog_1_method_8_code 0 = .ok (.aload_n 0, 1) := by decide +kernel
theorem d_Store_send_1 : decode prog_1_method_8_code 1 = .ok (.iload_n 1, 1) := by decide +kernel
theorem d_Store_send_2 : decode prog_1_method_8_code 2 = .ok (.invokevirtual 120, 3) := by decide +kernel
theorem d_Store_send_5 : decode prog_1_method_8_code 5 = .ok (.ifCond .eq 23, 3) := by decide +kernel
theorem d_Store_send_8 : decode prog_1_method_8_code 8 = .ok (.aload_n 0, 1) := by decide +kernel
theorem d_Store_send_9 : decode prog_1_method_8_code 9 = .ok (.iload_n 2, 1) := by decide +kernel
theorem d_Store_send_10 : decode prog_1_method_8_code 10 = .ok (.invokevirtual 52, 3) := by decide +kernel
theorem d_Store_send_13 : decode prog_1_method_8_code 13 = .ok (.ifCond .eq 15, 3) := by decide +kernel
theorem d_Store_send_16 : decode prog_1_method_8_code 16 = .ok (.aload_n 0, 1) := by decide +kernel
theorem d_Store_send_17 : decode prog_1_method_8_code 17 = .ok (.getfield 29, 3) := by decide +kernel
theorem d_Store_send_20 : decode prog_1_method_8_code 20 = .ok (.iload_n 1, 1) := by decide +kernel
theorem d_Store_send_21 : decode prog_1_method_8_code 21 = .ok (.aaload, 1) := by decide +kernel
theorem d_Store_send_22 : decode prog_1_method_8_code 22 = .ok (.getfield 126, 3) := by decide +kernel
theorem d_Store_send_25 : decode prog_1_method_8_code 25 = .ok (.ifCond .ne 5, 3) := by decide +kernel
theorem d_Store_send_28 : decode prog_1_method_8_code 28 = .ok (.iconst 0, 1) := by decide +kernel
theorem d_Store_send_29 : decode prog_1_method_8_code 29 = .ok (.ireturn, 1) := by decide +kernel
theorem d_Store_send_30 : decode prog_1_method_8_code 30 = .ok (.aload_n 0, 1) := by decide +kernel
theorem d_Store_send_31 : decode prog_1_method_8_code 31 = .ok (.getfield 44, 3) := by decide +kernel
theorem d_Store_send_34 : decode prog_1_method_8_code 34 = .ok (.bipush 7, 2) := by decide +kernel
theorem d_Store_send_36 : decode prog_1_method_8_code 36 = .ok (.iload_n 2, 1) := by decide +kernel
theorem d_Store_send_37 : decode prog_1_method_8_code 37 = .ok (.invokevirtual 63, 3) := by decide +kernel
theorem d_Store_send_40 : decode prog_1_method_8_code 40 = .ok (.getfield 140, 3) := by decide +kernel
theorem d_Store_send_43 : decode prog_1_method_8_code 43 = .ok (.aload_n 0, 1) := by decide +kernel
theorem d_Store_send_44 : decode prog_1_method_8_code 44 = .ok (.getfield 29, 3) := by decide +kernel
theorem d_Store_send_47 : decode prog_1_method_8_code 47 = .ok (.iload_n 1, 1) := by decide +kernel
theorem d_Store_send_48 : decode prog_1_method_8_code 48 = .ok (.aaload, 1) := by decide +kernel
theorem d_Store_send_49 : decode prog_1_method_8_code 49 = .ok (.getfield 133, 3) := by decide +kernel
theorem d_Store_send_52 : decode prog_1_method_8_code 52 = .ok (.invokevirtual 141, 3) := by decide +kernel
theorem d_Store_send_55 : decode prog_1_method_8_code 55 = .ok (.iconst 1, 1) := by decide +kernel
theorem d_Store_send_56 : decode prog_1_method_8_code 56 = .ok (.ireturn, 1) := by decide +kernel
def S_Store_send (n : Nat) (π : Nat → Nat) (s : S3) (x : Int32) (y : Int32) : S3 := if (v_Store_isClient x) = 0 then s else if (v_Store_isServer n y) = 0 then s else if (s 2 1 x.toNatClampNeg) = 0 then s else S_Operation_become π (S_Post_next π s 7 y) (8 + (nxL (s 4 2 0) π)) (5 + (x.toNatClampNeg))
def v_Store_send (n : Nat) (π : Nat → Nat) (s : S3) (x : Int32) (y : Int32) : Int32 := if (v_Store_isClient x) = 0 then 0 else if (v_Store_isServer n y) = 0 then 0 else if (s 2 1 x.toNatClampNeg) = 0 then 0 else 1
theorem zbv_Store_send {n : Nat} {π : Nat → Nat} {s : S3} {x : Int32} {y : Int32} : zb (v_Store_send n π s x y) := by
  unfold v_Store_send
  repeat' split
  all_goals first | with_reducible exact zb_0 | with_reducible exact zb_1 | with_reducible exact zbv_View_hasBackup | with_reducible exact zbv_Server_isPrimary | with_reducible exact zbv_Server_isPrimaryOf | with_reducible exact zbv_Server_isBackupOf | with_reducible exact zbv_Client_takeAnswer | with_reducible exact zbv_Service_isFresh | with_reducible exact zbv_Post_has | with_reducible exact zbv_Store_isServer | with_reducible exact zbv_Store_isClient | with_reducible exact zbv_Store_isCell | with_reducible exact zbv_Store_takeRead | with_reducible exact zbv_Store_takeWrite | with_reducible exact zbv_Store_takeAsk | with_reducible exact zbv_Store_takePassed | with_reducible exact zbv_Store_takePass | with_reducible exact zbv_Store_takeFilled | with_reducible exact zbv_Store_takeFill | with_reducible exact zbv_Store_takeView | with_reducible exact zbv_Store_takePing | with_reducible exact zbv_Store_takesEffect | with_reducible exact zbv_Store_skew | with_reducible exact zbv_Store_ping | with_reducible exact zbv_Store_push | with_reducible exact zbv_Store_crash
set_option maxHeartbeats 4000000 in
set_option maxRecDepth 100000 in
theorem c_Store_send {l : Launch} {D : va_G} {K : Nat → ClassId} {ad : Nat → Nat → Nat} {n : Nat} {π : Nat → Nat} {s : S3} {x y : Int32} (hJ : zw_J (cRL n) ad) (hn5 : n ≤ 5) (hw : vp_in (s 4 2 0) 33) (hπ : ∀ j, π j < 34) (hop : opOK s) : zM l y_Store_send ws_Store_send ({ frames := 1, cells := 0, slots := 0, locals := 23 }) D zCl (zTys K) (cRL n) ad [.ref (ad 0 0), .int x, .int y] (kC K ad n s π) (some (.int (v_Store_send n π s x y))) (kC K ad n (S_Store_send n π s x y) π) := by
  refine zM.of (cc := prog_1_method_8_code) (maxL := 3) (ret := (Option.some Jvm.ClassFile.FieldType.boolean)) (by decide) rfl (Nat.le_of_ble_eq_true rfl) ?_
  intro pP eE U mM bL mT cO S hr hlk hK
  have hts := S.2.2.2.2
  have ht := fun w h => hts w (List.mem_cons_of_mem _ h)
  refine z_aload_n S d_Store_send_0 rfl 0 rfl 1 rfl ?_
  refine z_iload_n S d_Store_send_1 rfl 1 rfl 2 rfl ?_
  refine z_callV S hK (As := [.int x]) (rest := []) (c_Store_isClient (x := x) hJ) (cw_Store_isClient hts w_383 rfl rfl ⟨(Nat.le_of_ble_eq_true rfl), (Nat.le_of_ble_eq_true rfl)⟩) rl_0 kC_0 rfl rfl rfl (Nat.le_of_ble_eq_true rfl) d_Store_send_2 5 rfl [.int (v_Store_isClient x)] rfl ?_
  refine z_if_eq S d_Store_send_5 28 (by decide) 8 rfl (fun h1 => ?_) (fun h1 => ?_)
  · refine z_iconst S d_Store_send_28 0 (by decide) 29 rfl ?_
    exact z_zret S hr (zb_n zb_0) hlk d_Store_send_29 (by unfold v_Store_send; simp only [if_pos h1]) (kC_eq (by unfold S_Store_send; simp only [if_pos h1]))
  · refine z_aload_n S d_Store_send_8 rfl 0 rfl 9 rfl ?_
    refine z_iload_n S d_Store_send_9 rfl 2 rfl 10 rfl ?_
    refine z_callV S hK (As := [.int y]) (rest := []) (c_Store_isServer (x := y) hJ) (cw_Store_isServer hts w_302 rfl rfl ⟨(Nat.le_of_ble_eq_true rfl), (Nat.le_of_ble_eq_true rfl)⟩) rl_0 kC_0 rfl rfl rfl (Nat.le_of_ble_eq_true rfl) d_Store_send_10 13 rfl [.int (v_Store_isServer n y)] rfl ?_
    refine z_if_eq S d_Store_send_13 28 (by decide) 16 rfl (fun h2 => ?_) (fun h2 => ?_)
    · refine z_iconst S d_Store_send_28 0 (by decide) 29 rfl ?_
      exact z_zret S hr (zb_n zb_0) hlk d_Store_send_29 (by unfold v_Store_send; simp only [if_neg h1, if_pos h2]) (kC_eq (by unfold S_Store_send; simp only [if_neg h1, if_pos h2]))
    · refine z_aload_n S d_Store_send_16 rfl 0 rfl 17 rfl ?_
      refine z_get S hK hin_Store rl_0 kC_0 rfl 1 (Nat.le_of_ble_eq_true rfl) (ht _ w_279) (fun _ h => h) d_Store_send_17 20 rfl (.ref (ad 11 0)) rfl ?_
      refine z_iload_n S d_Store_send_20 rfl 1 rfl 21 rfl ?_
      refine z_aald S hK rl_11 4 kC_11 rfl (in_cli h1) rfl d_Store_send_21 22 rfl ?_
      refine z_get S hK hin_Client (rl_cli (vp_lt (in_cli h1))) kC_2 rfl 1 (Nat.le_of_ble_eq_true rfl) (ht _ w_170) (fun _ h => h) d_Store_send_22 25 rfl (.int (s 2 1 x.toNatClampNeg)) rfl ?_
      refine z_if_ne S d_Store_send_25 30 (by decide) 28 rfl (fun h3 => ?_) (fun h3 => ?_)
      · refine z_aload_n S d_Store_send_30 rfl 0 rfl 31 rfl ?_
        refine z_get S hK hin_Store rl_0 kC_0 rfl 3 (Nat.le_of_ble_eq_true rfl) (ht _ w_281) (fun _ h => h) d_Store_send_31 34 rfl (.ref (ad 4 0)) rfl ?_
        refine z_bipush S d_Store_send_34 7 (by decide) 36 rfl ?_
        refine z_iload_n S d_Store_send_36 rfl 2 rfl 37 rfl ?_
        refine z_callV S hK (As := [.int 7, .int y]) (rest := []) (c_Post_next (k := 7) (p := y) hJ hw hπ) (cw_Post_next hts w_310 rfl rfl ⟨(Nat.le_of_ble_eq_true rfl), (Nat.le_of_ble_eq_true rfl)⟩) rl_4 kC_4 rfl rfl rfl (Nat.le_of_ble_eq_true rfl) d_Store_send_37 40 rfl [.ref (ad 5 (nxL (s 4 2 0) π))] rfl ?_
        refine z_get S hK hin_Letter (rl_nx hπ) kC_5 rfl 1 (Nat.le_of_ble_eq_true rfl) (ht _ w_227) (fun _ h => h) d_Store_send_40 43 rfl (.ref (ad 7 (8 + (nxL (s 4 2 0) π)))) rfl ?_
        refine z_aload_n S d_Store_send_43 rfl 0 rfl 44 rfl ?_
        refine z_get S hK hin_Store rl_0 kC_0 rfl 1 (Nat.le_of_ble_eq_true rfl) (ht _ w_279) (fun _ h => h) d_Store_send_44 47 rfl (.ref (ad 11 0)) rfl ?_
        refine z_iload_n S d_Store_send_47 rfl 1 rfl 48 rfl ?_
        refine z_aald S hK rl_11 4 kC_11 rfl (in_cli h1) rfl d_Store_send_48 49 rfl ?_
        refine z_get S hK hin_Client (rl_cli (vp_lt (in_cli h1))) kC_2 rfl 0 (Nat.le_of_ble_eq_true rfl) (ht _ w_168) (fun _ h => h) d_Store_send_49 52 rfl (.ref (ad 7 (5 + (x.toNatClampNeg)))) rfl ?_
        refine z_callV S hK (As := [.ref (ad 7 (5 + (x.toNatClampNeg)))]) (rest := []) (c_Operation_become (a := 8 + (nxL (s 4 2 0) π)) (b := 5 + (x.toNatClampNeg)) hJ (rl_lo (rl_nx hπ)) (rl_co (rl_cli (vp_lt (in_cli h1)))) (opOK.w hop (5 + (x.toNatClampNeg)))) (cw_Operation_become hts w_375 rfl rfl ⟨(Nat.le_of_ble_eq_true rfl), (Nat.le_of_ble_eq_true rfl)⟩) (rl_lo (rl_nx hπ)) kC_7 rfl rfl rfl (Nat.le_of_ble_eq_true rfl) d_Store_send_52 55 rfl [] rfl ?_
        refine z_iconst S d_Store_send_55 1 (by decide) 56 rfl ?_
        exact z_zret S hr (zb_n zb_1) hlk d_Store_send_56 (by unfold v_Store_send; simp only [if_neg h1, if_neg h2, if_neg h3]) (kC_eq (by unfold S_Store_send; simp only [if_neg h1, if_neg h2, if_neg h3]))
      · refine z_iconst S d_Store_send_28 0 (by decide) 29 rfl ?_
        exact z_zret S hr (zb_n zb_0) hlk d_Store_send_29 (by unfold v_Store_send; simp only [if_neg h1, if_neg h2, if_pos h3]) (kC_eq (by unfold S_Store_send; simp only [if_neg h1, if_neg h2, if_pos h3]))
