theorem d_Store_isServer_0 : decode prog_1_method_20_code 0 = .ok (.iload_n 1, 1) := by decide +kernel
theorem d_Store_isServer_1 : decode prog_1_method_20_code 1 = .ok (.ifCond .lt 16, 3) := by decide +kernel
theorem d_Store_isServer_4 : decode prog_1_method_20_code 4 = .ok (.iload_n 1, 1) := by decide +kernel
theorem d_Store_isServer_5 : decode prog_1_method_20_code 5 = .ok (.aload_n 0, 1) := by decide +kernel
theorem d_Store_isServer_6 : decode prog_1_method_20_code 6 = .ok (.getfield 20, 3) := by decide +kernel
theorem d_Store_isServer_9 : decode prog_1_method_20_code 9 = .ok (.arraylength, 1) := by decide +kernel
theorem d_Store_isServer_10 : decode prog_1_method_20_code 10 = .ok (.if_icmp .ge 7, 3) := by decide +kernel
theorem d_Store_isServer_13 : decode prog_1_method_20_code 13 = .ok (.iconst 1, 1) := by decide +kernel
theorem d_Store_isServer_14 : decode prog_1_method_20_code 14 = .ok (.goto 4, 3) := by decide +kernel
theorem d_Store_isServer_17 : decode prog_1_method_20_code 17 = .ok (.iconst 0, 1) := by decide +kernel
theorem d_Store_isServer_18 : decode prog_1_method_20_code 18 = .ok (.ireturn, 1) := by decide +kernel
def v_Store_isServer (n : Nat) (x : Int32) : Int32 := if x < 0 then 0 else if (nI n) ≤ x then 0 else 1
theorem zbv_Store_isServer {n : Nat} {x : Int32} : zb (v_Store_isServer n  x) := by
  unfold v_Store_isServer zb
  repeat' split
  all_goals simp
set_option maxHeartbeats 4000000 in
set_option maxRecDepth 100000 in
theorem c_Store_isServer {l : Launch} {D : va_G} {K : Nat → ClassId} {ad : Nat → Nat → Nat} {n : Nat} {π : Nat → Nat} {s : S3} {x : Int32} (hJ : zw_J (cRL n) ad) : zM l y_Store_isServer ws_Store_isServer ({ frames := 0, cells := 0, slots := 0, locals := 0 }) D zCl (zTys K) (cRL n) ad [.ref (ad 0 0), .int x] (kC K ad n s π) (some (.int (v_Store_isServer n  x))) (kC K ad n (s) π) := by
  refine zM.of (cc := prog_1_method_20_code) (maxL := 2) (ret := (Option.some Jvm.ClassFile.FieldType.boolean)) (by decide) rfl (Nat.le_of_ble_eq_true rfl) ?_
  intro pP eE U mM bL mT cO S hr hlk hK
  have hts := S.2.2.2.2
  have ht := fun w h => hts w (List.mem_cons_of_mem _ h)
  refine z_iload_n S d_Store_isServer_0 rfl 1 rfl 1 rfl ?_
  refine z_if_lt S d_Store_isServer_1 17 (by decide) 4 rfl (fun h1 => ?_) (fun h1 => ?_)
  · refine z_iconst S d_Store_isServer_17 0 (by decide) 18 rfl ?_
    exact z_zret S hr (zb_n zb_0) hlk d_Store_isServer_18 (by unfold v_Store_isServer; simp only [if_pos h1]) rfl
  · refine z_iload_n S d_Store_isServer_4 rfl 1 rfl 5 rfl ?_
    refine z_aload_n S d_Store_isServer_5 rfl 0 rfl 6 rfl ?_
    refine z_get S hK hin_Store rl_0 kC_0 rfl 0 (Nat.le_of_ble_eq_true rfl) (ht _ w_278) (fun _ h => h) d_Store_isServer_6 9 rfl (.ref (ad 10 0)) rfl ?_
    refine z_alen S hK rl_10 3 kC_10 rfl (v := nI n) rfl d_Store_isServer_9 10 rfl ?_
    refine z_icmp_ge S d_Store_isServer_10 17 (by decide) 13 rfl (fun h2 => ?_) (fun h2 => ?_)
    · refine z_iconst S d_Store_isServer_17 0 (by decide) 18 rfl ?_
      exact z_zret S hr (zb_n zb_0) hlk d_Store_isServer_18 (by unfold v_Store_isServer; simp only [if_neg h1, if_pos h2]) rfl
    · refine z_iconst S d_Store_isServer_13 1 (by decide) 14 rfl ?_
      refine z_goto S d_Store_isServer_14 18 (by decide) ?_
      exact z_zret S hr (zb_n zb_1) hlk d_Store_isServer_18 (by unfold v_Store_isServer; simp only [if_neg h1, if_neg h2]) rfl
theorem d_Store_isClient_0 : decode prog_1_method_21_code 0 = .ok (.iload_n 1, 1) := by decide +kernel
theorem d_Store_isClient_1 : decode prog_1_method_21_code 1 = .ok (.ifCond .lt 12, 3) := by decide +kernel
theorem d_Store_isClient_4 : decode prog_1_method_21_code 4 = .ok (.iload_n 1, 1) := by decide +kernel
theorem d_Store_isClient_5 : decode prog_1_method_21_code 5 = .ok (.iconst 3, 1) := by decide +kernel
theorem d_Store_isClient_6 : decode prog_1_method_21_code 6 = .ok (.if_icmp .ge 7, 3) := by decide +kernel
theorem d_Store_isClient_9 : decode prog_1_method_21_code 9 = .ok (.iconst 1, 1) := by decide +kernel
theorem d_Store_isClient_10 : decode prog_1_method_21_code 10 = .ok (.goto 4, 3) := by decide +kernel
theorem d_Store_isClient_13 : decode prog_1_method_21_code 13 = .ok (.iconst 0, 1) := by decide +kernel
theorem d_Store_isClient_14 : decode prog_1_method_21_code 14 = .ok (.ireturn, 1) := by decide +kernel
def v_Store_isClient (x : Int32) : Int32 := if x < 0 then 0 else if 3 ≤ x then 0 else 1
theorem zbv_Store_isClient {x : Int32} : zb (v_Store_isClient  x) := by
  unfold v_Store_isClient zb
  repeat' split
  all_goals simp
set_option maxHeartbeats 4000000 in
set_option maxRecDepth 100000 in
theorem c_Store_isClient {l : Launch} {D : va_G} {K : Nat → ClassId} {ad : Nat → Nat → Nat} {n : Nat} {π : Nat → Nat} {s : S3} {x : Int32} (hJ : zw_J (cRL n) ad) : zM l y_Store_isClient ws_Store_isClient ({ frames := 0, cells := 0, slots := 0, locals := 0 }) D zCl (zTys K) (cRL n) ad [.ref (ad 0 0), .int x] (kC K ad n s π) (some (.int (v_Store_isClient  x))) (kC K ad n (s) π) := by
  refine zM.of (cc := prog_1_method_21_code) (maxL := 2) (ret := (Option.some Jvm.ClassFile.FieldType.boolean)) (by decide) rfl (Nat.le_of_ble_eq_true rfl) ?_
  intro pP eE U mM bL mT cO S hr hlk hK
  have hts := S.2.2.2.2
  have ht := fun w h => hts w (List.mem_cons_of_mem _ h)
  refine z_iload_n S d_Store_isClient_0 rfl 1 rfl 1 rfl ?_
  refine z_if_lt S d_Store_isClient_1 13 (by decide) 4 rfl (fun h1 => ?_) (fun h1 => ?_)
  · refine z_iconst S d_Store_isClient_13 0 (by decide) 14 rfl ?_
    exact z_zret S hr (zb_n zb_0) hlk d_Store_isClient_14 (by unfold v_Store_isClient; simp only [if_pos h1]) rfl
  · refine z_iload_n S d_Store_isClient_4 rfl 1 rfl 5 rfl ?_
    refine z_iconst S d_Store_isClient_5 3 (by decide) 6 rfl ?_
    refine z_icmp_ge S d_Store_isClient_6 13 (by decide) 9 rfl (fun h2 => ?_) (fun h2 => ?_)
    · refine z_iconst S d_Store_isClient_13 0 (by decide) 14 rfl ?_
      exact z_zret S hr (zb_n zb_0) hlk d_Store_isClient_14 (by unfold v_Store_isClient; simp only [if_neg h1, if_pos h2]) rfl
    · refine z_iconst S d_Store_isClient_9 1 (by decide) 10 rfl ?_
      refine z_goto S d_Store_isClient_10 14 (by decide) ?_
      exact z_zret S hr (zb_n zb_1) hlk d_Store_isClient_14 (by unfold v_Store_isClient; simp only [if_neg h1, if_neg h2]) rfl
theorem d_Store_isCell_0 : decode prog_1_method_22_code 0 = .ok (.iload_n 1, 1) := by decide +kernel
theorem d_Store_isCell_1 : decode prog_1_method_22_code 1 = .ok (.ifCond .lt 12, 3) := by decide +kernel
theorem d_Store_isCell_4 : decode prog_1_method_22_code 4 = .ok (.iload_n 1, 1) := by decide +kernel
theorem d_Store_isCell_5 : decode prog_1_method_22_code 5 = .ok (.iconst 4, 1) := by decide +kernel
theorem d_Store_isCell_6 : decode prog_1_method_22_code 6 = .ok (.if_icmp .ge 7, 3) := by decide +kernel
theorem d_Store_isCell_9 : decode prog_1_method_22_code 9 = .ok (.iconst 1, 1) := by decide +kernel
theorem d_Store_isCell_10 : decode prog_1_method_22_code 10 = .ok (.goto 4, 3) := by decide +kernel
theorem d_Store_isCell_13 : decode prog_1_method_22_code 13 = .ok (.iconst 0, 1) := by decide +kernel
theorem d_Store_isCell_14 : decode prog_1_method_22_code 14 = .ok (.ireturn, 1) := by decide +kernel
def v_Store_isCell (x : Int32) : Int32 := if x < 0 then 0 else if 4 ≤ x then 0 else 1
theorem zbv_Store_isCell {x : Int32} : zb (v_Store_isCell  x) := by
  unfold v_Store_isCell zb
  repeat' split
  all_goals simp
set_option maxHeartbeats 4000000 in
set_option maxRecDepth 100000 in
theorem c_Store_isCell {l : Launch} {D : va_G} {K : Nat → ClassId} {ad : Nat → Nat → Nat} {n : Nat} {π : Nat → Nat} {s : S3} {x : Int32} (hJ : zw_J (cRL n) ad) : zM l y_Store_isCell ws_Store_isCell ({ frames := 0, cells := 0, slots := 0, locals := 0 }) D zCl (zTys K) (cRL n) ad [.ref (ad 0 0), .int x] (kC K ad n s π) (some (.int (v_Store_isCell  x))) (kC K ad n (s) π) := by
  refine zM.of (cc := prog_1_method_22_code) (maxL := 2) (ret := (Option.some Jvm.ClassFile.FieldType.boolean)) (by decide) rfl (Nat.le_of_ble_eq_true rfl) ?_
  intro pP eE U mM bL mT cO S hr hlk hK
  have hts := S.2.2.2.2
  have ht := fun w h => hts w (List.mem_cons_of_mem _ h)
  refine z_iload_n S d_Store_isCell_0 rfl 1 rfl 1 rfl ?_
  refine z_if_lt S d_Store_isCell_1 13 (by decide) 4 rfl (fun h1 => ?_) (fun h1 => ?_)
  · refine z_iconst S d_Store_isCell_13 0 (by decide) 14 rfl ?_
    exact z_zret S hr (zb_n zb_0) hlk d_Store_isCell_14 (by unfold v_Store_isCell; simp only [if_pos h1]) rfl
  · refine z_iload_n S d_Store_isCell_4 rfl 1 rfl 5 rfl ?_
    refine z_iconst S d_Store_isCell_5 4 (by decide) 6 rfl ?_
    refine z_icmp_ge S d_Store_isCell_6 13 (by decide) 9 rfl (fun h2 => ?_) (fun h2 => ?_)
    · refine z_iconst S d_Store_isCell_13 0 (by decide) 14 rfl ?_
      exact z_zret S hr (zb_n zb_0) hlk d_Store_isCell_14 (by unfold v_Store_isCell; simp only [if_neg h1, if_pos h2]) rfl
    · refine z_iconst S d_Store_isCell_9 1 (by decide) 10 rfl ?_
      refine z_goto S d_Store_isCell_10 14 (by decide) ?_
      exact z_zret S hr (zb_n zb_1) hlk d_Store_isCell_14 (by unfold v_Store_isCell; simp only [if_neg h1, if_neg h2]) rfl
theorem d_Store_clockOf_0 : decode prog_1_method_23_code 0 = .ok (.aload_n 0, 1) := by decide +kernel
theorem d_Store_clockOf_1 : decode prog_1_method_23_code 1 = .ok (.getfield 48, 3) := by decide +kernel
theorem d_Store_clockOf_4 : decode prog_1_method_23_code 4 = .ok (.aload_n 1, 1) := by decide +kernel
theorem d_Store_clockOf_5 : decode prog_1_method_23_code 5 = .ok (.getfield 56, 3) := by decide +kernel
theorem d_Store_clockOf_8 : decode prog_1_method_23_code 8 = .ok (.iadd, 1) := by decide +kernel
theorem d_Store_clockOf_9 : decode prog_1_method_23_code 9 = .ok (.ireturn, 1) := by decide +kernel
set_option maxHeartbeats 4000000 in
set_option maxRecDepth 100000 in
theorem c_Store_clockOf {l : Launch} {D : va_G} {K : Nat → ClassId} {ad : Nat → Nat → Nat} {n : Nat} {π : Nat → Nat} {s : S3} {i : Nat} (hJ : zw_J (cRL n) ad) (mi : (1, i) ∈ cRL n) : zM l y_Store_clockOf ws_Store_clockOf ({ frames := 0, cells := 0, slots := 0, locals := 0 }) D zCl (zTys K) (cRL n) ad [.ref (ad 0 0), .ref (ad 1 i)] (kC K ad n s π) (some (.int ((s 0 4 0) + (s 1 4 i)))) (kC K ad n (s) π) := by
  refine zM.of (cc := prog_1_method_23_code) (maxL := 2) (ret := (Option.some Jvm.ClassFile.FieldType.int)) (by decide) rfl (Nat.le_of_ble_eq_true rfl) ?_
  intro pP eE U mM bL mT cO S hr hlk hK
  have hts := S.2.2.2.2
  have ht := fun w h => hts w (List.mem_cons_of_mem _ h)
  refine z_aload_n S d_Store_clockOf_0 rfl 0 rfl 1 rfl ?_
  refine z_get S hK hin_Store rl_0 kC_0 rfl 4 (Nat.le_of_ble_eq_true rfl) (ht _ w_282) (fun _ h => h) d_Store_clockOf_1 4 rfl (.int (s 0 4 0)) rfl ?_
  refine z_aload_n S d_Store_clockOf_4 rfl 1 rfl 5 rfl ?_
  refine z_get S hK hin_Server mi kC_1 rfl 4 (Nat.le_of_ble_eq_true rfl) (ht _ w_126) (fun _ h => h) d_Store_clockOf_5 8 rfl (.int (s 1 4 i)) rfl ?_
  refine z_iadd S d_Store_clockOf_8 9 rfl ?_
  exact z_iret S hr hlk d_Store_clockOf_9 rfl rfl
theorem d_Store_sendAnswer_0 : decode prog_1_method_38_code 0 = .ok (.aload_n 0, 1) := by decide +kernel
theorem d_Store_sendAnswer_1 : decode prog_1_method_38_code 1 = .ok (.getfield 44, 3) := by decide +kernel
theorem d_Store_sendAnswer_4 : decode prog_1_method_38_code 4 = .ok (.bipush 8, 2) := by decide +kernel
theorem d_Store_sendAnswer_6 : decode prog_1_method_38_code 6 = .ok (.aload_n 1, 1) := by decide +kernel
theorem d_Store_sendAnswer_7 : decode prog_1_method_38_code 7 = .ok (.getfield 281, 3) := by decide +kernel
theorem d_Store_sendAnswer_10 : decode prog_1_method_38_code 10 = .ok (.invokevirtual 63, 3) := by decide +kernel
theorem d_Store_sendAnswer_13 : decode prog_1_method_38_code 13 = .ok (.astore_n 3, 1) := by decide +kernel
theorem d_Store_sendAnswer_14 : decode prog_1_method_38_code 14 = .ok (.aload_n 3, 1) := by decide +kernel
theorem d_Store_sendAnswer_15 : decode prog_1_method_38_code 15 = .ok (.getfield 140, 3) := by decide +kernel
theorem d_Store_sendAnswer_18 : decode prog_1_method_38_code 18 = .ok (.aload_n 1, 1) := by decide +kernel
theorem d_Store_sendAnswer_19 : decode prog_1_method_38_code 19 = .ok (.invokevirtual 141, 3) := by decide +kernel
theorem d_Store_sendAnswer_22 : decode prog_1_method_38_code 22 = .ok (.aload_n 3, 1) := by decide +kernel
theorem d_Store_sendAnswer_23 : decode prog_1_method_38_code 23 = .ok (.iload_n 2, 1) := by decide +kernel
theorem d_Store_sendAnswer_24 : decode prog_1_method_38_code 24 = .ok (.putfield 290, 3) := by decide +kernel
theorem d_Store_sendAnswer_27 : decode prog_1_method_38_code 27 = .ok (.return_, 1) := by decide +kernel
def S_Store_sendAnswer (π : Nat → Nat) (s : S3) (w : Nat) (x : Int32) : S3 := u3 (S_Operation_become π (S_Post_next π s 8 (s 7 0 w)) (8 + (nxL (s 4 2 0) π)) w) 5 8 (nxL (s 4 2 0) π) x
set_option maxHeartbeats 4000000 in
set_option maxRecDepth 100000 in
theorem c_Store_sendAnswer {l : Launch} {D : va_G} {K : Nat → ClassId} {ad : Nat → Nat → Nat} {n : Nat} {π : Nat → Nat} {s : S3} {w : Nat} {x : Int32} (hJ : zw_J (cRL n) ad) (mw : (7, w) ∈ cRL n) (hw : vp_in (s 4 2 0) 33) (hπ : ∀ j, π j < 34) (hop : opOK s) : zM l y_Store_sendAnswer ws_Store_sendAnswer ({ frames := 1, cells := 0, slots := 0, locals := 23 }) D zCl (zTys K) (cRL n) ad [.ref (ad 0 0), .ref (ad 7 w), .int x] (kC K ad n s π) (none) (kC K ad n (S_Store_sendAnswer π s w x) π) := by
  refine zM.of (cc := prog_1_method_38_code) (maxL := 4) (ret := (Option.none : Option Jvm.ClassFile.FieldType)) (by decide) rfl (Nat.le_of_ble_eq_true rfl) ?_
  intro pP eE U mM bL mT cO S hr hlk hK
  have hts := S.2.2.2.2
  have ht := fun w h => hts w (List.mem_cons_of_mem _ h)
  refine z_aload_n S d_Store_sendAnswer_0 rfl 0 rfl 1 rfl ?_
  refine z_get S hK hin_Store rl_0 kC_0 rfl 3 (Nat.le_of_ble_eq_true rfl) (ht _ w_281) (fun _ h => h) d_Store_sendAnswer_1 4 rfl (.ref (ad 4 0)) rfl ?_
  refine z_bipush S d_Store_sendAnswer_4 8 (by decide) 6 rfl ?_
  refine z_aload_n S d_Store_sendAnswer_6 rfl 1 rfl 7 rfl ?_
  refine z_get S hK hin_Operation mw kC_7 rfl 0 (Nat.le_of_ble_eq_true rfl) (ht _ w_92) (fun _ h => h) d_Store_sendAnswer_7 10 rfl (.int (s 7 0 w)) rfl ?_
  refine z_callV S hK (As := [.int 8, .int (s 7 0 w)]) (rest := []) (c_Post_next (k := 8) (p := s 7 0 w) hJ hw hπ) (cw_Post_next hts w_310 rfl rfl ⟨(Nat.le_of_ble_eq_true rfl), (Nat.le_of_ble_eq_true rfl)⟩) rl_4 kC_4 rfl rfl rfl (Nat.le_of_ble_eq_true rfl) d_Store_sendAnswer_10 13 rfl [.ref (ad 5 (nxL (s 4 2 0) π))] rfl ?_
  refine z_astore_n S d_Store_sendAnswer_13 rfl (Nat.le_of_ble_eq_true rfl) [(3, .ref (ad 5 (nxL (s 4 2 0) π))), (0, .ref (ad 0 0)), (1, .ref (ad 7 w)), (2, .int x)] rfl 14 rfl ?_
  refine z_aload_n S d_Store_sendAnswer_14 rfl 0 rfl 15 rfl ?_
  refine z_get S hK hin_Letter (rl_nx hπ) kC_5 rfl 1 (Nat.le_of_ble_eq_true rfl) (ht _ w_227) (fun _ h => h) d_Store_sendAnswer_15 18 rfl (.ref (ad 7 (8 + (nxL (s 4 2 0) π)))) rfl ?_
  refine z_aload_n S d_Store_sendAnswer_18 rfl 2 rfl 19 rfl ?_
  refine z_callV S hK (As := [.ref (ad 7 w)]) (rest := []) (c_Operation_become (a := 8 + (nxL (s 4 2 0) π)) (b := w) hJ (rl_lo (rl_nx hπ)) mw (opOK.w hop w)) (cw_Operation_become hts w_375 rfl rfl ⟨(Nat.le_of_ble_eq_true rfl), (Nat.le_of_ble_eq_true rfl)⟩) (rl_lo (rl_nx hπ)) kC_7 rfl rfl rfl (Nat.le_of_ble_eq_true rfl) d_Store_sendAnswer_19 22 rfl [] rfl ?_
  refine z_aload_n S d_Store_sendAnswer_22 rfl 0 rfl 23 rfl ?_
  refine z_iload_n S d_Store_sendAnswer_23 rfl 3 rfl 24 rfl ?_
  refine z_put S hJ hK hin_Letter t_Letter ok_Letter nm_Letter (rl_nx hπ) kC_5 rfl 8 (Nat.le_of_ble_eq_true rfl) (ht _ w_246) (fun _ h => h) rfl rfl rfl (Nat.le_of_ble_eq_true rfl) up_5_8 d_Store_sendAnswer_24 27 rfl ?_
  exact z_vret S hr hlk d_Store_sendAnswer_27 (kC_eq rfl)
theorem d_Store_sendPass_0 : decode prog_1_method_37_code 0 = .ok (.aload_n 0, 1) := by decide +kernel
theorem d_Store_sendPass_1 : decode prog_1_method_37_code 1 = .ok (.getfield 44, 3) := by decide +kernel
theorem d_Store_sendPass_4 : decode prog_1_method_37_code 4 = .ok (.iconst 5, 1) := by decide +kernel
theorem d_Store_sendPass_5 : decode prog_1_method_37_code 5 = .ok (.aload_n 1, 1) := by decide +kernel
theorem d_Store_sendPass_6 : decode prog_1_method_37_code 6 = .ok (.getfield 101, 3) := by decide +kernel
theorem d_Store_sendPass_9 : decode prog_1_method_37_code 9 = .ok (.getfield 287, 3) := by decide +kernel
theorem d_Store_sendPass_12 : decode prog_1_method_37_code 12 = .ok (.invokevirtual 63, 3) := by decide +kernel
theorem d_Store_sendPass_15 : decode prog_1_method_37_code 15 = .ok (.astore_n 2, 1) := by decide +kernel
theorem d_Store_sendPass_16 : decode prog_1_method_37_code 16 = .ok (.aload_n 2, 1) := by decide +kernel
theorem d_Store_sendPass_17 : decode prog_1_method_37_code 17 = .ok (.getfield 223, 3) := by decide +kernel
theorem d_Store_sendPass_20 : decode prog_1_method_37_code 20 = .ok (.aload_n 1, 1) := by decide +kernel
theorem d_Store_sendPass_21 : decode prog_1_method_37_code 21 = .ok (.getfield 101, 3) := by decide +kernel
theorem d_Store_sendPass_24 : decode prog_1_method_37_code 24 = .ok (.invokevirtual 224, 3) := by decide +kernel
theorem d_Store_sendPass_27 : decode prog_1_method_37_code 27 = .ok (.aload_n 2, 1) := by decide +kernel
theorem d_Store_sendPass_28 : decode prog_1_method_37_code 28 = .ok (.aload_n 1, 1) := by decide +kernel
theorem d_Store_sendPass_29 : decode prog_1_method_37_code 29 = .ok (.getfield 175, 3) := by decide +kernel
theorem d_Store_sendPass_32 : decode prog_1_method_37_code 32 = .ok (.getfield 185, 3) := by decide +kernel
theorem d_Store_sendPass_35 : decode prog_1_method_37_code 35 = .ok (.putfield 250, 3) := by decide +kernel
theorem d_Store_sendPass_38 : decode prog_1_method_37_code 38 = .ok (.aload_n 2, 1) := by decide +kernel
theorem d_Store_sendPass_39 : decode prog_1_method_37_code 39 = .ok (.getfield 140, 3) := by decide +kernel
theorem d_Store_sendPass_42 : decode prog_1_method_37_code 42 = .ok (.aload_n 1, 1) := by decide +kernel
theorem d_Store_sendPass_43 : decode prog_1_method_37_code 43 = .ok (.getfield 254, 3) := by decide +kernel
theorem d_Store_sendPass_46 : decode prog_1_method_37_code 46 = .ok (.invokevirtual 141, 3) := by decide +kernel
theorem d_Store_sendPass_49 : decode prog_1_method_37_code 49 = .ok (.return_, 1) := by decide +kernel
def S_Store_sendPass (π : Nat → Nat) (s : S3) (i : Nat) : S3 := S_Operation_become π (u3 (S_View_become π (S_Post_next π s 5 (s 6 2 i)) (8 + (nxL (s 4 2 0) π)) i) 5 7 (nxL (s 4 2 0) π) (s 8 3 i)) (8 + (nxL (s 4 2 0) π)) i
set_option maxHeartbeats 4000000 in
set_option maxRecDepth 100000 in
theorem c_Store_sendPass {l : Launch} {D : va_G} {K : Nat → ClassId} {ad : Nat → Nat → Nat} {n : Nat} {π : Nat → Nat} {s : S3} {i : Nat} (hJ : zw_J (cRL n) ad) (mi : (1, i) ∈ cRL n) (hw : vp_in (s 4 2 0) 33) (hπ : ∀ j, π j < 34) (hop : opOK s) : zM l y_Store_sendPass ws_Store_sendPass ({ frames := 1, cells := 0, slots := 0, locals := 23 }) D zCl (zTys K) (cRL n) ad [.ref (ad 0 0), .ref (ad 1 i)] (kC K ad n s π) (none) (kC K ad n (S_Store_sendPass π s i) π) := by
  refine zM.of (cc := prog_1_method_37_code) (maxL := 3) (ret := (Option.none : Option Jvm.ClassFile.FieldType)) (by decide) rfl (Nat.le_of_ble_eq_true rfl) ?_
  intro pP eE U mM bL mT cO S hr hlk hK
  have hts := S.2.2.2.2
  have ht := fun w h => hts w (List.mem_cons_of_mem _ h)
  refine z_aload_n S d_Store_sendPass_0 rfl 0 rfl 1 rfl ?_
  refine z_get S hK hin_Store rl_0 kC_0 rfl 3 (Nat.le_of_ble_eq_true rfl) (ht _ w_281) (fun _ h => h) d_Store_sendPass_1 4 rfl (.ref (ad 4 0)) rfl ?_
  refine z_iconst S d_Store_sendPass_4 5 (by decide) 5 rfl ?_
  refine z_aload_n S d_Store_sendPass_5 rfl 1 rfl 6 rfl ?_
  refine z_get S hK hin_Server mi kC_1 rfl 1 (Nat.le_of_ble_eq_true rfl) (ht _ w_120) (fun _ h => h) d_Store_sendPass_6 9 rfl (.ref (ad 6 i)) rfl ?_
  refine z_get S hK hin_View (rl_sv mi) kC_6 rfl 2 (Nat.le_of_ble_eq_true rfl) (ht _ w_51) (fun _ h => h) d_Store_sendPass_9 12 rfl (.int (s 6 2 i)) rfl ?_
  refine z_callV S hK (As := [.int 5, .int (s 6 2 i)]) (rest := []) (c_Post_next (k := 5) (p := s 6 2 i) hJ hw hπ) (cw_Post_next hts w_310 rfl rfl ⟨(Nat.le_of_ble_eq_true rfl), (Nat.le_of_ble_eq_true rfl)⟩) rl_4 kC_4 rfl rfl rfl (Nat.le_of_ble_eq_true rfl) d_Store_sendPass_12 15 rfl [.ref (ad 5 (nxL (s 4 2 0) π))] rfl ?_
  refine z_astore_n S d_Store_sendPass_15 rfl (Nat.le_of_ble_eq_true rfl) [(2, .ref (ad 5 (nxL (s 4 2 0) π))), (0, .ref (ad 0 0)), (1, .ref (ad 1 i))] rfl 16 rfl ?_
  refine z_aload_n S d_Store_sendPass_16 rfl 0 rfl 17 rfl ?_
  refine z_get S hK hin_Letter (rl_nx hπ) kC_5 rfl 0 (Nat.le_of_ble_eq_true rfl) (ht _ w_224) (fun _ h => h) d_Store_sendPass_17 20 rfl (.ref (ad 6 (8 + (nxL (s 4 2 0) π)))) rfl ?_
  refine z_aload_n S d_Store_sendPass_20 rfl 2 rfl 21 rfl ?_
  refine z_get S hK hin_Server mi kC_1 rfl 1 (Nat.le_of_ble_eq_true rfl) (ht _ w_120) (fun _ h => h) d_Store_sendPass_21 24 rfl (.ref (ad 6 i)) rfl ?_
  refine z_callV S hK (As := [.ref (ad 6 i)]) (rest := []) (c_View_become (a := 8 + (nxL (s 4 2 0) π)) (b := i) hJ (rl_lv (rl_nx hπ)) (rl_sv mi)) (cw_View_become hts w_360 rfl rfl ⟨(Nat.le_of_ble_eq_true rfl), (Nat.le_of_ble_eq_true rfl)⟩) (rl_lv (rl_nx hπ)) kC_6 rfl rfl rfl (Nat.le_of_ble_eq_true rfl) d_Store_sendPass_24 27 rfl [] rfl ?_
  refine z_aload_n S d_Store_sendPass_27 rfl 0 rfl 28 rfl ?_
  refine z_aload_n S d_Store_sendPass_28 rfl 2 rfl 29 rfl ?_
  refine z_get S hK hin_Server mi kC_1 rfl 2 (Nat.le_of_ble_eq_true rfl) (ht _ w_122) (fun _ h => h) d_Store_sendPass_29 32 rfl (.ref (ad 8 i)) rfl ?_
  refine z_get S hK hin_State (rl_ss mi) kC_8 rfl 3 (Nat.le_of_ble_eq_true rfl) (ht _ w_72) (fun _ h => h) d_Store_sendPass_32 35 rfl (.int (s 8 3 i)) rfl ?_
  refine z_put S hJ hK hin_Letter t_Letter ok_Letter nm_Letter (rl_nx hπ) kC_5 rfl 7 (Nat.le_of_ble_eq_true rfl) (ht _ w_243) (fun _ h => h) rfl rfl rfl (Nat.le_of_ble_eq_true rfl) up_5_7 d_Store_sendPass_35 38 rfl ?_
  refine z_aload_n S d_Store_sendPass_38 rfl 0 rfl 39 rfl ?_
  refine z_get S hK hin_Letter (rl_nx hπ) kC_5 rfl 1 (Nat.le_of_ble_eq_true rfl) (ht _ w_227) (fun _ h => h) d_Store_sendPass_39 42 rfl (.ref (ad 7 (8 + (nxL (s 4 2 0) π)))) rfl ?_
  refine z_aload_n S d_Store_sendPass_42 rfl 2 rfl 43 rfl ?_
  refine z_get S hK hin_Server mi kC_1 rfl 3 (Nat.le_of_ble_eq_true rfl) (ht _ w_124) (fun _ h => h) d_Store_sendPass_43 46 rfl (.ref (ad 7 i)) rfl ?_
  refine z_callV S hK (As := [.ref (ad 7 i)]) (rest := []) (c_Operation_become (a := 8 + (nxL (s 4 2 0) π)) (b := i) hJ (rl_lo (rl_nx hπ)) (rl_so mi) (opOK.w hop i)) (cw_Operation_become hts w_375 rfl rfl ⟨(Nat.le_of_ble_eq_true rfl), (Nat.le_of_ble_eq_true rfl)⟩) (rl_lo (rl_nx hπ)) kC_7 rfl rfl rfl (Nat.le_of_ble_eq_true rfl) d_Store_sendPass_46 49 rfl [] rfl ?_
  exact z_vret S hr hlk d_Store_sendPass_49 (kC_eq rfl)
theorem d_Store_sendFill_0 : decode prog_1_method_36_code 0 = .ok (.aload_n 0, 1) := by decide +kernel
theorem d_Store_sendFill_1 : decode prog_1_method_36_code 1 = .ok (.getfield 44, 3) := by decide +kernel
theorem d_Store_sendFill_4 : decode prog_1_method_36_code 4 = .ok (.iconst 3, 1) := by decide +kernel
theorem d_Store_sendFill_5 : decode prog_1_method_36_code 5 = .ok (.aload_n 1, 1) := by decide +kernel
theorem d_Store_sendFill_6 : decode prog_1_method_36_code 6 = .ok (.getfield 101, 3) := by decide +kernel
theorem d_Store_sendFill_9 : decode prog_1_method_36_code 9 = .ok (.getfield 287, 3) := by decide +kernel
theorem d_Store_sendFill_12 : decode prog_1_method_36_code 12 = .ok (.invokevirtual 63, 3) := by decide +kernel
theorem d_Store_sendFill_15 : decode prog_1_method_36_code 15 = .ok (.astore_n 2, 1) := by decide +kernel
theorem d_Store_sendFill_16 : decode prog_1_method_36_code 16 = .ok (.aload_n 2, 1) := by decide +kernel
theorem d_Store_sendFill_17 : decode prog_1_method_36_code 17 = .ok (.getfield 223, 3) := by decide +kernel
theorem d_Store_sendFill_20 : decode prog_1_method_36_code 20 = .ok (.aload_n 1, 1) := by decide +kernel
theorem d_Store_sendFill_21 : decode prog_1_method_36_code 21 = .ok (.getfield 101, 3) := by decide +kernel
theorem d_Store_sendFill_24 : decode prog_1_method_36_code 24 = .ok (.invokevirtual 224, 3) := by decide +kernel
theorem d_Store_sendFill_27 : decode prog_1_method_36_code 27 = .ok (.aload_n 2, 1) := by decide +kernel
theorem d_Store_sendFill_28 : decode prog_1_method_36_code 28 = .ok (.getfield 237, 3) := by decide +kernel
theorem d_Store_sendFill_31 : decode prog_1_method_36_code 31 = .ok (.aload_n 1, 1) := by decide +kernel
theorem d_Store_sendFill_32 : decode prog_1_method_36_code 32 = .ok (.getfield 175, 3) := by decide +kernel
theorem d_Store_sendFill_35 : decode prog_1_method_36_code 35 = .ok (.invokevirtual 238, 3) := by decide +kernel
theorem d_Store_sendFill_38 : decode prog_1_method_36_code 38 = .ok (.return_, 1) := by decide +kernel
def S_Store_sendFill (π : Nat → Nat) (s : S3) (i : Nat) : S3 := S_State_become π (S_View_become π (S_Post_next π s 3 (s 6 2 i)) (8 + (nxL (s 4 2 0) π)) i) (8 + (nxL (s 4 2 0) π)) i
set_option maxHeartbeats 4000000 in
set_option maxRecDepth 100000 in
theorem c_Store_sendFill {l : Launch} {D : va_G} {K : Nat → ClassId} {ad : Nat → Nat → Nat} {n : Nat} {π : Nat → Nat} {s : S3} {i : Nat} (hJ : zw_J (cRL n) ad) (mi : (1, i) ∈ cRL n) (hw : vp_in (s 4 2 0) 33) (hπ : ∀ j, π j < 34) : zM l y_Store_sendFill ws_Store_sendFill ({ frames := 2, cells := 0, slots := 0, locals := 101 }) D zCl (zTys K) (cRL n) ad [.ref (ad 0 0), .ref (ad 1 i)] (kC K ad n s π) (none) (kC K ad n (S_Store_sendFill π s i) π) := by
  refine zM.of (cc := prog_1_method_36_code) (maxL := 3) (ret := (Option.none : Option Jvm.ClassFile.FieldType)) (by decide) rfl (Nat.le_of_ble_eq_true rfl) ?_
  intro pP eE U mM bL mT cO S hr hlk hK
  have hts := S.2.2.2.2
  have ht := fun w h => hts w (List.mem_cons_of_mem _ h)
  refine z_aload_n S d_Store_sendFill_0 rfl 0 rfl 1 rfl ?_
  refine z_get S hK hin_Store rl_0 kC_0 rfl 3 (Nat.le_of_ble_eq_true rfl) (ht _ w_281) (fun _ h => h) d_Store_sendFill_1 4 rfl (.ref (ad 4 0)) rfl ?_
  refine z_iconst S d_Store_sendFill_4 3 (by decide) 5 rfl ?_
  refine z_aload_n S d_Store_sendFill_5 rfl 1 rfl 6 rfl ?_
  refine z_get S hK hin_Server mi kC_1 rfl 1 (Nat.le_of_ble_eq_true rfl) (ht _ w_120) (fun _ h => h) d_Store_sendFill_6 9 rfl (.ref (ad 6 i)) rfl ?_
  refine z_get S hK hin_View (rl_sv mi) kC_6 rfl 2 (Nat.le_of_ble_eq_true rfl) (ht _ w_51) (fun _ h => h) d_Store_sendFill_9 12 rfl (.int (s 6 2 i)) rfl ?_
  refine z_callV S hK (As := [.int 3, .int (s 6 2 i)]) (rest := []) (c_Post_next (k := 3) (p := s 6 2 i) hJ hw hπ) (cw_Post_next hts w_310 rfl rfl ⟨(Nat.le_of_ble_eq_true rfl), (Nat.le_of_ble_eq_true rfl)⟩) rl_4 kC_4 rfl rfl rfl (Nat.le_of_ble_eq_true rfl) d_Store_sendFill_12 15 rfl [.ref (ad 5 (nxL (s 4 2 0) π))] rfl ?_
  refine z_astore_n S d_Store_sendFill_15 rfl (Nat.le_of_ble_eq_true rfl) [(2, .ref (ad 5 (nxL (s 4 2 0) π))), (0, .ref (ad 0 0)), (1, .ref (ad 1 i))] rfl 16 rfl ?_
  refine z_aload_n S d_Store_sendFill_16 rfl 0 rfl 17 rfl ?_
  refine z_get S hK hin_Letter (rl_nx hπ) kC_5 rfl 0 (Nat.le_of_ble_eq_true rfl) (ht _ w_224) (fun _ h => h) d_Store_sendFill_17 20 rfl (.ref (ad 6 (8 + (nxL (s 4 2 0) π)))) rfl ?_
  refine z_aload_n S d_Store_sendFill_20 rfl 2 rfl 21 rfl ?_
  refine z_get S hK hin_Server mi kC_1 rfl 1 (Nat.le_of_ble_eq_true rfl) (ht _ w_120) (fun _ h => h) d_Store_sendFill_21 24 rfl (.ref (ad 6 i)) rfl ?_
  refine z_callV S hK (As := [.ref (ad 6 i)]) (rest := []) (c_View_become (a := 8 + (nxL (s 4 2 0) π)) (b := i) hJ (rl_lv (rl_nx hπ)) (rl_sv mi)) (cw_View_become hts w_360 rfl rfl ⟨(Nat.le_of_ble_eq_true rfl), (Nat.le_of_ble_eq_true rfl)⟩) (rl_lv (rl_nx hπ)) kC_6 rfl rfl rfl (Nat.le_of_ble_eq_true rfl) d_Store_sendFill_24 27 rfl [] rfl ?_
  refine z_aload_n S d_Store_sendFill_27 rfl 0 rfl 28 rfl ?_
  refine z_get S hK hin_Letter (rl_nx hπ) kC_5 rfl 2 (Nat.le_of_ble_eq_true rfl) (ht _ w_229) (fun _ h => h) d_Store_sendFill_28 31 rfl (.ref (ad 8 (8 + (nxL (s 4 2 0) π)))) rfl ?_
  refine z_aload_n S d_Store_sendFill_31 rfl 2 rfl 32 rfl ?_
  refine z_get S hK hin_Server mi kC_1 rfl 2 (Nat.le_of_ble_eq_true rfl) (ht _ w_122) (fun _ h => h) d_Store_sendFill_32 35 rfl (.ref (ad 8 i)) rfl ?_
  refine z_callV S hK (As := [.ref (ad 8 i)]) (rest := []) (c_State_become (a := 8 + (nxL (s 4 2 0) π)) (b := i) hJ (rl_ls (rl_nx hπ)) (rl_ss mi)) (cw_State_become hts w_364 rfl rfl ⟨(Nat.le_of_ble_eq_true rfl), (Nat.le_of_ble_eq_true rfl)⟩) (rl_ls (rl_nx hπ)) kC_8 rfl rfl rfl (Nat.le_of_ble_eq_true rfl) d_Store_sendFill_35 38 rfl [] rfl ?_
  exact z_vret S hr hlk d_Store_sendFill_38 (kC_eq rfl)
theorem d_Store_enterView_0 : decode prog_1_method_35_code 0 = .ok (.aload_n 1, 1) := by decide +kernel
theorem d_Store_enterView_1 : decode prog_1_method_35_code 1 = .ok (.getfield 101, 3) := by decide +kernel
theorem d_Store_enterView_4 : decode prog_1_method_35_code 4 = .ok (.aload_n 2, 1) := by decide +kernel
theorem d_Store_enterView_5 : decode prog_1_method_35_code 5 = .ok (.invokevirtual 224, 3) := by decide +kernel
theorem d_Store_enterView_8 : decode prog_1_method_35_code 8 = .ok (.aload_n 1, 1) := by decide +kernel
theorem d_Store_enterView_9 : decode prog_1_method_35_code 9 = .ok (.iconst 0, 1) := by decide +kernel
theorem d_Store_enterView_10 : decode prog_1_method_35_code 10 = .ok (.putfield 114, 3) := by decide +kernel
theorem d_Store_enterView_13 : decode prog_1_method_35_code 13 = .ok (.aload_n 1, 1) := by decide +kernel
theorem d_Store_enterView_14 : decode prog_1_method_35_code 14 = .ok (.iconst 0, 1) := by decide +kernel
theorem d_Store_enterView_15 : decode prog_1_method_35_code 15 = .ok (.putfield 234, 3) := by decide +kernel
theorem d_Store_enterView_18 : decode prog_1_method_35_code 18 = .ok (.aload_n 1, 1) := by decide +kernel
theorem d_Store_enterView_19 : decode prog_1_method_35_code 19 = .ok (.aload_n 1, 1) := by decide +kernel
theorem d_Store_enterView_20 : decode prog_1_method_35_code 20 = .ok (.invokevirtual 97, 3) := by decide +kernel
theorem d_Store_enterView_23 : decode prog_1_method_35_code 23 = .ok (.ifCond .eq 14, 3) := by decide +kernel
theorem d_Store_enterView_26 : decode prog_1_method_35_code 26 = .ok (.aload_n 2, 1) := by decide +kernel
theorem d_Store_enterView_27 : decode prog_1_method_35_code 27 = .ok (.invokevirtual 104, 3) := by decide +kernel
theorem d_Store_enterView_30 : decode prog_1_method_35_code 30 = .ok (.ifCond .ne 7, 3) := by decide +kernel
theorem d_Store_enterView_33 : decode prog_1_method_35_code 33 = .ok (.iconst 1, 1) := by decide +kernel
theorem d_Store_enterView_34 : decode prog_1_method_35_code 34 = .ok (.goto 4, 3) := by decide +kernel
theorem d_Store_enterView_37 : decode prog_1_method_35_code 37 = .ok (.iconst 0, 1) := by decide +kernel
theorem d_Store_enterView_38 : decode prog_1_method_35_code 38 = .ok (.putfield 107, 3) := by decide +kernel
theorem d_Store_enterView_41 : decode prog_1_method_35_code 41 = .ok (.aload_n 1, 1) := by decide +kernel
theorem d_Store_enterView_42 : decode prog_1_method_35_code 42 = .ok (.invokevirtual 97, 3) := by decide +kernel
theorem d_Store_enterView_45 : decode prog_1_method_35_code 45 = .ok (.ifCond .eq 15, 3) := by decide +kernel
theorem d_Store_enterView_48 : decode prog_1_method_35_code 48 = .ok (.aload_n 2, 1) := by decide +kernel
theorem d_Store_enterView_49 : decode prog_1_method_35_code 49 = .ok (.invokevirtual 104, 3) := by decide +kernel
theorem d_Store_enterView_52 : decode prog_1_method_35_code 52 = .ok (.ifCond .eq 8, 3) := by decide +kernel
theorem d_Store_enterView_55 : decode prog_1_method_35_code 55 = .ok (.aload_n 0, 1) := by decide +kernel
theorem d_Store_enterView_56 : decode prog_1_method_35_code 56 = .ok (.aload_n 1, 1) := by decide +kernel
theorem d_Store_enterView_57 : decode prog_1_method_35_code 57 = .ok (.invokevirtual 110, 3) := by decide +kernel
theorem d_Store_enterView_60 : decode prog_1_method_35_code 60 = .ok (.return_, 1) := by decide +kernel
def S_Store_enterView (n : Nat) (π : Nat → Nat) (s : S3) (i : Nat) (v : Nat) : S3 := if (v_Server_isPrimary ((u3 (u3 s 6 0 i (s 6 0 v)) 6 1 i (s 6 1 v)) 6 1 i) (s 1 0 i)) = 0 then (u3 (u3 (u3 (S_View_become π s i v) 1 8 i 0) 1 9 i 0) 1 7 i 0) else if (v_View_hasBackup ((u3 (u3 (u3 s 6 0 i (s 6 0 v)) 6 1 i (s 6 1 v)) 6 2 i (s 6 2 v)) 6 2 v)) = 0 then (u3 (u3 (u3 (S_View_become π s i v) 1 8 i 0) 1 9 i 0) 1 7 i 1) else S_Store_sendFill π (u3 (u3 (u3 (S_View_become π s i v) 1 8 i 0) 1 9 i 0) 1 7 i 0) i
set_option maxHeartbeats 4000000 in
set_option maxRecDepth 100000 in
theorem c_Store_enterView {l : Launch} {D : va_G} {K : Nat → ClassId} {ad : Nat → Nat → Nat} {n : Nat} {π : Nat → Nat} {s : S3} {i v : Nat} (hJ : zw_J (cRL n) ad) (mi : (1, i) ∈ cRL n) (mv : (6, v) ∈ cRL n) (hw : vp_in (s 4 2 0) 33) (hπ : ∀ j, π j < 34) : zM l y_Store_enterView ws_Store_enterView ({ frames := 3, cells := 0, slots := 0, locals := 123 }) D zCl (zTys K) (cRL n) ad [.ref (ad 0 0), .ref (ad 1 i), .ref (ad 6 v)] (kC K ad n s π) (none) (kC K ad n (S_Store_enterView n π s i v) π) := by
  refine zM.of (cc := prog_1_method_35_code) (maxL := 3) (ret := (Option.none : Option Jvm.ClassFile.FieldType)) (by decide) rfl (Nat.le_of_ble_eq_true rfl) ?_
  intro pP eE U mM bL mT cO S hr hlk hK
  have hts := S.2.2.2.2
  have ht := fun w h => hts w (List.mem_cons_of_mem _ h)
  refine z_aload_n S d_Store_enterView_0 rfl 1 rfl 1 rfl ?_
  refine z_get S hK hin_Server mi kC_1 rfl 1 (Nat.le_of_ble_eq_true rfl) (ht _ w_120) (fun _ h => h) d_Store_enterView_1 4 rfl (.ref (ad 6 i)) rfl ?_
  refine z_aload_n S d_Store_enterView_4 rfl 2 rfl 5 rfl ?_
  refine z_callV S hK (As := [.ref (ad 6 v)]) (rest := []) (c_View_become (a := i) (b := v) hJ (rl_sv mi) mv) (cw_View_become hts w_360 rfl rfl ⟨(Nat.le_of_ble_eq_true rfl), (Nat.le_of_ble_eq_true rfl)⟩) (rl_sv mi) kC_6 rfl rfl rfl (Nat.le_of_ble_eq_true rfl) d_Store_enterView_5 8 rfl [] rfl ?_
  refine z_aload_n S d_Store_enterView_8 rfl 1 rfl 9 rfl ?_
  refine z_iconst S d_Store_enterView_9 0 (by decide) 10 rfl ?_
  refine z_put S hJ hK hin_Server t_Server ok_Server nm_Server mi kC_1 rfl 8 (Nat.le_of_ble_eq_true rfl) (ht _ w_134) (fun _ h => h) rfl (zb_n zb_0) (zb_f zb_0) (Nat.le_of_ble_eq_true rfl) up_1_8 d_Store_enterView_10 13 rfl ?_
  refine z_aload_n S d_Store_enterView_13 rfl 1 rfl 14 rfl ?_
  refine z_iconst S d_Store_enterView_14 0 (by decide) 15 rfl ?_
  refine z_put S hJ hK hin_Server t_Server ok_Server nm_Server mi kC_1 rfl 9 (Nat.le_of_ble_eq_true rfl) (ht _ w_136) (fun _ h => h) rfl (zb_n zb_0) (zb_f zb_0) (Nat.le_of_ble_eq_true rfl) up_1_9 d_Store_enterView_15 18 rfl ?_
  refine z_aload_n S d_Store_enterView_18 rfl 1 rfl 19 rfl ?_
  refine z_aload_n S d_Store_enterView_19 rfl 1 rfl 20 rfl ?_
  refine z_callV S hK (As := []) (rest := [.ref (ad 1 i)]) (c_Server_isPrimary (i := i) hJ mi) (cw_Server_isPrimary hts w_354 rfl rfl ⟨(Nat.le_of_ble_eq_true rfl), (Nat.le_of_ble_eq_true rfl)⟩) mi kC_1 rfl rfl rfl (Nat.le_of_ble_eq_true rfl) d_Store_enterView_20 23 rfl [.int (v_Server_isPrimary ((u3 (u3 s 6 0 i (s 6 0 v)) 6 1 i (s 6 1 v)) 6 1 i) (s 1 0 i)), .ref (ad 1 i)] rfl ?_
  refine z_if_eq S d_Store_enterView_23 37 (by decide) 26 rfl (fun h1 => ?_) (fun h1 => ?_)
  · refine z_iconst S d_Store_enterView_37 0 (by decide) 38 rfl ?_
    refine z_put S hJ hK hin_Server t_Server ok_Server nm_Server mi kC_1 rfl 7 (Nat.le_of_ble_eq_true rfl) (ht _ w_132) (fun _ h => h) rfl (zb_n zb_0) (zb_f zb_0) (Nat.le_of_ble_eq_true rfl) up_1_7 d_Store_enterView_38 41 rfl ?_
    refine z_aload_n S d_Store_enterView_41 rfl 1 rfl 42 rfl ?_
    refine z_callV S hK (As := []) (rest := []) (c_Server_isPrimary (i := i) hJ mi) (cw_Server_isPrimary hts w_354 rfl rfl ⟨(Nat.le_of_ble_eq_true rfl), (Nat.le_of_ble_eq_true rfl)⟩) mi kC_1 rfl rfl rfl (Nat.le_of_ble_eq_true rfl) d_Store_enterView_42 45 rfl [.int (v_Server_isPrimary ((u3 (u3 s 6 0 i (s 6 0 v)) 6 1 i (s 6 1 v)) 6 1 i) (s 1 0 i))] rfl ?_
    refine z_if_eq S d_Store_enterView_45 60 (by decide) 48 rfl (fun h2 => ?_) (fun h2 => ?_)
    · exact z_vret S hr hlk d_Store_enterView_60 (kC_eq (by unfold S_Store_enterView; simp only [if_pos h1]))
    · exact absurd h1 h2
  · refine z_aload_n S d_Store_enterView_26 rfl 2 rfl 27 rfl ?_
    refine z_callV S hK (As := []) (rest := [.ref (ad 1 i)]) (c_View_hasBackup (a := v) hJ mv) (cw_View_hasBackup hts w_355 rfl rfl ⟨(Nat.le_of_ble_eq_true rfl), (Nat.le_of_ble_eq_true rfl)⟩) mv kC_6 rfl rfl rfl (Nat.le_of_ble_eq_true rfl) d_Store_enterView_27 30 rfl [.int (v_View_hasBackup ((u3 (u3 (u3 s 6 0 i (s 6 0 v)) 6 1 i (s 6 1 v)) 6 2 i (s 6 2 v)) 6 2 v)), .ref (ad 1 i)] rfl ?_
    refine z_if_ne S d_Store_enterView_30 37 (by decide) 33 rfl (fun h3 => ?_) (fun h3 => ?_)
    · refine z_iconst S d_Store_enterView_37 0 (by decide) 38 rfl ?_
      refine z_put S hJ hK hin_Server t_Server ok_Server nm_Server mi kC_1 rfl 7 (Nat.le_of_ble_eq_true rfl) (ht _ w_132) (fun _ h => h) rfl (zb_n zb_0) (zb_f zb_0) (Nat.le_of_ble_eq_true rfl) up_1_7 d_Store_enterView_38 41 rfl ?_
      refine z_aload_n S d_Store_enterView_41 rfl 1 rfl 42 rfl ?_
      refine z_callV S hK (As := []) (rest := []) (c_Server_isPrimary (i := i) hJ mi) (cw_Server_isPrimary hts w_354 rfl rfl ⟨(Nat.le_of_ble_eq_true rfl), (Nat.le_of_ble_eq_true rfl)⟩) mi kC_1 rfl rfl rfl (Nat.le_of_ble_eq_true rfl) d_Store_enterView_42 45 rfl [.int (v_Server_isPrimary ((u3 (u3 s 6 0 i (s 6 0 v)) 6 1 i (s 6 1 v)) 6 1 i) (s 1 0 i))] rfl ?_
      refine z_if_eq S d_Store_enterView_45 60 (by decide) 48 rfl (fun h4 => ?_) (fun h4 => ?_)
      · exact absurd h4 h1
      · refine z_aload_n S d_Store_enterView_48 rfl 2 rfl 49 rfl ?_
        refine z_callV S hK (As := []) (rest := []) (c_View_hasBackup (a := v) hJ mv) (cw_View_hasBackup hts w_355 rfl rfl ⟨(Nat.le_of_ble_eq_true rfl), (Nat.le_of_ble_eq_true rfl)⟩) mv kC_6 rfl rfl rfl (Nat.le_of_ble_eq_true rfl) d_Store_enterView_49 52 rfl [.int (v_View_hasBackup ((u3 (u3 (u3 s 6 0 i (s 6 0 v)) 6 1 i (s 6 1 v)) 6 2 i (s 6 2 v)) 6 2 v))] rfl ?_
        refine z_if_eq S d_Store_enterView_52 60 (by decide) 55 rfl (fun h5 => ?_) (fun h5 => ?_)
        · exact absurd h5 h3
        · refine z_aload_n S d_Store_enterView_55 rfl 0 rfl 56 rfl ?_
          refine z_aload_n S d_Store_enterView_56 rfl 1 rfl 57 rfl ?_
          refine z_callV S hK (As := [.ref (ad 1 i)]) (rest := []) (c_Store_sendFill (i := i) hJ mi hw hπ) (cw_Store_sendFill hts w_356 rfl rfl ⟨(Nat.le_of_ble_eq_true rfl), (Nat.le_of_ble_eq_true rfl)⟩) rl_0 kC_0 rfl rfl rfl (Nat.le_of_ble_eq_true rfl) d_Store_enterView_57 60 rfl [] rfl ?_
          exact z_vret S hr hlk d_Store_enterView_60 (kC_eq (by unfold S_Store_enterView; simp only [if_neg h1, if_neg h3]))
    · refine z_iconst S d_Store_enterView_33 1 (by decide) 34 rfl ?_
      refine z_goto S d_Store_enterView_34 38 (by decide) ?_
      refine z_put S hJ hK hin_Server t_Server ok_Server nm_Server mi kC_1 rfl 7 (Nat.le_of_ble_eq_true rfl) (ht _ w_132) (fun _ h => h) rfl (zb_n zb_1) (zb_f zb_1) (Nat.le_of_ble_eq_true rfl) up_1_7 d_Store_enterView_38 41 rfl ?_
      refine z_aload_n S d_Store_enterView_41 rfl 1 rfl 42 rfl ?_
      refine z_callV S hK (As := []) (rest := []) (c_Server_isPrimary (i := i) hJ mi) (cw_Server_isPrimary hts w_354 rfl rfl ⟨(Nat.le_of_ble_eq_true rfl), (Nat.le_of_ble_eq_true rfl)⟩) mi kC_1 rfl rfl rfl (Nat.le_of_ble_eq_true rfl) d_Store_enterView_42 45 rfl [.int (v_Server_isPrimary ((u3 (u3 s 6 0 i (s 6 0 v)) 6 1 i (s 6 1 v)) 6 1 i) (s 1 0 i))] rfl ?_
      refine z_if_eq S d_Store_enterView_45 60 (by decide) 48 rfl (fun h6 => ?_) (fun h6 => ?_)
      · exact absurd h6 h1
      · refine z_aload_n S d_Store_enterView_48 rfl 2 rfl 49 rfl ?_
        refine z_callV S hK (As := []) (rest := []) (c_View_hasBackup (a := v) hJ mv) (cw_View_hasBackup hts w_355 rfl rfl ⟨(Nat.le_of_ble_eq_true rfl), (Nat.le_of_ble_eq_true rfl)⟩) mv kC_6 rfl rfl rfl (Nat.le_of_ble_eq_true rfl) d_Store_enterView_49 52 rfl [.int (v_View_hasBackup ((u3 (u3 (u3 s 6 0 i (s 6 0 v)) 6 1 i (s 6 1 v)) 6 2 i (s 6 2 v)) 6 2 v))] rfl ?_
        refine z_if_eq S d_Store_enterView_52 60 (by decide) 55 rfl (fun h7 => ?_) (fun h7 => ?_)
        · exact z_vret S hr hlk d_Store_enterView_60 (kC_eq (by unfold S_Store_enterView; simp only [if_neg h1, if_pos h3]))
        · exact absurd h3 h7
theorem d_Store_doWriteAndAnswer_0 : decode prog_1_method_34_code 0 = .ok (.aload_n 1, 1) := by decide +kernel
theorem d_Store_doWriteAndAnswer_1 : decode prog_1_method_34_code 1 = .ok (.getfield 175, 3) := by decide +kernel
theorem d_Store_doWriteAndAnswer_4 : decode prog_1_method_34_code 4 = .ok (.aload_n 2, 1) := by decide +kernel
theorem d_Store_doWriteAndAnswer_5 : decode prog_1_method_34_code 5 = .ok (.invokevirtual 251, 3) := by decide +kernel
theorem d_Store_doWriteAndAnswer_8 : decode prog_1_method_34_code 8 = .ok (.aload_n 0, 1) := by decide +kernel
theorem d_Store_doWriteAndAnswer_9 : decode prog_1_method_34_code 9 = .ok (.aload_n 2, 1) := by decide +kernel
theorem d_Store_doWriteAndAnswer_10 : decode prog_1_method_34_code 10 = .ok (.aload_n 1, 1) := by decide +kernel
theorem d_Store_doWriteAndAnswer_11 : decode prog_1_method_34_code 11 = .ok (.getfield 175, 3) := by decide +kernel
theorem d_Store_doWriteAndAnswer_14 : decode prog_1_method_34_code 14 = .ok (.getfield 284, 3) := by decide +kernel
theorem d_Store_doWriteAndAnswer_17 : decode prog_1_method_34_code 17 = .ok (.aload_n 2, 1) := by decide +kernel
theorem d_Store_doWriteAndAnswer_18 : decode prog_1_method_34_code 18 = .ok (.getfield 281, 3) := by decide +kernel
theorem d_Store_doWriteAndAnswer_21 : decode prog_1_method_34_code 21 = .ok (.iaload, 1) := by decide +kernel
theorem d_Store_doWriteAndAnswer_22 : decode prog_1_method_34_code 22 = .ok (.invokevirtual 274, 3) := by decide +kernel
theorem d_Store_doWriteAndAnswer_25 : decode prog_1_method_34_code 25 = .ok (.return_, 1) := by decide +kernel
def S_Store_doWriteAndAnswer (π : Nat → Nat) (s : S3) (i : Nat) (w : Nat) : S3 := S_Store_sendAnswer π (S_State_doWrite π s i w) w ((u3 s 14 i ((s 7 0 w).toNatClampNeg) (s 9 i ((s 7 3 w).toNatClampNeg))) 14 i ((s 7 0 w).toNatClampNeg))
set_option maxHeartbeats 4000000 in
set_option maxRecDepth 100000 in
theorem c_Store_doWriteAndAnswer {l : Launch} {D : va_G} {K : Nat → ClassId} {ad : Nat → Nat → Nat} {n : Nat} {π : Nat → Nat} {s : S3} {i w : Nat} (hJ : zw_J (cRL n) ad) (mi : (1, i) ∈ cRL n) (mw : (7, w) ∈ cRL n) (hw : vp_in (s 4 2 0) 33) (hπ : ∀ j, π j < 34) (hop : opOK s) : zM l y_Store_doWriteAndAnswer ws_Store_doWriteAndAnswer ({ frames := 2, cells := 0, slots := 0, locals := 46 }) D zCl (zTys K) (cRL n) ad [.ref (ad 0 0), .ref (ad 1 i), .ref (ad 7 w)] (kC K ad n s π) (none) (kC K ad n (S_Store_doWriteAndAnswer π s i w) π) := by
  refine zM.of (cc := prog_1_method_34_code) (maxL := 3) (ret := (Option.none : Option Jvm.ClassFile.FieldType)) (by decide) rfl (Nat.le_of_ble_eq_true rfl) ?_
  intro pP eE U mM bL mT cO S hr hlk hK
  have hts := S.2.2.2.2
  have ht := fun w h => hts w (List.mem_cons_of_mem _ h)
  refine z_aload_n S d_Store_doWriteAndAnswer_0 rfl 1 rfl 1 rfl ?_
  refine z_get S hK hin_Server mi kC_1 rfl 2 (Nat.le_of_ble_eq_true rfl) (ht _ w_122) (fun _ h => h) d_Store_doWriteAndAnswer_1 4 rfl (.ref (ad 8 i)) rfl ?_
  refine z_aload_n S d_Store_doWriteAndAnswer_4 rfl 2 rfl 5 rfl ?_
  refine z_callV S hK (As := [.ref (ad 7 w)]) (rest := []) (c_State_doWrite (a := i) (w := w) hJ (rl_ss mi) mw (opOK.c hop w) (opOK.k hop w)) (cw_State_doWrite hts w_455 rfl rfl ⟨(Nat.le_of_ble_eq_true rfl), (Nat.le_of_ble_eq_true rfl)⟩) (rl_ss mi) kC_8 rfl rfl rfl (Nat.le_of_ble_eq_true rfl) d_Store_doWriteAndAnswer_5 8 rfl [] rfl ?_
  refine z_aload_n S d_Store_doWriteAndAnswer_8 rfl 0 rfl 9 rfl ?_
  refine z_aload_n S d_Store_doWriteAndAnswer_9 rfl 2 rfl 10 rfl ?_
  refine z_aload_n S d_Store_doWriteAndAnswer_10 rfl 1 rfl 11 rfl ?_
  refine z_get S hK hin_Server mi kC_1 rfl 2 (Nat.le_of_ble_eq_true rfl) (ht _ w_122) (fun _ h => h) d_Store_doWriteAndAnswer_11 14 rfl (.ref (ad 8 i)) rfl ?_
  refine z_get S hK hin_State (rl_ss mi) kC_8 rfl 2 (Nat.le_of_ble_eq_true rfl) (ht _ w_70) (fun _ h => h) d_Store_doWriteAndAnswer_14 17 rfl (.ref (ad 14 i)) rfl ?_
  refine z_aload_n S d_Store_doWriteAndAnswer_17 rfl 2 rfl 18 rfl ?_
  refine z_get S hK hin_Operation mw kC_7 rfl 0 (Nat.le_of_ble_eq_true rfl) (ht _ w_92) (fun _ h => h) d_Store_doWriteAndAnswer_18 21 rfl (.int (s 7 0 w)) rfl ?_
  refine z_iald S hK (rl_s14 (rl_ss mi)) 0 kC_14 rfl (opOK.c hop w) d_Store_doWriteAndAnswer_21 22 rfl ((u3 s 14 i ((s 7 0 w).toNatClampNeg) (s 9 i ((s 7 3 w).toNatClampNeg))) 14 i ((s 7 0 w).toNatClampNeg)) rfl ?_
  refine z_callV S hK (As := [.ref (ad 7 w), .int ((u3 s 14 i ((s 7 0 w).toNatClampNeg) (s 9 i ((s 7 3 w).toNatClampNeg))) 14 i ((s 7 0 w).toNatClampNeg))]) (rest := []) (c_Store_sendAnswer (w := w) (x := (u3 s 14 i ((s 7 0 w).toNatClampNeg) (s 9 i ((s 7 3 w).toNatClampNeg))) 14 i ((s 7 0 w).toNatClampNeg)) hJ mw hw hπ hop) (cw_Store_sendAnswer hts w_467 rfl rfl ⟨(Nat.le_of_ble_eq_true rfl), (Nat.le_of_ble_eq_true rfl)⟩) rl_0 kC_0 rfl rfl rfl (Nat.le_of_ble_eq_true rfl) d_Store_doWriteAndAnswer_22 25 rfl [] rfl ?_
  exact z_vret S hr hlk d_Store_doWriteAndAnswer_25 (kC_eq rfl)
