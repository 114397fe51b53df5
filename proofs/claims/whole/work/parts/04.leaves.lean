theorem d_View_become_0 : decode prog_9_method_2_code 0 = .ok (.aload_n 0, 1) := by decide +kernel
theorem d_View_become_1 : decode prog_9_method_2_code 1 = .ok (.aload_n 1, 1) := by decide +kernel
theorem d_View_become_2 : decode prog_9_method_2_code 2 = .ok (.getfield 9, 3) := by decide +kernel
theorem d_View_become_5 : decode prog_9_method_2_code 5 = .ok (.putfield 9, 3) := by decide +kernel
theorem d_View_become_8 : decode prog_9_method_2_code 8 = .ok (.aload_n 0, 1) := by decide +kernel
theorem d_View_become_9 : decode prog_9_method_2_code 9 = .ok (.aload_n 1, 1) := by decide +kernel
theorem d_View_become_10 : decode prog_9_method_2_code 10 = .ok (.getfield 15, 3) := by decide +kernel
theorem d_View_become_13 : decode prog_9_method_2_code 13 = .ok (.putfield 15, 3) := by decide +kernel
theorem d_View_become_16 : decode prog_9_method_2_code 16 = .ok (.aload_n 0, 1) := by decide +kernel
theorem d_View_become_17 : decode prog_9_method_2_code 17 = .ok (.aload_n 1, 1) := by decide +kernel
theorem d_View_become_18 : decode prog_9_method_2_code 18 = .ok (.getfield 18, 3) := by decide +kernel
theorem d_View_become_21 : decode prog_9_method_2_code 21 = .ok (.putfield 18, 3) := by decide +kernel
theorem d_View_become_24 : decode prog_9_method_2_code 24 = .ok (.return_, 1) := by decide +kernel
def S_View_become (π : Nat → Nat) (s : S3) (a : Nat) (b : Nat) : S3 := u3 (u3 (u3 s 6 0 a (s 6 0 b)) 6 1 a (s 6 1 b)) 6 2 a (s 6 2 b)
set_option maxHeartbeats 4000000 in
set_option maxRecDepth 100000 in
theorem c_View_become {l : Launch} {D : va_G} {K : Nat → ClassId} {ad : Nat → Nat → Nat} {n : Nat} {π : Nat → Nat} {s : S3} {a b : Nat} (hJ : zw_J (cRL n) ad) (ma : (6, a) ∈ cRL n) (mb : (6, b) ∈ cRL n) : zM l y_View_become ws_View_become ({ frames := 0, cells := 0, slots := 0, locals := 0 }) D zCl (zTys K) (cRL n) ad [.ref (ad 6 a), .ref (ad 6 b)] (kC K ad n s π) (none) (kC K ad n (S_View_become π s a b) π) := by
  refine zM.of (cc := prog_9_method_2_code) (maxL := 2) (ret := (Option.none : Option Jvm.ClassFile.FieldType)) (by decide) rfl (Nat.le_of_ble_eq_true rfl) ?_
  intro pP eE U mM bL mT cO S hr hlk hK
  have hts := S.2.2.2.2
  have ht := fun w h => hts w (List.mem_cons_of_mem _ h)
  refine z_aload_n S d_View_become_0 rfl 0 rfl 1 rfl ?_
  refine z_aload_n S d_View_become_1 rfl 1 rfl 2 rfl ?_
  refine z_get S hK hin_View mb kC_6 rfl 0 (Nat.le_of_ble_eq_true rfl) (ht _ w_40) (fun _ h => h) d_View_become_2 5 rfl (.int (s 6 0 b)) rfl ?_
  refine z_put S hJ hK hin_View t_View ok_View nm_View ma kC_6 rfl 0 (Nat.le_of_ble_eq_true rfl) (ht _ w_40) (fun _ h => h) rfl rfl rfl (Nat.le_of_ble_eq_true rfl) up_6_0 d_View_become_5 8 rfl ?_
  refine z_aload_n S d_View_become_8 rfl 0 rfl 9 rfl ?_
  refine z_aload_n S d_View_become_9 rfl 1 rfl 10 rfl ?_
  refine z_get S hK hin_View mb kC_6 rfl 1 (Nat.le_of_ble_eq_true rfl) (ht _ w_44) (fun _ h => h) d_View_become_10 13 rfl (.int (s 6 1 b)) rfl ?_
  refine z_put S hJ hK hin_View t_View ok_View nm_View ma kC_6 rfl 1 (Nat.le_of_ble_eq_true rfl) (ht _ w_44) (fun _ h => h) rfl rfl rfl (Nat.le_of_ble_eq_true rfl) up_6_1 d_View_become_13 16 rfl ?_
  refine z_aload_n S d_View_become_16 rfl 0 rfl 17 rfl ?_
  refine z_aload_n S d_View_become_17 rfl 1 rfl 18 rfl ?_
  refine z_get S hK hin_View mb kC_6 rfl 2 (Nat.le_of_ble_eq_true rfl) (ht _ w_48) (fun _ h => h) d_View_become_18 21 rfl (.int (s 6 2 b)) rfl ?_
  refine z_put S hJ hK hin_View t_View ok_View nm_View ma kC_6 rfl 2 (Nat.le_of_ble_eq_true rfl) (ht _ w_48) (fun _ h => h) rfl rfl rfl (Nat.le_of_ble_eq_true rfl) up_6_2 d_View_become_21 24 rfl ?_
  exact z_vret S hr hlk d_View_become_24 (kC_eq rfl)
theorem d_View_hasBackup_0 : decode prog_9_method_3_code 0 = .ok (.aload_n 0, 1) := by decide +kernel
theorem d_View_hasBackup_1 : decode prog_9_method_3_code 1 = .ok (.getfield 18, 3) := by decide +kernel
theorem d_View_hasBackup_4 : decode prog_9_method_3_code 4 = .ok (.bipush 7, 2) := by decide +kernel
theorem d_View_hasBackup_6 : decode prog_9_method_3_code 6 = .ok (.if_icmp .eq 7, 3) := by decide +kernel
theorem d_View_hasBackup_9 : decode prog_9_method_3_code 9 = .ok (.iconst 1, 1) := by decide +kernel
theorem d_View_hasBackup_10 : decode prog_9_method_3_code 10 = .ok (.goto 4, 3) := by decide +kernel
theorem d_View_hasBackup_13 : decode prog_9_method_3_code 13 = .ok (.iconst 0, 1) := by decide +kernel
theorem d_View_hasBackup_14 : decode prog_9_method_3_code 14 = .ok (.ireturn, 1) := by decide +kernel
def v_View_hasBackup (x0 : Int32)  : Int32 := if (x0) = 7 then 0 else 1
theorem zbv_View_hasBackup {x0 : Int32}  : zb (v_View_hasBackup x0 ) := by
  unfold v_View_hasBackup zb
  repeat' split
  all_goals simp
set_option maxHeartbeats 4000000 in
set_option maxRecDepth 100000 in
theorem c_View_hasBackup {l : Launch} {D : va_G} {K : Nat → ClassId} {ad : Nat → Nat → Nat} {n : Nat} {π : Nat → Nat} {s : S3} {a : Nat} (hJ : zw_J (cRL n) ad) (ma : (6, a) ∈ cRL n) : zM l y_View_hasBackup ws_View_hasBackup ({ frames := 0, cells := 0, slots := 0, locals := 0 }) D zCl (zTys K) (cRL n) ad [.ref (ad 6 a)] (kC K ad n s π) (some (.int (v_View_hasBackup (s 6 2 a)))) (kC K ad n (s) π) := by
  refine zM.of (cc := prog_9_method_3_code) (maxL := 1) (ret := (Option.some Jvm.ClassFile.FieldType.boolean)) (by decide) rfl (Nat.le_of_ble_eq_true rfl) ?_
  intro pP eE U mM bL mT cO S hr hlk hK
  have hts := S.2.2.2.2
  have ht := fun w h => hts w (List.mem_cons_of_mem _ h)
  refine z_aload_n S d_View_hasBackup_0 rfl 0 rfl 1 rfl ?_
  refine z_get S hK hin_View ma kC_6 rfl 2 (Nat.le_of_ble_eq_true rfl) (ht _ w_48) (fun _ h => h) d_View_hasBackup_1 4 rfl (.int (s 6 2 a)) rfl ?_
  refine z_bipush S d_View_hasBackup_4 7 (by decide) 6 rfl ?_
  refine z_icmp_eq S d_View_hasBackup_6 13 (by decide) 9 rfl (fun h1 => ?_) (fun h1 => ?_)
  · refine z_iconst S d_View_hasBackup_13 0 (by decide) 14 rfl ?_
    exact z_zret S hr (zb_n zb_0) hlk d_View_hasBackup_14 (by unfold v_View_hasBackup; simp only [if_pos h1]) rfl
  · refine z_iconst S d_View_hasBackup_9 1 (by decide) 10 rfl ?_
    refine z_goto S d_View_hasBackup_10 14 (by decide) ?_
    exact z_zret S hr (zb_n zb_1) hlk d_View_hasBackup_14 (by unfold v_View_hasBackup; simp only [if_neg h1]) rfl
theorem d_View_shown_0 : decode prog_9_method_4_code 0 = .ok (.aload_n 0, 1) := by decide +kernel
theorem d_View_shown_1 : decode prog_9_method_4_code 1 = .ok (.getfield 9, 3) := by decide +kernel
theorem d_View_shown_4 : decode prog_9_method_4_code 4 = .ok (.ifCond .ne 7, 3) := by decide +kernel
theorem d_View_shown_7 : decode prog_9_method_4_code 7 = .ok (.iconst 0, 1) := by decide +kernel
theorem d_View_shown_8 : decode prog_9_method_4_code 8 = .ok (.goto 23, 3) := by decide +kernel
theorem d_View_shown_11 : decode prog_9_method_4_code 11 = .ok (.bipush 64, 2) := by decide +kernel
theorem d_View_shown_13 : decode prog_9_method_4_code 13 = .ok (.aload_n 0, 1) := by decide +kernel
theorem d_View_shown_14 : decode prog_9_method_4_code 14 = .ok (.getfield 9, 3) := by decide +kernel
theorem d_View_shown_17 : decode prog_9_method_4_code 17 = .ok (.imul, 1) := by decide +kernel
theorem d_View_shown_18 : decode prog_9_method_4_code 18 = .ok (.bipush 8, 2) := by decide +kernel
theorem d_View_shown_20 : decode prog_9_method_4_code 20 = .ok (.aload_n 0, 1) := by decide +kernel
theorem d_View_shown_21 : decode prog_9_method_4_code 21 = .ok (.getfield 15, 3) := by decide +kernel
theorem d_View_shown_24 : decode prog_9_method_4_code 24 = .ok (.imul, 1) := by decide +kernel
theorem d_View_shown_25 : decode prog_9_method_4_code 25 = .ok (.iadd, 1) := by decide +kernel
theorem d_View_shown_26 : decode prog_9_method_4_code 26 = .ok (.aload_n 0, 1) := by decide +kernel
theorem d_View_shown_27 : decode prog_9_method_4_code 27 = .ok (.getfield 18, 3) := by decide +kernel
theorem d_View_shown_30 : decode prog_9_method_4_code 30 = .ok (.iadd, 1) := by decide +kernel
theorem d_View_shown_31 : decode prog_9_method_4_code 31 = .ok (.ireturn, 1) := by decide +kernel
def v_View_shown (x0 : Int32) (x1 : Int32) (x2 : Int32)  : Int32 := if (x0) = 0 then 0 else ((64 * (x0)) + (8 * (x1))) + (x2)
set_option maxHeartbeats 4000000 in
set_option maxRecDepth 100000 in
theorem c_View_shown {l : Launch} {D : va_G} {K : Nat → ClassId} {ad : Nat → Nat → Nat} {n : Nat} {π : Nat → Nat} {s : S3} {a : Nat} (hJ : zw_J (cRL n) ad) (ma : (6, a) ∈ cRL n) : zM l y_View_shown ws_View_shown ({ frames := 0, cells := 0, slots := 0, locals := 0 }) D zCl (zTys K) (cRL n) ad [.ref (ad 6 a)] (kC K ad n s π) (some (.int (v_View_shown (s 6 0 a) (s 6 1 a) (s 6 2 a)))) (kC K ad n (s) π) := by
  refine zM.of (cc := prog_9_method_4_code) (maxL := 1) (ret := (Option.some Jvm.ClassFile.FieldType.int)) (by decide) rfl (Nat.le_of_ble_eq_true rfl) ?_
  intro pP eE U mM bL mT cO S hr hlk hK
  have hts := S.2.2.2.2
  have ht := fun w h => hts w (List.mem_cons_of_mem _ h)
  refine z_aload_n S d_View_shown_0 rfl 0 rfl 1 rfl ?_
  refine z_get S hK hin_View ma kC_6 rfl 0 (Nat.le_of_ble_eq_true rfl) (ht _ w_40) (fun _ h => h) d_View_shown_1 4 rfl (.int (s 6 0 a)) rfl ?_
  refine z_if_ne S d_View_shown_4 11 (by decide) 7 rfl (fun h1 => ?_) (fun h1 => ?_)
  · refine z_bipush S d_View_shown_11 64 (by decide) 13 rfl ?_
    refine z_aload_n S d_View_shown_13 rfl 0 rfl 14 rfl ?_
    refine z_get S hK hin_View ma kC_6 rfl 0 (Nat.le_of_ble_eq_true rfl) (ht _ w_40) (fun _ h => h) d_View_shown_14 17 rfl (.int (s 6 0 a)) rfl ?_
    refine z_imul S d_View_shown_17 18 rfl ?_
    refine z_bipush S d_View_shown_18 8 (by decide) 20 rfl ?_
    refine z_aload_n S d_View_shown_20 rfl 0 rfl 21 rfl ?_
    refine z_get S hK hin_View ma kC_6 rfl 1 (Nat.le_of_ble_eq_true rfl) (ht _ w_44) (fun _ h => h) d_View_shown_21 24 rfl (.int (s 6 1 a)) rfl ?_
    refine z_imul S d_View_shown_24 25 rfl ?_
    refine z_iadd S d_View_shown_25 26 rfl ?_
    refine z_aload_n S d_View_shown_26 rfl 0 rfl 27 rfl ?_
    refine z_get S hK hin_View ma kC_6 rfl 2 (Nat.le_of_ble_eq_true rfl) (ht _ w_48) (fun _ h => h) d_View_shown_27 30 rfl (.int (s 6 2 a)) rfl ?_
    refine z_iadd S d_View_shown_30 31 rfl ?_
    exact z_iret S hr hlk d_View_shown_31 (by unfold v_View_shown; simp only [if_neg h1]) rfl
  · refine z_iconst S d_View_shown_7 0 (by decide) 8 rfl ?_
    refine z_goto S d_View_shown_8 31 (by decide) ?_
    exact z_iret S hr hlk d_View_shown_31 (by unfold v_View_shown; simp only [if_pos h1]) rfl
theorem d_Operation_become_0 : decode prog_4_method_2_code 0 = .ok (.aload_n 0, 1) := by decide +kernel
theorem d_Operation_become_1 : decode prog_4_method_2_code 1 = .ok (.aload_n 1, 1) := by decide +kernel
theorem d_Operation_become_2 : decode prog_4_method_2_code 2 = .ok (.getfield 7, 3) := by decide +kernel
theorem d_Operation_become_5 : decode prog_4_method_2_code 5 = .ok (.putfield 7, 3) := by decide +kernel
theorem d_Operation_become_8 : decode prog_4_method_2_code 8 = .ok (.aload_n 0, 1) := by decide +kernel
theorem d_Operation_become_9 : decode prog_4_method_2_code 9 = .ok (.aload_n 1, 1) := by decide +kernel
theorem d_Operation_become_10 : decode prog_4_method_2_code 10 = .ok (.getfield 13, 3) := by decide +kernel
theorem d_Operation_become_13 : decode prog_4_method_2_code 13 = .ok (.putfield 13, 3) := by decide +kernel
theorem d_Operation_become_16 : decode prog_4_method_2_code 16 = .ok (.aload_n 0, 1) := by decide +kernel
theorem d_Operation_become_17 : decode prog_4_method_2_code 17 = .ok (.aload_n 1, 1) := by decide +kernel
theorem d_Operation_become_18 : decode prog_4_method_2_code 18 = .ok (.getfield 16, 3) := by decide +kernel
theorem d_Operation_become_21 : decode prog_4_method_2_code 21 = .ok (.putfield 16, 3) := by decide +kernel
theorem d_Operation_become_24 : decode prog_4_method_2_code 24 = .ok (.aload_n 0, 1) := by decide +kernel
theorem d_Operation_become_25 : decode prog_4_method_2_code 25 = .ok (.aload_n 1, 1) := by decide +kernel
theorem d_Operation_become_26 : decode prog_4_method_2_code 26 = .ok (.getfield 20, 3) := by decide +kernel
theorem d_Operation_become_29 : decode prog_4_method_2_code 29 = .ok (.putfield 20, 3) := by decide +kernel
theorem d_Operation_become_32 : decode prog_4_method_2_code 32 = .ok (.aload_n 0, 1) := by decide +kernel
theorem d_Operation_become_33 : decode prog_4_method_2_code 33 = .ok (.aload_n 1, 1) := by decide +kernel
theorem d_Operation_become_34 : decode prog_4_method_2_code 34 = .ok (.getfield 23, 3) := by decide +kernel
theorem d_Operation_become_37 : decode prog_4_method_2_code 37 = .ok (.putfield 23, 3) := by decide +kernel
theorem d_Operation_become_40 : decode prog_4_method_2_code 40 = .ok (.return_, 1) := by decide +kernel
def S_Operation_become (π : Nat → Nat) (s : S3) (a : Nat) (b : Nat) : S3 := u3 (u3 (u3 (u3 (u3 s 7 0 a (s 7 0 b)) 7 1 a (s 7 1 b)) 7 2 a (s 7 2 b)) 7 3 a (s 7 3 b)) 7 4 a (s 7 4 b)
set_option maxHeartbeats 4000000 in
set_option maxRecDepth 100000 in
theorem c_Operation_become {l : Launch} {D : va_G} {K : Nat → ClassId} {ad : Nat → Nat → Nat} {n : Nat} {π : Nat → Nat} {s : S3} {a b : Nat} (hJ : zw_J (cRL n) ad) (ma : (7, a) ∈ cRL n) (mb : (7, b) ∈ cRL n) (hz : zb (s 7 2 b)) : zM l y_Operation_become ws_Operation_become ({ frames := 0, cells := 0, slots := 0, locals := 0 }) D zCl (zTys K) (cRL n) ad [.ref (ad 7 a), .ref (ad 7 b)] (kC K ad n s π) (none) (kC K ad n (S_Operation_become π s a b) π) := by
  refine zM.of (cc := prog_4_method_2_code) (maxL := 2) (ret := (Option.none : Option Jvm.ClassFile.FieldType)) (by decide) rfl (Nat.le_of_ble_eq_true rfl) ?_
  intro pP eE U mM bL mT cO S hr hlk hK
  have hts := S.2.2.2.2
  have ht := fun w h => hts w (List.mem_cons_of_mem _ h)
  refine z_aload_n S d_Operation_become_0 rfl 0 rfl 1 rfl ?_
  refine z_aload_n S d_Operation_become_1 rfl 1 rfl 2 rfl ?_
  refine z_get S hK hin_Operation mb kC_7 rfl 0 (Nat.le_of_ble_eq_true rfl) (ht _ w_89) (fun _ h => h) d_Operation_become_2 5 rfl (.int (s 7 0 b)) rfl ?_
  refine z_put S hJ hK hin_Operation t_Operation ok_Operation nm_Operation ma kC_7 rfl 0 (Nat.le_of_ble_eq_true rfl) (ht _ w_89) (fun _ h => h) rfl rfl rfl (Nat.le_of_ble_eq_true rfl) up_7_0 d_Operation_become_5 8 rfl ?_
  refine z_aload_n S d_Operation_become_8 rfl 0 rfl 9 rfl ?_
  refine z_aload_n S d_Operation_become_9 rfl 1 rfl 10 rfl ?_
  refine z_get S hK hin_Operation mb kC_7 rfl 1 (Nat.le_of_ble_eq_true rfl) (ht _ w_93) (fun _ h => h) d_Operation_become_10 13 rfl (.int (s 7 1 b)) rfl ?_
  refine z_put S hJ hK hin_Operation t_Operation ok_Operation nm_Operation ma kC_7 rfl 1 (Nat.le_of_ble_eq_true rfl) (ht _ w_93) (fun _ h => h) rfl rfl rfl (Nat.le_of_ble_eq_true rfl) up_7_1 d_Operation_become_13 16 rfl ?_
  refine z_aload_n S d_Operation_become_16 rfl 0 rfl 17 rfl ?_
  refine z_aload_n S d_Operation_become_17 rfl 1 rfl 18 rfl ?_
  refine z_get S hK hin_Operation mb kC_7 rfl 2 (Nat.le_of_ble_eq_true rfl) (ht _ w_97) (fun _ h => h) d_Operation_become_18 21 rfl (.int (s 7 2 b)) rfl ?_
  refine z_put S hJ hK hin_Operation t_Operation ok_Operation nm_Operation ma kC_7 rfl 2 (Nat.le_of_ble_eq_true rfl) (ht _ w_97) (fun _ h => h) rfl (zb_n hz) (zb_f hz) (Nat.le_of_ble_eq_true rfl) up_7_2 d_Operation_become_21 24 rfl ?_
  refine z_aload_n S d_Operation_become_24 rfl 0 rfl 25 rfl ?_
  refine z_aload_n S d_Operation_become_25 rfl 1 rfl 26 rfl ?_
  refine z_get S hK hin_Operation mb kC_7 rfl 3 (Nat.le_of_ble_eq_true rfl) (ht _ w_100) (fun _ h => h) d_Operation_become_26 29 rfl (.int (s 7 3 b)) rfl ?_
  refine z_put S hJ hK hin_Operation t_Operation ok_Operation nm_Operation ma kC_7 rfl 3 (Nat.le_of_ble_eq_true rfl) (ht _ w_100) (fun _ h => h) rfl rfl rfl (Nat.le_of_ble_eq_true rfl) up_7_3 d_Operation_become_29 32 rfl ?_
  refine z_aload_n S d_Operation_become_32 rfl 0 rfl 33 rfl ?_
  refine z_aload_n S d_Operation_become_33 rfl 1 rfl 34 rfl ?_
  refine z_get S hK hin_Operation mb kC_7 rfl 4 (Nat.le_of_ble_eq_true rfl) (ht _ w_104) (fun _ h => h) d_Operation_become_34 37 rfl (.int (s 7 4 b)) rfl ?_
  refine z_put S hJ hK hin_Operation t_Operation ok_Operation nm_Operation ma kC_7 rfl 4 (Nat.le_of_ble_eq_true rfl) (ht _ w_104) (fun _ h => h) rfl rfl rfl (Nat.le_of_ble_eq_true rfl) up_7_4 d_Operation_become_37 40 rfl ?_
  exact z_vret S hr hlk d_Operation_become_40 (kC_eq rfl)
theorem d_State_become_0 : decode prog_8_method_2_code 0 = .ok (.aload_n 1, 1) := by decide +kernel
theorem d_State_become_1 : decode prog_8_method_2_code 1 = .ok (.getfield 9, 3) := by decide +kernel
theorem d_State_become_4 : decode prog_8_method_2_code 4 = .ok (.iconst 0, 1) := by decide +kernel
theorem d_State_become_5 : decode prog_8_method_2_code 5 = .ok (.aload_n 0, 1) := by decide +kernel
theorem d_State_become_6 : decode prog_8_method_2_code 6 = .ok (.getfield 9, 3) := by decide +kernel
theorem d_State_become_9 : decode prog_8_method_2_code 9 = .ok (.iconst 0, 1) := by decide +kernel
theorem d_State_become_10 : decode prog_8_method_2_code 10 = .ok (.iconst 4, 1) := by decide +kernel
theorem d_State_become_11 : decode prog_8_method_2_code 11 = .ok (.invokestatic 25, 3) := by decide +kernel
theorem d_State_become_14 : decode prog_8_method_2_code 14 = .ok (.aload_n 1, 1) := by decide +kernel
theorem d_State_become_15 : decode prog_8_method_2_code 15 = .ok (.getfield 15, 3) := by decide +kernel
theorem d_State_become_18 : decode prog_8_method_2_code 18 = .ok (.iconst 0, 1) := by decide +kernel
theorem d_State_become_19 : decode prog_8_method_2_code 19 = .ok (.aload_n 0, 1) := by decide +kernel
theorem d_State_become_20 : decode prog_8_method_2_code 20 = .ok (.getfield 15, 3) := by decide +kernel
theorem d_State_become_23 : decode prog_8_method_2_code 23 = .ok (.iconst 0, 1) := by decide +kernel
theorem d_State_become_24 : decode prog_8_method_2_code 24 = .ok (.iconst 3, 1) := by decide +kernel
theorem d_State_become_25 : decode prog_8_method_2_code 25 = .ok (.invokestatic 25, 3) := by decide +kernel
theorem d_State_become_28 : decode prog_8_method_2_code 28 = .ok (.aload_n 1, 1) := by decide +kernel
theorem d_State_become_29 : decode prog_8_method_2_code 29 = .ok (.getfield 18, 3) := by decide +kernel
theorem d_State_become_32 : decode prog_8_method_2_code 32 = .ok (.iconst 0, 1) := by decide +kernel
theorem d_State_become_33 : decode prog_8_method_2_code 33 = .ok (.aload_n 0, 1) := by decide +kernel
theorem d_State_become_34 : decode prog_8_method_2_code 34 = .ok (.getfield 18, 3) := by decide +kernel
theorem d_State_become_37 : decode prog_8_method_2_code 37 = .ok (.iconst 0, 1) := by decide +kernel
theorem d_State_become_38 : decode prog_8_method_2_code 38 = .ok (.iconst 3, 1) := by decide +kernel
theorem d_State_become_39 : decode prog_8_method_2_code 39 = .ok (.invokestatic 25, 3) := by decide +kernel
theorem d_State_become_42 : decode prog_8_method_2_code 42 = .ok (.aload_n 0, 1) := by decide +kernel
theorem d_State_become_43 : decode prog_8_method_2_code 43 = .ok (.aload_n 1, 1) := by decide +kernel
theorem d_State_become_44 : decode prog_8_method_2_code 44 = .ok (.getfield 21, 3) := by decide +kernel
theorem d_State_become_47 : decode prog_8_method_2_code 47 = .ok (.putfield 21, 3) := by decide +kernel
theorem d_State_become_50 : decode prog_8_method_2_code 50 = .ok (.return_, 1) := by decide +kernel
def S_State_become (π : Nat → Nat) (s : S3) (a : Nat) (b : Nat) : S3 := u3 (uA (uA (uA s 9 a (va_cpy (s 9 b) (s 9 a) (0 : Int32).toNatClampNeg (0 : Int32).toNatClampNeg (4 : Int32).toNatClampNeg)) 13 a (va_cpy (s 13 b) (s 13 a) (0 : Int32).toNatClampNeg (0 : Int32).toNatClampNeg (3 : Int32).toNatClampNeg)) 14 a (va_cpy (s 14 b) (s 14 a) (0 : Int32).toNatClampNeg (0 : Int32).toNatClampNeg (3 : Int32).toNatClampNeg)) 8 3 a (s 8 3 b)
set_option maxHeartbeats 4000000 in
set_option maxRecDepth 100000 in
theorem c_State_become {l : Launch} {D : va_G} {K : Nat → ClassId} {ad : Nat → Nat → Nat} {n : Nat} {π : Nat → Nat} {s : S3} {a b : Nat} (hJ : zw_J (cRL n) ad) (ma : (8, a) ∈ cRL n) (mb : (8, b) ∈ cRL n) : zM l y_State_become ws_State_become ({ frames := 1, cells := 0, slots := 0, locals := 80 }) D zCl (zTys K) (cRL n) ad [.ref (ad 8 a), .ref (ad 8 b)] (kC K ad n s π) (none) (kC K ad n (S_State_become π s a b) π) := by
  refine zM.of (cc := prog_8_method_2_code) (maxL := 2) (ret := (Option.none : Option Jvm.ClassFile.FieldType)) (by decide) rfl (Nat.le_of_ble_eq_true rfl) ?_
  intro pP eE U mM bL mT cO S hr hlk hK
  have hts := S.2.2.2.2
  have ht := fun w h => hts w (List.mem_cons_of_mem _ h)
  refine z_aload_n S d_State_become_0 rfl 1 rfl 1 rfl ?_
  refine z_get S hK hin_State mb kC_8 rfl 0 (Nat.le_of_ble_eq_true rfl) (ht _ w_65) (fun _ h => h) d_State_become_1 4 rfl (.ref (ad 9 b)) rfl ?_
  refine z_iconst S d_State_become_4 0 (by decide) 5 rfl ?_
  refine z_aload_n S d_State_become_5 rfl 0 rfl 6 rfl ?_
  refine z_get S hK hin_State ma kC_8 rfl 0 (Nat.le_of_ble_eq_true rfl) (ht _ w_65) (fun _ h => h) d_State_become_6 9 rfl (.ref (ad 9 a)) rfl ?_
  refine z_iconst S d_State_become_9 0 (by decide) 10 rfl ?_
  refine z_iconst S d_State_become_10 4 (by decide) 11 rfl ?_
  refine z_copyi S hJ hK (ht _ w_368) (ht _ w_370) (ht _ w_369) (ht _ w_12) (rl_s9 mb) (rl_s9 ma) 0 0 kC_9 kC_9 rfl rfl rfl (by decide) (by decide) (by decide) (by decide) (by decide) (fun _ _ => rfl) (Nat.le_of_ble_eq_true rfl) (Nat.le_of_ble_eq_true rfl) upA_9 d_State_become_11 14 rfl ?_
  refine z_aload_n S d_State_become_14 rfl 1 rfl 15 rfl ?_
  refine z_get S hK hin_State mb kC_8 rfl 1 (Nat.le_of_ble_eq_true rfl) (ht _ w_67) (fun _ h => h) d_State_become_15 18 rfl (.ref (ad 13 b)) rfl ?_
  refine z_iconst S d_State_become_18 0 (by decide) 19 rfl ?_
  refine z_aload_n S d_State_become_19 rfl 0 rfl 20 rfl ?_
  refine z_get S hK hin_State ma kC_8 rfl 1 (Nat.le_of_ble_eq_true rfl) (ht _ w_67) (fun _ h => h) d_State_become_20 23 rfl (.ref (ad 13 a)) rfl ?_
  refine z_iconst S d_State_become_23 0 (by decide) 24 rfl ?_
  refine z_iconst S d_State_become_24 3 (by decide) 25 rfl ?_
  refine z_copyi S hJ hK (ht _ w_368) (ht _ w_370) (ht _ w_369) (ht _ w_12) (rl_s13 mb) (rl_s13 ma) 0 0 kC_13 kC_13 rfl rfl rfl (by decide) (by decide) (by decide) (by decide) (by decide) (fun _ _ => rfl) (Nat.le_of_ble_eq_true rfl) (Nat.le_of_ble_eq_true rfl) upA_13 d_State_become_25 28 rfl ?_
  refine z_aload_n S d_State_become_28 rfl 1 rfl 29 rfl ?_
  refine z_get S hK hin_State mb kC_8 rfl 2 (Nat.le_of_ble_eq_true rfl) (ht _ w_69) (fun _ h => h) d_State_become_29 32 rfl (.ref (ad 14 b)) rfl ?_
  refine z_iconst S d_State_become_32 0 (by decide) 33 rfl ?_
  refine z_aload_n S d_State_become_33 rfl 0 rfl 34 rfl ?_
  refine z_get S hK hin_State ma kC_8 rfl 2 (Nat.le_of_ble_eq_true rfl) (ht _ w_69) (fun _ h => h) d_State_become_34 37 rfl (.ref (ad 14 a)) rfl ?_
  refine z_iconst S d_State_become_37 0 (by decide) 38 rfl ?_
  refine z_iconst S d_State_become_38 3 (by decide) 39 rfl ?_
  refine z_copyi S hJ hK (ht _ w_368) (ht _ w_370) (ht _ w_369) (ht _ w_12) (rl_s14 mb) (rl_s14 ma) 0 0 kC_14 kC_14 rfl rfl rfl (by decide) (by decide) (by decide) (by decide) (by decide) (fun _ _ => rfl) (Nat.le_of_ble_eq_true rfl) (Nat.le_of_ble_eq_true rfl) upA_14 d_State_become_39 42 rfl ?_
  refine z_aload_n S d_State_become_42 rfl 0 rfl 43 rfl ?_
  refine z_aload_n S d_State_become_43 rfl 1 rfl 44 rfl ?_
  refine z_get S hK hin_State mb kC_8 rfl 3 (Nat.le_of_ble_eq_true rfl) (ht _ w_71) (fun _ h => h) d_State_become_44 47 rfl (.int (s 8 3 b)) rfl ?_
  refine z_put S hJ hK hin_State t_State ok_State nm_State ma kC_8 rfl 3 (Nat.le_of_ble_eq_true rfl) (ht _ w_71) (fun _ h => h) rfl rfl rfl (Nat.le_of_ble_eq_true rfl) up_8_3 d_State_become_47 50 rfl ?_
  exact z_vret S hr hlk d_State_become_50 (kC_eq rfl)
theorem d_State_doWrite_0 : decode prog_8_method_3_code 0 = .ok (.aload_n 0, 1) := by decide +kernel
theorem d_State_doWrite_1 : decode prog_8_method_3_code 1 = .ok (.getfield 18, 3) := by decide +kernel
theorem d_State_doWrite_4 : decode prog_8_method_3_code 4 = .ok (.aload_n 1, 1) := by decide +kernel
theorem d_State_doWrite_5 : decode prog_8_method_3_code 5 = .ok (.getfield 31, 3) := by decide +kernel
theorem d_State_doWrite_8 : decode prog_8_method_3_code 8 = .ok (.aload_n 0, 1) := by decide +kernel
theorem d_State_doWrite_9 : decode prog_8_method_3_code 9 = .ok (.getfield 9, 3) := by decide +kernel
theorem d_State_doWrite_12 : decode prog_8_method_3_code 12 = .ok (.aload_n 1, 1) := by decide +kernel
theorem d_State_doWrite_13 : decode prog_8_method_3_code 13 = .ok (.getfield 36, 3) := by decide +kernel
theorem d_State_doWrite_16 : decode prog_8_method_3_code 16 = .ok (.iaload, 1) := by decide +kernel
theorem d_State_doWrite_17 : decode prog_8_method_3_code 17 = .ok (.iastore, 1) := by decide +kernel
theorem d_State_doWrite_18 : decode prog_8_method_3_code 18 = .ok (.aload_n 0, 1) := by decide +kernel
theorem d_State_doWrite_19 : decode prog_8_method_3_code 19 = .ok (.getfield 9, 3) := by decide +kernel
theorem d_State_doWrite_22 : decode prog_8_method_3_code 22 = .ok (.aload_n 1, 1) := by decide +kernel
theorem d_State_doWrite_23 : decode prog_8_method_3_code 23 = .ok (.getfield 36, 3) := by decide +kernel
theorem d_State_doWrite_26 : decode prog_8_method_3_code 26 = .ok (.aload_n 1, 1) := by decide +kernel
theorem d_State_doWrite_27 : decode prog_8_method_3_code 27 = .ok (.getfield 39, 3) := by decide +kernel
theorem d_State_doWrite_30 : decode prog_8_method_3_code 30 = .ok (.iastore, 1) := by decide +kernel
theorem d_State_doWrite_31 : decode prog_8_method_3_code 31 = .ok (.aload_n 0, 1) := by decide +kernel
theorem d_State_doWrite_32 : decode prog_8_method_3_code 32 = .ok (.getfield 15, 3) := by decide +kernel
theorem d_State_doWrite_35 : decode prog_8_method_3_code 35 = .ok (.aload_n 1, 1) := by decide +kernel
theorem d_State_doWrite_36 : decode prog_8_method_3_code 36 = .ok (.getfield 31, 3) := by decide +kernel
theorem d_State_doWrite_39 : decode prog_8_method_3_code 39 = .ok (.aload_n 1, 1) := by decide +kernel
theorem d_State_doWrite_40 : decode prog_8_method_3_code 40 = .ok (.getfield 42, 3) := by decide +kernel
theorem d_State_doWrite_43 : decode prog_8_method_3_code 43 = .ok (.iastore, 1) := by decide +kernel
theorem d_State_doWrite_44 : decode prog_8_method_3_code 44 = .ok (.aload_n 0, 1) := by decide +kernel
theorem d_State_doWrite_45 : decode prog_8_method_3_code 45 = .ok (.dup, 1) := by decide +kernel
theorem d_State_doWrite_46 : decode prog_8_method_3_code 46 = .ok (.getfield 21, 3) := by decide +kernel
theorem d_State_doWrite_49 : decode prog_8_method_3_code 49 = .ok (.iconst 1, 1) := by decide +kernel
theorem d_State_doWrite_50 : decode prog_8_method_3_code 50 = .ok (.iadd, 1) := by decide +kernel
theorem d_State_doWrite_51 : decode prog_8_method_3_code 51 = .ok (.putfield 21, 3) := by decide +kernel
theorem d_State_doWrite_54 : decode prog_8_method_3_code 54 = .ok (.return_, 1) := by decide +kernel
def S_State_doWrite (π : Nat → Nat) (s : S3) (a : Nat) (w : Nat) : S3 := u3 (u3 (u3 (u3 s 14 a ((s 7 0 w).toNatClampNeg) (s 9 a ((s 7 3 w).toNatClampNeg))) 9 a ((s 7 3 w).toNatClampNeg) (s 7 4 w)) 13 a ((s 7 0 w).toNatClampNeg) (s 7 1 w)) 8 3 a ((s 8 3 a) + 1)
set_option maxHeartbeats 4000000 in
set_option maxRecDepth 100000 in
theorem c_State_doWrite {l : Launch} {D : va_G} {K : Nat → ClassId} {ad : Nat → Nat → Nat} {n : Nat} {π : Nat → Nat} {s : S3} {a w : Nat} (hJ : zw_J (cRL n) ad) (ma : (8, a) ∈ cRL n) (mw : (7, w) ∈ cRL n) (h0 : vp_in (s 7 0 w) 3) (h3 : vp_in (s 7 3 w) 4) : zM l y_State_doWrite ws_State_doWrite ({ frames := 0, cells := 0, slots := 0, locals := 0 }) D zCl (zTys K) (cRL n) ad [.ref (ad 8 a), .ref (ad 7 w)] (kC K ad n s π) (none) (kC K ad n (S_State_doWrite π s a w) π) := by
  refine zM.of (cc := prog_8_method_3_code) (maxL := 2) (ret := (Option.none : Option Jvm.ClassFile.FieldType)) (by decide) rfl (Nat.le_of_ble_eq_true rfl) ?_
  intro pP eE U mM bL mT cO S hr hlk hK
  have hts := S.2.2.2.2
  have ht := fun w h => hts w (List.mem_cons_of_mem _ h)
  refine z_aload_n S d_State_doWrite_0 rfl 0 rfl 1 rfl ?_
  refine z_get S hK hin_State ma kC_8 rfl 2 (Nat.le_of_ble_eq_true rfl) (ht _ w_69) (fun _ h => h) d_State_doWrite_1 4 rfl (.ref (ad 14 a)) rfl ?_
  refine z_aload_n S d_State_doWrite_4 rfl 1 rfl 5 rfl ?_
  refine z_get S hK hin_Operation mw kC_7 rfl 0 (Nat.le_of_ble_eq_true rfl) (ht _ w_91) (fun _ h => h) d_State_doWrite_5 8 rfl (.int (s 7 0 w)) rfl ?_
  refine z_aload_n S d_State_doWrite_8 rfl 0 rfl 9 rfl ?_
  refine z_get S hK hin_State ma kC_8 rfl 0 (Nat.le_of_ble_eq_true rfl) (ht _ w_65) (fun _ h => h) d_State_doWrite_9 12 rfl (.ref (ad 9 a)) rfl ?_
  refine z_aload_n S d_State_doWrite_12 rfl 1 rfl 13 rfl ?_
  refine z_get S hK hin_Operation mw kC_7 rfl 3 (Nat.le_of_ble_eq_true rfl) (ht _ w_102) (fun _ h => h) d_State_doWrite_13 16 rfl (.int (s 7 3 w)) rfl ?_
  refine z_iald S hK (rl_s9 ma) 0 kC_9 rfl h3 d_State_doWrite_16 17 rfl (s 9 a ((s 7 3 w).toNatClampNeg)) rfl ?_
  refine z_iast S hJ hK (rl_s14 ma) 0 kC_14 rfl h0 rfl upI_14 d_State_doWrite_17 18 rfl ?_
  refine z_aload_n S d_State_doWrite_18 rfl 0 rfl 19 rfl ?_
  refine z_get S hK hin_State ma kC_8 rfl 0 (Nat.le_of_ble_eq_true rfl) (ht _ w_65) (fun _ h => h) d_State_doWrite_19 22 rfl (.ref (ad 9 a)) rfl ?_
  refine z_aload_n S d_State_doWrite_22 rfl 1 rfl 23 rfl ?_
  refine z_get S hK hin_Operation mw kC_7 rfl 3 (Nat.le_of_ble_eq_true rfl) (ht _ w_102) (fun _ h => h) d_State_doWrite_23 26 rfl (.int (s 7 3 w)) rfl ?_
  refine z_aload_n S d_State_doWrite_26 rfl 1 rfl 27 rfl ?_
  refine z_get S hK hin_Operation mw kC_7 rfl 4 (Nat.le_of_ble_eq_true rfl) (ht _ w_106) (fun _ h => h) d_State_doWrite_27 30 rfl (.int (s 7 4 w)) rfl ?_
  refine z_iast S hJ hK (rl_s9 ma) 0 kC_9 rfl h3 rfl upI_9 d_State_doWrite_30 31 rfl ?_
  refine z_aload_n S d_State_doWrite_31 rfl 0 rfl 32 rfl ?_
  refine z_get S hK hin_State ma kC_8 rfl 1 (Nat.le_of_ble_eq_true rfl) (ht _ w_67) (fun _ h => h) d_State_doWrite_32 35 rfl (.ref (ad 13 a)) rfl ?_
  refine z_aload_n S d_State_doWrite_35 rfl 1 rfl 36 rfl ?_
  refine z_get S hK hin_Operation mw kC_7 rfl 0 (Nat.le_of_ble_eq_true rfl) (ht _ w_91) (fun _ h => h) d_State_doWrite_36 39 rfl (.int (s 7 0 w)) rfl ?_
  refine z_aload_n S d_State_doWrite_39 rfl 1 rfl 40 rfl ?_
  refine z_get S hK hin_Operation mw kC_7 rfl 1 (Nat.le_of_ble_eq_true rfl) (ht _ w_95) (fun _ h => h) d_State_doWrite_40 43 rfl (.int (s 7 1 w)) rfl ?_
  refine z_iast S hJ hK (rl_s13 ma) 0 kC_13 rfl h0 rfl upI_13 d_State_doWrite_43 44 rfl ?_
  refine z_aload_n S d_State_doWrite_44 rfl 0 rfl 45 rfl ?_
  refine z_dup S d_State_doWrite_45 rfl 46 rfl ?_
  refine z_get S hK hin_State ma kC_8 rfl 3 (Nat.le_of_ble_eq_true rfl) (ht _ w_71) (fun _ h => h) d_State_doWrite_46 49 rfl (.int (s 8 3 a)) rfl ?_
  refine z_iconst S d_State_doWrite_49 1 (by decide) 50 rfl ?_
  refine z_iadd S d_State_doWrite_50 51 rfl ?_
  refine z_put S hJ hK hin_State t_State ok_State nm_State ma kC_8 rfl 3 (Nat.le_of_ble_eq_true rfl) (ht _ w_71) (fun _ h => h) rfl rfl rfl (Nat.le_of_ble_eq_true rfl) up_8_3 d_State_doWrite_51 54 rfl ?_
  exact z_vret S hr hlk d_State_doWrite_54 (kC_eq rfl)
theorem d_Server_isPrimary_0 : decode prog_6_method_2_code 0 = .ok (.aload_n 0, 1) := by decide +kernel
theorem d_Server_isPrimary_1 : decode prog_6_method_2_code 1 = .ok (.getfield 12, 3) := by decide +kernel
theorem d_Server_isPrimary_4 : decode prog_6_method_2_code 4 = .ok (.getfield 55, 3) := by decide +kernel
theorem d_Server_isPrimary_7 : decode prog_6_method_2_code 7 = .ok (.aload_n 0, 1) := by decide +kernel
theorem d_Server_isPrimary_8 : decode prog_6_method_2_code 8 = .ok (.getfield 52, 3) := by decide +kernel
theorem d_Server_isPrimary_11 : decode prog_6_method_2_code 11 = .ok (.if_icmp .ne 7, 3) := by decide +kernel
theorem d_Server_isPrimary_14 : decode prog_6_method_2_code 14 = .ok (.iconst 1, 1) := by decide +kernel
theorem d_Server_isPrimary_15 : decode prog_6_method_2_code 15 = .ok (.goto 4, 3) := by decide +kernel
theorem d_Server_isPrimary_18 : decode prog_6_method_2_code 18 = .ok (.iconst 0, 1) := by decide +kernel
theorem d_Server_isPrimary_19 : decode prog_6_method_2_code 19 = .ok (.ireturn, 1) := by decide +kernel
def v_Server_isPrimary (x0 : Int32) (x1 : Int32)  : Int32 := if (x0) = (x1) then 1 else 0
theorem zbv_Server_isPrimary {x0 : Int32} {x1 : Int32}  : zb (v_Server_isPrimary x0 x1 ) := by
  unfold v_Server_isPrimary zb
  repeat' split
  all_goals simp
set_option maxHeartbeats 4000000 in
set_option maxRecDepth 100000 in
theorem c_Server_isPrimary {l : Launch} {D : va_G} {K : Nat → ClassId} {ad : Nat → Nat → Nat} {n : Nat} {π : Nat → Nat} {s : S3} {i : Nat} (hJ : zw_J (cRL n) ad) (mi : (1, i) ∈ cRL n) : zM l y_Server_isPrimary ws_Server_isPrimary ({ frames := 0, cells := 0, slots := 0, locals := 0 }) D zCl (zTys K) (cRL n) ad [.ref (ad 1 i)] (kC K ad n s π) (some (.int (v_Server_isPrimary (s 6 1 i) (s 1 0 i)))) (kC K ad n (s) π) := by
  refine zM.of (cc := prog_6_method_2_code) (maxL := 1) (ret := (Option.some Jvm.ClassFile.FieldType.boolean)) (by decide) rfl (Nat.le_of_ble_eq_true rfl) ?_
  intro pP eE U mM bL mT cO S hr hlk hK
  have hts := S.2.2.2.2
  have ht := fun w h => hts w (List.mem_cons_of_mem _ h)
  refine z_aload_n S d_Server_isPrimary_0 rfl 0 rfl 1 rfl ?_
  refine z_get S hK hin_Server mi kC_1 rfl 1 (Nat.le_of_ble_eq_true rfl) (ht _ w_119) (fun _ h => h) d_Server_isPrimary_1 4 rfl (.ref (ad 6 i)) rfl ?_
  refine z_get S hK hin_View (rl_sv mi) kC_6 rfl 1 (Nat.le_of_ble_eq_true rfl) (ht _ w_45) (fun _ h => h) d_Server_isPrimary_4 7 rfl (.int (s 6 1 i)) rfl ?_
  refine z_aload_n S d_Server_isPrimary_7 rfl 0 rfl 8 rfl ?_
  refine z_get S hK hin_Server mi kC_1 rfl 0 (Nat.le_of_ble_eq_true rfl) (ht _ w_118) (fun _ h => h) d_Server_isPrimary_8 11 rfl (.int (s 1 0 i)) rfl ?_
  refine z_icmp_ne S d_Server_isPrimary_11 18 (by decide) 14 rfl (fun h1 => ?_) (fun h1 => ?_)
  · refine z_iconst S d_Server_isPrimary_18 0 (by decide) 19 rfl ?_
    exact z_zret S hr (zb_n zb_0) hlk d_Server_isPrimary_19 (by unfold v_Server_isPrimary; simp only [if_neg h1]) rfl
  · refine z_iconst S d_Server_isPrimary_14 1 (by decide) 15 rfl ?_
    refine z_goto S d_Server_isPrimary_15 19 (by decide) ?_
    exact z_zret S hr (zb_n zb_1) hlk d_Server_isPrimary_19 (by unfold v_Server_isPrimary; simp only [if_pos h1]) rfl
theorem d_Server_confirmedNumber_0 : decode prog_6_method_5_code 0 = .ok (.aload_n 0, 1) := by decide +kernel
theorem d_Server_confirmedNumber_1 : decode prog_6_method_5_code 1 = .ok (.invokevirtual 64, 3) := by decide +kernel
theorem d_Server_confirmedNumber_4 : decode prog_6_method_5_code 4 = .ok (.ifCond .eq 14, 3) := by decide +kernel
theorem d_Server_confirmedNumber_7 : decode prog_6_method_5_code 7 = .ok (.aload_n 0, 1) := by decide +kernel
theorem d_Server_confirmedNumber_8 : decode prog_6_method_5_code 8 = .ok (.getfield 43, 3) := by decide +kernel
theorem d_Server_confirmedNumber_11 : decode prog_6_method_5_code 11 = .ok (.ifCond .ne 7, 3) := by decide +kernel
theorem d_Server_confirmedNumber_14 : decode prog_6_method_5_code 14 = .ok (.iconst 0, 1) := by decide +kernel
theorem d_Server_confirmedNumber_15 : decode prog_6_method_5_code 15 = .ok (.goto 10, 3) := by decide +kernel
theorem d_Server_confirmedNumber_18 : decode prog_6_method_5_code 18 = .ok (.aload_n 0, 1) := by decide +kernel
theorem d_Server_confirmedNumber_19 : decode prog_6_method_5_code 19 = .ok (.getfield 12, 3) := by decide +kernel
theorem d_Server_confirmedNumber_22 : decode prog_6_method_5_code 22 = .ok (.getfield 58, 3) := by decide +kernel
theorem d_Server_confirmedNumber_25 : decode prog_6_method_5_code 25 = .ok (.ireturn, 1) := by decide +kernel
def v_Server_confirmedNumber (x0 : Int32) (x1 : Int32) (x2 : Int32) (x3 : Int32)  : Int32 := if (v_Server_isPrimary (x0) (x1)) = 0 then (x2) else if (x3) = 0 then 0 else (x2)
set_option maxHeartbeats 4000000 in
set_option maxRecDepth 100000 in
theorem c_Server_confirmedNumber {l : Launch} {D : va_G} {K : Nat → ClassId} {ad : Nat → Nat → Nat} {n : Nat} {π : Nat → Nat} {s : S3} {i : Nat} (hJ : zw_J (cRL n) ad) (mi : (1, i) ∈ cRL n) : zM l y_Server_confirmedNumber ws_Server_confirmedNumber ({ frames := 1, cells := 0, slots := 0, locals := 20 }) D zCl (zTys K) (cRL n) ad [.ref (ad 1 i)] (kC K ad n s π) (some (.int (v_Server_confirmedNumber (s 6 1 i) (s 1 0 i) (s 6 0 i) (s 1 7 i)))) (kC K ad n (s) π) := by
  refine zM.of (cc := prog_6_method_5_code) (maxL := 1) (ret := (Option.some Jvm.ClassFile.FieldType.int)) (by decide) rfl (Nat.le_of_ble_eq_true rfl) ?_
  intro pP eE U mM bL mT cO S hr hlk hK
  have hts := S.2.2.2.2
  have ht := fun w h => hts w (List.mem_cons_of_mem _ h)
  refine z_aload_n S d_Server_confirmedNumber_0 rfl 0 rfl 1 rfl ?_
  refine z_callV S hK (As := []) (rest := []) (c_Server_isPrimary (i := i) hJ mi) (cw_Server_isPrimary hts w_318 rfl rfl ⟨(Nat.le_of_ble_eq_true rfl), (Nat.le_of_ble_eq_true rfl)⟩) mi kC_1 rfl rfl rfl (Nat.le_of_ble_eq_true rfl) d_Server_confirmedNumber_1 4 rfl [.int (v_Server_isPrimary (s 6 1 i) (s 1 0 i))] rfl ?_
  refine z_if_eq S d_Server_confirmedNumber_4 18 (by decide) 7 rfl (fun h1 => ?_) (fun h1 => ?_)
  · refine z_aload_n S d_Server_confirmedNumber_18 rfl 0 rfl 19 rfl ?_
    refine z_get S hK hin_Server mi kC_1 rfl 1 (Nat.le_of_ble_eq_true rfl) (ht _ w_119) (fun _ h => h) d_Server_confirmedNumber_19 22 rfl (.ref (ad 6 i)) rfl ?_
    refine z_get S hK hin_View (rl_sv mi) kC_6 rfl 0 (Nat.le_of_ble_eq_true rfl) (ht _ w_42) (fun _ h => h) d_Server_confirmedNumber_22 25 rfl (.int (s 6 0 i)) rfl ?_
    exact z_iret S hr hlk d_Server_confirmedNumber_25 (by unfold v_Server_confirmedNumber; simp only [if_pos h1]) rfl
  · refine z_aload_n S d_Server_confirmedNumber_7 rfl 0 rfl 8 rfl ?_
    refine z_get S hK hin_Server mi kC_1 rfl 7 (Nat.le_of_ble_eq_true rfl) (ht _ w_131) (fun _ h => h) d_Server_confirmedNumber_8 11 rfl (.int (s 1 7 i)) rfl ?_
    refine z_if_ne S d_Server_confirmedNumber_11 18 (by decide) 14 rfl (fun h2 => ?_) (fun h2 => ?_)
    · refine z_aload_n S d_Server_confirmedNumber_18 rfl 0 rfl 19 rfl ?_
      refine z_get S hK hin_Server mi kC_1 rfl 1 (Nat.le_of_ble_eq_true rfl) (ht _ w_119) (fun _ h => h) d_Server_confirmedNumber_19 22 rfl (.ref (ad 6 i)) rfl ?_
      refine z_get S hK hin_View (rl_sv mi) kC_6 rfl 0 (Nat.le_of_ble_eq_true rfl) (ht _ w_42) (fun _ h => h) d_Server_confirmedNumber_22 25 rfl (.int (s 6 0 i)) rfl ?_
      exact z_iret S hr hlk d_Server_confirmedNumber_25 (by unfold v_Server_confirmedNumber; simp only [if_neg h1, if_neg h2]) rfl
    · refine z_iconst S d_Server_confirmedNumber_14 0 (by decide) 15 rfl ?_
      refine z_goto S d_Server_confirmedNumber_15 25 (by decide) ?_
      exact z_iret S hr hlk d_Server_confirmedNumber_25 (by unfold v_Server_confirmedNumber; simp only [if_neg h1, if_pos h2]) rfl
theorem d_Server_liveRole_0 : decode prog_6_method_6_code 0 = .ok (.aload_n 0, 1) := by decide +kernel
theorem d_Server_liveRole_1 : decode prog_6_method_6_code 1 = .ok (.getfield 12, 3) := by decide +kernel
theorem d_Server_liveRole_4 : decode prog_6_method_6_code 4 = .ok (.getfield 58, 3) := by decide +kernel
theorem d_Server_liveRole_7 : decode prog_6_method_6_code 7 = .ok (.ifCond .ne 5, 3) := by decide +kernel
theorem d_Server_liveRole_10 : decode prog_6_method_6_code 10 = .ok (.iconst 0, 1) := by decide +kernel
theorem d_Server_liveRole_11 : decode prog_6_method_6_code 11 = .ok (.ireturn, 1) := by decide +kernel
theorem d_Server_liveRole_12 : decode prog_6_method_6_code 12 = .ok (.aload_n 0, 1) := by decide +kernel
theorem d_Server_liveRole_13 : decode prog_6_method_6_code 13 = .ok (.getfield 12, 3) := by decide +kernel
theorem d_Server_liveRole_16 : decode prog_6_method_6_code 16 = .ok (.getfield 55, 3) := by decide +kernel
theorem d_Server_liveRole_19 : decode prog_6_method_6_code 19 = .ok (.aload_n 0, 1) := by decide +kernel
theorem d_Server_liveRole_20 : decode prog_6_method_6_code 20 = .ok (.getfield 52, 3) := by decide +kernel
theorem d_Server_liveRole_23 : decode prog_6_method_6_code 23 = .ok (.if_icmp .ne 25, 3) := by decide +kernel
theorem d_Server_liveRole_26 : decode prog_6_method_6_code 26 = .ok (.aload_n 0, 1) := by decide +kernel
theorem d_Server_liveRole_27 : decode prog_6_method_6_code 27 = .ok (.getfield 43, 3) := by decide +kernel
theorem d_Server_liveRole_30 : decode prog_6_method_6_code 30 = .ok (.ifCond .ne 5, 3) := by decide +kernel
theorem d_Server_liveRole_33 : decode prog_6_method_6_code 33 = .ok (.iconst 2, 1) := by decide +kernel
theorem d_Server_liveRole_34 : decode prog_6_method_6_code 34 = .ok (.ireturn, 1) := by decide +kernel
theorem d_Server_liveRole_35 : decode prog_6_method_6_code 35 = .ok (.aload_n 0, 1) := by decide +kernel
theorem d_Server_liveRole_36 : decode prog_6_method_6_code 36 = .ok (.getfield 46, 3) := by decide +kernel
theorem d_Server_liveRole_39 : decode prog_6_method_6_code 39 = .ok (.ifCond .eq 7, 3) := by decide +kernel
theorem d_Server_liveRole_42 : decode prog_6_method_6_code 42 = .ok (.iconst 3, 1) := by decide +kernel
theorem d_Server_liveRole_43 : decode prog_6_method_6_code 43 = .ok (.goto 4, 3) := by decide +kernel
theorem d_Server_liveRole_46 : decode prog_6_method_6_code 46 = .ok (.iconst 1, 1) := by decide +kernel
theorem d_Server_liveRole_47 : decode prog_6_method_6_code 47 = .ok (.ireturn, 1) := by decide +kernel
theorem d_Server_liveRole_48 : decode prog_6_method_6_code 48 = .ok (.aload_n 0, 1) := by decide +kernel
theorem d_Server_liveRole_49 : decode prog_6_method_6_code 49 = .ok (.getfield 12, 3) := by decide +kernel
theorem d_Server_liveRole_52 : decode prog_6_method_6_code 52 = .ok (.getfield 61, 3) := by decide +kernel
theorem d_Server_liveRole_55 : decode prog_6_method_6_code 55 = .ok (.aload_n 0, 1) := by decide +kernel
theorem d_Server_liveRole_56 : decode prog_6_method_6_code 56 = .ok (.getfield 52, 3) := by decide +kernel
theorem d_Server_liveRole_59 : decode prog_6_method_6_code 59 = .ok (.if_icmp .ne 16, 3) := by decide +kernel
theorem d_Server_liveRole_62 : decode prog_6_method_6_code 62 = .ok (.aload_n 0, 1) := by decide +kernel
theorem d_Server_liveRole_63 : decode prog_6_method_6_code 63 = .ok (.getfield 49, 3) := by decide +kernel
theorem d_Server_liveRole_66 : decode prog_6_method_6_code 66 = .ok (.ifCond .eq 7, 3) := by decide +kernel
theorem d_Server_liveRole_69 : decode prog_6_method_6_code 69 = .ok (.iconst 4, 1) := by decide +kernel
theorem d_Server_liveRole_70 : decode prog_6_method_6_code 70 = .ok (.goto 4, 3) := by decide +kernel
theorem d_Server_liveRole_73 : decode prog_6_method_6_code 73 = .ok (.iconst 5, 1) := by decide +kernel
theorem d_Server_liveRole_74 : decode prog_6_method_6_code 74 = .ok (.ireturn, 1) := by decide +kernel
theorem d_Server_liveRole_75 : decode prog_6_method_6_code 75 = .ok (.bipush 6, 2) := by decide +kernel
theorem d_Server_liveRole_77 : decode prog_6_method_6_code 77 = .ok (.ireturn, 1) := by decide +kernel
def v_Server_liveRole (x0 : Int32) (x1 : Int32) (x2 : Int32) (x3 : Int32) (x4 : Int32) (x5 : Int32) (x6 : Int32)  : Int32 := if (x0) = 0 then 0 else if (x1) = (x2) then (if (x3) = 0 then 2 else if (x4) = 0 then 1 else 3) else if (x5) = (x2) then (if (x6) = 0 then 5 else 4) else 6
set_option maxHeartbeats 4000000 in
set_option maxRecDepth 100000 in
theorem c_Server_liveRole {l : Launch} {D : va_G} {K : Nat → ClassId} {ad : Nat → Nat → Nat} {n : Nat} {π : Nat → Nat} {s : S3} {i : Nat} (hJ : zw_J (cRL n) ad) (mi : (1, i) ∈ cRL n) : zM l y_Server_liveRole ws_Server_liveRole ({ frames := 0, cells := 0, slots := 0, locals := 0 }) D zCl (zTys K) (cRL n) ad [.ref (ad 1 i)] (kC K ad n s π) (some (.int (v_Server_liveRole (s 6 0 i) (s 6 1 i) (s 1 0 i) (s 1 7 i) (s 1 8 i) (s 6 2 i) (s 1 9 i)))) (kC K ad n (s) π) := by
  refine zM.of (cc := prog_6_method_6_code) (maxL := 1) (ret := (Option.some Jvm.ClassFile.FieldType.int)) (by decide) rfl (Nat.le_of_ble_eq_true rfl) ?_
  intro pP eE U mM bL mT cO S hr hlk hK
  have hts := S.2.2.2.2
  have ht := fun w h => hts w (List.mem_cons_of_mem _ h)
  refine z_aload_n S d_Server_liveRole_0 rfl 0 rfl 1 rfl ?_
  refine z_get S hK hin_Server mi kC_1 rfl 1 (Nat.le_of_ble_eq_true rfl) (ht _ w_119) (fun _ h => h) d_Server_liveRole_1 4 rfl (.ref (ad 6 i)) rfl ?_
  refine z_get S hK hin_View (rl_sv mi) kC_6 rfl 0 (Nat.le_of_ble_eq_true rfl) (ht _ w_42) (fun _ h => h) d_Server_liveRole_4 7 rfl (.int (s 6 0 i)) rfl ?_
  refine z_if_ne S d_Server_liveRole_7 12 (by decide) 10 rfl (fun h1 => ?_) (fun h1 => ?_)
  · refine z_aload_n S d_Server_liveRole_12 rfl 0 rfl 13 rfl ?_
    refine z_get S hK hin_Server mi kC_1 rfl 1 (Nat.le_of_ble_eq_true rfl) (ht _ w_119) (fun _ h => h) d_Server_liveRole_13 16 rfl (.ref (ad 6 i)) rfl ?_
    refine z_get S hK hin_View (rl_sv mi) kC_6 rfl 1 (Nat.le_of_ble_eq_true rfl) (ht _ w_45) (fun _ h => h) d_Server_liveRole_16 19 rfl (.int (s 6 1 i)) rfl ?_
    refine z_aload_n S d_Server_liveRole_19 rfl 0 rfl 20 rfl ?_
    refine z_get S hK hin_Server mi kC_1 rfl 0 (Nat.le_of_ble_eq_true rfl) (ht _ w_118) (fun _ h => h) d_Server_liveRole_20 23 rfl (.int (s 1 0 i)) rfl ?_
    refine z_icmp_ne S d_Server_liveRole_23 48 (by decide) 26 rfl (fun h2 => ?_) (fun h2 => ?_)
    · refine z_aload_n S d_Server_liveRole_48 rfl 0 rfl 49 rfl ?_
      refine z_get S hK hin_Server mi kC_1 rfl 1 (Nat.le_of_ble_eq_true rfl) (ht _ w_119) (fun _ h => h) d_Server_liveRole_49 52 rfl (.ref (ad 6 i)) rfl ?_
      refine z_get S hK hin_View (rl_sv mi) kC_6 rfl 2 (Nat.le_of_ble_eq_true rfl) (ht _ w_50) (fun _ h => h) d_Server_liveRole_52 55 rfl (.int (s 6 2 i)) rfl ?_
      refine z_aload_n S d_Server_liveRole_55 rfl 0 rfl 56 rfl ?_
      refine z_get S hK hin_Server mi kC_1 rfl 0 (Nat.le_of_ble_eq_true rfl) (ht _ w_118) (fun _ h => h) d_Server_liveRole_56 59 rfl (.int (s 1 0 i)) rfl ?_
      refine z_icmp_ne S d_Server_liveRole_59 75 (by decide) 62 rfl (fun h3 => ?_) (fun h3 => ?_)
      · refine z_bipush S d_Server_liveRole_75 6 (by decide) 77 rfl ?_
        exact z_iret S hr hlk d_Server_liveRole_77 (by unfold v_Server_liveRole; simp only [if_neg h1, if_neg h2, if_neg h3]) rfl
      · refine z_aload_n S d_Server_liveRole_62 rfl 0 rfl 63 rfl ?_
        refine z_get S hK hin_Server mi kC_1 rfl 9 (Nat.le_of_ble_eq_true rfl) (ht _ w_135) (fun _ h => h) d_Server_liveRole_63 66 rfl (.int (s 1 9 i)) rfl ?_
        refine z_if_eq S d_Server_liveRole_66 73 (by decide) 69 rfl (fun h4 => ?_) (fun h4 => ?_)
        · refine z_iconst S d_Server_liveRole_73 5 (by decide) 74 rfl ?_
          exact z_iret S hr hlk d_Server_liveRole_74 (by unfold v_Server_liveRole; simp only [if_neg h1, if_neg h2, if_pos h3, if_pos h4]) rfl
        · refine z_iconst S d_Server_liveRole_69 4 (by decide) 70 rfl ?_
          refine z_goto S d_Server_liveRole_70 74 (by decide) ?_
          exact z_iret S hr hlk d_Server_liveRole_74 (by unfold v_Server_liveRole; simp only [if_neg h1, if_neg h2, if_pos h3, if_neg h4]) rfl
    · refine z_aload_n S d_Server_liveRole_26 rfl 0 rfl 27 rfl ?_
      refine z_get S hK hin_Server mi kC_1 rfl 7 (Nat.le_of_ble_eq_true rfl) (ht _ w_131) (fun _ h => h) d_Server_liveRole_27 30 rfl (.int (s 1 7 i)) rfl ?_
      refine z_if_ne S d_Server_liveRole_30 35 (by decide) 33 rfl (fun h5 => ?_) (fun h5 => ?_)
      · refine z_aload_n S d_Server_liveRole_35 rfl 0 rfl 36 rfl ?_
        refine z_get S hK hin_Server mi kC_1 rfl 8 (Nat.le_of_ble_eq_true rfl) (ht _ w_133) (fun _ h => h) d_Server_liveRole_36 39 rfl (.int (s 1 8 i)) rfl ?_
        refine z_if_eq S d_Server_liveRole_39 46 (by decide) 42 rfl (fun h6 => ?_) (fun h6 => ?_)
        · refine z_iconst S d_Server_liveRole_46 1 (by decide) 47 rfl ?_
          exact z_iret S hr hlk d_Server_liveRole_47 (by unfold v_Server_liveRole; simp only [if_neg h1, if_pos h2, if_neg h5, if_pos h6]) rfl
        · refine z_iconst S d_Server_liveRole_42 3 (by decide) 43 rfl ?_
          refine z_goto S d_Server_liveRole_43 47 (by decide) ?_
          exact z_iret S hr hlk d_Server_liveRole_47 (by unfold v_Server_liveRole; simp only [if_neg h1, if_pos h2, if_neg h5, if_neg h6]) rfl
      · refine z_iconst S d_Server_liveRole_33 2 (by decide) 34 rfl ?_
        exact z_iret S hr hlk d_Server_liveRole_34 (by unfold v_Server_liveRole; simp only [if_neg h1, if_pos h2, if_pos h5]) rfl
  · refine z_iconst S d_Server_liveRole_10 0 (by decide) 11 rfl ?_
    exact z_iret S hr hlk d_Server_liveRole_11 (by unfold v_Server_liveRole; simp only [if_pos h1]) rfl
theorem d_Server_isPrimaryOf_0 : decode prog_6_method_3_code 0 = .ok (.aload_n 0, 1) := by decide +kernel
theorem d_Server_isPrimaryOf_1 : decode prog_6_method_3_code 1 = .ok (.getfield 12, 3) := by decide +kernel
theorem d_Server_isPrimaryOf_4 : decode prog_6_method_3_code 4 = .ok (.getfield 58, 3) := by decide +kernel
theorem d_Server_isPrimaryOf_7 : decode prog_6_method_3_code 7 = .ok (.iload_n 1, 1) := by decide +kernel
theorem d_Server_isPrimaryOf_8 : decode prog_6_method_3_code 8 = .ok (.if_icmp .ne 21, 3) := by decide +kernel
theorem d_Server_isPrimaryOf_11 : decode prog_6_method_3_code 11 = .ok (.aload_n 0, 1) := by decide +kernel
theorem d_Server_isPrimaryOf_12 : decode prog_6_method_3_code 12 = .ok (.getfield 12, 3) := by decide +kernel
theorem d_Server_isPrimaryOf_15 : decode prog_6_method_3_code 15 = .ok (.getfield 55, 3) := by decide +kernel
theorem d_Server_isPrimaryOf_18 : decode prog_6_method_3_code 18 = .ok (.aload_n 0, 1) := by decide +kernel
theorem d_Server_isPrimaryOf_19 : decode prog_6_method_3_code 19 = .ok (.getfield 52, 3) := by decide +kernel
theorem d_Server_isPrimaryOf_22 : decode prog_6_method_3_code 22 = .ok (.if_icmp .ne 7, 3) := by decide +kernel
theorem d_Server_isPrimaryOf_25 : decode prog_6_method_3_code 25 = .ok (.iconst 1, 1) := by decide +kernel
theorem d_Server_isPrimaryOf_26 : decode prog_6_method_3_code 26 = .ok (.goto 4, 3) := by decide +kernel
theorem d_Server_isPrimaryOf_29 : decode prog_6_method_3_code 29 = .ok (.iconst 0, 1) := by decide +kernel
theorem d_Server_isPrimaryOf_30 : decode prog_6_method_3_code 30 = .ok (.ireturn, 1) := by decide +kernel
def v_Server_isPrimaryOf (x0 : Int32) (x1 : Int32) (x2 : Int32) (x : Int32) : Int32 := if (x0) = x then (if (x1) = (x2) then 1 else 0) else 0
theorem zbv_Server_isPrimaryOf {x0 : Int32} {x1 : Int32} {x2 : Int32} {x : Int32} : zb (v_Server_isPrimaryOf x0 x1 x2 x) := by
  unfold v_Server_isPrimaryOf zb
  repeat' split
  all_goals simp
set_option maxHeartbeats 4000000 in
set_option maxRecDepth 100000 in
theorem c_Server_isPrimaryOf {l : Launch} {D : va_G} {K : Nat → ClassId} {ad : Nat → Nat → Nat} {n : Nat} {π : Nat → Nat} {s : S3} {i : Nat} {x : Int32} (hJ : zw_J (cRL n) ad) (mi : (1, i) ∈ cRL n) : zM l y_Server_isPrimaryOf ws_Server_isPrimaryOf ({ frames := 0, cells := 0, slots := 0, locals := 0 }) D zCl (zTys K) (cRL n) ad [.ref (ad 1 i), .int x] (kC K ad n s π) (some (.int (v_Server_isPrimaryOf (s 6 0 i) (s 6 1 i) (s 1 0 i) x))) (kC K ad n (s) π) := by
  refine zM.of (cc := prog_6_method_3_code) (maxL := 2) (ret := (Option.some Jvm.ClassFile.FieldType.boolean)) (by decide) rfl (Nat.le_of_ble_eq_true rfl) ?_
  intro pP eE U mM bL mT cO S hr hlk hK
  have hts := S.2.2.2.2
  have ht := fun w h => hts w (List.mem_cons_of_mem _ h)
  refine z_aload_n S d_Server_isPrimaryOf_0 rfl 0 rfl 1 rfl ?_
  refine z_get S hK hin_Server mi kC_1 rfl 1 (Nat.le_of_ble_eq_true rfl) (ht _ w_119) (fun _ h => h) d_Server_isPrimaryOf_1 4 rfl (.ref (ad 6 i)) rfl ?_
  refine z_get S hK hin_View (rl_sv mi) kC_6 rfl 0 (Nat.le_of_ble_eq_true rfl) (ht _ w_42) (fun _ h => h) d_Server_isPrimaryOf_4 7 rfl (.int (s 6 0 i)) rfl ?_
  refine z_iload_n S d_Server_isPrimaryOf_7 rfl 1 rfl 8 rfl ?_
  refine z_icmp_ne S d_Server_isPrimaryOf_8 29 (by decide) 11 rfl (fun h1 => ?_) (fun h1 => ?_)
  · refine z_iconst S d_Server_isPrimaryOf_29 0 (by decide) 30 rfl ?_
    exact z_zret S hr (zb_n zb_0) hlk d_Server_isPrimaryOf_30 (by unfold v_Server_isPrimaryOf; simp only [if_neg h1]) rfl
  · refine z_aload_n S d_Server_isPrimaryOf_11 rfl 0 rfl 12 rfl ?_
    refine z_get S hK hin_Server mi kC_1 rfl 1 (Nat.le_of_ble_eq_true rfl) (ht _ w_119) (fun _ h => h) d_Server_isPrimaryOf_12 15 rfl (.ref (ad 6 i)) rfl ?_
    refine z_get S hK hin_View (rl_sv mi) kC_6 rfl 1 (Nat.le_of_ble_eq_true rfl) (ht _ w_45) (fun _ h => h) d_Server_isPrimaryOf_15 18 rfl (.int (s 6 1 i)) rfl ?_
    refine z_aload_n S d_Server_isPrimaryOf_18 rfl 0 rfl 19 rfl ?_
    refine z_get S hK hin_Server mi kC_1 rfl 0 (Nat.le_of_ble_eq_true rfl) (ht _ w_118) (fun _ h => h) d_Server_isPrimaryOf_19 22 rfl (.int (s 1 0 i)) rfl ?_
    refine z_icmp_ne S d_Server_isPrimaryOf_22 29 (by decide) 25 rfl (fun h2 => ?_) (fun h2 => ?_)
    · refine z_iconst S d_Server_isPrimaryOf_29 0 (by decide) 30 rfl ?_
      exact z_zret S hr (zb_n zb_0) hlk d_Server_isPrimaryOf_30 (by unfold v_Server_isPrimaryOf; simp only [if_pos h1, if_neg h2]) rfl
    · refine z_iconst S d_Server_isPrimaryOf_25 1 (by decide) 26 rfl ?_
      refine z_goto S d_Server_isPrimaryOf_26 30 (by decide) ?_
      exact z_zret S hr (zb_n zb_1) hlk d_Server_isPrimaryOf_30 (by unfold v_Server_isPrimaryOf; simp only [if_pos h1, if_pos h2]) rfl
theorem d_Server_isBackupOf_0 : decode prog_6_method_4_code 0 = .ok (.aload_n 0, 1) := by decide +kernel
theorem d_Server_isBackupOf_1 : decode prog_6_method_4_code 1 = .ok (.getfield 12, 3) := by decide +kernel
theorem d_Server_isBackupOf_4 : decode prog_6_method_4_code 4 = .ok (.getfield 58, 3) := by decide +kernel
theorem d_Server_isBackupOf_7 : decode prog_6_method_4_code 7 = .ok (.iload_n 1, 1) := by decide +kernel
theorem d_Server_isBackupOf_8 : decode prog_6_method_4_code 8 = .ok (.if_icmp .ne 21, 3) := by decide +kernel
theorem d_Server_isBackupOf_11 : decode prog_6_method_4_code 11 = .ok (.aload_n 0, 1) := by decide +kernel
theorem d_Server_isBackupOf_12 : decode prog_6_method_4_code 12 = .ok (.getfield 12, 3) := by decide +kernel
theorem d_Server_isBackupOf_15 : decode prog_6_method_4_code 15 = .ok (.getfield 61, 3) := by decide +kernel
theorem d_Server_isBackupOf_18 : decode prog_6_method_4_code 18 = .ok (.aload_n 0, 1) := by decide +kernel
theorem d_Server_isBackupOf_19 : decode prog_6_method_4_code 19 = .ok (.getfield 52, 3) := by decide +kernel
theorem d_Server_isBackupOf_22 : decode prog_6_method_4_code 22 = .ok (.if_icmp .ne 7, 3) := by decide +kernel
theorem d_Server_isBackupOf_25 : decode prog_6_method_4_code 25 = .ok (.iconst 1, 1) := by decide +kernel
theorem d_Server_isBackupOf_26 : decode prog_6_method_4_code 26 = .ok (.goto 4, 3) := by decide +kernel
theorem d_Server_isBackupOf_29 : decode prog_6_method_4_code 29 = .ok (.iconst 0, 1) := by decide +kernel
theorem d_Server_isBackupOf_30 : decode prog_6_method_4_code 30 = .ok (.ireturn, 1) := by decide +kernel
def v_Server_isBackupOf (x0 : Int32) (x1 : Int32) (x2 : Int32) (x : Int32) : Int32 := if (x0) = x then (if (x1) = (x2) then 1 else 0) else 0
theorem zbv_Server_isBackupOf {x0 : Int32} {x1 : Int32} {x2 : Int32} {x : Int32} : zb (v_Server_isBackupOf x0 x1 x2 x) := by
  unfold v_Server_isBackupOf zb
  repeat' split
  all_goals simp
set_option maxHeartbeats 4000000 in
set_option maxRecDepth 100000 in
theorem c_Server_isBackupOf {l : Launch} {D : va_G} {K : Nat → ClassId} {ad : Nat → Nat → Nat} {n : Nat} {π : Nat → Nat} {s : S3} {i : Nat} {x : Int32} (hJ : zw_J (cRL n) ad) (mi : (1, i) ∈ cRL n) : zM l y_Server_isBackupOf ws_Server_isBackupOf ({ frames := 0, cells := 0, slots := 0, locals := 0 }) D zCl (zTys K) (cRL n) ad [.ref (ad 1 i), .int x] (kC K ad n s π) (some (.int (v_Server_isBackupOf (s 6 0 i) (s 6 2 i) (s 1 0 i) x))) (kC K ad n (s) π) := by
  refine zM.of (cc := prog_6_method_4_code) (maxL := 2) (ret := (Option.some Jvm.ClassFile.FieldType.boolean)) (by decide) rfl (Nat.le_of_ble_eq_true rfl) ?_
  intro pP eE U mM bL mT cO S hr hlk hK
  have hts := S.2.2.2.2
  have ht := fun w h => hts w (List.mem_cons_of_mem _ h)
  refine z_aload_n S d_Server_isBackupOf_0 rfl 0 rfl 1 rfl ?_
  refine z_get S hK hin_Server mi kC_1 rfl 1 (Nat.le_of_ble_eq_true rfl) (ht _ w_119) (fun _ h => h) d_Server_isBackupOf_1 4 rfl (.ref (ad 6 i)) rfl ?_
  refine z_get S hK hin_View (rl_sv mi) kC_6 rfl 0 (Nat.le_of_ble_eq_true rfl) (ht _ w_42) (fun _ h => h) d_Server_isBackupOf_4 7 rfl (.int (s 6 0 i)) rfl ?_
  refine z_iload_n S d_Server_isBackupOf_7 rfl 1 rfl 8 rfl ?_
  refine z_icmp_ne S d_Server_isBackupOf_8 29 (by decide) 11 rfl (fun h1 => ?_) (fun h1 => ?_)
  · refine z_iconst S d_Server_isBackupOf_29 0 (by decide) 30 rfl ?_
    exact z_zret S hr (zb_n zb_0) hlk d_Server_isBackupOf_30 (by unfold v_Server_isBackupOf; simp only [if_neg h1]) rfl
  · refine z_aload_n S d_Server_isBackupOf_11 rfl 0 rfl 12 rfl ?_
    refine z_get S hK hin_Server mi kC_1 rfl 1 (Nat.le_of_ble_eq_true rfl) (ht _ w_119) (fun _ h => h) d_Server_isBackupOf_12 15 rfl (.ref (ad 6 i)) rfl ?_
    refine z_get S hK hin_View (rl_sv mi) kC_6 rfl 2 (Nat.le_of_ble_eq_true rfl) (ht _ w_50) (fun _ h => h) d_Server_isBackupOf_15 18 rfl (.int (s 6 2 i)) rfl ?_
    refine z_aload_n S d_Server_isBackupOf_18 rfl 0 rfl 19 rfl ?_
    refine z_get S hK hin_Server mi kC_1 rfl 0 (Nat.le_of_ble_eq_true rfl) (ht _ w_118) (fun _ h => h) d_Server_isBackupOf_19 22 rfl (.int (s 1 0 i)) rfl ?_
    refine z_icmp_ne S d_Server_isBackupOf_22 29 (by decide) 25 rfl (fun h2 => ?_) (fun h2 => ?_)
    · refine z_iconst S d_Server_isBackupOf_29 0 (by decide) 30 rfl ?_
      exact z_zret S hr (zb_n zb_0) hlk d_Server_isBackupOf_30 (by unfold v_Server_isBackupOf; simp only [if_pos h1, if_neg h2]) rfl
    · refine z_iconst S d_Server_isBackupOf_25 1 (by decide) 26 rfl ?_
      refine z_goto S d_Server_isBackupOf_26 30 (by decide) ?_
      exact z_zret S hr (zb_n zb_1) hlk d_Server_isBackupOf_30 (by unfold v_Server_isBackupOf; simp only [if_pos h1, if_pos h2]) rfl
theorem d_Client_start_0 : decode prog_2_method_2_code 0 = .ok (.aload_n 0, 1) := by decide +kernel
theorem d_Client_start_1 : decode prog_2_method_2_code 1 = .ok (.getfield 10, 3) := by decide +kernel
theorem d_Client_start_4 : decode prog_2_method_2_code 4 = .ok (.dup, 1) := by decide +kernel
theorem d_Client_start_5 : decode prog_2_method_2_code 5 = .ok (.getfield 30, 3) := by decide +kernel
theorem d_Client_start_8 : decode prog_2_method_2_code 8 = .ok (.iconst 1, 1) := by decide +kernel
theorem d_Client_start_9 : decode prog_2_method_2_code 9 = .ok (.iadd, 1) := by decide +kernel
theorem d_Client_start_10 : decode prog_2_method_2_code 10 = .ok (.putfield 30, 3) := by decide +kernel
theorem d_Client_start_13 : decode prog_2_method_2_code 13 = .ok (.aload_n 0, 1) := by decide +kernel
theorem d_Client_start_14 : decode prog_2_method_2_code 14 = .ok (.getfield 10, 3) := by decide +kernel
theorem d_Client_start_17 : decode prog_2_method_2_code 17 = .ok (.iload_n 1, 1) := by decide +kernel
theorem d_Client_start_18 : decode prog_2_method_2_code 18 = .ok (.putfield 33, 3) := by decide +kernel
theorem d_Client_start_21 : decode prog_2_method_2_code 21 = .ok (.aload_n 0, 1) := by decide +kernel
theorem d_Client_start_22 : decode prog_2_method_2_code 22 = .ok (.getfield 10, 3) := by decide +kernel
theorem d_Client_start_25 : decode prog_2_method_2_code 25 = .ok (.iload_n 2, 1) := by decide +kernel
theorem d_Client_start_26 : decode prog_2_method_2_code 26 = .ok (.putfield 36, 3) := by decide +kernel
theorem d_Client_start_29 : decode prog_2_method_2_code 29 = .ok (.aload_n 0, 1) := by decide +kernel
theorem d_Client_start_30 : decode prog_2_method_2_code 30 = .ok (.getfield 10, 3) := by decide +kernel
theorem d_Client_start_33 : decode prog_2_method_2_code 33 = .ok (.iload_n 3, 1) := by decide +kernel
theorem d_Client_start_34 : decode prog_2_method_2_code 34 = .ok (.putfield 39, 3) := by decide +kernel
theorem d_Client_start_37 : decode prog_2_method_2_code 37 = .ok (.aload_n 0, 1) := by decide +kernel
theorem d_Client_start_38 : decode prog_2_method_2_code 38 = .ok (.iconst 1, 1) := by decide +kernel
theorem d_Client_start_39 : decode prog_2_method_2_code 39 = .ok (.putfield 16, 3) := by decide +kernel
theorem d_Client_start_42 : decode prog_2_method_2_code 42 = .ok (.return_, 1) := by decide +kernel
def S_Client_start (π : Nat → Nat) (s : S3) (c : Nat) (w : Int32) (k : Int32) (v : Int32) : S3 := u3 (u3 (u3 (u3 (u3 s 7 1 (5 + c) ((s 7 1 (5 + c)) + 1)) 7 2 (5 + c) w) 7 3 (5 + c) k) 7 4 (5 + c) v) 2 1 c 1
set_option maxHeartbeats 4000000 in
set_option maxRecDepth 100000 in
theorem c_Client_start {l : Launch} {D : va_G} {K : Nat → ClassId} {ad : Nat → Nat → Nat} {n : Nat} {π : Nat → Nat} {s : S3} {c : Nat} {w k v : Int32} (hJ : zw_J (cRL n) ad) (mc : (2, c) ∈ cRL n) (hz : zb w) : zM l y_Client_start ws_Client_start ({ frames := 0, cells := 0, slots := 0, locals := 0 }) D zCl (zTys K) (cRL n) ad [.ref (ad 2 c), .int w, .int k, .int v] (kC K ad n s π) (none) (kC K ad n (S_Client_start π s c w k v) π) := by
  refine zM.of (cc := prog_2_method_2_code) (maxL := 4) (ret := (Option.none : Option Jvm.ClassFile.FieldType)) (by decide) rfl (Nat.le_of_ble_eq_true rfl) ?_
  intro pP eE U mM bL mT cO S hr hlk hK
  have hts := S.2.2.2.2
  have ht := fun w h => hts w (List.mem_cons_of_mem _ h)
  refine z_aload_n S d_Client_start_0 rfl 0 rfl 1 rfl ?_
  refine z_get S hK hin_Client mc kC_2 rfl 0 (Nat.le_of_ble_eq_true rfl) (ht _ w_167) (fun _ h => h) d_Client_start_1 4 rfl (.ref (ad 7 (5 + c))) rfl ?_
  refine z_dup S d_Client_start_4 rfl 5 rfl ?_
  refine z_get S hK hin_Operation (rl_co mc) kC_7 rfl 1 (Nat.le_of_ble_eq_true rfl) (ht _ w_94) (fun _ h => h) d_Client_start_5 8 rfl (.int (s 7 1 (5 + c))) rfl ?_
  refine z_iconst S d_Client_start_8 1 (by decide) 9 rfl ?_
  refine z_iadd S d_Client_start_9 10 rfl ?_
  refine z_put S hJ hK hin_Operation t_Operation ok_Operation nm_Operation (rl_co mc) kC_7 rfl 1 (Nat.le_of_ble_eq_true rfl) (ht _ w_94) (fun _ h => h) rfl rfl rfl (Nat.le_of_ble_eq_true rfl) up_7_1 d_Client_start_10 13 rfl ?_
  refine z_aload_n S d_Client_start_13 rfl 0 rfl 14 rfl ?_
  refine z_get S hK hin_Client mc kC_2 rfl 0 (Nat.le_of_ble_eq_true rfl) (ht _ w_167) (fun _ h => h) d_Client_start_14 17 rfl (.ref (ad 7 (5 + c))) rfl ?_
  refine z_iload_n S d_Client_start_17 rfl 1 rfl 18 rfl ?_
  refine z_put S hJ hK hin_Operation t_Operation ok_Operation nm_Operation (rl_co mc) kC_7 rfl 2 (Nat.le_of_ble_eq_true rfl) (ht _ w_98) (fun _ h => h) rfl (zb_n hz) (zb_f hz) (Nat.le_of_ble_eq_true rfl) up_7_2 d_Client_start_18 21 rfl ?_
  refine z_aload_n S d_Client_start_21 rfl 0 rfl 22 rfl ?_
  refine z_get S hK hin_Client mc kC_2 rfl 0 (Nat.le_of_ble_eq_true rfl) (ht _ w_167) (fun _ h => h) d_Client_start_22 25 rfl (.ref (ad 7 (5 + c))) rfl ?_
  refine z_iload_n S d_Client_start_25 rfl 2 rfl 26 rfl ?_
  refine z_put S hJ hK hin_Operation t_Operation ok_Operation nm_Operation (rl_co mc) kC_7 rfl 3 (Nat.le_of_ble_eq_true rfl) (ht _ w_101) (fun _ h => h) rfl rfl rfl (Nat.le_of_ble_eq_true rfl) up_7_3 d_Client_start_26 29 rfl ?_
  refine z_aload_n S d_Client_start_29 rfl 0 rfl 30 rfl ?_
  refine z_get S hK hin_Client mc kC_2 rfl 0 (Nat.le_of_ble_eq_true rfl) (ht _ w_167) (fun _ h => h) d_Client_start_30 33 rfl (.ref (ad 7 (5 + c))) rfl ?_
  refine z_iload_n S d_Client_start_33 rfl 3 rfl 34 rfl ?_
  refine z_put S hJ hK hin_Operation t_Operation ok_Operation nm_Operation (rl_co mc) kC_7 rfl 4 (Nat.le_of_ble_eq_true rfl) (ht _ w_105) (fun _ h => h) rfl rfl rfl (Nat.le_of_ble_eq_true rfl) up_7_4 d_Client_start_34 37 rfl ?_
  refine z_aload_n S d_Client_start_37 rfl 0 rfl 38 rfl ?_
  refine z_iconst S d_Client_start_38 1 (by decide) 39 rfl ?_
  refine z_put S hJ hK hin_Client t_Client ok_Client nm_Client mc kC_2 rfl 1 (Nat.le_of_ble_eq_true rfl) (ht _ w_169) (fun _ h => h) rfl (zb_n zb_1) (zb_f zb_1) (Nat.le_of_ble_eq_true rfl) up_2_1 d_Client_start_39 42 rfl ?_
  exact z_vret S hr hlk d_Client_start_42 (kC_eq rfl)
theorem d_Client_takeAnswer_0 : decode prog_2_method_3_code 0 = .ok (.aload_n 0, 1) := by decide +kernel
theorem d_Client_takeAnswer_1 : decode prog_2_method_3_code 1 = .ok (.getfield 16, 3) := by decide +kernel
theorem d_Client_takeAnswer_4 : decode prog_2_method_3_code 4 = .ok (.ifCond .eq 20, 3) := by decide +kernel
theorem d_Client_takeAnswer_7 : decode prog_2_method_3_code 7 = .ok (.aload_n 0, 1) := by decide +kernel
theorem d_Client_takeAnswer_8 : decode prog_2_method_3_code 8 = .ok (.getfield 10, 3) := by decide +kernel
theorem d_Client_takeAnswer_11 : decode prog_2_method_3_code 11 = .ok (.getfield 30, 3) := by decide +kernel
theorem d_Client_takeAnswer_14 : decode prog_2_method_3_code 14 = .ok (.aload_n 1, 1) := by decide +kernel
theorem d_Client_takeAnswer_15 : decode prog_2_method_3_code 15 = .ok (.getfield 42, 3) := by decide +kernel
theorem d_Client_takeAnswer_18 : decode prog_2_method_3_code 18 = .ok (.getfield 30, 3) := by decide +kernel
theorem d_Client_takeAnswer_21 : decode prog_2_method_3_code 21 = .ok (.if_icmp .eq 5, 3) := by decide +kernel
theorem d_Client_takeAnswer_24 : decode prog_2_method_3_code 24 = .ok (.iconst 0, 1) := by decide +kernel
theorem d_Client_takeAnswer_25 : decode prog_2_method_3_code 25 = .ok (.ireturn, 1) := by decide +kernel
theorem d_Client_takeAnswer_26 : decode prog_2_method_3_code 26 = .ok (.aload_n 0, 1) := by decide +kernel
theorem d_Client_takeAnswer_27 : decode prog_2_method_3_code 27 = .ok (.iconst 0, 1) := by decide +kernel
theorem d_Client_takeAnswer_28 : decode prog_2_method_3_code 28 = .ok (.putfield 16, 3) := by decide +kernel
theorem d_Client_takeAnswer_31 : decode prog_2_method_3_code 31 = .ok (.aload_n 0, 1) := by decide +kernel
theorem d_Client_takeAnswer_32 : decode prog_2_method_3_code 32 = .ok (.dup, 1) := by decide +kernel
theorem d_Client_takeAnswer_33 : decode prog_2_method_3_code 33 = .ok (.getfield 20, 3) := by decide +kernel
theorem d_Client_takeAnswer_36 : decode prog_2_method_3_code 36 = .ok (.iconst 1, 1) := by decide +kernel
theorem d_Client_takeAnswer_37 : decode prog_2_method_3_code 37 = .ok (.iadd, 1) := by decide +kernel
theorem d_Client_takeAnswer_38 : decode prog_2_method_3_code 38 = .ok (.putfield 20, 3) := by decide +kernel
theorem d_Client_takeAnswer_41 : decode prog_2_method_3_code 41 = .ok (.aload_n 0, 1) := by decide +kernel
theorem d_Client_takeAnswer_42 : decode prog_2_method_3_code 42 = .ok (.aload_n 1, 1) := by decide +kernel
theorem d_Client_takeAnswer_43 : decode prog_2_method_3_code 43 = .ok (.getfield 45, 3) := by decide +kernel
theorem d_Client_takeAnswer_46 : decode prog_2_method_3_code 46 = .ok (.putfield 24, 3) := by decide +kernel
theorem d_Client_takeAnswer_49 : decode prog_2_method_3_code 49 = .ok (.iconst 1, 1) := by decide +kernel
theorem d_Client_takeAnswer_50 : decode prog_2_method_3_code 50 = .ok (.ireturn, 1) := by decide +kernel
def S_Client_takeAnswer (n : Nat) (π : Nat → Nat) (s : S3) (c : Nat) (L : Nat) : S3 := if (s 2 1 c) = 0 then s else if (s 7 1 (5 + c)) = (s 7 1 (8 + L)) then (u3 (u3 (u3 s 2 1 c 0) 2 2 c ((s 2 2 c) + 1)) 2 3 c (s 5 8 L)) else s
def v_Client_takeAnswer (n : Nat) (π : Nat → Nat) (s : S3) (c : Nat) (L : Nat) : Int32 := if (s 2 1 c) = 0 then 0 else if (s 7 1 (5 + c)) = (s 7 1 (8 + L)) then 1 else 0
theorem zbv_Client_takeAnswer {n : Nat} {π : Nat → Nat} {s : S3} {c : Nat} {L : Nat} : zb (v_Client_takeAnswer n π s c L) := by
  unfold v_Client_takeAnswer
  repeat' split
  all_goals first | with_reducible exact zb_0 | with_reducible exact zb_1 | with_reducible exact zbv_View_hasBackup | with_reducible exact zbv_Server_isPrimary | with_reducible exact zbv_Server_isPrimaryOf | with_reducible exact zbv_Server_isBackupOf
set_option maxHeartbeats 4000000 in
set_option maxRecDepth 100000 in
theorem c_Client_takeAnswer {l : Launch} {D : va_G} {K : Nat → ClassId} {ad : Nat → Nat → Nat} {n : Nat} {π : Nat → Nat} {s : S3} {c L : Nat} (hJ : zw_J (cRL n) ad) (mc : (2, c) ∈ cRL n) (mL : (5, L) ∈ cRL n) : zM l y_Client_takeAnswer ws_Client_takeAnswer ({ frames := 0, cells := 0, slots := 0, locals := 0 }) D zCl (zTys K) (cRL n) ad [.ref (ad 2 c), .ref (ad 5 L)] (kC K ad n s π) (some (.int (v_Client_takeAnswer n π s c L))) (kC K ad n (S_Client_takeAnswer n π s c L) π) := by
  refine zM.of (cc := prog_2_method_3_code) (maxL := 2) (ret := (Option.some Jvm.ClassFile.FieldType.boolean)) (by decide) rfl (Nat.le_of_ble_eq_true rfl) ?_
  intro pP eE U mM bL mT cO S hr hlk hK
  have hts := S.2.2.2.2
  have ht := fun w h => hts w (List.mem_cons_of_mem _ h)
  refine z_aload_n S d_Client_takeAnswer_0 rfl 0 rfl 1 rfl ?_
  refine z_get S hK hin_Client mc kC_2 rfl 1 (Nat.le_of_ble_eq_true rfl) (ht _ w_169) (fun _ h => h) d_Client_takeAnswer_1 4 rfl (.int (s 2 1 c)) rfl ?_
  refine z_if_eq S d_Client_takeAnswer_4 24 (by decide) 7 rfl (fun h1 => ?_) (fun h1 => ?_)
  · refine z_iconst S d_Client_takeAnswer_24 0 (by decide) 25 rfl ?_
    exact z_zret S hr (zb_n zb_0) hlk d_Client_takeAnswer_25 (by unfold v_Client_takeAnswer; simp only [if_pos h1]) (kC_eq (by unfold S_Client_takeAnswer; simp only [if_pos h1]))
  · refine z_aload_n S d_Client_takeAnswer_7 rfl 0 rfl 8 rfl ?_
    refine z_get S hK hin_Client mc kC_2 rfl 0 (Nat.le_of_ble_eq_true rfl) (ht _ w_167) (fun _ h => h) d_Client_takeAnswer_8 11 rfl (.ref (ad 7 (5 + c))) rfl ?_
    refine z_get S hK hin_Operation (rl_co mc) kC_7 rfl 1 (Nat.le_of_ble_eq_true rfl) (ht _ w_94) (fun _ h => h) d_Client_takeAnswer_11 14 rfl (.int (s 7 1 (5 + c))) rfl ?_
    refine z_aload_n S d_Client_takeAnswer_14 rfl 1 rfl 15 rfl ?_
    refine z_get S hK hin_Letter mL kC_5 rfl 1 (Nat.le_of_ble_eq_true rfl) (ht _ w_226) (fun _ h => h) d_Client_takeAnswer_15 18 rfl (.ref (ad 7 (8 + L))) rfl ?_
    refine z_get S hK hin_Operation (rl_lo mL) kC_7 rfl 1 (Nat.le_of_ble_eq_true rfl) (ht _ w_94) (fun _ h => h) d_Client_takeAnswer_18 21 rfl (.int (s 7 1 (8 + L))) rfl ?_
    refine z_icmp_eq S d_Client_takeAnswer_21 26 (by decide) 24 rfl (fun h2 => ?_) (fun h2 => ?_)
    · refine z_aload_n S d_Client_takeAnswer_26 rfl 0 rfl 27 rfl ?_
      refine z_iconst S d_Client_takeAnswer_27 0 (by decide) 28 rfl ?_
      refine z_put S hJ hK hin_Client t_Client ok_Client nm_Client mc kC_2 rfl 1 (Nat.le_of_ble_eq_true rfl) (ht _ w_169) (fun _ h => h) rfl (zb_n zb_0) (zb_f zb_0) (Nat.le_of_ble_eq_true rfl) up_2_1 d_Client_takeAnswer_28 31 rfl ?_
      refine z_aload_n S d_Client_takeAnswer_31 rfl 0 rfl 32 rfl ?_
      refine z_dup S d_Client_takeAnswer_32 rfl 33 rfl ?_
      refine z_get S hK hin_Client mc kC_2 rfl 2 (Nat.le_of_ble_eq_true rfl) (ht _ w_171) (fun _ h => h) d_Client_takeAnswer_33 36 rfl (.int (s 2 2 c)) rfl ?_
      refine z_iconst S d_Client_takeAnswer_36 1 (by decide) 37 rfl ?_
      refine z_iadd S d_Client_takeAnswer_37 38 rfl ?_
      refine z_put S hJ hK hin_Client t_Client ok_Client nm_Client mc kC_2 rfl 2 (Nat.le_of_ble_eq_true rfl) (ht _ w_171) (fun _ h => h) rfl rfl rfl (Nat.le_of_ble_eq_true rfl) up_2_2 d_Client_takeAnswer_38 41 rfl ?_
      refine z_aload_n S d_Client_takeAnswer_41 rfl 0 rfl 42 rfl ?_
      refine z_aload_n S d_Client_takeAnswer_42 rfl 1 rfl 43 rfl ?_
      refine z_get S hK hin_Letter mL kC_5 rfl 8 (Nat.le_of_ble_eq_true rfl) (ht _ w_245) (fun _ h => h) d_Client_takeAnswer_43 46 rfl (.int (s 5 8 L)) rfl ?_
      refine z_put S hJ hK hin_Client t_Client ok_Client nm_Client mc kC_2 rfl 3 (Nat.le_of_ble_eq_true rfl) (ht _ w_173) (fun _ h => h) rfl rfl rfl (Nat.le_of_ble_eq_true rfl) up_2_3 d_Client_takeAnswer_46 49 rfl ?_
      refine z_iconst S d_Client_takeAnswer_49 1 (by decide) 50 rfl ?_
      exact z_zret S hr (zb_n zb_1) hlk d_Client_takeAnswer_50 (by unfold v_Client_takeAnswer; simp only [if_neg h1, if_pos h2]) (kC_eq (by unfold S_Client_takeAnswer; simp only [if_neg h1, if_pos h2]))
    · refine z_iconst S d_Client_takeAnswer_24 0 (by decide) 25 rfl ?_
      exact z_zret S hr (zb_n zb_0) hlk d_Client_takeAnswer_25 (by unfold v_Client_takeAnswer; simp only [if_neg h1, if_neg h2]) (kC_eq (by unfold S_Client_takeAnswer; simp only [if_neg h1, if_neg h2]))
theorem d_Service_changeView_0 : decode prog_7_method_4_code 0 = .ok (.aload_n 0, 1) := by decide +kernel
theorem d_Service_changeView_1 : decode prog_7_method_4_code 1 = .ok (.getfield 12, 3) := by decide +kernel
theorem d_Service_changeView_4 : decode prog_7_method_4_code 4 = .ok (.dup, 1) := by decide +kernel
theorem d_Service_changeView_5 : decode prog_7_method_4_code 5 = .ok (.getfield 32, 3) := by decide +kernel
theorem d_Service_changeView_8 : decode prog_7_method_4_code 8 = .ok (.iconst 1, 1) := by decide +kernel
theorem d_Service_changeView_9 : decode prog_7_method_4_code 9 = .ok (.iadd, 1) := by decide +kernel
theorem d_Service_changeView_10 : decode prog_7_method_4_code 10 = .ok (.putfield 32, 3) := by decide +kernel
theorem d_Service_changeView_13 : decode prog_7_method_4_code 13 = .ok (.aload_n 0, 1) := by decide +kernel
theorem d_Service_changeView_14 : decode prog_7_method_4_code 14 = .ok (.getfield 12, 3) := by decide +kernel
theorem d_Service_changeView_17 : decode prog_7_method_4_code 17 = .ok (.iload_n 1, 1) := by decide +kernel
theorem d_Service_changeView_18 : decode prog_7_method_4_code 18 = .ok (.putfield 39, 3) := by decide +kernel
theorem d_Service_changeView_21 : decode prog_7_method_4_code 21 = .ok (.aload_n 0, 1) := by decide +kernel
theorem d_Service_changeView_22 : decode prog_7_method_4_code 22 = .ok (.getfield 12, 3) := by decide +kernel
theorem d_Service_changeView_25 : decode prog_7_method_4_code 25 = .ok (.iload_n 2, 1) := by decide +kernel
theorem d_Service_changeView_26 : decode prog_7_method_4_code 26 = .ok (.putfield 52, 3) := by decide +kernel
theorem d_Service_changeView_29 : decode prog_7_method_4_code 29 = .ok (.aload_n 0, 1) := by decide +kernel
theorem d_Service_changeView_30 : decode prog_7_method_4_code 30 = .ok (.iconst 0, 1) := by decide +kernel
theorem d_Service_changeView_31 : decode prog_7_method_4_code 31 = .ok (.putfield 18, 3) := by decide +kernel
theorem d_Service_changeView_34 : decode prog_7_method_4_code 34 = .ok (.return_, 1) := by decide +kernel
def S_Service_changeView (π : Nat → Nat) (s : S3) (x : Int32) (y : Int32) : S3 := u3 (u3 (u3 (u3 s 6 0 7 ((s 6 0 7) + 1)) 6 1 7 x) 6 2 7 y) 3 2 0 0
set_option maxHeartbeats 4000000 in
set_option maxRecDepth 100000 in
theorem c_Service_changeView {l : Launch} {D : va_G} {K : Nat → ClassId} {ad : Nat → Nat → Nat} {n : Nat} {π : Nat → Nat} {s : S3} {x y : Int32} (hJ : zw_J (cRL n) ad) : zM l y_Service_changeView ws_Service_changeView ({ frames := 0, cells := 0, slots := 0, locals := 0 }) D zCl (zTys K) (cRL n) ad [.ref (ad 3 0), .int x, .int y] (kC K ad n s π) (none) (kC K ad n (S_Service_changeView π s x y) π) := by
  refine zM.of (cc := prog_7_method_4_code) (maxL := 3) (ret := (Option.none : Option Jvm.ClassFile.FieldType)) (by decide) rfl (Nat.le_of_ble_eq_true rfl) ?_
  intro pP eE U mM bL mT cO S hr hlk hK
  have hts := S.2.2.2.2
  have ht := fun w h => hts w (List.mem_cons_of_mem _ h)
  refine z_aload_n S d_Service_changeView_0 rfl 0 rfl 1 rfl ?_
  refine z_get S hK hin_Service rl_3 kC_3 rfl 0 (Nat.le_of_ble_eq_true rfl) (ht _ w_192) (fun _ h => h) d_Service_changeView_1 4 rfl (.ref (ad 6 7)) rfl ?_
  refine z_dup S d_Service_changeView_4 rfl 5 rfl ?_
  refine z_get S hK hin_View rl_67 kC_6 rfl 0 (Nat.le_of_ble_eq_true rfl) (ht _ w_41) (fun _ h => h) d_Service_changeView_5 8 rfl (.int (s 6 0 7)) rfl ?_
  refine z_iconst S d_Service_changeView_8 1 (by decide) 9 rfl ?_
  refine z_iadd S d_Service_changeView_9 10 rfl ?_
  refine z_put S hJ hK hin_View t_View ok_View nm_View rl_67 kC_6 rfl 0 (Nat.le_of_ble_eq_true rfl) (ht _ w_41) (fun _ h => h) rfl rfl rfl (Nat.le_of_ble_eq_true rfl) up_6_0 d_Service_changeView_10 13 rfl ?_
  refine z_aload_n S d_Service_changeView_13 rfl 0 rfl 14 rfl ?_
  refine z_get S hK hin_Service rl_3 kC_3 rfl 0 (Nat.le_of_ble_eq_true rfl) (ht _ w_192) (fun _ h => h) d_Service_changeView_14 17 rfl (.ref (ad 6 7)) rfl ?_
  refine z_iload_n S d_Service_changeView_17 rfl 1 rfl 18 rfl ?_
  refine z_put S hJ hK hin_View t_View ok_View nm_View rl_67 kC_6 rfl 1 (Nat.le_of_ble_eq_true rfl) (ht _ w_46) (fun _ h => h) rfl rfl rfl (Nat.le_of_ble_eq_true rfl) up_6_1 d_Service_changeView_18 21 rfl ?_
  refine z_aload_n S d_Service_changeView_21 rfl 0 rfl 22 rfl ?_
  refine z_get S hK hin_Service rl_3 kC_3 rfl 0 (Nat.le_of_ble_eq_true rfl) (ht _ w_192) (fun _ h => h) d_Service_changeView_22 25 rfl (.ref (ad 6 7)) rfl ?_
  refine z_iload_n S d_Service_changeView_25 rfl 2 rfl 26 rfl ?_
  refine z_put S hJ hK hin_View t_View ok_View nm_View rl_67 kC_6 rfl 2 (Nat.le_of_ble_eq_true rfl) (ht _ w_49) (fun _ h => h) rfl rfl rfl (Nat.le_of_ble_eq_true rfl) up_6_2 d_Service_changeView_26 29 rfl ?_
  refine z_aload_n S d_Service_changeView_29 rfl 0 rfl 30 rfl ?_
  refine z_iconst S d_Service_changeView_30 0 (by decide) 31 rfl ?_
  refine z_put S hJ hK hin_Service t_Service ok_Service nm_Service rl_3 kC_3 rfl 2 (Nat.le_of_ble_eq_true rfl) (ht _ w_195) (fun _ h => h) rfl (zb_n zb_0) (zb_f zb_0) (Nat.le_of_ble_eq_true rfl) up_3_2 d_Service_changeView_31 34 rfl ?_
  exact z_vret S hr hlk d_Service_changeView_34 (kC_eq rfl)
theorem d_Service_isFresh_0 : decode prog_7_method_5_code 0 = .ok (.aload_n 0, 1) := by decide +kernel
theorem d_Service_isFresh_1 : decode prog_7_method_5_code 1 = .ok (.getfield 22, 3) := by decide +kernel
theorem d_Service_isFresh_4 : decode prog_7_method_5_code 4 = .ok (.iload_n 1, 1) := by decide +kernel
theorem d_Service_isFresh_5 : decode prog_7_method_5_code 5 = .ok (.iaload, 1) := by decide +kernel
theorem d_Service_isFresh_6 : decode prog_7_method_5_code 6 = .ok (.iconst (-1), 1) := by decide +kernel
theorem d_Service_isFresh_7 : decode prog_7_method_5_code 7 = .ok (.if_icmp .eq 21, 3) := by decide +kernel
theorem d_Service_isFresh_10 : decode prog_7_method_5_code 10 = .ok (.iload_n 2, 1) := by decide +kernel
theorem d_Service_isFresh_11 : decode prog_7_method_5_code 11 = .ok (.aload_n 0, 1) := by decide +kernel
theorem d_Service_isFresh_12 : decode prog_7_method_5_code 12 = .ok (.getfield 22, 3) := by decide +kernel
theorem d_Service_isFresh_15 : decode prog_7_method_5_code 15 = .ok (.iload_n 1, 1) := by decide +kernel
theorem d_Service_isFresh_16 : decode prog_7_method_5_code 16 = .ok (.iaload, 1) := by decide +kernel
theorem d_Service_isFresh_17 : decode prog_7_method_5_code 17 = .ok (.isub, 1) := by decide +kernel
theorem d_Service_isFresh_18 : decode prog_7_method_5_code 18 = .ok (.sipush 130, 3) := by decide +kernel
theorem d_Service_isFresh_21 : decode prog_7_method_5_code 21 = .ok (.if_icmp .ge 7, 3) := by decide +kernel
theorem d_Service_isFresh_24 : decode prog_7_method_5_code 24 = .ok (.iconst 1, 1) := by decide +kernel
theorem d_Service_isFresh_25 : decode prog_7_method_5_code 25 = .ok (.goto 4, 3) := by decide +kernel
theorem d_Service_isFresh_28 : decode prog_7_method_5_code 28 = .ok (.iconst 0, 1) := by decide +kernel
theorem d_Service_isFresh_29 : decode prog_7_method_5_code 29 = .ok (.ireturn, 1) := by decide +kernel
def v_Service_isFresh (x0 : Int32) (t : Int32) : Int32 := if (x0) = (-1) then 0 else if 130 ≤ (t - (x0)) then 0 else 1
theorem zbv_Service_isFresh {x0 : Int32} {t : Int32} : zb (v_Service_isFresh x0 t) := by
  unfold v_Service_isFresh zb
  repeat' split
  all_goals simp
set_option maxHeartbeats 4000000 in
set_option maxRecDepth 100000 in
theorem c_Service_isFresh {l : Launch} {D : va_G} {K : Nat → ClassId} {ad : Nat → Nat → Nat} {n : Nat} {π : Nat → Nat} {s : S3} {x t : Int32} (hJ : zw_J (cRL n) ad) (hx : vp_in x n) : zM l y_Service_isFresh ws_Service_isFresh ({ frames := 0, cells := 0, slots := 0, locals := 0 }) D zCl (zTys K) (cRL n) ad [.ref (ad 3 0), .int x, .int t] (kC K ad n s π) (some (.int (v_Service_isFresh (s 15 0 x.toNatClampNeg) t))) (kC K ad n (s) π) := by
  refine zM.of (cc := prog_7_method_5_code) (maxL := 3) (ret := (Option.some Jvm.ClassFile.FieldType.boolean)) (by decide) rfl (Nat.le_of_ble_eq_true rfl) ?_
  intro pP eE U mM bL mT cO S hr hlk hK
  have hts := S.2.2.2.2
  have ht := fun w h => hts w (List.mem_cons_of_mem _ h)
  refine z_aload_n S d_Service_isFresh_0 rfl 0 rfl 1 rfl ?_
  refine z_get S hK hin_Service rl_3 kC_3 rfl 1 (Nat.le_of_ble_eq_true rfl) (ht _ w_194) (fun _ h => h) d_Service_isFresh_1 4 rfl (.ref (ad 15 0)) rfl ?_
  refine z_iload_n S d_Service_isFresh_4 rfl 1 rfl 5 rfl ?_
  refine z_iald S hK rl_15 0 kC_15 rfl hx d_Service_isFresh_5 6 rfl (s 15 0 x.toNatClampNeg) rfl ?_
  refine z_iconst S d_Service_isFresh_6 (-1) (by decide) 7 rfl ?_
  refine z_icmp_eq S d_Service_isFresh_7 28 (by decide) 10 rfl (fun h1 => ?_) (fun h1 => ?_)
  · refine z_iconst S d_Service_isFresh_28 0 (by decide) 29 rfl ?_
    exact z_zret S hr (zb_n zb_0) hlk d_Service_isFresh_29 (by unfold v_Service_isFresh; simp only [if_pos h1]) rfl
  · refine z_iload_n S d_Service_isFresh_10 rfl 2 rfl 11 rfl ?_
    refine z_aload_n S d_Service_isFresh_11 rfl 0 rfl 12 rfl ?_
    refine z_get S hK hin_Service rl_3 kC_3 rfl 1 (Nat.le_of_ble_eq_true rfl) (ht _ w_194) (fun _ h => h) d_Service_isFresh_12 15 rfl (.ref (ad 15 0)) rfl ?_
    refine z_iload_n S d_Service_isFresh_15 rfl 1 rfl 16 rfl ?_
    refine z_iald S hK rl_15 0 kC_15 rfl hx d_Service_isFresh_16 17 rfl (s 15 0 x.toNatClampNeg) rfl ?_
    refine z_isub S d_Service_isFresh_17 18 rfl ?_
    refine z_sipush S d_Service_isFresh_18 130 (by decide) 21 rfl ?_
    refine z_icmp_ge S d_Service_isFresh_21 28 (by decide) 24 rfl (fun h2 => ?_) (fun h2 => ?_)
    · refine z_iconst S d_Service_isFresh_28 0 (by decide) 29 rfl ?_
      exact z_zret S hr (zb_n zb_0) hlk d_Service_isFresh_29 (by unfold v_Service_isFresh; simp only [if_neg h1, if_pos h2]) rfl
    · refine z_iconst S d_Service_isFresh_24 1 (by decide) 25 rfl ?_
      refine z_goto S d_Service_isFresh_25 29 (by decide) ?_
      exact z_zret S hr (zb_n zb_1) hlk d_Service_isFresh_29 (by unfold v_Service_isFresh; simp only [if_neg h1, if_neg h2]) rfl
theorem d_Service_notePing_0 : decode prog_7_method_2_code 0 = .ok (.aload_n 0, 1) := by decide +kernel
theorem d_Service_notePing_1 : decode prog_7_method_2_code 1 = .ok (.getfield 22, 3) := by decide +kernel
theorem d_Service_notePing_4 : decode prog_7_method_2_code 4 = .ok (.aload_n 1, 1) := by decide +kernel
theorem d_Service_notePing_5 : decode prog_7_method_2_code 5 = .ok (.getfield 26, 3) := by decide +kernel
theorem d_Service_notePing_8 : decode prog_7_method_2_code 8 = .ok (.iload_n 2, 1) := by decide +kernel
theorem d_Service_notePing_9 : decode prog_7_method_2_code 9 = .ok (.iastore, 1) := by decide +kernel
theorem d_Service_notePing_10 : decode prog_7_method_2_code 10 = .ok (.aload_n 0, 1) := by decide +kernel
theorem d_Service_notePing_11 : decode prog_7_method_2_code 11 = .ok (.getfield 12, 3) := by decide +kernel
theorem d_Service_notePing_14 : decode prog_7_method_2_code 14 = .ok (.getfield 32, 3) := by decide +kernel
theorem d_Service_notePing_17 : decode prog_7_method_2_code 17 = .ok (.ifCond .ne 16, 3) := by decide +kernel
theorem d_Service_notePing_20 : decode prog_7_method_2_code 20 = .ok (.aload_n 0, 1) := by decide +kernel
theorem d_Service_notePing_21 : decode prog_7_method_2_code 21 = .ok (.aload_n 1, 1) := by decide +kernel
theorem d_Service_notePing_22 : decode prog_7_method_2_code 22 = .ok (.getfield 26, 3) := by decide +kernel
theorem d_Service_notePing_25 : decode prog_7_method_2_code 25 = .ok (.bipush 7, 2) := by decide +kernel
theorem d_Service_notePing_27 : decode prog_7_method_2_code 27 = .ok (.invokevirtual 35, 3) := by decide +kernel
theorem d_Service_notePing_30 : decode prog_7_method_2_code 30 = .ok (.goto 36, 3) := by decide +kernel
theorem d_Service_notePing_33 : decode prog_7_method_2_code 33 = .ok (.aload_n 1, 1) := by decide +kernel
theorem d_Service_notePing_34 : decode prog_7_method_2_code 34 = .ok (.getfield 26, 3) := by decide +kernel
theorem d_Service_notePing_37 : decode prog_7_method_2_code 37 = .ok (.aload_n 0, 1) := by decide +kernel
theorem d_Service_notePing_38 : decode prog_7_method_2_code 38 = .ok (.getfield 12, 3) := by decide +kernel
theorem d_Service_notePing_41 : decode prog_7_method_2_code 41 = .ok (.getfield 39, 3) := by decide +kernel
theorem d_Service_notePing_44 : decode prog_7_method_2_code 44 = .ok (.if_icmp .ne 22, 3) := by decide +kernel
theorem d_Service_notePing_47 : decode prog_7_method_2_code 47 = .ok (.aload_n 1, 1) := by decide +kernel
theorem d_Service_notePing_48 : decode prog_7_method_2_code 48 = .ok (.getfield 42, 3) := by decide +kernel
theorem d_Service_notePing_51 : decode prog_7_method_2_code 51 = .ok (.aload_n 0, 1) := by decide +kernel
theorem d_Service_notePing_52 : decode prog_7_method_2_code 52 = .ok (.getfield 12, 3) := by decide +kernel
theorem d_Service_notePing_55 : decode prog_7_method_2_code 55 = .ok (.getfield 32, 3) := by decide +kernel
theorem d_Service_notePing_58 : decode prog_7_method_2_code 58 = .ok (.if_icmp .ne 8, 3) := by decide +kernel
theorem d_Service_notePing_61 : decode prog_7_method_2_code 61 = .ok (.aload_n 0, 1) := by decide +kernel
theorem d_Service_notePing_62 : decode prog_7_method_2_code 62 = .ok (.iconst 1, 1) := by decide +kernel
theorem d_Service_notePing_63 : decode prog_7_method_2_code 63 = .ok (.putfield 18, 3) := by decide +kernel
theorem d_Service_notePing_66 : decode prog_7_method_2_code 66 = .ok (.return_, 1) := by decide +kernel
def S_Service_notePing (n : Nat) (π : Nat → Nat) (s : S3) (L : Nat) (t : Int32) : S3 := if (s 6 0 7) = 0 then (S_Service_changeView π (u3 s 15 0 ((s 5 4 L).toNatClampNeg) t) (s 5 4 L) 7) else if (s 5 4 L) = (s 6 1 7) then (if (s 5 5 L) = (s 6 0 7) then (u3 (u3 s 15 0 ((s 5 4 L).toNatClampNeg) t) 3 2 0 1) else u3 s 15 0 ((s 5 4 L).toNatClampNeg) t) else u3 s 15 0 ((s 5 4 L).toNatClampNeg) t
set_option maxHeartbeats 4000000 in
set_option maxRecDepth 100000 in
theorem c_Service_notePing {l : Launch} {D : va_G} {K : Nat → ClassId} {ad : Nat → Nat → Nat} {n : Nat} {π : Nat → Nat} {s : S3} {L : Nat} {t : Int32} (hJ : zw_J (cRL n) ad) (mL : (5, L) ∈ cRL n) (hp : vp_in (s 5 4 L) n) : zM l y_Service_notePing ws_Service_notePing ({ frames := 1, cells := 0, slots := 0, locals := 22 }) D zCl (zTys K) (cRL n) ad [.ref (ad 3 0), .ref (ad 5 L), .int t] (kC K ad n s π) (none) (kC K ad n (S_Service_notePing n π s L t) π) := by
  refine zM.of (cc := prog_7_method_2_code) (maxL := 3) (ret := (Option.none : Option Jvm.ClassFile.FieldType)) (by decide) rfl (Nat.le_of_ble_eq_true rfl) ?_
  intro pP eE U mM bL mT cO S hr hlk hK
  have hts := S.2.2.2.2
  have ht := fun w h => hts w (List.mem_cons_of_mem _ h)
  refine z_aload_n S d_Service_notePing_0 rfl 0 rfl 1 rfl ?_
  refine z_get S hK hin_Service rl_3 kC_3 rfl 1 (Nat.le_of_ble_eq_true rfl) (ht _ w_194) (fun _ h => h) d_Service_notePing_1 4 rfl (.ref (ad 15 0)) rfl ?_
  refine z_aload_n S d_Service_notePing_4 rfl 1 rfl 5 rfl ?_
  refine z_get S hK hin_Letter mL kC_5 rfl 4 (Nat.le_of_ble_eq_true rfl) (ht _ w_234) (fun _ h => h) d_Service_notePing_5 8 rfl (.int (s 5 4 L)) rfl ?_
  refine z_iload_n S d_Service_notePing_8 rfl 2 rfl 9 rfl ?_
  refine z_iast S hJ hK rl_15 0 kC_15 rfl hp rfl upI_15 d_Service_notePing_9 10 rfl ?_
  refine z_aload_n S d_Service_notePing_10 rfl 0 rfl 11 rfl ?_
  refine z_get S hK hin_Service rl_3 kC_3 rfl 0 (Nat.le_of_ble_eq_true rfl) (ht _ w_192) (fun _ h => h) d_Service_notePing_11 14 rfl (.ref (ad 6 7)) rfl ?_
  refine z_get S hK hin_View rl_67 kC_6 rfl 0 (Nat.le_of_ble_eq_true rfl) (ht _ w_41) (fun _ h => h) d_Service_notePing_14 17 rfl (.int (s 6 0 7)) rfl ?_
  refine z_if_ne S d_Service_notePing_17 33 (by decide) 20 rfl (fun h1 => ?_) (fun h1 => ?_)
  · refine z_aload_n S d_Service_notePing_33 rfl 1 rfl 34 rfl ?_
    refine z_get S hK hin_Letter mL kC_5 rfl 4 (Nat.le_of_ble_eq_true rfl) (ht _ w_234) (fun _ h => h) d_Service_notePing_34 37 rfl (.int (s 5 4 L)) rfl ?_
    refine z_aload_n S d_Service_notePing_37 rfl 0 rfl 38 rfl ?_
    refine z_get S hK hin_Service rl_3 kC_3 rfl 0 (Nat.le_of_ble_eq_true rfl) (ht _ w_192) (fun _ h => h) d_Service_notePing_38 41 rfl (.ref (ad 6 7)) rfl ?_
    refine z_get S hK hin_View rl_67 kC_6 rfl 1 (Nat.le_of_ble_eq_true rfl) (ht _ w_46) (fun _ h => h) d_Service_notePing_41 44 rfl (.int (s 6 1 7)) rfl ?_
    refine z_icmp_ne S d_Service_notePing_44 66 (by decide) 47 rfl (fun h2 => ?_) (fun h2 => ?_)
    · exact z_vret S hr hlk d_Service_notePing_66 (kC_eq (by unfold S_Service_notePing; simp only [if_neg h1, if_neg h2]))
    · refine z_aload_n S d_Service_notePing_47 rfl 1 rfl 48 rfl ?_
      refine z_get S hK hin_Letter mL kC_5 rfl 5 (Nat.le_of_ble_eq_true rfl) (ht _ w_238) (fun _ h => h) d_Service_notePing_48 51 rfl (.int (s 5 5 L)) rfl ?_
      refine z_aload_n S d_Service_notePing_51 rfl 0 rfl 52 rfl ?_
      refine z_get S hK hin_Service rl_3 kC_3 rfl 0 (Nat.le_of_ble_eq_true rfl) (ht _ w_192) (fun _ h => h) d_Service_notePing_52 55 rfl (.ref (ad 6 7)) rfl ?_
      refine z_get S hK hin_View rl_67 kC_6 rfl 0 (Nat.le_of_ble_eq_true rfl) (ht _ w_41) (fun _ h => h) d_Service_notePing_55 58 rfl (.int (s 6 0 7)) rfl ?_
      refine z_icmp_ne S d_Service_notePing_58 66 (by decide) 61 rfl (fun h3 => ?_) (fun h3 => ?_)
      · exact z_vret S hr hlk d_Service_notePing_66 (kC_eq (by unfold S_Service_notePing; simp only [if_neg h1, if_pos h2, if_neg h3]))
      · refine z_aload_n S d_Service_notePing_61 rfl 0 rfl 62 rfl ?_
        refine z_iconst S d_Service_notePing_62 1 (by decide) 63 rfl ?_
        refine z_put S hJ hK hin_Service t_Service ok_Service nm_Service rl_3 kC_3 rfl 2 (Nat.le_of_ble_eq_true rfl) (ht _ w_195) (fun _ h => h) rfl (zb_n zb_1) (zb_f zb_1) (Nat.le_of_ble_eq_true rfl) up_3_2 d_Service_notePing_63 66 rfl ?_
        exact z_vret S hr hlk d_Service_notePing_66 (kC_eq (by unfold S_Service_notePing; simp only [if_neg h1, if_pos h2, if_pos h3]))
  · refine z_aload_n S d_Service_notePing_20 rfl 0 rfl 21 rfl ?_
    refine z_aload_n S d_Service_notePing_21 rfl 1 rfl 22 rfl ?_
    refine z_get S hK hin_Letter mL kC_5 rfl 4 (Nat.le_of_ble_eq_true rfl) (ht _ w_234) (fun _ h => h) d_Service_notePing_22 25 rfl (.int (s 5 4 L)) rfl ?_
    refine z_bipush S d_Service_notePing_25 7 (by decide) 27 rfl ?_
    refine z_callV S hK (As := [.int (s 5 4 L), .int 7]) (rest := []) (c_Service_changeView (x := s 5 4 L) (y := 7) hJ) (cw_Service_changeView hts w_346 rfl rfl ⟨(Nat.le_of_ble_eq_true rfl), (Nat.le_of_ble_eq_true rfl)⟩) rl_3 kC_3 rfl rfl rfl (Nat.le_of_ble_eq_true rfl) d_Service_notePing_27 30 rfl [] rfl ?_
    refine z_goto S d_Service_notePing_30 66 (by decide) ?_
    exact z_vret S hr hlk d_Service_notePing_66 (kC_eq (by unfold S_Service_notePing; simp only [if_pos h1]))
theorem d_Post_has_0 : decode prog_5_method_2_code 0 = .ok (.iload_n 1, 1) := by decide +kernel
theorem d_Post_has_1 : decode prog_5_method_2_code 1 = .ok (.ifCond .lt 15, 3) := by decide +kernel
theorem d_Post_has_4 : decode prog_5_method_2_code 4 = .ok (.iload_n 1, 1) := by decide +kernel
theorem d_Post_has_5 : decode prog_5_method_2_code 5 = .ok (.aload_n 0, 1) := by decide +kernel
theorem d_Post_has_6 : decode prog_5_method_2_code 6 = .ok (.getfield 22, 3) := by decide +kernel
theorem d_Post_has_9 : decode prog_5_method_2_code 9 = .ok (.if_icmp .ge 7, 3) := by decide +kernel
theorem d_Post_has_12 : decode prog_5_method_2_code 12 = .ok (.iconst 1, 1) := by decide +kernel
theorem d_Post_has_13 : decode prog_5_method_2_code 13 = .ok (.goto 4, 3) := by decide +kernel
theorem d_Post_has_16 : decode prog_5_method_2_code 16 = .ok (.iconst 0, 1) := by decide +kernel
theorem d_Post_has_17 : decode prog_5_method_2_code 17 = .ok (.ireturn, 1) := by decide +kernel
def v_Post_has (x0 : Int32) (x : Int32) : Int32 := if x < 0 then 0 else if (x0) ≤ x then 0 else 1
theorem zbv_Post_has {x0 : Int32} {x : Int32} : zb (v_Post_has x0 x) := by
  unfold v_Post_has zb
  repeat' split
  all_goals simp
set_option maxHeartbeats 4000000 in
set_option maxRecDepth 100000 in
theorem c_Post_has {l : Launch} {D : va_G} {K : Nat → ClassId} {ad : Nat → Nat → Nat} {n : Nat} {π : Nat → Nat} {s : S3} {x : Int32} (hJ : zw_J (cRL n) ad) : zM l y_Post_has ws_Post_has ({ frames := 0, cells := 0, slots := 0, locals := 0 }) D zCl (zTys K) (cRL n) ad [.ref (ad 4 0), .int x] (kC K ad n s π) (some (.int (v_Post_has (s 4 2 0) x))) (kC K ad n (s) π) := by
  refine zM.of (cc := prog_5_method_2_code) (maxL := 2) (ret := (Option.some Jvm.ClassFile.FieldType.boolean)) (by decide) rfl (Nat.le_of_ble_eq_true rfl) ?_
  intro pP eE U mM bL mT cO S hr hlk hK
  have hts := S.2.2.2.2
  have ht := fun w h => hts w (List.mem_cons_of_mem _ h)
  refine z_iload_n S d_Post_has_0 rfl 1 rfl 1 rfl ?_
  refine z_if_lt S d_Post_has_1 16 (by decide) 4 rfl (fun h1 => ?_) (fun h1 => ?_)
  · refine z_iconst S d_Post_has_16 0 (by decide) 17 rfl ?_
    exact z_zret S hr (zb_n zb_0) hlk d_Post_has_17 (by unfold v_Post_has; simp only [if_pos h1]) rfl
  · refine z_iload_n S d_Post_has_4 rfl 1 rfl 5 rfl ?_
    refine z_aload_n S d_Post_has_5 rfl 0 rfl 6 rfl ?_
    refine z_get S hK hin_Post rl_4 kC_4 rfl 2 (Nat.le_of_ble_eq_true rfl) (ht _ w_269) (fun _ h => h) d_Post_has_6 9 rfl (.int (s 4 2 0)) rfl ?_
    refine z_icmp_ge S d_Post_has_9 16 (by decide) 12 rfl (fun h2 => ?_) (fun h2 => ?_)
    · refine z_iconst S d_Post_has_16 0 (by decide) 17 rfl ?_
      exact z_zret S hr (zb_n zb_0) hlk d_Post_has_17 (by unfold v_Post_has; simp only [if_neg h1, if_pos h2]) rfl
    · refine z_iconst S d_Post_has_12 1 (by decide) 13 rfl ?_
      refine z_goto S d_Post_has_13 17 (by decide) ?_
      exact z_zret S hr (zb_n zb_1) hlk d_Post_has_17 (by unfold v_Post_has; simp only [if_neg h1, if_neg h2]) rfl
theorem d_Post_next_0 : decode prog_5_method_3_code 0 = .ok (.aload_n 0, 1) := by decide +kernel
theorem d_Post_next_1 : decode prog_5_method_3_code 1 = .ok (.getfield 18, 3) := by decide +kernel
theorem d_Post_next_4 : decode prog_5_method_3_code 4 = .ok (.astore_n 3, 1) := by decide +kernel
theorem d_Post_next_5 : decode prog_5_method_3_code 5 = .ok (.aload_n 0, 1) := by decide +kernel
theorem d_Post_next_6 : decode prog_5_method_3_code 6 = .ok (.getfield 22, 3) := by decide +kernel
theorem d_Post_next_9 : decode prog_5_method_3_code 9 = .ok (.bipush 32, 2) := by decide +kernel
theorem d_Post_next_11 : decode prog_5_method_3_code 11 = .ok (.if_icmp .ge 23, 3) := by decide +kernel
theorem d_Post_next_14 : decode prog_5_method_3_code 14 = .ok (.aload_n 0, 1) := by decide +kernel
theorem d_Post_next_15 : decode prog_5_method_3_code 15 = .ok (.getfield 11, 3) := by decide +kernel
theorem d_Post_next_18 : decode prog_5_method_3_code 18 = .ok (.aload_n 0, 1) := by decide +kernel
theorem d_Post_next_19 : decode prog_5_method_3_code 19 = .ok (.getfield 22, 3) := by decide +kernel
theorem d_Post_next_22 : decode prog_5_method_3_code 22 = .ok (.aaload, 1) := by decide +kernel
theorem d_Post_next_23 : decode prog_5_method_3_code 23 = .ok (.astore_n 3, 1) := by decide +kernel
theorem d_Post_next_24 : decode prog_5_method_3_code 24 = .ok (.aload_n 0, 1) := by decide +kernel
theorem d_Post_next_25 : decode prog_5_method_3_code 25 = .ok (.dup, 1) := by decide +kernel
theorem d_Post_next_26 : decode prog_5_method_3_code 26 = .ok (.getfield 22, 3) := by decide +kernel
theorem d_Post_next_29 : decode prog_5_method_3_code 29 = .ok (.iconst 1, 1) := by decide +kernel
theorem d_Post_next_30 : decode prog_5_method_3_code 30 = .ok (.iadd, 1) := by decide +kernel
theorem d_Post_next_31 : decode prog_5_method_3_code 31 = .ok (.putfield 22, 3) := by decide +kernel
theorem d_Post_next_34 : decode prog_5_method_3_code 34 = .ok (.aload_n 3, 1) := by decide +kernel
theorem d_Post_next_35 : decode prog_5_method_3_code 35 = .ok (.iload_n 1, 1) := by decide +kernel
theorem d_Post_next_36 : decode prog_5_method_3_code 36 = .ok (.putfield 26, 3) := by decide +kernel
theorem d_Post_next_39 : decode prog_5_method_3_code 39 = .ok (.aload_n 3, 1) := by decide +kernel
theorem d_Post_next_40 : decode prog_5_method_3_code 40 = .ok (.iload_n 2, 1) := by decide +kernel
theorem d_Post_next_41 : decode prog_5_method_3_code 41 = .ok (.putfield 29, 3) := by decide +kernel
theorem d_Post_next_44 : decode prog_5_method_3_code 44 = .ok (.aload_n 3, 1) := by decide +kernel
theorem d_Post_next_45 : decode prog_5_method_3_code 45 = .ok (.areturn, 1) := by decide +kernel
def nxL (w : Int32) (π : Nat → Nat) : Nat := if 32 ≤ w then 33 else π w.toNatClampNeg
def nxW (w : Int32) : Int32 := if 32 ≤ w then w else w + 1
def S_Post_next (π : Nat → Nat) (s : S3) (k p : Int32) : S3 := u3 (u3 (u3 s 4 2 0 (nxW (s 4 2 0))) 5 3 (nxL (s 4 2 0) π) k) 5 4 (nxL (s 4 2 0) π) p
theorem rl_nx {n : Nat} {π : Nat → Nat} {w : Int32} (hπ : ∀ j, π j < 34) : (5, nxL w π) ∈ cRL n := by
  unfold nxL
  split
  · exact rl_533
  · exact rl_let (hπ _)
set_option maxHeartbeats 4000000 in
set_option maxRecDepth 100000 in
theorem c_Post_next {l : Launch} {D : va_G} {K : Nat → ClassId} {ad : Nat → Nat → Nat} {n : Nat} {π : Nat → Nat} {s : S3} {k p : Int32} (hJ : zw_J (cRL n) ad) (hw : vp_in (s 4 2 0) 33) (hπ : ∀ j, π j < 34) : zM l y_Post_next ws_Post_next ({ frames := 0, cells := 0, slots := 0, locals := 0 }) D zCl (zTys K) (cRL n) ad [.ref (ad 4 0), .int k, .int p] (kC K ad n s π) (some (.ref (ad 5 (nxL (s 4 2 0) π)))) (kC K ad n (S_Post_next π s k p) π) := by
  refine zM.of (cc := prog_5_method_3_code) (maxL := 4) (ret := (Option.some (Jvm.ClassFile.FieldType.object "LeasedViewStore$Letter"))) (by decide) rfl (Nat.le_of_ble_eq_true rfl) ?_
  intro pP eE U mM bL mT cO S hr hlk hK
  have hts := S.2.2.2.2
  have ht := fun w h => hts w (List.mem_cons_of_mem _ h)
  refine z_aload_n S d_Post_next_0 rfl 0 rfl 1 rfl ?_
  refine z_get S hK hin_Post rl_4 kC_4 rfl 1 (Nat.le_of_ble_eq_true rfl) (ht _ w_268) (fun _ h => h) d_Post_next_1 4 rfl (.ref (ad 5 33)) rfl ?_
  refine z_astore_n S d_Post_next_4 rfl (Nat.le_of_ble_eq_true rfl) [(3, .ref (ad 5 33)), (0, .ref (ad 4 0)), (1, .int k), (2, .int p)] rfl 5 rfl ?_
  refine z_aload_n S d_Post_next_5 rfl 1 rfl 6 rfl ?_
  refine z_get S hK hin_Post rl_4 kC_4 rfl 2 (Nat.le_of_ble_eq_true rfl) (ht _ w_269) (fun _ h => h) d_Post_next_6 9 rfl (.int (s 4 2 0)) rfl ?_
  refine z_bipush S d_Post_next_9 32 (by decide) 11 rfl ?_
  refine z_icmp_ge S d_Post_next_11 34 (by decide) 14 rfl (fun h1 => ?_) (fun h1 => ?_)
  · refine z_aload_n S d_Post_next_34 rfl 0 rfl 35 rfl ?_
    refine z_iload_n S d_Post_next_35 rfl 2 rfl 36 rfl ?_
    refine z_put S hJ hK hin_Letter t_Letter ok_Letter nm_Letter rl_533 kC_5 rfl 3 (Nat.le_of_ble_eq_true rfl) (ht _ w_231) (fun _ h => h) rfl rfl rfl (Nat.le_of_ble_eq_true rfl) up_5_3 d_Post_next_36 39 rfl ?_
    refine z_aload_n S d_Post_next_39 rfl 0 rfl 40 rfl ?_
    refine z_iload_n S d_Post_next_40 rfl 3 rfl 41 rfl ?_
    refine z_put S hJ hK hin_Letter t_Letter ok_Letter nm_Letter rl_533 kC_5 rfl 4 (Nat.le_of_ble_eq_true rfl) (ht _ w_235) (fun _ h => h) rfl rfl rfl (Nat.le_of_ble_eq_true rfl) up_5_4 d_Post_next_41 44 rfl ?_
    refine z_aload_n S d_Post_next_44 rfl 0 rfl 45 rfl ?_
    exact z_aret S hr (Or.inl ⟨_, rfl⟩) hlk d_Post_next_45 (by rw [nxL, if_pos h1]) (kC_eq (by simp only [S_Post_next, nxL, nxW, if_pos h1, u3_id]))
  · refine z_aload_n S d_Post_next_14 rfl 1 rfl 15 rfl ?_
    refine z_get S hK hin_Post rl_4 kC_4 rfl 0 (Nat.le_of_ble_eq_true rfl) (ht _ w_266) (fun _ h => h) d_Post_next_15 18 rfl (.ref (ad 12 0)) rfl ?_
    refine z_aload_n S d_Post_next_18 rfl 1 rfl 19 rfl ?_
    refine z_get S hK hin_Post rl_4 kC_4 rfl 2 (Nat.le_of_ble_eq_true rfl) (ht _ w_269) (fun _ h => h) d_Post_next_19 22 rfl (.int (s 4 2 0)) rfl ?_
    refine z_aald S hK rl_12 5 kC_12 rfl hw rfl d_Post_next_22 23 rfl ?_
    refine z_astore_n S d_Post_next_23 rfl (Nat.le_of_ble_eq_true rfl) [(3, .ref (ad 5 (π ((s 4 2 0).toNatClampNeg)))), (0, .ref (ad 4 0)), (1, .int k), (2, .int p)] rfl 24 rfl ?_
    refine z_aload_n S d_Post_next_24 rfl 1 rfl 25 rfl ?_
    refine z_dup S d_Post_next_25 rfl 26 rfl ?_
    refine z_get S hK hin_Post rl_4 kC_4 rfl 2 (Nat.le_of_ble_eq_true rfl) (ht _ w_269) (fun _ h => h) d_Post_next_26 29 rfl (.int (s 4 2 0)) rfl ?_
    refine z_iconst S d_Post_next_29 1 (by decide) 30 rfl ?_
    refine z_iadd S d_Post_next_30 31 rfl ?_
    refine z_put S hJ hK hin_Post t_Post ok_Post nm_Post rl_4 kC_4 rfl 2 (Nat.le_of_ble_eq_true rfl) (ht _ w_269) (fun _ h => h) rfl rfl rfl (Nat.le_of_ble_eq_true rfl) up_4_2 d_Post_next_31 34 rfl ?_
    refine z_aload_n S d_Post_next_34 rfl 0 rfl 35 rfl ?_
    refine z_iload_n S d_Post_next_35 rfl 2 rfl 36 rfl ?_
    refine z_put S hJ hK hin_Letter t_Letter ok_Letter nm_Letter (rl_let (hπ _)) kC_5 rfl 3 (Nat.le_of_ble_eq_true rfl) (ht _ w_231) (fun _ h => h) rfl rfl rfl (Nat.le_of_ble_eq_true rfl) up_5_3 d_Post_next_36 39 rfl ?_
    refine z_aload_n S d_Post_next_39 rfl 0 rfl 40 rfl ?_
    refine z_iload_n S d_Post_next_40 rfl 3 rfl 41 rfl ?_
    refine z_put S hJ hK hin_Letter t_Letter ok_Letter nm_Letter (rl_let (hπ _)) kC_5 rfl 4 (Nat.le_of_ble_eq_true rfl) (ht _ w_235) (fun _ h => h) rfl rfl rfl (Nat.le_of_ble_eq_true rfl) up_5_4 d_Post_next_41 44 rfl ?_
    refine z_aload_n S d_Post_next_44 rfl 0 rfl 45 rfl ?_
    exact z_aret S hr (Or.inl ⟨_, rfl⟩) hlk d_Post_next_45 (by rw [nxL, if_neg h1]) (kC_eq (by simp only [S_Post_next, nxL, nxW, if_neg h1, u3_id]))
