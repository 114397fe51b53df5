/-! what constructors leave -/
def wView (f : Nat → Nat) : va_W := [(f 0, .inr (6, [.int 0, .int 7, .int 7]))]
def wOperation (f : Nat → Nat) : va_W := [(f 0, .inr (7, [.int 0, .int 0, .int 0, .int 0, .int 0]))]
def wState (K : Nat → ClassId) (f : Nat → Nat) : va_W := [(f 0, .inr (8, [.ref (f 1), .ref (f 2), .ref (f 3), .int 0])), (f 1, .inl (K 0, 4, .inl (fun _ => 0))), (f 2, .inl (K 0, 3, .inl (fun _ => 0))), (f 3, .inl (K 0, 3, .inl (fun _ => 0)))]
def wLetter (K : Nat → ClassId) (f : Nat → Nat) : va_W := [(f 0, .inr (5, [.ref (f 1), .ref (f 2), .ref (f 3), .int 0, .int 0, .int 0, .int 0, .int 0, .int 0])), (f 1, .inr (6, [.int 0, .int 7, .int 7])), (f 2, .inr (7, [.int 0, .int 0, .int 0, .int 0, .int 0])), (f 3, .inr (8, [.ref (f 4), .ref (f 5), .ref (f 6), .int 0])), (f 4, .inl (K 0, 4, .inl (fun _ => 0))), (f 5, .inl (K 0, 3, .inl (fun _ => 0))), (f 6, .inl (K 0, 3, .inl (fun _ => 0)))]
def wServer (K : Nat → ClassId) (x : Int32) (f : Nat → Nat) : va_W := [(f 0, .inr (1, [.int x, .ref (f 1), .ref (f 2), .ref (f 6), .int 0, .int (-1000), .int 0, .int 0, .int 0, .int 0])), (f 1, .inr (6, [.int 0, .int 7, .int 7])), (f 2, .inr (8, [.ref (f 3), .ref (f 4), .ref (f 5), .int 0])), (f 3, .inl (K 0, 4, .inl (fun _ => 0))), (f 4, .inl (K 0, 3, .inl (fun _ => 0))), (f 5, .inl (K 0, 3, .inl (fun _ => 0))), (f 6, .inr (7, [.int 0, .int 0, .int 0, .int 0, .int 0]))]
def wClient (x : Int32) (f : Nat → Nat) : va_W := [(f 0, .inr (2, [.ref (f 1), .int 0, .int 0, .int 0])), (f 1, .inr (7, [.int x, .int 0, .int 0, .int 0, .int 0]))]
theorem d_View_init_0 : decode prog_9_method_1_code 0 = .ok (.aload_n 0, 1) := by decide +kernel
theorem d_View_init_1 : decode prog_9_method_1_code 1 = .ok (.invokespecial 3, 3) := by decide +kernel
theorem d_View_init_4 : decode prog_9_method_1_code 4 = .ok (.aload_n 0, 1) := by decide +kernel
theorem d_View_init_5 : decode prog_9_method_1_code 5 = .ok (.iconst 0, 1) := by decide +kernel
theorem d_View_init_6 : decode prog_9_method_1_code 6 = .ok (.putfield 9, 3) := by decide +kernel
theorem d_View_init_9 : decode prog_9_method_1_code 9 = .ok (.aload_n 0, 1) := by decide +kernel
theorem d_View_init_10 : decode prog_9_method_1_code 10 = .ok (.bipush 7, 2) := by decide +kernel
theorem d_View_init_12 : decode prog_9_method_1_code 12 = .ok (.putfield 15, 3) := by decide +kernel
theorem d_View_init_15 : decode prog_9_method_1_code 15 = .ok (.aload_n 0, 1) := by decide +kernel
theorem d_View_init_16 : decode prog_9_method_1_code 16 = .ok (.bipush 7, 2) := by decide +kernel
theorem d_View_init_18 : decode prog_9_method_1_code 18 = .ok (.putfield 18, 3) := by decide +kernel
theorem d_View_init_21 : decode prog_9_method_1_code 21 = .ok (.return_, 1) := by decide +kernel
set_option maxHeartbeats 4000000 in
set_option maxRecDepth 100000 in
theorem n_View {l : Launch} {D : va_G} {K : Nat → ClassId} {h0 : Nat} : zN l y_View_init ws_View_init ({ frames := 1, cells := 0, slots := 0, locals := 20 }) D (zTys K) [.ref h0] h0 (.inr (6, [.int 0, .int 0, .int 0])) (wView) 0 0 := by
  refine zN.of (cc := prog_9_method_1_code) (maxL := 1) (by decide) rfl rfl (Nat.le_of_ble_eq_true rfl) ?_
  intro pP eE U mM bL mT cO A S hr hlk hnm0 hK hX hA
  have hts := S.2.2.2.2
  have ht := fun w h => hts w (List.mem_cons_of_mem _ h)
  refine z_aload_n S d_View_init_0 rfl 0 rfl 1 rfl ?_
  refine n_obj S (ht _ w_39) (ht _ w_19) (ht _ w_20) (Nat.le_of_ble_eq_true rfl) (Nat.le_of_ble_eq_true rfl) d_View_init_1 4 rfl ?_
  refine z_aload_n S d_View_init_4 rfl 0 rfl 5 rfl ?_
  refine z_iconst S d_View_init_5 0 (by decide) 6 rfl ?_
  refine n_put S hK hin_View t_View ok_View nm_View 0 rfl rfl 0 (Nat.le_of_ble_eq_true rfl) (ht _ w_40) (fun _ h => h) rfl rfl rfl (Nat.le_of_ble_eq_true rfl) d_View_init_6 9 rfl ([(h0, .inr (6, [.int 0, .int 0, .int 0]))]) rfl ?_
  refine z_aload_n S d_View_init_9 rfl 0 rfl 10 rfl ?_
  refine z_bipush S d_View_init_10 7 (by decide) 12 rfl ?_
  refine n_put S hK hin_View t_View ok_View nm_View 0 rfl rfl 1 (Nat.le_of_ble_eq_true rfl) (ht _ w_44) (fun _ h => h) rfl rfl rfl (Nat.le_of_ble_eq_true rfl) d_View_init_12 15 rfl ([(h0, .inr (6, [.int 0, .int 7, .int 0]))]) rfl ?_
  refine z_aload_n S d_View_init_15 rfl 0 rfl 16 rfl ?_
  refine z_bipush S d_View_init_16 7 (by decide) 18 rfl ?_
  refine n_put S hK hin_View t_View ok_View nm_View 0 rfl rfl 2 (Nat.le_of_ble_eq_true rfl) (ht _ w_48) (fun _ h => h) rfl rfl rfl (Nat.le_of_ble_eq_true rfl) d_View_init_18 21 rfl ([(h0, .inr (6, [.int 0, .int 7, .int 7]))]) rfl ?_
  exact n_vret S hr hlk d_View_init_21 (fun k => ([h0] : List Nat).getD k 0) rfl rfl
theorem d_Operation_init_0 : decode prog_4_method_1_code 0 = .ok (.aload_n 0, 1) := by decide +kernel
theorem d_Operation_init_1 : decode prog_4_method_1_code 1 = .ok (.invokespecial 1, 3) := by decide +kernel
theorem d_Operation_init_4 : decode prog_4_method_1_code 4 = .ok (.aload_n 0, 1) := by decide +kernel
theorem d_Operation_init_5 : decode prog_4_method_1_code 5 = .ok (.iconst 0, 1) := by decide +kernel
theorem d_Operation_init_6 : decode prog_4_method_1_code 6 = .ok (.putfield 7, 3) := by decide +kernel
theorem d_Operation_init_9 : decode prog_4_method_1_code 9 = .ok (.aload_n 0, 1) := by decide +kernel
theorem d_Operation_init_10 : decode prog_4_method_1_code 10 = .ok (.iconst 0, 1) := by decide +kernel
theorem d_Operation_init_11 : decode prog_4_method_1_code 11 = .ok (.putfield 13, 3) := by decide +kernel
theorem d_Operation_init_14 : decode prog_4_method_1_code 14 = .ok (.aload_n 0, 1) := by decide +kernel
theorem d_Operation_init_15 : decode prog_4_method_1_code 15 = .ok (.iconst 0, 1) := by decide +kernel
theorem d_Operation_init_16 : decode prog_4_method_1_code 16 = .ok (.putfield 16, 3) := by decide +kernel
theorem d_Operation_init_19 : decode prog_4_method_1_code 19 = .ok (.aload_n 0, 1) := by decide +kernel
theorem d_Operation_init_20 : decode prog_4_method_1_code 20 = .ok (.iconst 0, 1) := by decide +kernel
theorem d_Operation_init_21 : decode prog_4_method_1_code 21 = .ok (.putfield 20, 3) := by decide +kernel
theorem d_Operation_init_24 : decode prog_4_method_1_code 24 = .ok (.aload_n 0, 1) := by decide +kernel
theorem d_Operation_init_25 : decode prog_4_method_1_code 25 = .ok (.iconst 0, 1) := by decide +kernel
theorem d_Operation_init_26 : decode prog_4_method_1_code 26 = .ok (.putfield 23, 3) := by decide +kernel
theorem d_Operation_init_29 : decode prog_4_method_1_code 29 = .ok (.return_, 1) := by decide +kernel
set_option maxHeartbeats 4000000 in
set_option maxRecDepth 100000 in
theorem n_Operation {l : Launch} {D : va_G} {K : Nat → ClassId} {h0 : Nat} : zN l y_Operation_init ws_Operation_init ({ frames := 1, cells := 0, slots := 0, locals := 20 }) D (zTys K) [.ref h0] h0 (.inr (7, [.int 0, .int 0, .int 0, .int 0, .int 0])) (wOperation) 0 0 := by
  refine zN.of (cc := prog_4_method_1_code) (maxL := 1) (by decide) rfl rfl (Nat.le_of_ble_eq_true rfl) ?_
  intro pP eE U mM bL mT cO A S hr hlk hnm0 hK hX hA
  have hts := S.2.2.2.2
  have ht := fun w h => hts w (List.mem_cons_of_mem _ h)
  refine z_aload_n S d_Operation_init_0 rfl 0 rfl 1 rfl ?_
  refine n_obj S (ht _ w_88) (ht _ w_19) (ht _ w_20) (Nat.le_of_ble_eq_true rfl) (Nat.le_of_ble_eq_true rfl) d_Operation_init_1 4 rfl ?_
  refine z_aload_n S d_Operation_init_4 rfl 0 rfl 5 rfl ?_
  refine z_iconst S d_Operation_init_5 0 (by decide) 6 rfl ?_
  refine n_put S hK hin_Operation t_Operation ok_Operation nm_Operation 0 rfl rfl 0 (Nat.le_of_ble_eq_true rfl) (ht _ w_89) (fun _ h => h) rfl rfl rfl (Nat.le_of_ble_eq_true rfl) d_Operation_init_6 9 rfl ([(h0, .inr (7, [.int 0, .int 0, .int 0, .int 0, .int 0]))]) rfl ?_
  refine z_aload_n S d_Operation_init_9 rfl 0 rfl 10 rfl ?_
  refine z_iconst S d_Operation_init_10 0 (by decide) 11 rfl ?_
  refine n_put S hK hin_Operation t_Operation ok_Operation nm_Operation 0 rfl rfl 1 (Nat.le_of_ble_eq_true rfl) (ht _ w_93) (fun _ h => h) rfl rfl rfl (Nat.le_of_ble_eq_true rfl) d_Operation_init_11 14 rfl ([(h0, .inr (7, [.int 0, .int 0, .int 0, .int 0, .int 0]))]) rfl ?_
  refine z_aload_n S d_Operation_init_14 rfl 0 rfl 15 rfl ?_
  refine z_iconst S d_Operation_init_15 0 (by decide) 16 rfl ?_
  refine n_put S hK hin_Operation t_Operation ok_Operation nm_Operation 0 rfl rfl 2 (Nat.le_of_ble_eq_true rfl) (ht _ w_97) (fun _ h => h) rfl (zb_n zb_0) (zb_f zb_0) (Nat.le_of_ble_eq_true rfl) d_Operation_init_16 19 rfl ([(h0, .inr (7, [.int 0, .int 0, .int 0, .int 0, .int 0]))]) rfl ?_
  refine z_aload_n S d_Operation_init_19 rfl 0 rfl 20 rfl ?_
  refine z_iconst S d_Operation_init_20 0 (by decide) 21 rfl ?_
  refine n_put S hK hin_Operation t_Operation ok_Operation nm_Operation 0 rfl rfl 3 (Nat.le_of_ble_eq_true rfl) (ht _ w_100) (fun _ h => h) rfl rfl rfl (Nat.le_of_ble_eq_true rfl) d_Operation_init_21 24 rfl ([(h0, .inr (7, [.int 0, .int 0, .int 0, .int 0, .int 0]))]) rfl ?_
  refine z_aload_n S d_Operation_init_24 rfl 0 rfl 25 rfl ?_
  refine z_iconst S d_Operation_init_25 0 (by decide) 26 rfl ?_
  refine n_put S hK hin_Operation t_Operation ok_Operation nm_Operation 0 rfl rfl 4 (Nat.le_of_ble_eq_true rfl) (ht _ w_104) (fun _ h => h) rfl rfl rfl (Nat.le_of_ble_eq_true rfl) d_Operation_init_26 29 rfl ([(h0, .inr (7, [.int 0, .int 0, .int 0, .int 0, .int 0]))]) rfl ?_
  exact n_vret S hr hlk d_Operation_init_29 (fun k => ([h0] : List Nat).getD k 0) rfl rfl
theorem d_State_init_0 : decode prog_8_method_1_code 0 = .ok (.aload_n 0, 1) := by decide +kernel
theorem d_State_init_1 : decode prog_8_method_1_code 1 = .ok (.invokespecial 3, 3) := by decide +kernel
theorem d_State_init_4 : decode prog_8_method_1_code 4 = .ok (.aload_n 0, 1) := by decide +kernel
theorem d_State_init_5 : decode prog_8_method_1_code 5 = .ok (.iconst 4, 1) := by decide +kernel
theorem d_State_init_6 : decode prog_8_method_1_code 6 = .ok (.newarray .int, 2) := by decide +kernel
theorem d_State_init_8 : decode prog_8_method_1_code 8 = .ok (.putfield 9, 3) := by decide +kernel
theorem d_State_init_11 : decode prog_8_method_1_code 11 = .ok (.aload_n 0, 1) := by decide +kernel
theorem d_State_init_12 : decode prog_8_method_1_code 12 = .ok (.iconst 3, 1) := by decide +kernel
theorem d_State_init_13 : decode prog_8_method_1_code 13 = .ok (.newarray .int, 2) := by decide +kernel
theorem d_State_init_15 : decode prog_8_method_1_code 15 = .ok (.putfield 15, 3) := by decide +kernel
theorem d_State_init_18 : decode prog_8_method_1_code 18 = .ok (.aload_n 0, 1) := by decide +kernel
theorem d_State_init_19 : decode prog_8_method_1_code 19 = .ok (.iconst 3, 1) := by decide +kernel
theorem d_State_init_20 : decode prog_8_method_1_code 20 = .ok (.newarray .int, 2) := by decide +kernel
theorem d_State_init_22 : decode prog_8_method_1_code 22 = .ok (.putfield 18, 3) := by decide +kernel
theorem d_State_init_25 : decode prog_8_method_1_code 25 = .ok (.aload_n 0, 1) := by decide +kernel
theorem d_State_init_26 : decode prog_8_method_1_code 26 = .ok (.iconst 0, 1) := by decide +kernel
theorem d_State_init_27 : decode prog_8_method_1_code 27 = .ok (.putfield 21, 3) := by decide +kernel
theorem d_State_init_30 : decode prog_8_method_1_code 30 = .ok (.return_, 1) := by decide +kernel
set_option maxHeartbeats 4000000 in
set_option maxRecDepth 100000 in
theorem n_State {l : Launch} {D : va_G} {K : Nat → ClassId} {h0 : Nat} : zN l y_State_init ws_State_init ({ frames := 1, cells := 3, slots := 10, locals := 20 }) D (zTys K) [.ref h0] h0 (.inr (8, [.null, .null, .null, .int 0])) (wState K) 3 10 := by
  refine zN.of (cc := prog_8_method_1_code) (maxL := 1) (by decide) rfl rfl (Nat.le_of_ble_eq_true rfl) ?_
  intro pP eE U mM bL mT cO A S hr hlk hnm0 hK hX hA
  have hts := S.2.2.2.2
  have ht := fun w h => hts w (List.mem_cons_of_mem _ h)
  refine z_aload_n S d_State_init_0 rfl 0 rfl 1 rfl ?_
  refine n_obj S (ht _ w_64) (ht _ w_19) (ht _ w_20) (Nat.le_of_ble_eq_true rfl) (Nat.le_of_ble_eq_true rfl) d_State_init_1 4 rfl ?_
  refine z_aload_n S d_State_init_4 rfl 0 rfl 5 rfl ?_
  refine z_iconst S d_State_init_5 4 (by decide) 6 rfl ?_
  refine n_newa (atype := .int) S hK hA (ht _ w_82) rfl 0 rfl (fun _ _ _ => ra_int) rfl 4 (by decide) rfl (by decide) d_State_init_6 8 rfl 1 4 rfl rfl (Nat.le_of_ble_eq_true rfl) (Nat.le_of_ble_eq_true rfl) (fun q1 => ?_)
  refine n_putF S hK hnm0 hin_State t_State ok_State nm_State 0 rfl rfl 0 (Nat.le_of_ble_eq_true rfl) (ht _ w_65) (fun _ h => h) rfl rfl rfl rfl (Nat.le_of_ble_eq_true rfl) d_State_init_8 11 rfl ([(h0, .inr (8, [.ref q1, .null, .null, .int 0])), (q1, .inl (K 0, 4, .inl (fun _ => 0)))]) rfl ?_
  refine z_aload_n S d_State_init_11 rfl 0 rfl 12 rfl ?_
  refine z_iconst S d_State_init_12 3 (by decide) 13 rfl ?_
  refine n_newa (atype := .int) S hK hA (ht _ w_82) rfl 0 rfl (fun _ _ _ => ra_int) rfl 3 (by decide) rfl (by decide) d_State_init_13 15 rfl 2 7 rfl rfl (Nat.le_of_ble_eq_true rfl) (Nat.le_of_ble_eq_true rfl) (fun q2 => ?_)
  refine n_putF S hK hnm0 hin_State t_State ok_State nm_State 0 rfl rfl 1 (Nat.le_of_ble_eq_true rfl) (ht _ w_67) (fun _ h => h) rfl rfl rfl rfl (Nat.le_of_ble_eq_true rfl) d_State_init_15 18 rfl ([(h0, .inr (8, [.ref q1, .ref q2, .null, .int 0])), (q1, .inl (K 0, 4, .inl (fun _ => 0))), (q2, .inl (K 0, 3, .inl (fun _ => 0)))]) rfl ?_
  refine z_aload_n S d_State_init_18 rfl 0 rfl 19 rfl ?_
  refine z_iconst S d_State_init_19 3 (by decide) 20 rfl ?_
  refine n_newa (atype := .int) S hK hA (ht _ w_82) rfl 0 rfl (fun _ _ _ => ra_int) rfl 3 (by decide) rfl (by decide) d_State_init_20 22 rfl 3 10 rfl rfl (Nat.le_of_ble_eq_true rfl) (Nat.le_of_ble_eq_true rfl) (fun q3 => ?_)
  refine n_putF S hK hnm0 hin_State t_State ok_State nm_State 0 rfl rfl 2 (Nat.le_of_ble_eq_true rfl) (ht _ w_69) (fun _ h => h) rfl rfl rfl rfl (Nat.le_of_ble_eq_true rfl) d_State_init_22 25 rfl ([(h0, .inr (8, [.ref q1, .ref q2, .ref q3, .int 0])), (q1, .inl (K 0, 4, .inl (fun _ => 0))), (q2, .inl (K 0, 3, .inl (fun _ => 0))), (q3, .inl (K 0, 3, .inl (fun _ => 0)))]) rfl ?_
  refine z_aload_n S d_State_init_25 rfl 0 rfl 26 rfl ?_
  refine z_iconst S d_State_init_26 0 (by decide) 27 rfl ?_
  refine n_put S hK hin_State t_State ok_State nm_State 0 rfl rfl 3 (Nat.le_of_ble_eq_true rfl) (ht _ w_71) (fun _ h => h) rfl rfl rfl (Nat.le_of_ble_eq_true rfl) d_State_init_27 30 rfl ([(h0, .inr (8, [.ref q1, .ref q2, .ref q3, .int 0])), (q1, .inl (K 0, 4, .inl (fun _ => 0))), (q2, .inl (K 0, 3, .inl (fun _ => 0))), (q3, .inl (K 0, 3, .inl (fun _ => 0)))]) rfl ?_
  exact n_vret S hr hlk d_State_init_30 (fun k => ([h0, q1, q2, q3] : List Nat).getD k 0) rfl rfl
theorem d_Letter_init_0 : decode prog_3_method_1_code 0 = .ok (.aload_n 0, 1) := by decide +kernel
theorem d_Letter_init_1 : decode prog_3_method_1_code 1 = .ok (.invokespecial 1, 3) := by decide +kernel
theorem d_Letter_init_4 : decode prog_3_method_1_code 4 = .ok (.aload_n 0, 1) := by decide +kernel
theorem d_Letter_init_5 : decode prog_3_method_1_code 5 = .ok (.new 7, 3) := by decide +kernel
theorem d_Letter_init_8 : decode prog_3_method_1_code 8 = .ok (.dup, 1) := by decide +kernel
theorem d_Letter_init_9 : decode prog_3_method_1_code 9 = .ok (.invokespecial 9, 3) := by decide +kernel
theorem d_Letter_init_12 : decode prog_3_method_1_code 12 = .ok (.putfield 10, 3) := by decide +kernel
theorem d_Letter_init_15 : decode prog_3_method_1_code 15 = .ok (.aload_n 0, 1) := by decide +kernel
theorem d_Letter_init_16 : decode prog_3_method_1_code 16 = .ok (.new 16, 3) := by decide +kernel
theorem d_Letter_init_19 : decode prog_3_method_1_code 19 = .ok (.dup, 1) := by decide +kernel
theorem d_Letter_init_20 : decode prog_3_method_1_code 20 = .ok (.invokespecial 18, 3) := by decide +kernel
theorem d_Letter_init_23 : decode prog_3_method_1_code 23 = .ok (.putfield 19, 3) := by decide +kernel
theorem d_Letter_init_26 : decode prog_3_method_1_code 26 = .ok (.aload_n 0, 1) := by decide +kernel
theorem d_Letter_init_27 : decode prog_3_method_1_code 27 = .ok (.new 23, 3) := by decide +kernel
theorem d_Letter_init_30 : decode prog_3_method_1_code 30 = .ok (.dup, 1) := by decide +kernel
theorem d_Letter_init_31 : decode prog_3_method_1_code 31 = .ok (.invokespecial 25, 3) := by decide +kernel
theorem d_Letter_init_34 : decode prog_3_method_1_code 34 = .ok (.putfield 26, 3) := by decide +kernel
theorem d_Letter_init_37 : decode prog_3_method_1_code 37 = .ok (.aload_n 0, 1) := by decide +kernel
theorem d_Letter_init_38 : decode prog_3_method_1_code 38 = .ok (.iconst 0, 1) := by decide +kernel
theorem d_Letter_init_39 : decode prog_3_method_1_code 39 = .ok (.putfield 30, 3) := by decide +kernel
theorem d_Letter_init_42 : decode prog_3_method_1_code 42 = .ok (.aload_n 0, 1) := by decide +kernel
theorem d_Letter_init_43 : decode prog_3_method_1_code 43 = .ok (.iconst 0, 1) := by decide +kernel
theorem d_Letter_init_44 : decode prog_3_method_1_code 44 = .ok (.putfield 34, 3) := by decide +kernel
theorem d_Letter_init_47 : decode prog_3_method_1_code 47 = .ok (.aload_n 0, 1) := by decide +kernel
theorem d_Letter_init_48 : decode prog_3_method_1_code 48 = .ok (.iconst 0, 1) := by decide +kernel
theorem d_Letter_init_49 : decode prog_3_method_1_code 49 = .ok (.putfield 37, 3) := by decide +kernel
theorem d_Letter_init_52 : decode prog_3_method_1_code 52 = .ok (.aload_n 0, 1) := by decide +kernel
theorem d_Letter_init_53 : decode prog_3_method_1_code 53 = .ok (.iconst 0, 1) := by decide +kernel
theorem d_Letter_init_54 : decode prog_3_method_1_code 54 = .ok (.putfield 40, 3) := by decide +kernel
theorem d_Letter_init_57 : decode prog_3_method_1_code 57 = .ok (.aload_n 0, 1) := by decide +kernel
theorem d_Letter_init_58 : decode prog_3_method_1_code 58 = .ok (.iconst 0, 1) := by decide +kernel
theorem d_Letter_init_59 : decode prog_3_method_1_code 59 = .ok (.putfield 43, 3) := by decide +kernel
theorem d_Letter_init_62 : decode prog_3_method_1_code 62 = .ok (.aload_n 0, 1) := by decide +kernel
theorem d_Letter_init_63 : decode prog_3_method_1_code 63 = .ok (.iconst 0, 1) := by decide +kernel
theorem d_Letter_init_64 : decode prog_3_method_1_code 64 = .ok (.putfield 46, 3) := by decide +kernel
theorem d_Letter_init_67 : decode prog_3_method_1_code 67 = .ok (.return_, 1) := by decide +kernel
set_option maxHeartbeats 4000000 in
set_option maxRecDepth 100000 in
theorem n_Letter {l : Launch} {D : va_G} {K : Nat → ClassId} {h0 : Nat} : zN l y_Letter_init ws_Letter_init ({ frames := 2, cells := 6, slots := 22, locals := 40 }) D (zTys K) [.ref h0] h0 (.inr (5, [.null, .null, .null, .int 0, .int 0, .int 0, .int 0, .int 0, .int 0])) (wLetter K) 6 22 := by
  refine zN.of (cc := prog_3_method_1_code) (maxL := 1) (by decide) rfl rfl (Nat.le_of_ble_eq_true rfl) ?_
  intro pP eE U mM bL mT cO A S hr hlk hnm0 hK hX hA
  have hts := S.2.2.2.2
  have ht := fun w h => hts w (List.mem_cons_of_mem _ h)
  refine z_aload_n S d_Letter_init_0 rfl 0 rfl 1 rfl ?_
  refine n_obj S (ht _ w_216) (ht _ w_19) (ht _ w_20) (Nat.le_of_ble_eq_true rfl) (Nat.le_of_ble_eq_true rfl) d_Letter_init_1 4 rfl ?_
  refine z_aload_n S d_Letter_init_4 rfl 0 rfl 5 rfl ?_
  refine n_new S hK hA hin_View t_View ok_View (ht _ w_217) (ht _ w_35) (ht _ w_4) (ci := 6) rfl [.int 0, .int 0, .int 0] (by decide) d_Letter_init_5 8 rfl 1 3 rfl rfl (Nat.le_of_ble_eq_true rfl) (Nat.le_of_ble_eq_true rfl) (fun q1 => ?_)
  refine z_dup S d_Letter_init_8 rfl 9 rfl ?_
  refine n_initN S hK hX hA (As := []) (rest := [.ref q1, .ref h0]) ([(h0, .inr (5, [.null, .null, .null, .int 0, .int 0, .int 0, .int 0, .int 0, .int 0]))]) rfl (n_View) (n_cwN hts hX.2.2.2.2.2.2.1 w_37 w_4 w_38 rfl (by decide) rfl rfl ⟨(Nat.le_of_ble_eq_true rfl), (Nat.le_of_ble_eq_true rfl)⟩) rfl rfl (Nat.le_of_ble_eq_true rfl) d_Letter_init_9 12 rfl 1 3 rfl rfl (Nat.le_of_ble_eq_true rfl) (Nat.le_of_ble_eq_true rfl) (fun f2 hf3 => ?_)
  subst hf3
  refine n_putF S hK hnm0 hin_Letter t_Letter ok_Letter nm_Letter 0 rfl rfl 0 (Nat.le_of_ble_eq_true rfl) (ht _ w_223) (fun _ h => h) rfl rfl rfl rfl (Nat.le_of_ble_eq_true rfl) d_Letter_init_12 15 rfl ([(h0, .inr (5, [.ref (f2 0), .null, .null, .int 0, .int 0, .int 0, .int 0, .int 0, .int 0])), (f2 0, .inr (6, [.int 0, .int 7, .int 7]))]) rfl ?_
  refine z_aload_n S d_Letter_init_15 rfl 0 rfl 16 rfl ?_
  refine n_new S hK hA hin_Operation t_Operation ok_Operation (ht _ w_219) (ht _ w_84) (ht _ w_6) (ci := 7) rfl [.int 0, .int 0, .int 0, .int 0, .int 0] (by decide) d_Letter_init_16 19 rfl 2 8 rfl rfl (Nat.le_of_ble_eq_true rfl) (Nat.le_of_ble_eq_true rfl) (fun q4 => ?_)
  refine z_dup S d_Letter_init_19 rfl 20 rfl ?_
  refine n_initN S hK hX hA (As := []) (rest := [.ref q4, .ref h0]) ([(h0, .inr (5, [.ref (f2 0), .null, .null, .int 0, .int 0, .int 0, .int 0, .int 0, .int 0])), (f2 0, .inr (6, [.int 0, .int 7, .int 7]))]) rfl (n_Operation) (n_cwN hts hX.2.2.2.2.2.2.2.1 w_86 w_6 w_87 rfl (by decide) rfl rfl ⟨(Nat.le_of_ble_eq_true rfl), (Nat.le_of_ble_eq_true rfl)⟩) rfl rfl (Nat.le_of_ble_eq_true rfl) d_Letter_init_20 23 rfl 2 8 rfl rfl (Nat.le_of_ble_eq_true rfl) (Nat.le_of_ble_eq_true rfl) (fun f5 hf6 => ?_)
  subst hf6
  refine n_putF S hK hnm0 hin_Letter t_Letter ok_Letter nm_Letter 0 rfl rfl 1 (Nat.le_of_ble_eq_true rfl) (ht _ w_225) (fun _ h => h) rfl rfl rfl rfl (Nat.le_of_ble_eq_true rfl) d_Letter_init_23 26 rfl ([(h0, .inr (5, [.ref (f2 0), .ref (f5 0), .null, .int 0, .int 0, .int 0, .int 0, .int 0, .int 0])), (f2 0, .inr (6, [.int 0, .int 7, .int 7])), (f5 0, .inr (7, [.int 0, .int 0, .int 0, .int 0, .int 0]))]) rfl ?_
  refine z_aload_n S d_Letter_init_26 rfl 0 rfl 27 rfl ?_
  refine n_new S hK hA hin_State t_State ok_State (ht _ w_221) (ht _ w_60) (ht _ w_5) (ci := 8) rfl [.null, .null, .null, .int 0] (by decide) d_Letter_init_27 30 rfl 3 12 rfl rfl (Nat.le_of_ble_eq_true rfl) (Nat.le_of_ble_eq_true rfl) (fun q7 => ?_)
  refine z_dup S d_Letter_init_30 rfl 31 rfl ?_
  refine n_initN S hK hX hA (As := []) (rest := [.ref q7, .ref h0]) ([(h0, .inr (5, [.ref (f2 0), .ref (f5 0), .null, .int 0, .int 0, .int 0, .int 0, .int 0, .int 0])), (f2 0, .inr (6, [.int 0, .int 7, .int 7])), (f5 0, .inr (7, [.int 0, .int 0, .int 0, .int 0, .int 0]))]) rfl (n_State) (n_cwN hts hX.2.2.2.2.2.2.2.2.1 w_62 w_5 w_63 rfl (by decide) rfl rfl ⟨(Nat.le_of_ble_eq_true rfl), (Nat.le_of_ble_eq_true rfl)⟩) rfl rfl (Nat.le_of_ble_eq_true rfl) d_Letter_init_31 34 rfl 6 22 rfl rfl (Nat.le_of_ble_eq_true rfl) (Nat.le_of_ble_eq_true rfl) (fun f8 hf9 => ?_)
  subst hf9
  refine n_putF S hK hnm0 hin_Letter t_Letter ok_Letter nm_Letter 0 rfl rfl 2 (Nat.le_of_ble_eq_true rfl) (ht _ w_228) (fun _ h => h) rfl rfl rfl rfl (Nat.le_of_ble_eq_true rfl) d_Letter_init_34 37 rfl ([(h0, .inr (5, [.ref (f2 0), .ref (f5 0), .ref (f8 0), .int 0, .int 0, .int 0, .int 0, .int 0, .int 0])), (f2 0, .inr (6, [.int 0, .int 7, .int 7])), (f5 0, .inr (7, [.int 0, .int 0, .int 0, .int 0, .int 0]))] ++ wState K f8) rfl ?_
  refine z_aload_n S d_Letter_init_37 rfl 0 rfl 38 rfl ?_
  refine z_iconst S d_Letter_init_38 0 (by decide) 39 rfl ?_
  refine n_put S hK hin_Letter t_Letter ok_Letter nm_Letter 0 rfl rfl 3 (Nat.le_of_ble_eq_true rfl) (ht _ w_230) (fun _ h => h) rfl rfl rfl (Nat.le_of_ble_eq_true rfl) d_Letter_init_39 42 rfl ([(h0, .inr (5, [.ref (f2 0), .ref (f5 0), .ref (f8 0), .int 0, .int 0, .int 0, .int 0, .int 0, .int 0])), (f2 0, .inr (6, [.int 0, .int 7, .int 7])), (f5 0, .inr (7, [.int 0, .int 0, .int 0, .int 0, .int 0]))] ++ wState K f8) rfl ?_
  refine z_aload_n S d_Letter_init_42 rfl 0 rfl 43 rfl ?_
  refine z_iconst S d_Letter_init_43 0 (by decide) 44 rfl ?_
  refine n_put S hK hin_Letter t_Letter ok_Letter nm_Letter 0 rfl rfl 4 (Nat.le_of_ble_eq_true rfl) (ht _ w_233) (fun _ h => h) rfl rfl rfl (Nat.le_of_ble_eq_true rfl) d_Letter_init_44 47 rfl ([(h0, .inr (5, [.ref (f2 0), .ref (f5 0), .ref (f8 0), .int 0, .int 0, .int 0, .int 0, .int 0, .int 0])), (f2 0, .inr (6, [.int 0, .int 7, .int 7])), (f5 0, .inr (7, [.int 0, .int 0, .int 0, .int 0, .int 0]))] ++ wState K f8) rfl ?_
  refine z_aload_n S d_Letter_init_47 rfl 0 rfl 48 rfl ?_
  refine z_iconst S d_Letter_init_48 0 (by decide) 49 rfl ?_
  refine n_put S hK hin_Letter t_Letter ok_Letter nm_Letter 0 rfl rfl 5 (Nat.le_of_ble_eq_true rfl) (ht _ w_237) (fun _ h => h) rfl rfl rfl (Nat.le_of_ble_eq_true rfl) d_Letter_init_49 52 rfl ([(h0, .inr (5, [.ref (f2 0), .ref (f5 0), .ref (f8 0), .int 0, .int 0, .int 0, .int 0, .int 0, .int 0])), (f2 0, .inr (6, [.int 0, .int 7, .int 7])), (f5 0, .inr (7, [.int 0, .int 0, .int 0, .int 0, .int 0]))] ++ wState K f8) rfl ?_
  refine z_aload_n S d_Letter_init_52 rfl 0 rfl 53 rfl ?_
  refine z_iconst S d_Letter_init_53 0 (by decide) 54 rfl ?_
  refine n_put S hK hin_Letter t_Letter ok_Letter nm_Letter 0 rfl rfl 6 (Nat.le_of_ble_eq_true rfl) (ht _ w_240) (fun _ h => h) rfl rfl rfl (Nat.le_of_ble_eq_true rfl) d_Letter_init_54 57 rfl ([(h0, .inr (5, [.ref (f2 0), .ref (f5 0), .ref (f8 0), .int 0, .int 0, .int 0, .int 0, .int 0, .int 0])), (f2 0, .inr (6, [.int 0, .int 7, .int 7])), (f5 0, .inr (7, [.int 0, .int 0, .int 0, .int 0, .int 0]))] ++ wState K f8) rfl ?_
  refine z_aload_n S d_Letter_init_57 rfl 0 rfl 58 rfl ?_
  refine z_iconst S d_Letter_init_58 0 (by decide) 59 rfl ?_
  refine n_put S hK hin_Letter t_Letter ok_Letter nm_Letter 0 rfl rfl 7 (Nat.le_of_ble_eq_true rfl) (ht _ w_242) (fun _ h => h) rfl rfl rfl (Nat.le_of_ble_eq_true rfl) d_Letter_init_59 62 rfl ([(h0, .inr (5, [.ref (f2 0), .ref (f5 0), .ref (f8 0), .int 0, .int 0, .int 0, .int 0, .int 0, .int 0])), (f2 0, .inr (6, [.int 0, .int 7, .int 7])), (f5 0, .inr (7, [.int 0, .int 0, .int 0, .int 0, .int 0]))] ++ wState K f8) rfl ?_
  refine z_aload_n S d_Letter_init_62 rfl 0 rfl 63 rfl ?_
  refine z_iconst S d_Letter_init_63 0 (by decide) 64 rfl ?_
  refine n_put S hK hin_Letter t_Letter ok_Letter nm_Letter 0 rfl rfl 8 (Nat.le_of_ble_eq_true rfl) (ht _ w_244) (fun _ h => h) rfl rfl rfl (Nat.le_of_ble_eq_true rfl) d_Letter_init_64 67 rfl ([(h0, .inr (5, [.ref (f2 0), .ref (f5 0), .ref (f8 0), .int 0, .int 0, .int 0, .int 0, .int 0, .int 0])), (f2 0, .inr (6, [.int 0, .int 7, .int 7])), (f5 0, .inr (7, [.int 0, .int 0, .int 0, .int 0, .int 0]))] ++ wState K f8) rfl ?_
  exact n_vret S hr hlk d_Letter_init_67 (fun k => ([h0, f2 0, f5 0, f8 0, f8 1, f8 2, f8 3] : List Nat).getD k 0) rfl rfl
theorem d_Server_init_0 : decode prog_6_method_1_code 0 = .ok (.aload_n 0, 1) := by decide +kernel
theorem d_Server_init_1 : decode prog_6_method_1_code 1 = .ok (.invokespecial 3, 3) := by decide +kernel
theorem d_Server_init_4 : decode prog_6_method_1_code 4 = .ok (.aload_n 0, 1) := by decide +kernel
theorem d_Server_init_5 : decode prog_6_method_1_code 5 = .ok (.new 9, 3) := by decide +kernel
theorem d_Server_init_8 : decode prog_6_method_1_code 8 = .ok (.dup, 1) := by decide +kernel
theorem d_Server_init_9 : decode prog_6_method_1_code 9 = .ok (.invokespecial 11, 3) := by decide +kernel
theorem d_Server_init_12 : decode prog_6_method_1_code 12 = .ok (.putfield 12, 3) := by decide +kernel
theorem d_Server_init_15 : decode prog_6_method_1_code 15 = .ok (.aload_n 0, 1) := by decide +kernel
theorem d_Server_init_16 : decode prog_6_method_1_code 16 = .ok (.new 18, 3) := by decide +kernel
theorem d_Server_init_19 : decode prog_6_method_1_code 19 = .ok (.dup, 1) := by decide +kernel
theorem d_Server_init_20 : decode prog_6_method_1_code 20 = .ok (.invokespecial 20, 3) := by decide +kernel
theorem d_Server_init_23 : decode prog_6_method_1_code 23 = .ok (.putfield 21, 3) := by decide +kernel
theorem d_Server_init_26 : decode prog_6_method_1_code 26 = .ok (.aload_n 0, 1) := by decide +kernel
theorem d_Server_init_27 : decode prog_6_method_1_code 27 = .ok (.new 25, 3) := by decide +kernel
theorem d_Server_init_30 : decode prog_6_method_1_code 30 = .ok (.dup, 1) := by decide +kernel
theorem d_Server_init_31 : decode prog_6_method_1_code 31 = .ok (.invokespecial 27, 3) := by decide +kernel
theorem d_Server_init_34 : decode prog_6_method_1_code 34 = .ok (.putfield 28, 3) := by decide +kernel
theorem d_Server_init_37 : decode prog_6_method_1_code 37 = .ok (.aload_n 0, 1) := by decide +kernel
theorem d_Server_init_38 : decode prog_6_method_1_code 38 = .ok (.iconst 0, 1) := by decide +kernel
theorem d_Server_init_39 : decode prog_6_method_1_code 39 = .ok (.putfield 32, 3) := by decide +kernel
theorem d_Server_init_42 : decode prog_6_method_1_code 42 = .ok (.aload_n 0, 1) := by decide +kernel
theorem d_Server_init_43 : decode prog_6_method_1_code 43 = .ok (.sipush (-1000), 3) := by decide +kernel
theorem d_Server_init_46 : decode prog_6_method_1_code 46 = .ok (.putfield 36, 3) := by decide +kernel
theorem d_Server_init_49 : decode prog_6_method_1_code 49 = .ok (.aload_n 0, 1) := by decide +kernel
theorem d_Server_init_50 : decode prog_6_method_1_code 50 = .ok (.iconst 0, 1) := by decide +kernel
theorem d_Server_init_51 : decode prog_6_method_1_code 51 = .ok (.putfield 39, 3) := by decide +kernel
theorem d_Server_init_54 : decode prog_6_method_1_code 54 = .ok (.aload_n 0, 1) := by decide +kernel
theorem d_Server_init_55 : decode prog_6_method_1_code 55 = .ok (.iconst 0, 1) := by decide +kernel
theorem d_Server_init_56 : decode prog_6_method_1_code 56 = .ok (.putfield 43, 3) := by decide +kernel
theorem d_Server_init_59 : decode prog_6_method_1_code 59 = .ok (.aload_n 0, 1) := by decide +kernel
theorem d_Server_init_60 : decode prog_6_method_1_code 60 = .ok (.iconst 0, 1) := by decide +kernel
theorem d_Server_init_61 : decode prog_6_method_1_code 61 = .ok (.putfield 46, 3) := by decide +kernel
theorem d_Server_init_64 : decode prog_6_method_1_code 64 = .ok (.aload_n 0, 1) := by decide +kernel
theorem d_Server_init_65 : decode prog_6_method_1_code 65 = .ok (.iconst 0, 1) := by decide +kernel
theorem d_Server_init_66 : decode prog_6_method_1_code 66 = .ok (.putfield 49, 3) := by decide +kernel
theorem d_Server_init_69 : decode prog_6_method_1_code 69 = .ok (.aload_n 0, 1) := by decide +kernel
theorem d_Server_init_70 : decode prog_6_method_1_code 70 = .ok (.iload_n 1, 1) := by decide +kernel
theorem d_Server_init_71 : decode prog_6_method_1_code 71 = .ok (.putfield 52, 3) := by decide +kernel
theorem d_Server_init_74 : decode prog_6_method_1_code 74 = .ok (.return_, 1) := by decide +kernel
set_option maxHeartbeats 4000000 in
set_option maxRecDepth 100000 in
theorem n_Server {l : Launch} {D : va_G} {K : Nat → ClassId} {h0 : Nat} {x : Int32} : zN l y_Server_init ws_Server_init ({ frames := 2, cells := 6, slots := 22, locals := 40 }) D (zTys K) [.ref h0, .int x] h0 (.inr (1, [.int 0, .null, .null, .null, .int 0, .int 0, .int 0, .int 0, .int 0, .int 0])) (wServer K x) 6 22 := by
  refine zN.of (cc := prog_6_method_1_code) (maxL := 2) (by decide) rfl rfl (Nat.le_of_ble_eq_true rfl) ?_
  intro pP eE U mM bL mT cO A S hr hlk hnm0 hK hX hA
  have hts := S.2.2.2.2
  have ht := fun w h => hts w (List.mem_cons_of_mem _ h)
  refine z_aload_n S d_Server_init_0 rfl 0 rfl 1 rfl ?_
  refine n_obj S (ht _ w_33) (ht _ w_19) (ht _ w_20) (Nat.le_of_ble_eq_true rfl) (Nat.le_of_ble_eq_true rfl) d_Server_init_1 4 rfl ?_
  refine z_aload_n S d_Server_init_4 rfl 0 rfl 5 rfl ?_
  refine n_new S hK hA hin_View t_View ok_View (ht _ w_34) (ht _ w_35) (ht _ w_4) (ci := 6) rfl [.int 0, .int 0, .int 0] (by decide) d_Server_init_5 8 rfl 1 3 rfl rfl (Nat.le_of_ble_eq_true rfl) (Nat.le_of_ble_eq_true rfl) (fun q1 => ?_)
  refine z_dup S d_Server_init_8 rfl 9 rfl ?_
  refine n_initN S hK hX hA (As := []) (rest := [.ref q1, .ref h0]) ([(h0, .inr (1, [.int 0, .null, .null, .null, .int 0, .int 0, .int 0, .int 0, .int 0, .int 0]))]) rfl (n_View) (n_cwN hts hX.1 w_37 w_4 w_38 rfl (by decide) rfl rfl ⟨(Nat.le_of_ble_eq_true rfl), (Nat.le_of_ble_eq_true rfl)⟩) rfl rfl (Nat.le_of_ble_eq_true rfl) d_Server_init_9 12 rfl 1 3 rfl rfl (Nat.le_of_ble_eq_true rfl) (Nat.le_of_ble_eq_true rfl) (fun f2 hf3 => ?_)
  subst hf3
  refine n_putF S hK hnm0 hin_Server t_Server ok_Server nm_Server 0 rfl rfl 1 (Nat.le_of_ble_eq_true rfl) (ht _ w_119) (fun _ h => h) rfl rfl rfl rfl (Nat.le_of_ble_eq_true rfl) d_Server_init_12 15 rfl ([(h0, .inr (1, [.int 0, .ref (f2 0), .null, .null, .int 0, .int 0, .int 0, .int 0, .int 0, .int 0])), (f2 0, .inr (6, [.int 0, .int 7, .int 7]))]) rfl ?_
  refine z_aload_n S d_Server_init_15 rfl 0 rfl 16 rfl ?_
  refine n_new S hK hA hin_State t_State ok_State (ht _ w_59) (ht _ w_60) (ht _ w_5) (ci := 8) rfl [.null, .null, .null, .int 0] (by decide) d_Server_init_16 19 rfl 2 7 rfl rfl (Nat.le_of_ble_eq_true rfl) (Nat.le_of_ble_eq_true rfl) (fun q4 => ?_)
  refine z_dup S d_Server_init_19 rfl 20 rfl ?_
  refine n_initN S hK hX hA (As := []) (rest := [.ref q4, .ref h0]) ([(h0, .inr (1, [.int 0, .ref (f2 0), .null, .null, .int 0, .int 0, .int 0, .int 0, .int 0, .int 0])), (f2 0, .inr (6, [.int 0, .int 7, .int 7]))]) rfl (n_State) (n_cwN hts hX.2.1 w_62 w_5 w_63 rfl (by decide) rfl rfl ⟨(Nat.le_of_ble_eq_true rfl), (Nat.le_of_ble_eq_true rfl)⟩) rfl rfl (Nat.le_of_ble_eq_true rfl) d_Server_init_20 23 rfl 5 17 rfl rfl (Nat.le_of_ble_eq_true rfl) (Nat.le_of_ble_eq_true rfl) (fun f5 hf6 => ?_)
  subst hf6
  refine n_putF S hK hnm0 hin_Server t_Server ok_Server nm_Server 0 rfl rfl 2 (Nat.le_of_ble_eq_true rfl) (ht _ w_121) (fun _ h => h) rfl rfl rfl rfl (Nat.le_of_ble_eq_true rfl) d_Server_init_23 26 rfl ([(h0, .inr (1, [.int 0, .ref (f2 0), .ref (f5 0), .null, .int 0, .int 0, .int 0, .int 0, .int 0, .int 0])), (f2 0, .inr (6, [.int 0, .int 7, .int 7]))] ++ wState K f5) rfl ?_
  refine z_aload_n S d_Server_init_26 rfl 0 rfl 27 rfl ?_
  refine n_new S hK hA hin_Operation t_Operation ok_Operation (ht _ w_83) (ht _ w_84) (ht _ w_6) (ci := 7) rfl [.int 0, .int 0, .int 0, .int 0, .int 0] (by decide) d_Server_init_27 30 rfl 6 22 rfl rfl (Nat.le_of_ble_eq_true rfl) (Nat.le_of_ble_eq_true rfl) (fun q7 => ?_)
  refine z_dup S d_Server_init_30 rfl 31 rfl ?_
  refine n_initN S hK hX hA (As := []) (rest := [.ref q7, .ref h0]) ([(h0, .inr (1, [.int 0, .ref (f2 0), .ref (f5 0), .null, .int 0, .int 0, .int 0, .int 0, .int 0, .int 0])), (f2 0, .inr (6, [.int 0, .int 7, .int 7]))] ++ wState K f5) rfl (n_Operation) (n_cwN hts hX.2.2.1 w_86 w_6 w_87 rfl (by decide) rfl rfl ⟨(Nat.le_of_ble_eq_true rfl), (Nat.le_of_ble_eq_true rfl)⟩) rfl rfl (Nat.le_of_ble_eq_true rfl) d_Server_init_31 34 rfl 6 22 rfl rfl (Nat.le_of_ble_eq_true rfl) (Nat.le_of_ble_eq_true rfl) (fun f8 hf9 => ?_)
  subst hf9
  refine n_putF S hK hnm0 hin_Server t_Server ok_Server nm_Server 0 rfl rfl 3 (Nat.le_of_ble_eq_true rfl) (ht _ w_123) (fun _ h => h) rfl rfl rfl rfl (Nat.le_of_ble_eq_true rfl) d_Server_init_34 37 rfl ([(h0, .inr (1, [.int 0, .ref (f2 0), .ref (f5 0), .ref (f8 0), .int 0, .int 0, .int 0, .int 0, .int 0, .int 0])), (f2 0, .inr (6, [.int 0, .int 7, .int 7]))] ++ wState K f5 ++ [(f8 0, .inr (7, [.int 0, .int 0, .int 0, .int 0, .int 0]))]) rfl ?_
  refine z_aload_n S d_Server_init_37 rfl 0 rfl 38 rfl ?_
  refine z_iconst S d_Server_init_38 0 (by decide) 39 rfl ?_
  refine n_put S hK hin_Server t_Server ok_Server nm_Server 0 rfl rfl 4 (Nat.le_of_ble_eq_true rfl) (ht _ w_125) (fun _ h => h) rfl rfl rfl (Nat.le_of_ble_eq_true rfl) d_Server_init_39 42 rfl ([(h0, .inr (1, [.int 0, .ref (f2 0), .ref (f5 0), .ref (f8 0), .int 0, .int 0, .int 0, .int 0, .int 0, .int 0])), (f2 0, .inr (6, [.int 0, .int 7, .int 7]))] ++ wState K f5 ++ [(f8 0, .inr (7, [.int 0, .int 0, .int 0, .int 0, .int 0]))]) rfl ?_
  refine z_aload_n S d_Server_init_42 rfl 0 rfl 43 rfl ?_
  refine z_sipush S d_Server_init_43 (-1000) (by decide) 46 rfl ?_
  refine n_put S hK hin_Server t_Server ok_Server nm_Server 0 rfl rfl 5 (Nat.le_of_ble_eq_true rfl) (ht _ w_127) (fun _ h => h) rfl rfl rfl (Nat.le_of_ble_eq_true rfl) d_Server_init_46 49 rfl ([(h0, .inr (1, [.int 0, .ref (f2 0), .ref (f5 0), .ref (f8 0), .int 0, .int (-1000), .int 0, .int 0, .int 0, .int 0])), (f2 0, .inr (6, [.int 0, .int 7, .int 7]))] ++ wState K f5 ++ [(f8 0, .inr (7, [.int 0, .int 0, .int 0, .int 0, .int 0]))]) rfl ?_
  refine z_aload_n S d_Server_init_49 rfl 0 rfl 50 rfl ?_
  refine z_iconst S d_Server_init_50 0 (by decide) 51 rfl ?_
  refine n_put S hK hin_Server t_Server ok_Server nm_Server 0 rfl rfl 6 (Nat.le_of_ble_eq_true rfl) (ht _ w_129) (fun _ h => h) rfl (zb_n zb_0) (zb_f zb_0) (Nat.le_of_ble_eq_true rfl) d_Server_init_51 54 rfl ([(h0, .inr (1, [.int 0, .ref (f2 0), .ref (f5 0), .ref (f8 0), .int 0, .int (-1000), .int 0, .int 0, .int 0, .int 0])), (f2 0, .inr (6, [.int 0, .int 7, .int 7]))] ++ wState K f5 ++ [(f8 0, .inr (7, [.int 0, .int 0, .int 0, .int 0, .int 0]))]) rfl ?_
  refine z_aload_n S d_Server_init_54 rfl 0 rfl 55 rfl ?_
  refine z_iconst S d_Server_init_55 0 (by decide) 56 rfl ?_
  refine n_put S hK hin_Server t_Server ok_Server nm_Server 0 rfl rfl 7 (Nat.le_of_ble_eq_true rfl) (ht _ w_131) (fun _ h => h) rfl (zb_n zb_0) (zb_f zb_0) (Nat.le_of_ble_eq_true rfl) d_Server_init_56 59 rfl ([(h0, .inr (1, [.int 0, .ref (f2 0), .ref (f5 0), .ref (f8 0), .int 0, .int (-1000), .int 0, .int 0, .int 0, .int 0])), (f2 0, .inr (6, [.int 0, .int 7, .int 7]))] ++ wState K f5 ++ [(f8 0, .inr (7, [.int 0, .int 0, .int 0, .int 0, .int 0]))]) rfl ?_
  refine z_aload_n S d_Server_init_59 rfl 0 rfl 60 rfl ?_
  refine z_iconst S d_Server_init_60 0 (by decide) 61 rfl ?_
  refine n_put S hK hin_Server t_Server ok_Server nm_Server 0 rfl rfl 8 (Nat.le_of_ble_eq_true rfl) (ht _ w_133) (fun _ h => h) rfl (zb_n zb_0) (zb_f zb_0) (Nat.le_of_ble_eq_true rfl) d_Server_init_61 64 rfl ([(h0, .inr (1, [.int 0, .ref (f2 0), .ref (f5 0), .ref (f8 0), .int 0, .int (-1000), .int 0, .int 0, .int 0, .int 0])), (f2 0, .inr (6, [.int 0, .int 7, .int 7]))] ++ wState K f5 ++ [(f8 0, .inr (7, [.int 0, .int 0, .int 0, .int 0, .int 0]))]) rfl ?_
  refine z_aload_n S d_Server_init_64 rfl 0 rfl 65 rfl ?_
  refine z_iconst S d_Server_init_65 0 (by decide) 66 rfl ?_
  refine n_put S hK hin_Server t_Server ok_Server nm_Server 0 rfl rfl 9 (Nat.le_of_ble_eq_true rfl) (ht _ w_135) (fun _ h => h) rfl (zb_n zb_0) (zb_f zb_0) (Nat.le_of_ble_eq_true rfl) d_Server_init_66 69 rfl ([(h0, .inr (1, [.int 0, .ref (f2 0), .ref (f5 0), .ref (f8 0), .int 0, .int (-1000), .int 0, .int 0, .int 0, .int 0])), (f2 0, .inr (6, [.int 0, .int 7, .int 7]))] ++ wState K f5 ++ [(f8 0, .inr (7, [.int 0, .int 0, .int 0, .int 0, .int 0]))]) rfl ?_
  refine z_aload_n S d_Server_init_69 rfl 0 rfl 70 rfl ?_
  refine z_iload_n S d_Server_init_70 rfl 1 rfl 71 rfl ?_
  refine n_putF S hK hnm0 hin_Server t_Server ok_Server nm_Server 0 rfl rfl 0 (Nat.le_of_ble_eq_true rfl) (ht _ w_118) (fun _ h => h) rfl rfl rfl rfl (Nat.le_of_ble_eq_true rfl) d_Server_init_71 74 rfl ([(h0, .inr (1, [.int x, .ref (f2 0), .ref (f5 0), .ref (f8 0), .int 0, .int (-1000), .int 0, .int 0, .int 0, .int 0])), (f2 0, .inr (6, [.int 0, .int 7, .int 7]))] ++ wState K f5 ++ [(f8 0, .inr (7, [.int 0, .int 0, .int 0, .int 0, .int 0]))]) rfl ?_
  exact n_vret S hr hlk d_Server_init_74 (fun k => ([h0, f2 0, f5 0, f5 1, f5 2, f5 3, f8 0] : List Nat).getD k 0) rfl rfl
theorem d_Client_init_0 : decode prog_2_method_1_code 0 = .ok (.aload_n 0, 1) := by decide +kernel
theorem d_Client_init_1 : decode prog_2_method_1_code 1 = .ok (.invokespecial 1, 3) := by decide +kernel
theorem d_Client_init_4 : decode prog_2_method_1_code 4 = .ok (.aload_n 0, 1) := by decide +kernel
theorem d_Client_init_5 : decode prog_2_method_1_code 5 = .ok (.new 7, 3) := by decide +kernel
theorem d_Client_init_8 : decode prog_2_method_1_code 8 = .ok (.dup, 1) := by decide +kernel
theorem d_Client_init_9 : decode prog_2_method_1_code 9 = .ok (.invokespecial 9, 3) := by decide +kernel
theorem d_Client_init_12 : decode prog_2_method_1_code 12 = .ok (.putfield 10, 3) := by decide +kernel
theorem d_Client_init_15 : decode prog_2_method_1_code 15 = .ok (.aload_n 0, 1) := by decide +kernel
theorem d_Client_init_16 : decode prog_2_method_1_code 16 = .ok (.iconst 0, 1) := by decide +kernel
theorem d_Client_init_17 : decode prog_2_method_1_code 17 = .ok (.putfield 16, 3) := by decide +kernel
theorem d_Client_init_20 : decode prog_2_method_1_code 20 = .ok (.aload_n 0, 1) := by decide +kernel
theorem d_Client_init_21 : decode prog_2_method_1_code 21 = .ok (.iconst 0, 1) := by decide +kernel
theorem d_Client_init_22 : decode prog_2_method_1_code 22 = .ok (.putfield 20, 3) := by decide +kernel
theorem d_Client_init_25 : decode prog_2_method_1_code 25 = .ok (.aload_n 0, 1) := by decide +kernel
theorem d_Client_init_26 : decode prog_2_method_1_code 26 = .ok (.iconst 0, 1) := by decide +kernel
theorem d_Client_init_27 : decode prog_2_method_1_code 27 = .ok (.putfield 24, 3) := by decide +kernel
theorem d_Client_init_30 : decode prog_2_method_1_code 30 = .ok (.aload_n 0, 1) := by decide +kernel
theorem d_Client_init_31 : decode prog_2_method_1_code 31 = .ok (.getfield 10, 3) := by decide +kernel
theorem d_Client_init_34 : decode prog_2_method_1_code 34 = .ok (.iload_n 1, 1) := by decide +kernel
theorem d_Client_init_35 : decode prog_2_method_1_code 35 = .ok (.putfield 27, 3) := by decide +kernel
theorem d_Client_init_38 : decode prog_2_method_1_code 38 = .ok (.return_, 1) := by decide +kernel
set_option maxHeartbeats 4000000 in
set_option maxRecDepth 100000 in
theorem n_Client {l : Launch} {D : va_G} {K : Nat → ClassId} {h0 : Nat} {x : Int32} : zN l y_Client_init ws_Client_init ({ frames := 2, cells := 1, slots := 5, locals := 40 }) D (zTys K) [.ref h0, .int x] h0 (.inr (2, [.null, .int 0, .int 0, .int 0])) (wClient x) 1 5 := by
  refine zN.of (cc := prog_2_method_1_code) (maxL := 2) (by decide) rfl rfl (Nat.le_of_ble_eq_true rfl) ?_
  intro pP eE U mM bL mT cO A S hr hlk hnm0 hK hX hA
  have hts := S.2.2.2.2
  have ht := fun w h => hts w (List.mem_cons_of_mem _ h)
  refine z_aload_n S d_Client_init_0 rfl 0 rfl 1 rfl ?_
  refine n_obj S (ht _ w_164) (ht _ w_19) (ht _ w_20) (Nat.le_of_ble_eq_true rfl) (Nat.le_of_ble_eq_true rfl) d_Client_init_1 4 rfl ?_
  refine z_aload_n S d_Client_init_4 rfl 0 rfl 5 rfl ?_
  refine n_new S hK hA hin_Operation t_Operation ok_Operation (ht _ w_165) (ht _ w_84) (ht _ w_6) (ci := 7) rfl [.int 0, .int 0, .int 0, .int 0, .int 0] (by decide) d_Client_init_5 8 rfl 1 5 rfl rfl (Nat.le_of_ble_eq_true rfl) (Nat.le_of_ble_eq_true rfl) (fun q1 => ?_)
  refine z_dup S d_Client_init_8 rfl 9 rfl ?_
  refine n_initN S hK hX hA (As := []) (rest := [.ref q1, .ref h0]) ([(h0, .inr (2, [.null, .int 0, .int 0, .int 0]))]) rfl (n_Operation) (n_cwN hts hX.2.2.2.1 w_86 w_6 w_87 rfl (by decide) rfl rfl ⟨(Nat.le_of_ble_eq_true rfl), (Nat.le_of_ble_eq_true rfl)⟩) rfl rfl (Nat.le_of_ble_eq_true rfl) d_Client_init_9 12 rfl 1 5 rfl rfl (Nat.le_of_ble_eq_true rfl) (Nat.le_of_ble_eq_true rfl) (fun f2 hf3 => ?_)
  subst hf3
  refine n_putF S hK hnm0 hin_Client t_Client ok_Client nm_Client 0 rfl rfl 0 (Nat.le_of_ble_eq_true rfl) (ht _ w_167) (fun _ h => h) rfl rfl rfl rfl (Nat.le_of_ble_eq_true rfl) d_Client_init_12 15 rfl ([(h0, .inr (2, [.ref (f2 0), .int 0, .int 0, .int 0])), (f2 0, .inr (7, [.int 0, .int 0, .int 0, .int 0, .int 0]))]) rfl ?_
  refine z_aload_n S d_Client_init_15 rfl 0 rfl 16 rfl ?_
  refine z_iconst S d_Client_init_16 0 (by decide) 17 rfl ?_
  refine n_put S hK hin_Client t_Client ok_Client nm_Client 0 rfl rfl 1 (Nat.le_of_ble_eq_true rfl) (ht _ w_169) (fun _ h => h) rfl (zb_n zb_0) (zb_f zb_0) (Nat.le_of_ble_eq_true rfl) d_Client_init_17 20 rfl ([(h0, .inr (2, [.ref (f2 0), .int 0, .int 0, .int 0])), (f2 0, .inr (7, [.int 0, .int 0, .int 0, .int 0, .int 0]))]) rfl ?_
  refine z_aload_n S d_Client_init_20 rfl 0 rfl 21 rfl ?_
  refine z_iconst S d_Client_init_21 0 (by decide) 22 rfl ?_
  refine n_put S hK hin_Client t_Client ok_Client nm_Client 0 rfl rfl 2 (Nat.le_of_ble_eq_true rfl) (ht _ w_171) (fun _ h => h) rfl rfl rfl (Nat.le_of_ble_eq_true rfl) d_Client_init_22 25 rfl ([(h0, .inr (2, [.ref (f2 0), .int 0, .int 0, .int 0])), (f2 0, .inr (7, [.int 0, .int 0, .int 0, .int 0, .int 0]))]) rfl ?_
  refine z_aload_n S d_Client_init_25 rfl 0 rfl 26 rfl ?_
  refine z_iconst S d_Client_init_26 0 (by decide) 27 rfl ?_
  refine n_put S hK hin_Client t_Client ok_Client nm_Client 0 rfl rfl 3 (Nat.le_of_ble_eq_true rfl) (ht _ w_173) (fun _ h => h) rfl rfl rfl (Nat.le_of_ble_eq_true rfl) d_Client_init_27 30 rfl ([(h0, .inr (2, [.ref (f2 0), .int 0, .int 0, .int 0])), (f2 0, .inr (7, [.int 0, .int 0, .int 0, .int 0, .int 0]))]) rfl ?_
  refine z_aload_n S d_Client_init_30 rfl 0 rfl 31 rfl ?_
  refine n_get S hK hin_Client 0 rfl rfl 0 (Nat.le_of_ble_eq_true rfl) (ht _ w_167) (fun _ h => h) d_Client_init_31 34 rfl (.ref (f2 0)) rfl ?_
  refine z_iload_n S d_Client_init_34 rfl 1 rfl 35 rfl ?_
  refine n_put S hK hin_Operation t_Operation ok_Operation nm_Operation 1 rfl rfl 0 (Nat.le_of_ble_eq_true rfl) (ht _ w_90) (fun _ h => h) rfl rfl rfl (Nat.le_of_ble_eq_true rfl) d_Client_init_35 38 rfl ([(h0, .inr (2, [.ref (f2 0), .int 0, .int 0, .int 0])), (f2 0, .inr (7, [.int x, .int 0, .int 0, .int 0, .int 0]))]) rfl ?_
  exact n_vret S hr hlk d_Client_init_38 (fun k => ([h0, f2 0] : List Nat).getD k 0) rfl rfl
