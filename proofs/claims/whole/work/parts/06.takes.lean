theorem in_srv {n : Nat} {x : Int32} (hn : n ≤ 5) (h : ¬ v_Store_isServer n x = 0) : vp_in x n := by
  unfold v_Store_isServer at h
  by_cases h1 : x < 0
  · simp [h1] at h
  · by_cases h2 : nI n ≤ x
    · simp [h2] at h
    · obtain ⟨j, hj, rfl⟩ := nI_of h1
      rw [nI_leI (by omega) hj] at h2
      exact nI_in (by omega) (by omega)
theorem in_cli {x : Int32} (h : ¬ v_Store_isClient x = 0) : vp_in x 3 := by
  unfold v_Store_isClient at h
  by_cases h1 : x < 0
  · simp [h1] at h
  · by_cases h2 : (3 : Int32) ≤ x
    · simp [h2] at h
    · obtain ⟨j, hj, rfl⟩ := nI_of h1
      rw [show (3 : Int32) = nI 3 from rfl, nI_leI (by omega) hj] at h2
      exact nI_in (by omega) (by omega)
theorem in_cel {x : Int32} (h : ¬ v_Store_isCell x = 0) : vp_in x 4 := by
  unfold v_Store_isCell at h
  by_cases h1 : x < 0
  · simp [h1] at h
  · by_cases h2 : (4 : Int32) ≤ x
    · simp [h2] at h
    · obtain ⟨j, hj, rfl⟩ := nI_of h1
      rw [show (4 : Int32) = nI 4 from rfl, nI_leI (by omega) hj] at h2
      exact nI_in (by omega) (by omega)
theorem vp_nI {x : Int32} {n : Nat} (h : vp_in x n) : ∃ j, j < n ∧ j < 2 ^ 31 ∧ x = nI j := by
  have h1 : ¬ x < 0 := fun e => h (Or.inl e)
  obtain ⟨j, hj, rfl⟩ := nI_of h1
  have := vp_lt h
  rw [nI_clamp hj] at this
  exact ⟨j, this, hj, rfl⟩
theorem in_has {w x : Int32} (hw : vp_in w 33) (h : ¬ v_Post_has w x = 0) : vp_in x 33 := by
  unfold v_Post_has at h
  by_cases h1 : x < 0
  · simp [h1] at h
  · by_cases h2 : w ≤ x
    · simp [h2] at h
    · obtain ⟨j, hj, rfl⟩ := nI_of h1
      obtain ⟨k, hk, hk2, rfl⟩ := vp_nI hw
      rw [nI_leI hk2 hj] at h2
      exact nI_in (by omega) (by omega)
theorem hw_nx {w : Int32} (hw : vp_in w 33) : vp_in (nxW w) 33 := by
  obtain ⟨k, hk, hk2, rfl⟩ := vp_nI hw
  unfold nxW
  by_cases h : (32 : Int32) ≤ nI k
  · rw [if_pos h]; exact nI_in hk (by omega)
  · rw [if_neg h, nI_1]
    rw [show (32 : Int32) = nI 32 from rfl, nI_leI (by omega) hk2] at h
    exact nI_in (by omega) (by omega)
theorem hw_enter {n : Nat} {π : Nat → Nat} {s : S3} {i v : Nat} (hw : vp_in (s 4 2 0) 33) : vp_in (S_Store_enterView n π s i v 4 2 0) 33 := by
  unfold S_Store_enterView
  repeat' split
  all_goals first | exact hw | exact hw_nx hw
theorem hw_note {n : Nat} {π : Nat → Nat} {s : S3} {L : Nat} {t : Int32} (hw : vp_in (s 4 2 0) 33) : vp_in (S_Service_notePing n π s L t 4 2 0) 33 := by
  unfold S_Service_notePing
  repeat' split
  all_goals exact hw
theorem opOK_bec {π : Nat → Nat} {s : S3} {a b : Nat} (h : opOK s) : opOK (S_Operation_become π s a b) := by
  intro x
  by_cases hx : x = a
  · subst hx
    have := h b
    simpa [S_Operation_become, u3, uA, upd] using this
  · have := h x
    simpa [S_Operation_become, u3, uA, upd, hx] using this
theorem d_Store_takeRead_0 : decode prog_1_method_32_code 0 = .ok (.aload_n 0, 1) := by decide +kernel
theorem d_Store_takeRead_1 : decode prog_1_method_32_code 1 = .ok (.aload_n 1, 1) := by decide +kernel
theorem d_Store_takeRead_2 : decode prog_1_method_32_code 2 = .ok (.invokevirtual 76, 3) := by decide +kernel
theorem d_Store_takeRead_5 : decode prog_1_method_32_code 5 = .ok (.aload_n 1, 1) := by decide +kernel
theorem d_Store_takeRead_6 : decode prog_1_method_32_code 6 = .ok (.getfield 231, 3) := by decide +kernel
theorem d_Store_takeRead_9 : decode prog_1_method_32_code 9 = .ok (.if_icmp .lt 5, 3) := by decide +kernel
theorem d_Store_takeRead_12 : decode prog_1_method_32_code 12 = .ok (.iconst 0, 1) := by decide +kernel
theorem d_Store_takeRead_13 : decode prog_1_method_32_code 13 = .ok (.ireturn, 1) := by decide +kernel
theorem d_Store_takeRead_14 : decode prog_1_method_32_code 14 = .ok (.aload_n 0, 1) := by decide +kernel
theorem d_Store_takeRead_15 : decode prog_1_method_32_code 15 = .ok (.aload_n 2, 1) := by decide +kernel
theorem d_Store_takeRead_16 : decode prog_1_method_32_code 16 = .ok (.aload_n 1, 1) := by decide +kernel
theorem d_Store_takeRead_17 : decode prog_1_method_32_code 17 = .ok (.getfield 175, 3) := by decide +kernel
theorem d_Store_takeRead_20 : decode prog_1_method_32_code 20 = .ok (.getfield 179, 3) := by decide +kernel
theorem d_Store_takeRead_23 : decode prog_1_method_32_code 23 = .ok (.aload_n 2, 1) := by decide +kernel
theorem d_Store_takeRead_24 : decode prog_1_method_32_code 24 = .ok (.getfield 271, 3) := by decide +kernel
theorem d_Store_takeRead_27 : decode prog_1_method_32_code 27 = .ok (.iaload, 1) := by decide +kernel
theorem d_Store_takeRead_28 : decode prog_1_method_32_code 28 = .ok (.invokevirtual 274, 3) := by decide +kernel
theorem d_Store_takeRead_31 : decode prog_1_method_32_code 31 = .ok (.iconst 1, 1) := by decide +kernel
theorem d_Store_takeRead_32 : decode prog_1_method_32_code 32 = .ok (.ireturn, 1) := by decide +kernel
def S_Store_takeRead (n : Nat) (π : Nat → Nat) (s : S3) (i : Nat) (w : Nat) : S3 := if ((s 0 4 0) + (s 1 4 i)) < (s 1 5 i) then (S_Store_sendAnswer π s w (s 9 i ((s 7 3 w).toNatClampNeg))) else s
def v_Store_takeRead (n : Nat) (π : Nat → Nat) (s : S3) (i : Nat) (w : Nat) : Int32 := if ((s 0 4 0) + (s 1 4 i)) < (s 1 5 i) then 1 else 0
theorem zbv_Store_takeRead {n : Nat} {π : Nat → Nat} {s : S3} {i : Nat} {w : Nat} : zb (v_Store_takeRead n π s i w) := by
  unfold v_Store_takeRead
  repeat' split
  all_goals first | with_reducible exact zb_0 | with_reducible exact zb_1 | with_reducible exact zbv_View_hasBackup | with_reducible exact zbv_Server_isPrimary | with_reducible exact zbv_Server_isPrimaryOf | with_reducible exact zbv_Server_isBackupOf | with_reducible exact zbv_Client_takeAnswer | with_reducible exact zbv_Service_isFresh | with_reducible exact zbv_Post_has | with_reducible exact zbv_Store_isServer | with_reducible exact zbv_Store_isClient | with_reducible exact zbv_Store_isCell
set_option maxHeartbeats 4000000 in
set_option maxRecDepth 100000 in
theorem c_Store_takeRead {l : Launch} {D : va_G} {K : Nat → ClassId} {ad : Nat → Nat → Nat} {n : Nat} {π : Nat → Nat} {s : S3} {i w : Nat} (hJ : zw_J (cRL n) ad) (mi : (1, i) ∈ cRL n) (mw : (7, w) ∈ cRL n) (hw : vp_in (s 4 2 0) 33) (hπ : ∀ j, π j < 34) (hop : opOK s) : zM l y_Store_takeRead ws_Store_takeRead ({ frames := 2, cells := 0, slots := 0, locals := 46 }) D zCl (zTys K) (cRL n) ad [.ref (ad 0 0), .ref (ad 1 i), .ref (ad 7 w)] (kC K ad n s π) (some (.int (v_Store_takeRead n π s i w))) (kC K ad n (S_Store_takeRead n π s i w) π) := by
  refine zM.of (cc := prog_1_method_32_code) (maxL := 3) (ret := (Option.some Jvm.ClassFile.FieldType.boolean)) (by decide) rfl (Nat.le_of_ble_eq_true rfl) ?_
  intro pP eE U mM bL mT cO S hr hlk hK
  have hts := S.2.2.2.2
  have ht := fun w h => hts w (List.mem_cons_of_mem _ h)
  refine z_aload_n S d_Store_takeRead_0 rfl 0 rfl 1 rfl ?_
  refine z_aload_n S d_Store_takeRead_1 rfl 1 rfl 2 rfl ?_
  refine z_callV S hK (As := [.ref (ad 1 i)]) (rest := []) (c_Store_clockOf (i := i) hJ mi) (cw_Store_clockOf hts w_322 rfl rfl ⟨(Nat.le_of_ble_eq_true rfl), (Nat.le_of_ble_eq_true rfl)⟩) rl_0 kC_0 rfl rfl rfl (Nat.le_of_ble_eq_true rfl) d_Store_takeRead_2 5 rfl [.int ((s 0 4 0) + (s 1 4 i))] rfl ?_
  refine z_aload_n S d_Store_takeRead_5 rfl 1 rfl 6 rfl ?_
  refine z_get S hK hin_Server mi kC_1 rfl 5 (Nat.le_of_ble_eq_true rfl) (ht _ w_128) (fun _ h => h) d_Store_takeRead_6 9 rfl (.int (s 1 5 i)) rfl ?_
  refine z_icmp_lt S d_Store_takeRead_9 14 (by decide) 12 rfl (fun h1 => ?_) (fun h1 => ?_)
  · refine z_aload_n S d_Store_takeRead_14 rfl 0 rfl 15 rfl ?_
    refine z_aload_n S d_Store_takeRead_15 rfl 2 rfl 16 rfl ?_
    refine z_aload_n S d_Store_takeRead_16 rfl 1 rfl 17 rfl ?_
    refine z_get S hK hin_Server mi kC_1 rfl 2 (Nat.le_of_ble_eq_true rfl) (ht _ w_122) (fun _ h => h) d_Store_takeRead_17 20 rfl (.ref (ad 8 i)) rfl ?_
    refine z_get S hK hin_State (rl_ss mi) kC_8 rfl 0 (Nat.le_of_ble_eq_true rfl) (ht _ w_66) (fun _ h => h) d_Store_takeRead_20 23 rfl (.ref (ad 9 i)) rfl ?_
    refine z_aload_n S d_Store_takeRead_23 rfl 2 rfl 24 rfl ?_
    refine z_get S hK hin_Operation mw kC_7 rfl 3 (Nat.le_of_ble_eq_true rfl) (ht _ w_103) (fun _ h => h) d_Store_takeRead_24 27 rfl (.int (s 7 3 w)) rfl ?_
    refine z_iald S hK (rl_s9 (rl_ss mi)) 0 kC_9 rfl (opOK.k hop w) d_Store_takeRead_27 28 rfl (s 9 i ((s 7 3 w).toNatClampNeg)) rfl ?_
    refine z_callV S hK (As := [.ref (ad 7 w), .int (s 9 i ((s 7 3 w).toNatClampNeg))]) (rest := []) (c_Store_sendAnswer (w := w) (x := s 9 i ((s 7 3 w).toNatClampNeg)) hJ mw hw hπ hop) (cw_Store_sendAnswer hts w_467 rfl rfl ⟨(Nat.le_of_ble_eq_true rfl), (Nat.le_of_ble_eq_true rfl)⟩) rl_0 kC_0 rfl rfl rfl (Nat.le_of_ble_eq_true rfl) d_Store_takeRead_28 31 rfl [] rfl ?_
    refine z_iconst S d_Store_takeRead_31 1 (by decide) 32 rfl ?_
    exact z_zret S hr (zb_n zb_1) hlk d_Store_takeRead_32 (by unfold v_Store_takeRead; simp only [if_pos h1]) (kC_eq (by unfold S_Store_takeRead; simp only [if_pos h1]))
  · refine z_iconst S d_Store_takeRead_12 0 (by decide) 13 rfl ?_
    exact z_zret S hr (zb_n zb_0) hlk d_Store_takeRead_13 (by unfold v_Store_takeRead; simp only [if_neg h1]) (kC_eq (by unfold S_Store_takeRead; simp only [if_neg h1]))
theorem d_Store_takeWrite_0 : decode prog_1_method_33_code 0 = .ok (.aload_n 1, 1) := by decide +kernel
theorem d_Store_takeWrite_1 : decode prog_1_method_33_code 1 = .ok (.getfield 175, 3) := by decide +kernel
theorem d_Store_takeWrite_4 : decode prog_1_method_33_code 4 = .ok (.getfield 278, 3) := by decide +kernel
theorem d_Store_takeWrite_7 : decode prog_1_method_33_code 7 = .ok (.aload_n 2, 1) := by decide +kernel
theorem d_Store_takeWrite_8 : decode prog_1_method_33_code 8 = .ok (.getfield 281, 3) := by decide +kernel
theorem d_Store_takeWrite_11 : decode prog_1_method_33_code 11 = .ok (.iaload, 1) := by decide +kernel
theorem d_Store_takeWrite_12 : decode prog_1_method_33_code 12 = .ok (.istore_n 3, 1) := by decide +kernel
theorem d_Store_takeWrite_13 : decode prog_1_method_33_code 13 = .ok (.aload_n 2, 1) := by decide +kernel
theorem d_Store_takeWrite_14 : decode prog_1_method_33_code 14 = .ok (.getfield 137, 3) := by decide +kernel
theorem d_Store_takeWrite_17 : decode prog_1_method_33_code 17 = .ok (.iload_n 3, 1) := by decide +kernel
theorem d_Store_takeWrite_18 : decode prog_1_method_33_code 18 = .ok (.if_icmp .ge 5, 3) := by decide +kernel
theorem d_Store_takeWrite_21 : decode prog_1_method_33_code 21 = .ok (.iconst 0, 1) := by decide +kernel
theorem d_Store_takeWrite_22 : decode prog_1_method_33_code 22 = .ok (.ireturn, 1) := by decide +kernel
theorem d_Store_takeWrite_23 : decode prog_1_method_33_code 23 = .ok (.aload_n 2, 1) := by decide +kernel
theorem d_Store_takeWrite_24 : decode prog_1_method_33_code 24 = .ok (.getfield 137, 3) := by decide +kernel
theorem d_Store_takeWrite_27 : decode prog_1_method_33_code 27 = .ok (.iload_n 3, 1) := by decide +kernel
theorem d_Store_takeWrite_28 : decode prog_1_method_33_code 28 = .ok (.if_icmp .ne 22, 3) := by decide +kernel
theorem d_Store_takeWrite_31 : decode prog_1_method_33_code 31 = .ok (.aload_n 0, 1) := by decide +kernel
theorem d_Store_takeWrite_32 : decode prog_1_method_33_code 32 = .ok (.aload_n 2, 1) := by decide +kernel
theorem d_Store_takeWrite_33 : decode prog_1_method_33_code 33 = .ok (.aload_n 1, 1) := by decide +kernel
theorem d_Store_takeWrite_34 : decode prog_1_method_33_code 34 = .ok (.getfield 175, 3) := by decide +kernel
theorem d_Store_takeWrite_37 : decode prog_1_method_33_code 37 = .ok (.getfield 284, 3) := by decide +kernel
theorem d_Store_takeWrite_40 : decode prog_1_method_33_code 40 = .ok (.aload_n 2, 1) := by decide +kernel
theorem d_Store_takeWrite_41 : decode prog_1_method_33_code 41 = .ok (.getfield 281, 3) := by decide +kernel
theorem d_Store_takeWrite_44 : decode prog_1_method_33_code 44 = .ok (.iaload, 1) := by decide +kernel
theorem d_Store_takeWrite_45 : decode prog_1_method_33_code 45 = .ok (.invokevirtual 274, 3) := by decide +kernel
theorem d_Store_takeWrite_48 : decode prog_1_method_33_code 48 = .ok (.iconst 1, 1) := by decide +kernel
theorem d_Store_takeWrite_49 : decode prog_1_method_33_code 49 = .ok (.ireturn, 1) := by decide +kernel
theorem d_Store_takeWrite_50 : decode prog_1_method_33_code 50 = .ok (.aload_n 1, 1) := by decide +kernel
theorem d_Store_takeWrite_51 : decode prog_1_method_33_code 51 = .ok (.getfield 101, 3) := by decide +kernel
theorem d_Store_takeWrite_54 : decode prog_1_method_33_code 54 = .ok (.invokevirtual 104, 3) := by decide +kernel
theorem d_Store_takeWrite_57 : decode prog_1_method_33_code 57 = .ok (.ifCond .ne 11, 3) := by decide +kernel
theorem d_Store_takeWrite_60 : decode prog_1_method_33_code 60 = .ok (.aload_n 0, 1) := by decide +kernel
theorem d_Store_takeWrite_61 : decode prog_1_method_33_code 61 = .ok (.aload_n 1, 1) := by decide +kernel
theorem d_Store_takeWrite_62 : decode prog_1_method_33_code 62 = .ok (.aload_n 2, 1) := by decide +kernel
theorem d_Store_takeWrite_63 : decode prog_1_method_33_code 63 = .ok (.invokevirtual 257, 3) := by decide +kernel
theorem d_Store_takeWrite_66 : decode prog_1_method_33_code 66 = .ok (.iconst 1, 1) := by decide +kernel
theorem d_Store_takeWrite_67 : decode prog_1_method_33_code 67 = .ok (.ireturn, 1) := by decide +kernel
theorem d_Store_takeWrite_68 : decode prog_1_method_33_code 68 = .ok (.aload_n 1, 1) := by decide +kernel
theorem d_Store_takeWrite_69 : decode prog_1_method_33_code 69 = .ok (.getfield 107, 3) := by decide +kernel
theorem d_Store_takeWrite_72 : decode prog_1_method_33_code 72 = .ok (.ifCond .eq 10, 3) := by decide +kernel
theorem d_Store_takeWrite_75 : decode prog_1_method_33_code 75 = .ok (.aload_n 1, 1) := by decide +kernel
theorem d_Store_takeWrite_76 : decode prog_1_method_33_code 76 = .ok (.getfield 114, 3) := by decide +kernel
theorem d_Store_takeWrite_79 : decode prog_1_method_33_code 79 = .ok (.ifCond .eq 5, 3) := by decide +kernel
theorem d_Store_takeWrite_82 : decode prog_1_method_33_code 82 = .ok (.iconst 0, 1) := by decide +kernel
theorem d_Store_takeWrite_83 : decode prog_1_method_33_code 83 = .ok (.ireturn, 1) := by decide +kernel
theorem d_Store_takeWrite_84 : decode prog_1_method_33_code 84 = .ok (.aload_n 1, 1) := by decide +kernel
theorem d_Store_takeWrite_85 : decode prog_1_method_33_code 85 = .ok (.iconst 1, 1) := by decide +kernel
theorem d_Store_takeWrite_86 : decode prog_1_method_33_code 86 = .ok (.putfield 114, 3) := by decide +kernel
theorem d_Store_takeWrite_89 : decode prog_1_method_33_code 89 = .ok (.aload_n 1, 1) := by decide +kernel
theorem d_Store_takeWrite_90 : decode prog_1_method_33_code 90 = .ok (.getfield 254, 3) := by decide +kernel
theorem d_Store_takeWrite_93 : decode prog_1_method_33_code 93 = .ok (.aload_n 2, 1) := by decide +kernel
theorem d_Store_takeWrite_94 : decode prog_1_method_33_code 94 = .ok (.invokevirtual 141, 3) := by decide +kernel
theorem d_Store_takeWrite_97 : decode prog_1_method_33_code 97 = .ok (.aload_n 0, 1) := by decide +kernel
theorem d_Store_takeWrite_98 : decode prog_1_method_33_code 98 = .ok (.aload_n 1, 1) := by decide +kernel
theorem d_Store_takeWrite_99 : decode prog_1_method_33_code 99 = .ok (.invokevirtual 117, 3) := by decide +kernel
theorem d_Store_takeWrite_102 : decode prog_1_method_33_code 102 = .ok (.iconst 1, 1) := by decide +kernel
theorem d_Store_takeWrite_103 : decode prog_1_method_33_code 103 = .ok (.ireturn, 1) := by decide +kernel
def S_Store_takeWrite (n : Nat) (π : Nat → Nat) (s : S3) (i : Nat) (w : Nat) : S3 := if (s 13 i ((s 7 0 w).toNatClampNeg)) ≤ (s 7 1 w) then (if (s 7 1 w) = (s 13 i ((s 7 0 w).toNatClampNeg)) then (S_Store_sendAnswer π s w (s 14 i ((s 7 0 w).toNatClampNeg))) else if (v_View_hasBackup (s 6 2 i)) = 0 then (S_Store_doWriteAndAnswer π s i w) else if (s 1 7 i) = 0 then s else if (s 1 8 i) = 0 then (S_Store_sendPass π (S_Operation_become π (u3 s 1 8 i 1) i w) i) else s) else s
def v_Store_takeWrite (n : Nat) (π : Nat → Nat) (s : S3) (i : Nat) (w : Nat) : Int32 := if (s 13 i ((s 7 0 w).toNatClampNeg)) ≤ (s 7 1 w) then (if (s 7 1 w) = (s 13 i ((s 7 0 w).toNatClampNeg)) then 1 else if (v_View_hasBackup (s 6 2 i)) = 0 then 1 else if (s 1 7 i) = 0 then 0 else if (s 1 8 i) = 0 then 1 else 0) else 0
theorem zbv_Store_takeWrite {n : Nat} {π : Nat → Nat} {s : S3} {i : Nat} {w : Nat} : zb (v_Store_takeWrite n π s i w) := by
  unfold v_Store_takeWrite
  repeat' split
  all_goals first | with_reducible exact zb_0 | with_reducible exact zb_1 | with_reducible exact zbv_View_hasBackup | with_reducible exact zbv_Server_isPrimary | with_reducible exact zbv_Server_isPrimaryOf | with_reducible exact zbv_Server_isBackupOf | with_reducible exact zbv_Client_takeAnswer | with_reducible exact zbv_Service_isFresh | with_reducible exact zbv_Post_has | with_reducible exact zbv_Store_isServer | with_reducible exact zbv_Store_isClient | with_reducible exact zbv_Store_isCell | with_reducible exact zbv_Store_takeRead
set_option maxHeartbeats 4000000 in
set_option maxRecDepth 100000 in
theorem c_Store_takeWrite {l : Launch} {D : va_G} {K : Nat → ClassId} {ad : Nat → Nat → Nat} {n : Nat} {π : Nat → Nat} {s : S3} {i w : Nat} (hJ : zw_J (cRL n) ad) (mi : (1, i) ∈ cRL n) (mw : (7, w) ∈ cRL n) (hw : vp_in (s 4 2 0) 33) (hπ : ∀ j, π j < 34) (hop : opOK s) : zM l y_Store_takeWrite ws_Store_takeWrite ({ frames := 3, cells := 0, slots := 0, locals := 68 }) D zCl (zTys K) (cRL n) ad [.ref (ad 0 0), .ref (ad 1 i), .ref (ad 7 w)] (kC K ad n s π) (some (.int (v_Store_takeWrite n π s i w))) (kC K ad n (S_Store_takeWrite n π s i w) π) := by
  refine zM.of (cc := prog_1_method_33_code) (maxL := 4) (ret := (Option.some Jvm.ClassFile.FieldType.boolean)) (by decide) rfl (Nat.le_of_ble_eq_true rfl) ?_
  intro pP eE U mM bL mT cO S hr hlk hK
  have hts := S.2.2.2.2
  have ht := fun w h => hts w (List.mem_cons_of_mem _ h)
  refine z_aload_n S d_Store_takeWrite_0 rfl 1 rfl 1 rfl ?_
  refine z_get S hK hin_Server mi kC_1 rfl 2 (Nat.le_of_ble_eq_true rfl) (ht _ w_122) (fun _ h => h) d_Store_takeWrite_1 4 rfl (.ref (ad 8 i)) rfl ?_
  refine z_get S hK hin_State (rl_ss mi) kC_8 rfl 1 (Nat.le_of_ble_eq_true rfl) (ht _ w_68) (fun _ h => h) d_Store_takeWrite_4 7 rfl (.ref (ad 13 i)) rfl ?_
  refine z_aload_n S d_Store_takeWrite_7 rfl 2 rfl 8 rfl ?_
  refine z_get S hK hin_Operation mw kC_7 rfl 0 (Nat.le_of_ble_eq_true rfl) (ht _ w_92) (fun _ h => h) d_Store_takeWrite_8 11 rfl (.int (s 7 0 w)) rfl ?_
  refine z_iald S hK (rl_s13 (rl_ss mi)) 0 kC_13 rfl (opOK.c hop w) d_Store_takeWrite_11 12 rfl (s 13 i ((s 7 0 w).toNatClampNeg)) rfl ?_
  refine z_istore_n S d_Store_takeWrite_12 rfl (Nat.le_of_ble_eq_true rfl) [(3, .int (s 13 i ((s 7 0 w).toNatClampNeg))), (0, .ref (ad 0 0)), (1, .ref (ad 1 i)), (2, .ref (ad 7 w))] rfl 13 rfl ?_
  refine z_aload_n S d_Store_takeWrite_13 rfl 3 rfl 14 rfl ?_
  refine z_get S hK hin_Operation mw kC_7 rfl 1 (Nat.le_of_ble_eq_true rfl) (ht _ w_96) (fun _ h => h) d_Store_takeWrite_14 17 rfl (.int (s 7 1 w)) rfl ?_
  refine z_iload_n S d_Store_takeWrite_17 rfl 0 rfl 18 rfl ?_
  refine z_icmp_ge S d_Store_takeWrite_18 23 (by decide) 21 rfl (fun h1 => ?_) (fun h1 => ?_)
  · refine z_aload_n S d_Store_takeWrite_23 rfl 3 rfl 24 rfl ?_
    refine z_get S hK hin_Operation mw kC_7 rfl 1 (Nat.le_of_ble_eq_true rfl) (ht _ w_96) (fun _ h => h) d_Store_takeWrite_24 27 rfl (.int (s 7 1 w)) rfl ?_
    refine z_iload_n S d_Store_takeWrite_27 rfl 0 rfl 28 rfl ?_
    refine z_icmp_ne S d_Store_takeWrite_28 50 (by decide) 31 rfl (fun h2 => ?_) (fun h2 => ?_)
    · refine z_aload_n S d_Store_takeWrite_50 rfl 2 rfl 51 rfl ?_
      refine z_get S hK hin_Server mi kC_1 rfl 1 (Nat.le_of_ble_eq_true rfl) (ht _ w_120) (fun _ h => h) d_Store_takeWrite_51 54 rfl (.ref (ad 6 i)) rfl ?_
      refine z_callV S hK (As := []) (rest := []) (c_View_hasBackup (a := i) hJ (rl_sv mi)) (cw_View_hasBackup hts w_355 rfl rfl ⟨(Nat.le_of_ble_eq_true rfl), (Nat.le_of_ble_eq_true rfl)⟩) (rl_sv mi) kC_6 rfl rfl rfl (Nat.le_of_ble_eq_true rfl) d_Store_takeWrite_54 57 rfl [.int (v_View_hasBackup (s 6 2 i))] rfl ?_
      refine z_if_ne S d_Store_takeWrite_57 68 (by decide) 60 rfl (fun h3 => ?_) (fun h3 => ?_)
      · refine z_aload_n S d_Store_takeWrite_68 rfl 2 rfl 69 rfl ?_
        refine z_get S hK hin_Server mi kC_1 rfl 7 (Nat.le_of_ble_eq_true rfl) (ht _ w_132) (fun _ h => h) d_Store_takeWrite_69 72 rfl (.int (s 1 7 i)) rfl ?_
        refine z_if_eq S d_Store_takeWrite_72 82 (by decide) 75 rfl (fun h4 => ?_) (fun h4 => ?_)
        · refine z_iconst S d_Store_takeWrite_82 0 (by decide) 83 rfl ?_
          exact z_zret S hr (zb_n zb_0) hlk d_Store_takeWrite_83 (by unfold v_Store_takeWrite; simp only [if_pos h1, if_neg h2, if_neg h3, if_pos h4]) (kC_eq (by unfold S_Store_takeWrite; simp only [if_pos h1, if_neg h2, if_neg h3, if_pos h4]))
        · refine z_aload_n S d_Store_takeWrite_75 rfl 2 rfl 76 rfl ?_
          refine z_get S hK hin_Server mi kC_1 rfl 8 (Nat.le_of_ble_eq_true rfl) (ht _ w_134) (fun _ h => h) d_Store_takeWrite_76 79 rfl (.int (s 1 8 i)) rfl ?_
          refine z_if_eq S d_Store_takeWrite_79 84 (by decide) 82 rfl (fun h5 => ?_) (fun h5 => ?_)
          · refine z_aload_n S d_Store_takeWrite_84 rfl 2 rfl 85 rfl ?_
            refine z_iconst S d_Store_takeWrite_85 1 (by decide) 86 rfl ?_
            refine z_put S hJ hK hin_Server t_Server ok_Server nm_Server mi kC_1 rfl 8 (Nat.le_of_ble_eq_true rfl) (ht _ w_134) (fun _ h => h) rfl (zb_n zb_1) (zb_f zb_1) (Nat.le_of_ble_eq_true rfl) up_1_8 d_Store_takeWrite_86 89 rfl ?_
            refine z_aload_n S d_Store_takeWrite_89 rfl 2 rfl 90 rfl ?_
            refine z_get S hK hin_Server mi kC_1 rfl 3 (Nat.le_of_ble_eq_true rfl) (ht _ w_124) (fun _ h => h) d_Store_takeWrite_90 93 rfl (.ref (ad 7 i)) rfl ?_
            refine z_aload_n S d_Store_takeWrite_93 rfl 3 rfl 94 rfl ?_
            refine z_callV S hK (As := [.ref (ad 7 w)]) (rest := []) (c_Operation_become (a := i) (b := w) hJ (rl_so mi) mw (opOK.w hop w)) (cw_Operation_become hts w_375 rfl rfl ⟨(Nat.le_of_ble_eq_true rfl), (Nat.le_of_ble_eq_true rfl)⟩) (rl_so mi) kC_7 rfl rfl rfl (Nat.le_of_ble_eq_true rfl) d_Store_takeWrite_94 97 rfl [] rfl ?_
            refine z_aload_n S d_Store_takeWrite_97 rfl 1 rfl 98 rfl ?_
            refine z_aload_n S d_Store_takeWrite_98 rfl 2 rfl 99 rfl ?_
            refine z_callV S hK (As := [.ref (ad 1 i)]) (rest := []) (c_Store_sendPass (i := i) hJ mi hw hπ (opOK_bec hop)) (cw_Store_sendPass hts w_371 rfl rfl ⟨(Nat.le_of_ble_eq_true rfl), (Nat.le_of_ble_eq_true rfl)⟩) rl_0 kC_0 rfl rfl rfl (Nat.le_of_ble_eq_true rfl) d_Store_takeWrite_99 102 rfl [] rfl ?_
            refine z_iconst S d_Store_takeWrite_102 1 (by decide) 103 rfl ?_
            exact z_zret S hr (zb_n zb_1) hlk d_Store_takeWrite_103 (by unfold v_Store_takeWrite; simp only [if_pos h1, if_neg h2, if_neg h3, if_neg h4, if_pos h5]) (kC_eq (by unfold S_Store_takeWrite; simp only [if_pos h1, if_neg h2, if_neg h3, if_neg h4, if_pos h5]))
          · refine z_iconst S d_Store_takeWrite_82 0 (by decide) 83 rfl ?_
            exact z_zret S hr (zb_n zb_0) hlk d_Store_takeWrite_83 (by unfold v_Store_takeWrite; simp only [if_pos h1, if_neg h2, if_neg h3, if_neg h4, if_neg h5]) (kC_eq (by unfold S_Store_takeWrite; simp only [if_pos h1, if_neg h2, if_neg h3, if_neg h4, if_neg h5]))
      · refine z_aload_n S d_Store_takeWrite_60 rfl 1 rfl 61 rfl ?_
        refine z_aload_n S d_Store_takeWrite_61 rfl 2 rfl 62 rfl ?_
        refine z_aload_n S d_Store_takeWrite_62 rfl 3 rfl 63 rfl ?_
        refine z_callV S hK (As := [.ref (ad 1 i), .ref (ad 7 w)]) (rest := []) (c_Store_doWriteAndAnswer (i := i) (w := w) hJ mi mw hw hπ hop) (cw_Store_doWriteAndAnswer hts w_463 rfl rfl ⟨(Nat.le_of_ble_eq_true rfl), (Nat.le_of_ble_eq_true rfl)⟩) rl_0 kC_0 rfl rfl rfl (Nat.le_of_ble_eq_true rfl) d_Store_takeWrite_63 66 rfl [] rfl ?_
        refine z_iconst S d_Store_takeWrite_66 1 (by decide) 67 rfl ?_
        exact z_zret S hr (zb_n zb_1) hlk d_Store_takeWrite_67 (by unfold v_Store_takeWrite; simp only [if_pos h1, if_neg h2, if_pos h3]) (kC_eq (by unfold S_Store_takeWrite; simp only [if_pos h1, if_neg h2, if_pos h3]))
    · refine z_aload_n S d_Store_takeWrite_31 rfl 1 rfl 32 rfl ?_
      refine z_aload_n S d_Store_takeWrite_32 rfl 3 rfl 33 rfl ?_
      refine z_aload_n S d_Store_takeWrite_33 rfl 2 rfl 34 rfl ?_
      refine z_get S hK hin_Server mi kC_1 rfl 2 (Nat.le_of_ble_eq_true rfl) (ht _ w_122) (fun _ h => h) d_Store_takeWrite_34 37 rfl (.ref (ad 8 i)) rfl ?_
      refine z_get S hK hin_State (rl_ss mi) kC_8 rfl 2 (Nat.le_of_ble_eq_true rfl) (ht _ w_70) (fun _ h => h) d_Store_takeWrite_37 40 rfl (.ref (ad 14 i)) rfl ?_
      refine z_aload_n S d_Store_takeWrite_40 rfl 3 rfl 41 rfl ?_
      refine z_get S hK hin_Operation mw kC_7 rfl 0 (Nat.le_of_ble_eq_true rfl) (ht _ w_92) (fun _ h => h) d_Store_takeWrite_41 44 rfl (.int (s 7 0 w)) rfl ?_
      refine z_iald S hK (rl_s14 (rl_ss mi)) 0 kC_14 rfl (opOK.c hop w) d_Store_takeWrite_44 45 rfl (s 14 i ((s 7 0 w).toNatClampNeg)) rfl ?_
      refine z_callV S hK (As := [.ref (ad 7 w), .int (s 14 i ((s 7 0 w).toNatClampNeg))]) (rest := []) (c_Store_sendAnswer (w := w) (x := s 14 i ((s 7 0 w).toNatClampNeg)) hJ mw hw hπ hop) (cw_Store_sendAnswer hts w_467 rfl rfl ⟨(Nat.le_of_ble_eq_true rfl), (Nat.le_of_ble_eq_true rfl)⟩) rl_0 kC_0 rfl rfl rfl (Nat.le_of_ble_eq_true rfl) d_Store_takeWrite_45 48 rfl [] rfl ?_
      refine z_iconst S d_Store_takeWrite_48 1 (by decide) 49 rfl ?_
      exact z_zret S hr (zb_n zb_1) hlk d_Store_takeWrite_49 (by unfold v_Store_takeWrite; simp only [if_pos h1, if_pos h2]) (kC_eq (by unfold S_Store_takeWrite; simp only [if_pos h1, if_pos h2]))
  · refine z_iconst S d_Store_takeWrite_21 0 (by decide) 22 rfl ?_
    exact z_zret S hr (zb_n zb_0) hlk d_Store_takeWrite_22 (by unfold v_Store_takeWrite; simp only [if_neg h1]) (kC_eq (by unfold S_Store_takeWrite; simp only [if_neg h1]))
theorem d_Store_takeAsk_0 : decode prog_1_method_31_code 0 = .ok (.aload_n 1, 1) := by decide +kernel
theorem d_Store_takeAsk_1 : decode prog_1_method_31_code 1 = .ok (.invokevirtual 97, 3) := by decide +kernel
theorem d_Store_takeAsk_4 : decode prog_1_method_31_code 4 = .ok (.ifCond .ne 5, 3) := by decide +kernel
theorem d_Store_takeAsk_7 : decode prog_1_method_31_code 7 = .ok (.iconst 0, 1) := by decide +kernel
theorem d_Store_takeAsk_8 : decode prog_1_method_31_code 8 = .ok (.ireturn, 1) := by decide +kernel
theorem d_Store_takeAsk_9 : decode prog_1_method_31_code 9 = .ok (.aload_n 2, 1) := by decide +kernel
theorem d_Store_takeAsk_10 : decode prog_1_method_31_code 10 = .ok (.getfield 140, 3) := by decide +kernel
theorem d_Store_takeAsk_13 : decode prog_1_method_31_code 13 = .ok (.astore_n 3, 1) := by decide +kernel
theorem d_Store_takeAsk_14 : decode prog_1_method_31_code 14 = .ok (.aload_n 3, 1) := by decide +kernel
theorem d_Store_takeAsk_15 : decode prog_1_method_31_code 15 = .ok (.getfield 261, 3) := by decide +kernel
theorem d_Store_takeAsk_18 : decode prog_1_method_31_code 18 = .ok (.ifCond .eq 12, 3) := by decide +kernel
theorem d_Store_takeAsk_21 : decode prog_1_method_31_code 21 = .ok (.aload_n 0, 1) := by decide +kernel
theorem d_Store_takeAsk_22 : decode prog_1_method_31_code 22 = .ok (.aload_n 1, 1) := by decide +kernel
theorem d_Store_takeAsk_23 : decode prog_1_method_31_code 23 = .ok (.aload_n 3, 1) := by decide +kernel
theorem d_Store_takeAsk_24 : decode prog_1_method_31_code 24 = .ok (.invokevirtual 264, 3) := by decide +kernel
theorem d_Store_takeAsk_27 : decode prog_1_method_31_code 27 = .ok (.goto 9, 3) := by decide +kernel
theorem d_Store_takeAsk_30 : decode prog_1_method_31_code 30 = .ok (.aload_n 0, 1) := by decide +kernel
theorem d_Store_takeAsk_31 : decode prog_1_method_31_code 31 = .ok (.aload_n 1, 1) := by decide +kernel
theorem d_Store_takeAsk_32 : decode prog_1_method_31_code 32 = .ok (.aload_n 3, 1) := by decide +kernel
theorem d_Store_takeAsk_33 : decode prog_1_method_31_code 33 = .ok (.invokevirtual 268, 3) := by decide +kernel
theorem d_Store_takeAsk_36 : decode prog_1_method_31_code 36 = .ok (.ireturn, 1) := by decide +kernel
def S_Store_takeAsk (n : Nat) (π : Nat → Nat) (s : S3) (i : Nat) (L : Nat) : S3 := if (v_Server_isPrimary (s 6 1 i) (s 1 0 i)) = 0 then s else if (s 7 2 (8 + L)) = 0 then (S_Store_takeRead n π s i (8 + L)) else S_Store_takeWrite n π s i (8 + L)
def v_Store_takeAsk (n : Nat) (π : Nat → Nat) (s : S3) (i : Nat) (L : Nat) : Int32 := if (v_Server_isPrimary (s 6 1 i) (s 1 0 i)) = 0 then 0 else if (s 7 2 (8 + L)) = 0 then (v_Store_takeRead n π s i (8 + L)) else v_Store_takeWrite n π s i (8 + L)
theorem zbv_Store_takeAsk {n : Nat} {π : Nat → Nat} {s : S3} {i : Nat} {L : Nat} : zb (v_Store_takeAsk n π s i L) := by
  unfold v_Store_takeAsk
  repeat' split
  all_goals first | with_reducible exact zb_0 | with_reducible exact zb_1 | with_reducible exact zbv_View_hasBackup | with_reducible exact zbv_Server_isPrimary | with_reducible exact zbv_Server_isPrimaryOf | with_reducible exact zbv_Server_isBackupOf | with_reducible exact zbv_Client_takeAnswer | with_reducible exact zbv_Service_isFresh | with_reducible exact zbv_Post_has | with_reducible exact zbv_Store_isServer | with_reducible exact zbv_Store_isClient | with_reducible exact zbv_Store_isCell | with_reducible exact zbv_Store_takeRead | with_reducible exact zbv_Store_takeWrite
set_option maxHeartbeats 4000000 in
set_option maxRecDepth 100000 in
theorem c_Store_takeAsk {l : Launch} {D : va_G} {K : Nat → ClassId} {ad : Nat → Nat → Nat} {n : Nat} {π : Nat → Nat} {s : S3} {i L : Nat} (hJ : zw_J (cRL n) ad) (mi : (1, i) ∈ cRL n) (mL : (5, L) ∈ cRL n) (hw : vp_in (s 4 2 0) 33) (hπ : ∀ j, π j < 34) (hop : opOK s) : zM l y_Store_takeAsk ws_Store_takeAsk ({ frames := 4, cells := 0, slots := 0, locals := 91 }) D zCl (zTys K) (cRL n) ad [.ref (ad 0 0), .ref (ad 1 i), .ref (ad 5 L)] (kC K ad n s π) (some (.int (v_Store_takeAsk n π s i L))) (kC K ad n (S_Store_takeAsk n π s i L) π) := by
  refine zM.of (cc := prog_1_method_31_code) (maxL := 4) (ret := (Option.some Jvm.ClassFile.FieldType.boolean)) (by decide) rfl (Nat.le_of_ble_eq_true rfl) ?_
  intro pP eE U mM bL mT cO S hr hlk hK
  have hts := S.2.2.2.2
  have ht := fun w h => hts w (List.mem_cons_of_mem _ h)
  refine z_aload_n S d_Store_takeAsk_0 rfl 1 rfl 1 rfl ?_
  refine z_callV S hK (As := []) (rest := []) (c_Server_isPrimary (i := i) hJ mi) (cw_Server_isPrimary hts w_354 rfl rfl ⟨(Nat.le_of_ble_eq_true rfl), (Nat.le_of_ble_eq_true rfl)⟩) mi kC_1 rfl rfl rfl (Nat.le_of_ble_eq_true rfl) d_Store_takeAsk_1 4 rfl [.int (v_Server_isPrimary (s 6 1 i) (s 1 0 i))] rfl ?_
  refine z_if_ne S d_Store_takeAsk_4 9 (by decide) 7 rfl (fun h1 => ?_) (fun h1 => ?_)
  · refine z_aload_n S d_Store_takeAsk_9 rfl 2 rfl 10 rfl ?_
    refine z_get S hK hin_Letter mL kC_5 rfl 1 (Nat.le_of_ble_eq_true rfl) (ht _ w_227) (fun _ h => h) d_Store_takeAsk_10 13 rfl (.ref (ad 7 (8 + L))) rfl ?_
    refine z_astore_n S d_Store_takeAsk_13 rfl (Nat.le_of_ble_eq_true rfl) [(3, .ref (ad 7 (8 + L))), (0, .ref (ad 0 0)), (1, .ref (ad 1 i)), (2, .ref (ad 5 L))] rfl 14 rfl ?_
    refine z_aload_n S d_Store_takeAsk_14 rfl 0 rfl 15 rfl ?_
    refine z_get S hK hin_Operation (rl_lo mL) kC_7 rfl 2 (Nat.le_of_ble_eq_true rfl) (ht _ w_99) (fun _ h => h) d_Store_takeAsk_15 18 rfl (.int (s 7 2 (8 + L))) rfl ?_
    refine z_if_eq S d_Store_takeAsk_18 30 (by decide) 21 rfl (fun h2 => ?_) (fun h2 => ?_)
    · refine z_aload_n S d_Store_takeAsk_30 rfl 1 rfl 31 rfl ?_
      refine z_aload_n S d_Store_takeAsk_31 rfl 2 rfl 32 rfl ?_
      refine z_aload_n S d_Store_takeAsk_32 rfl 0 rfl 33 rfl ?_
      refine z_callV S hK (As := [.ref (ad 1 i), .ref (ad 7 (8 + L))]) (rest := []) (c_Store_takeRead (i := i) (w := 8 + L) hJ mi (rl_lo mL) hw hπ hop) (cw_Store_takeRead hts w_479 rfl rfl ⟨(Nat.le_of_ble_eq_true rfl), (Nat.le_of_ble_eq_true rfl)⟩) rl_0 kC_0 rfl rfl rfl (Nat.le_of_ble_eq_true rfl) d_Store_takeAsk_33 36 rfl [.int (v_Store_takeRead n π s i (8 + L))] rfl ?_
      exact z_zret S hr (zb_n zbv_Store_takeRead) hlk d_Store_takeAsk_36 (by unfold v_Store_takeAsk; simp only [if_neg h1, if_pos h2]) (kC_eq (by unfold S_Store_takeAsk; simp only [if_neg h1, if_pos h2]))
    · refine z_aload_n S d_Store_takeAsk_21 rfl 1 rfl 22 rfl ?_
      refine z_aload_n S d_Store_takeAsk_22 rfl 2 rfl 23 rfl ?_
      refine z_aload_n S d_Store_takeAsk_23 rfl 0 rfl 24 rfl ?_
      refine z_callV S hK (As := [.ref (ad 1 i), .ref (ad 7 (8 + L))]) (rest := []) (c_Store_takeWrite (i := i) (w := 8 + L) hJ mi (rl_lo mL) hw hπ hop) (cw_Store_takeWrite hts w_475 rfl rfl ⟨(Nat.le_of_ble_eq_true rfl), (Nat.le_of_ble_eq_true rfl)⟩) rl_0 kC_0 rfl rfl rfl (Nat.le_of_ble_eq_true rfl) d_Store_takeAsk_24 27 rfl [.int (v_Store_takeWrite n π s i (8 + L))] rfl ?_
      refine z_goto S d_Store_takeAsk_27 36 (by decide) ?_
      exact z_zret S hr (zb_n zbv_Store_takeWrite) hlk d_Store_takeAsk_36 (by unfold v_Store_takeAsk; simp only [if_neg h1, if_neg h2]) (kC_eq (by unfold S_Store_takeAsk; simp only [if_neg h1, if_neg h2]))
  · refine z_iconst S d_Store_takeAsk_7 0 (by decide) 8 rfl ?_
    exact z_zret S hr (zb_n zb_0) hlk d_Store_takeAsk_8 (by unfold v_Store_takeAsk; simp only [if_pos h1]) (kC_eq (by unfold S_Store_takeAsk; simp only [if_pos h1]))
theorem d_Store_takePassed_0 : decode prog_1_method_30_code 0 = .ok (.aload_n 1, 1) := by decide +kernel
theorem d_Store_takePassed_1 : decode prog_1_method_30_code 1 = .ok (.aload_n 2, 1) := by decide +kernel
theorem d_Store_takePassed_2 : decode prog_1_method_30_code 2 = .ok (.getfield 223, 3) := by decide +kernel
theorem d_Store_takePassed_5 : decode prog_1_method_30_code 5 = .ok (.getfield 92, 3) := by decide +kernel
theorem d_Store_takePassed_8 : decode prog_1_method_30_code 8 = .ok (.invokevirtual 244, 3) := by decide +kernel
theorem d_Store_takePassed_11 : decode prog_1_method_30_code 11 = .ok (.ifCond .eq 24, 3) := by decide +kernel
theorem d_Store_takePassed_14 : decode prog_1_method_30_code 14 = .ok (.aload_n 1, 1) := by decide +kernel
theorem d_Store_takePassed_15 : decode prog_1_method_30_code 15 = .ok (.getfield 114, 3) := by decide +kernel
theorem d_Store_takePassed_18 : decode prog_1_method_30_code 18 = .ok (.ifCond .eq 17, 3) := by decide +kernel
theorem d_Store_takePassed_21 : decode prog_1_method_30_code 21 = .ok (.aload_n 1, 1) := by decide +kernel
theorem d_Store_takePassed_22 : decode prog_1_method_30_code 22 = .ok (.getfield 175, 3) := by decide +kernel
theorem d_Store_takePassed_25 : decode prog_1_method_30_code 25 = .ok (.getfield 185, 3) := by decide +kernel
theorem d_Store_takePassed_28 : decode prog_1_method_30_code 28 = .ok (.aload_n 2, 1) := by decide +kernel
theorem d_Store_takePassed_29 : decode prog_1_method_30_code 29 = .ok (.getfield 250, 3) := by decide +kernel
theorem d_Store_takePassed_32 : decode prog_1_method_30_code 32 = .ok (.if_icmp .eq 5, 3) := by decide +kernel
theorem d_Store_takePassed_35 : decode prog_1_method_30_code 35 = .ok (.iconst 0, 1) := by decide +kernel
theorem d_Store_takePassed_36 : decode prog_1_method_30_code 36 = .ok (.ireturn, 1) := by decide +kernel
theorem d_Store_takePassed_37 : decode prog_1_method_30_code 37 = .ok (.aload_n 1, 1) := by decide +kernel
theorem d_Store_takePassed_38 : decode prog_1_method_30_code 38 = .ok (.iconst 0, 1) := by decide +kernel
theorem d_Store_takePassed_39 : decode prog_1_method_30_code 39 = .ok (.putfield 114, 3) := by decide +kernel
theorem d_Store_takePassed_42 : decode prog_1_method_30_code 42 = .ok (.aload_n 0, 1) := by decide +kernel
theorem d_Store_takePassed_43 : decode prog_1_method_30_code 43 = .ok (.aload_n 1, 1) := by decide +kernel
theorem d_Store_takePassed_44 : decode prog_1_method_30_code 44 = .ok (.aload_n 1, 1) := by decide +kernel
theorem d_Store_takePassed_45 : decode prog_1_method_30_code 45 = .ok (.getfield 254, 3) := by decide +kernel
theorem d_Store_takePassed_48 : decode prog_1_method_30_code 48 = .ok (.invokevirtual 257, 3) := by decide +kernel
theorem d_Store_takePassed_51 : decode prog_1_method_30_code 51 = .ok (.iconst 1, 1) := by decide +kernel
theorem d_Store_takePassed_52 : decode prog_1_method_30_code 52 = .ok (.ireturn, 1) := by decide +kernel
def S_Store_takePassed (n : Nat) (π : Nat → Nat) (s : S3) (i : Nat) (L : Nat) : S3 := if (v_Server_isPrimaryOf (s 6 0 i) (s 6 1 i) (s 1 0 i) (s 6 0 (8 + L))) = 0 then s else if (s 1 8 i) = 0 then s else if (s 8 3 i) = (s 5 7 L) then (S_Store_doWriteAndAnswer π (u3 s 1 8 i 0) i i) else s
def v_Store_takePassed (n : Nat) (π : Nat → Nat) (s : S3) (i : Nat) (L : Nat) : Int32 := if (v_Server_isPrimaryOf (s 6 0 i) (s 6 1 i) (s 1 0 i) (s 6 0 (8 + L))) = 0 then 0 else if (s 1 8 i) = 0 then 0 else if (s 8 3 i) = (s 5 7 L) then 1 else 0
theorem zbv_Store_takePassed {n : Nat} {π : Nat → Nat} {s : S3} {i : Nat} {L : Nat} : zb (v_Store_takePassed n π s i L) := by
  unfold v_Store_takePassed
  repeat' split
  all_goals first | with_reducible exact zb_0 | with_reducible exact zb_1 | with_reducible exact zbv_View_hasBackup | with_reducible exact zbv_Server_isPrimary | with_reducible exact zbv_Server_isPrimaryOf | with_reducible exact zbv_Server_isBackupOf | with_reducible exact zbv_Client_takeAnswer | with_reducible exact zbv_Service_isFresh | with_reducible exact zbv_Post_has | with_reducible exact zbv_Store_isServer | with_reducible exact zbv_Store_isClient | with_reducible exact zbv_Store_isCell | with_reducible exact zbv_Store_takeRead | with_reducible exact zbv_Store_takeWrite | with_reducible exact zbv_Store_takeAsk
set_option maxHeartbeats 4000000 in
set_option maxRecDepth 100000 in
theorem c_Store_takePassed {l : Launch} {D : va_G} {K : Nat → ClassId} {ad : Nat → Nat → Nat} {n : Nat} {π : Nat → Nat} {s : S3} {i L : Nat} (hJ : zw_J (cRL n) ad) (mi : (1, i) ∈ cRL n) (mL : (5, L) ∈ cRL n) (hw : vp_in (s 4 2 0) 33) (hπ : ∀ j, π j < 34) (hop : opOK s) : zM l y_Store_takePassed ws_Store_takePassed ({ frames := 3, cells := 0, slots := 0, locals := 68 }) D zCl (zTys K) (cRL n) ad [.ref (ad 0 0), .ref (ad 1 i), .ref (ad 5 L)] (kC K ad n s π) (some (.int (v_Store_takePassed n π s i L))) (kC K ad n (S_Store_takePassed n π s i L) π) := by
  refine zM.of (cc := prog_1_method_30_code) (maxL := 3) (ret := (Option.some Jvm.ClassFile.FieldType.boolean)) (by decide) rfl (Nat.le_of_ble_eq_true rfl) ?_
  intro pP eE U mM bL mT cO S hr hlk hK
  have hts := S.2.2.2.2
  have ht := fun w h => hts w (List.mem_cons_of_mem _ h)
  refine z_aload_n S d_Store_takePassed_0 rfl 1 rfl 1 rfl ?_
  refine z_aload_n S d_Store_takePassed_1 rfl 2 rfl 2 rfl ?_
  refine z_get S hK hin_Letter mL kC_5 rfl 0 (Nat.le_of_ble_eq_true rfl) (ht _ w_224) (fun _ h => h) d_Store_takePassed_2 5 rfl (.ref (ad 6 (8 + L))) rfl ?_
  refine z_get S hK hin_View (rl_lv mL) kC_6 rfl 0 (Nat.le_of_ble_eq_true rfl) (ht _ w_43) (fun _ h => h) d_Store_takePassed_5 8 rfl (.int (s 6 0 (8 + L))) rfl ?_
  refine z_callV S hK (As := [.int (s 6 0 (8 + L))]) (rest := []) (c_Server_isPrimaryOf (i := i) (x := s 6 0 (8 + L)) hJ mi) (cw_Server_isPrimaryOf hts w_443 rfl rfl ⟨(Nat.le_of_ble_eq_true rfl), (Nat.le_of_ble_eq_true rfl)⟩) mi kC_1 rfl rfl rfl (Nat.le_of_ble_eq_true rfl) d_Store_takePassed_8 11 rfl [.int (v_Server_isPrimaryOf (s 6 0 i) (s 6 1 i) (s 1 0 i) (s 6 0 (8 + L)))] rfl ?_
  refine z_if_eq S d_Store_takePassed_11 35 (by decide) 14 rfl (fun h1 => ?_) (fun h1 => ?_)
  · refine z_iconst S d_Store_takePassed_35 0 (by decide) 36 rfl ?_
    exact z_zret S hr (zb_n zb_0) hlk d_Store_takePassed_36 (by unfold v_Store_takePassed; simp only [if_pos h1]) (kC_eq (by unfold S_Store_takePassed; simp only [if_pos h1]))
  · refine z_aload_n S d_Store_takePassed_14 rfl 1 rfl 15 rfl ?_
    refine z_get S hK hin_Server mi kC_1 rfl 8 (Nat.le_of_ble_eq_true rfl) (ht _ w_134) (fun _ h => h) d_Store_takePassed_15 18 rfl (.int (s 1 8 i)) rfl ?_
    refine z_if_eq S d_Store_takePassed_18 35 (by decide) 21 rfl (fun h2 => ?_) (fun h2 => ?_)
    · refine z_iconst S d_Store_takePassed_35 0 (by decide) 36 rfl ?_
      exact z_zret S hr (zb_n zb_0) hlk d_Store_takePassed_36 (by unfold v_Store_takePassed; simp only [if_neg h1, if_pos h2]) (kC_eq (by unfold S_Store_takePassed; simp only [if_neg h1, if_pos h2]))
    · refine z_aload_n S d_Store_takePassed_21 rfl 1 rfl 22 rfl ?_
      refine z_get S hK hin_Server mi kC_1 rfl 2 (Nat.le_of_ble_eq_true rfl) (ht _ w_122) (fun _ h => h) d_Store_takePassed_22 25 rfl (.ref (ad 8 i)) rfl ?_
      refine z_get S hK hin_State (rl_ss mi) kC_8 rfl 3 (Nat.le_of_ble_eq_true rfl) (ht _ w_72) (fun _ h => h) d_Store_takePassed_25 28 rfl (.int (s 8 3 i)) rfl ?_
      refine z_aload_n S d_Store_takePassed_28 rfl 2 rfl 29 rfl ?_
      refine z_get S hK hin_Letter mL kC_5 rfl 7 (Nat.le_of_ble_eq_true rfl) (ht _ w_243) (fun _ h => h) d_Store_takePassed_29 32 rfl (.int (s 5 7 L)) rfl ?_
      refine z_icmp_eq S d_Store_takePassed_32 37 (by decide) 35 rfl (fun h3 => ?_) (fun h3 => ?_)
      · refine z_aload_n S d_Store_takePassed_37 rfl 1 rfl 38 rfl ?_
        refine z_iconst S d_Store_takePassed_38 0 (by decide) 39 rfl ?_
        refine z_put S hJ hK hin_Server t_Server ok_Server nm_Server mi kC_1 rfl 8 (Nat.le_of_ble_eq_true rfl) (ht _ w_134) (fun _ h => h) rfl (zb_n zb_0) (zb_f zb_0) (Nat.le_of_ble_eq_true rfl) up_1_8 d_Store_takePassed_39 42 rfl ?_
        refine z_aload_n S d_Store_takePassed_42 rfl 0 rfl 43 rfl ?_
        refine z_aload_n S d_Store_takePassed_43 rfl 1 rfl 44 rfl ?_
        refine z_aload_n S d_Store_takePassed_44 rfl 1 rfl 45 rfl ?_
        refine z_get S hK hin_Server mi kC_1 rfl 3 (Nat.le_of_ble_eq_true rfl) (ht _ w_124) (fun _ h => h) d_Store_takePassed_45 48 rfl (.ref (ad 7 i)) rfl ?_
        refine z_callV S hK (As := [.ref (ad 1 i), .ref (ad 7 i)]) (rest := []) (c_Store_doWriteAndAnswer (i := i) (w := i) hJ mi (rl_so mi) hw hπ hop) (cw_Store_doWriteAndAnswer hts w_463 rfl rfl ⟨(Nat.le_of_ble_eq_true rfl), (Nat.le_of_ble_eq_true rfl)⟩) rl_0 kC_0 rfl rfl rfl (Nat.le_of_ble_eq_true rfl) d_Store_takePassed_48 51 rfl [] rfl ?_
        refine z_iconst S d_Store_takePassed_51 1 (by decide) 52 rfl ?_
        exact z_zret S hr (zb_n zb_1) hlk d_Store_takePassed_52 (by unfold v_Store_takePassed; simp only [if_neg h1, if_neg h2, if_pos h3]) (kC_eq (by unfold S_Store_takePassed; simp only [if_neg h1, if_neg h2, if_pos h3]))
      · refine z_iconst S d_Store_takePassed_35 0 (by decide) 36 rfl ?_
        exact z_zret S hr (zb_n zb_0) hlk d_Store_takePassed_36 (by unfold v_Store_takePassed; simp only [if_neg h1, if_neg h2, if_neg h3]) (kC_eq (by unfold S_Store_takePassed; simp only [if_neg h1, if_neg h2, if_neg h3]))
theorem d_Store_takePass_0 : decode prog_1_method_29_code 0 = .ok (.aload_n 1, 1) := by decide +kernel
theorem d_Store_takePass_1 : decode prog_1_method_29_code 1 = .ok (.aload_n 2, 1) := by decide +kernel
theorem d_Store_takePass_2 : decode prog_1_method_29_code 2 = .ok (.getfield 223, 3) := by decide +kernel
theorem d_Store_takePass_5 : decode prog_1_method_29_code 5 = .ok (.getfield 92, 3) := by decide +kernel
theorem d_Store_takePass_8 : decode prog_1_method_29_code 8 = .ok (.invokevirtual 247, 3) := by decide +kernel
theorem d_Store_takePass_11 : decode prog_1_method_29_code 11 = .ok (.ifCond .eq 10, 3) := by decide +kernel
theorem d_Store_takePass_14 : decode prog_1_method_29_code 14 = .ok (.aload_n 1, 1) := by decide +kernel
theorem d_Store_takePass_15 : decode prog_1_method_29_code 15 = .ok (.getfield 234, 3) := by decide +kernel
theorem d_Store_takePass_18 : decode prog_1_method_29_code 18 = .ok (.ifCond .ne 5, 3) := by decide +kernel
theorem d_Store_takePass_21 : decode prog_1_method_29_code 21 = .ok (.iconst 0, 1) := by decide +kernel
theorem d_Store_takePass_22 : decode prog_1_method_29_code 22 = .ok (.ireturn, 1) := by decide +kernel
theorem d_Store_takePass_23 : decode prog_1_method_29_code 23 = .ok (.aload_n 1, 1) := by decide +kernel
theorem d_Store_takePass_24 : decode prog_1_method_29_code 24 = .ok (.getfield 175, 3) := by decide +kernel
theorem d_Store_takePass_27 : decode prog_1_method_29_code 27 = .ok (.getfield 185, 3) := by decide +kernel
theorem d_Store_takePass_30 : decode prog_1_method_29_code 30 = .ok (.aload_n 2, 1) := by decide +kernel
theorem d_Store_takePass_31 : decode prog_1_method_29_code 31 = .ok (.getfield 250, 3) := by decide +kernel
theorem d_Store_takePass_34 : decode prog_1_method_29_code 34 = .ok (.if_icmp .ne 14, 3) := by decide +kernel
theorem d_Store_takePass_37 : decode prog_1_method_29_code 37 = .ok (.aload_n 1, 1) := by decide +kernel
theorem d_Store_takePass_38 : decode prog_1_method_29_code 38 = .ok (.getfield 175, 3) := by decide +kernel
theorem d_Store_takePass_41 : decode prog_1_method_29_code 41 = .ok (.aload_n 2, 1) := by decide +kernel
theorem d_Store_takePass_42 : decode prog_1_method_29_code 42 = .ok (.getfield 140, 3) := by decide +kernel
theorem d_Store_takePass_45 : decode prog_1_method_29_code 45 = .ok (.invokevirtual 251, 3) := by decide +kernel
theorem d_Store_takePass_48 : decode prog_1_method_29_code 48 = .ok (.aload_n 0, 1) := by decide +kernel
theorem d_Store_takePass_49 : decode prog_1_method_29_code 49 = .ok (.getfield 44, 3) := by decide +kernel
theorem d_Store_takePass_52 : decode prog_1_method_29_code 52 = .ok (.bipush 6, 2) := by decide +kernel
theorem d_Store_takePass_54 : decode prog_1_method_29_code 54 = .ok (.aload_n 1, 1) := by decide +kernel
theorem d_Store_takePass_55 : decode prog_1_method_29_code 55 = .ok (.getfield 101, 3) := by decide +kernel
theorem d_Store_takePass_58 : decode prog_1_method_29_code 58 = .ok (.getfield 241, 3) := by decide +kernel
theorem d_Store_takePass_61 : decode prog_1_method_29_code 61 = .ok (.invokevirtual 63, 3) := by decide +kernel
theorem d_Store_takePass_64 : decode prog_1_method_29_code 64 = .ok (.astore_n 3, 1) := by decide +kernel
theorem d_Store_takePass_65 : decode prog_1_method_29_code 65 = .ok (.aload_n 3, 1) := by decide +kernel
theorem d_Store_takePass_66 : decode prog_1_method_29_code 66 = .ok (.getfield 223, 3) := by decide +kernel
theorem d_Store_takePass_69 : decode prog_1_method_29_code 69 = .ok (.aload_n 1, 1) := by decide +kernel
theorem d_Store_takePass_70 : decode prog_1_method_29_code 70 = .ok (.getfield 101, 3) := by decide +kernel
theorem d_Store_takePass_73 : decode prog_1_method_29_code 73 = .ok (.invokevirtual 224, 3) := by decide +kernel
theorem d_Store_takePass_76 : decode prog_1_method_29_code 76 = .ok (.aload_n 3, 1) := by decide +kernel
theorem d_Store_takePass_77 : decode prog_1_method_29_code 77 = .ok (.aload_n 2, 1) := by decide +kernel
theorem d_Store_takePass_78 : decode prog_1_method_29_code 78 = .ok (.getfield 250, 3) := by decide +kernel
theorem d_Store_takePass_81 : decode prog_1_method_29_code 81 = .ok (.putfield 250, 3) := by decide +kernel
theorem d_Store_takePass_84 : decode prog_1_method_29_code 84 = .ok (.iconst 1, 1) := by decide +kernel
theorem d_Store_takePass_85 : decode prog_1_method_29_code 85 = .ok (.ireturn, 1) := by decide +kernel
def S_Store_takePass (n : Nat) (π : Nat → Nat) (s : S3) (i : Nat) (L : Nat) : S3 := if (v_Server_isBackupOf (s 6 0 i) (s 6 2 i) (s 1 0 i) (s 6 0 (8 + L))) = 0 then s else if (s 1 9 i) = 0 then s else if (s 8 3 i) = (s 5 7 L) then (u3 (S_View_become π (S_Post_next π (S_State_doWrite π s i (8 + L)) 6 (s 6 1 i)) (8 + (nxL (s 4 2 0) π)) i) 5 7 (nxL (s 4 2 0) π) (s 5 7 L)) else u3 (S_View_become π (S_Post_next π s 6 (s 6 1 i)) (8 + (nxL (s 4 2 0) π)) i) 5 7 (nxL (s 4 2 0) π) (s 5 7 L)
def v_Store_takePass (n : Nat) (π : Nat → Nat) (s : S3) (i : Nat) (L : Nat) : Int32 := if (v_Server_isBackupOf (s 6 0 i) (s 6 2 i) (s 1 0 i) (s 6 0 (8 + L))) = 0 then 0 else if (s 1 9 i) = 0 then 0 else if (s 8 3 i) = (s 5 7 L) then 1 else 1
theorem zbv_Store_takePass {n : Nat} {π : Nat → Nat} {s : S3} {i : Nat} {L : Nat} : zb (v_Store_takePass n π s i L) := by
  unfold v_Store_takePass
  repeat' split
  all_goals first | with_reducible exact zb_0 | with_reducible exact zb_1 | with_reducible exact zbv_View_hasBackup | with_reducible exact zbv_Server_isPrimary | with_reducible exact zbv_Server_isPrimaryOf | with_reducible exact zbv_Server_isBackupOf | with_reducible exact zbv_Client_takeAnswer | with_reducible exact zbv_Service_isFresh | with_reducible exact zbv_Post_has | with_reducible exact zbv_Store_isServer | with_reducible exact zbv_Store_isClient | with_reducible exact zbv_Store_isCell | with_reducible exact zbv_Store_takeRead | with_reducible exact zbv_Store_takeWrite | with_reducible exact zbv_Store_takeAsk | with_reducible exact zbv_Store_takePassed
set_option maxHeartbeats 4000000 in
set_option maxRecDepth 100000 in
theorem c_Store_takePass {l : Launch} {D : va_G} {K : Nat → ClassId} {ad : Nat → Nat → Nat} {n : Nat} {π : Nat → Nat} {s : S3} {i L : Nat} (hJ : zw_J (cRL n) ad) (mi : (1, i) ∈ cRL n) (mL : (5, L) ∈ cRL n) (hw : vp_in (s 4 2 0) 33) (hπ : ∀ j, π j < 34) (hop : opOK s) : zM l y_Store_takePass ws_Store_takePass ({ frames := 1, cells := 0, slots := 0, locals := 23 }) D zCl (zTys K) (cRL n) ad [.ref (ad 0 0), .ref (ad 1 i), .ref (ad 5 L)] (kC K ad n s π) (some (.int (v_Store_takePass n π s i L))) (kC K ad n (S_Store_takePass n π s i L) π) := by
  refine zM.of (cc := prog_1_method_29_code) (maxL := 4) (ret := (Option.some Jvm.ClassFile.FieldType.boolean)) (by decide) rfl (Nat.le_of_ble_eq_true rfl) ?_
  intro pP eE U mM bL mT cO S hr hlk hK
  have hts := S.2.2.2.2
  have ht := fun w h => hts w (List.mem_cons_of_mem _ h)
  refine z_aload_n S d_Store_takePass_0 rfl 1 rfl 1 rfl ?_
  refine z_aload_n S d_Store_takePass_1 rfl 2 rfl 2 rfl ?_
  refine z_get S hK hin_Letter mL kC_5 rfl 0 (Nat.le_of_ble_eq_true rfl) (ht _ w_224) (fun _ h => h) d_Store_takePass_2 5 rfl (.ref (ad 6 (8 + L))) rfl ?_
  refine z_get S hK hin_View (rl_lv mL) kC_6 rfl 0 (Nat.le_of_ble_eq_true rfl) (ht _ w_43) (fun _ h => h) d_Store_takePass_5 8 rfl (.int (s 6 0 (8 + L))) rfl ?_
  refine z_callV S hK (As := [.int (s 6 0 (8 + L))]) (rest := []) (c_Server_isBackupOf (i := i) (x := s 6 0 (8 + L)) hJ mi) (cw_Server_isBackupOf hts w_451 rfl rfl ⟨(Nat.le_of_ble_eq_true rfl), (Nat.le_of_ble_eq_true rfl)⟩) mi kC_1 rfl rfl rfl (Nat.le_of_ble_eq_true rfl) d_Store_takePass_8 11 rfl [.int (v_Server_isBackupOf (s 6 0 i) (s 6 2 i) (s 1 0 i) (s 6 0 (8 + L)))] rfl ?_
  refine z_if_eq S d_Store_takePass_11 21 (by decide) 14 rfl (fun h1 => ?_) (fun h1 => ?_)
  · refine z_iconst S d_Store_takePass_21 0 (by decide) 22 rfl ?_
    exact z_zret S hr (zb_n zb_0) hlk d_Store_takePass_22 (by unfold v_Store_takePass; simp only [if_pos h1]) (kC_eq (by unfold S_Store_takePass; simp only [if_pos h1]))
  · refine z_aload_n S d_Store_takePass_14 rfl 1 rfl 15 rfl ?_
    refine z_get S hK hin_Server mi kC_1 rfl 9 (Nat.le_of_ble_eq_true rfl) (ht _ w_136) (fun _ h => h) d_Store_takePass_15 18 rfl (.int (s 1 9 i)) rfl ?_
    refine z_if_ne S d_Store_takePass_18 23 (by decide) 21 rfl (fun h2 => ?_) (fun h2 => ?_)
    · refine z_aload_n S d_Store_takePass_23 rfl 1 rfl 24 rfl ?_
      refine z_get S hK hin_Server mi kC_1 rfl 2 (Nat.le_of_ble_eq_true rfl) (ht _ w_122) (fun _ h => h) d_Store_takePass_24 27 rfl (.ref (ad 8 i)) rfl ?_
      refine z_get S hK hin_State (rl_ss mi) kC_8 rfl 3 (Nat.le_of_ble_eq_true rfl) (ht _ w_72) (fun _ h => h) d_Store_takePass_27 30 rfl (.int (s 8 3 i)) rfl ?_
      refine z_aload_n S d_Store_takePass_30 rfl 2 rfl 31 rfl ?_
      refine z_get S hK hin_Letter mL kC_5 rfl 7 (Nat.le_of_ble_eq_true rfl) (ht _ w_243) (fun _ h => h) d_Store_takePass_31 34 rfl (.int (s 5 7 L)) rfl ?_
      refine z_icmp_ne S d_Store_takePass_34 48 (by decide) 37 rfl (fun h3 => ?_) (fun h3 => ?_)
      · refine z_aload_n S d_Store_takePass_48 rfl 0 rfl 49 rfl ?_
        refine z_get S hK hin_Store rl_0 kC_0 rfl 3 (Nat.le_of_ble_eq_true rfl) (ht _ w_281) (fun _ h => h) d_Store_takePass_49 52 rfl (.ref (ad 4 0)) rfl ?_
        refine z_bipush S d_Store_takePass_52 6 (by decide) 54 rfl ?_
        refine z_aload_n S d_Store_takePass_54 rfl 1 rfl 55 rfl ?_
        refine z_get S hK hin_Server mi kC_1 rfl 1 (Nat.le_of_ble_eq_true rfl) (ht _ w_120) (fun _ h => h) d_Store_takePass_55 58 rfl (.ref (ad 6 i)) rfl ?_
        refine z_get S hK hin_View (rl_sv mi) kC_6 rfl 1 (Nat.le_of_ble_eq_true rfl) (ht _ w_47) (fun _ h => h) d_Store_takePass_58 61 rfl (.int (s 6 1 i)) rfl ?_
        refine z_callV S hK (As := [.int 6, .int (s 6 1 i)]) (rest := []) (c_Post_next (k := 6) (p := s 6 1 i) hJ hw hπ) (cw_Post_next hts w_310 rfl rfl ⟨(Nat.le_of_ble_eq_true rfl), (Nat.le_of_ble_eq_true rfl)⟩) rl_4 kC_4 rfl rfl rfl (Nat.le_of_ble_eq_true rfl) d_Store_takePass_61 64 rfl [.ref (ad 5 (nxL (s 4 2 0) π))] rfl ?_
        refine z_astore_n S d_Store_takePass_64 rfl (Nat.le_of_ble_eq_true rfl) [(3, .ref (ad 5 (nxL (s 4 2 0) π))), (0, .ref (ad 0 0)), (1, .ref (ad 1 i)), (2, .ref (ad 5 L))] rfl 65 rfl ?_
        refine z_aload_n S d_Store_takePass_65 rfl 0 rfl 66 rfl ?_
        refine z_get S hK hin_Letter (rl_nx hπ) kC_5 rfl 0 (Nat.le_of_ble_eq_true rfl) (ht _ w_224) (fun _ h => h) d_Store_takePass_66 69 rfl (.ref (ad 6 (8 + (nxL (s 4 2 0) π)))) rfl ?_
        refine z_aload_n S d_Store_takePass_69 rfl 2 rfl 70 rfl ?_
        refine z_get S hK hin_Server mi kC_1 rfl 1 (Nat.le_of_ble_eq_true rfl) (ht _ w_120) (fun _ h => h) d_Store_takePass_70 73 rfl (.ref (ad 6 i)) rfl ?_
        refine z_callV S hK (As := [.ref (ad 6 i)]) (rest := []) (c_View_become (a := 8 + (nxL (s 4 2 0) π)) (b := i) hJ (rl_lv (rl_nx hπ)) (rl_sv mi)) (cw_View_become hts w_360 rfl rfl ⟨(Nat.le_of_ble_eq_true rfl), (Nat.le_of_ble_eq_true rfl)⟩) (rl_lv (rl_nx hπ)) kC_6 rfl rfl rfl (Nat.le_of_ble_eq_true rfl) d_Store_takePass_73 76 rfl [] rfl ?_
        refine z_aload_n S d_Store_takePass_76 rfl 0 rfl 77 rfl ?_
        refine z_aload_n S d_Store_takePass_77 rfl 3 rfl 78 rfl ?_
        refine z_get S hK hin_Letter mL kC_5 rfl 7 (Nat.le_of_ble_eq_true rfl) (ht _ w_243) (fun _ h => h) d_Store_takePass_78 81 rfl (.int (s 5 7 L)) rfl ?_
        refine z_put S hJ hK hin_Letter t_Letter ok_Letter nm_Letter (rl_nx hπ) kC_5 rfl 7 (Nat.le_of_ble_eq_true rfl) (ht _ w_243) (fun _ h => h) rfl rfl rfl (Nat.le_of_ble_eq_true rfl) up_5_7 d_Store_takePass_81 84 rfl ?_
        refine z_iconst S d_Store_takePass_84 1 (by decide) 85 rfl ?_
        exact z_zret S hr (zb_n zb_1) hlk d_Store_takePass_85 (by unfold v_Store_takePass; simp only [if_neg h1, if_neg h2, if_neg h3]) (kC_eq (by unfold S_Store_takePass; simp only [if_neg h1, if_neg h2, if_neg h3]))
      · refine z_aload_n S d_Store_takePass_37 rfl 1 rfl 38 rfl ?_
        refine z_get S hK hin_Server mi kC_1 rfl 2 (Nat.le_of_ble_eq_true rfl) (ht _ w_122) (fun _ h => h) d_Store_takePass_38 41 rfl (.ref (ad 8 i)) rfl ?_
        refine z_aload_n S d_Store_takePass_41 rfl 2 rfl 42 rfl ?_
        refine z_get S hK hin_Letter mL kC_5 rfl 1 (Nat.le_of_ble_eq_true rfl) (ht _ w_227) (fun _ h => h) d_Store_takePass_42 45 rfl (.ref (ad 7 (8 + L))) rfl ?_
        refine z_callV S hK (As := [.ref (ad 7 (8 + L))]) (rest := []) (c_State_doWrite (a := i) (w := 8 + L) hJ (rl_ss mi) (rl_lo mL) (opOK.c hop (8 + L)) (opOK.k hop (8 + L))) (cw_State_doWrite hts w_455 rfl rfl ⟨(Nat.le_of_ble_eq_true rfl), (Nat.le_of_ble_eq_true rfl)⟩) (rl_ss mi) kC_8 rfl rfl rfl (Nat.le_of_ble_eq_true rfl) d_Store_takePass_45 48 rfl [] rfl ?_
        refine z_aload_n S d_Store_takePass_48 rfl 0 rfl 49 rfl ?_
        refine z_get S hK hin_Store rl_0 kC_0 rfl 3 (Nat.le_of_ble_eq_true rfl) (ht _ w_281) (fun _ h => h) d_Store_takePass_49 52 rfl (.ref (ad 4 0)) rfl ?_
        refine z_bipush S d_Store_takePass_52 6 (by decide) 54 rfl ?_
        refine z_aload_n S d_Store_takePass_54 rfl 1 rfl 55 rfl ?_
        refine z_get S hK hin_Server mi kC_1 rfl 1 (Nat.le_of_ble_eq_true rfl) (ht _ w_120) (fun _ h => h) d_Store_takePass_55 58 rfl (.ref (ad 6 i)) rfl ?_
        refine z_get S hK hin_View (rl_sv mi) kC_6 rfl 1 (Nat.le_of_ble_eq_true rfl) (ht _ w_47) (fun _ h => h) d_Store_takePass_58 61 rfl (.int (s 6 1 i)) rfl ?_
        refine z_callV S hK (As := [.int 6, .int (s 6 1 i)]) (rest := []) (c_Post_next (k := 6) (p := s 6 1 i) hJ hw hπ) (cw_Post_next hts w_310 rfl rfl ⟨(Nat.le_of_ble_eq_true rfl), (Nat.le_of_ble_eq_true rfl)⟩) rl_4 kC_4 rfl rfl rfl (Nat.le_of_ble_eq_true rfl) d_Store_takePass_61 64 rfl [.ref (ad 5 (nxL (s 4 2 0) π))] rfl ?_
        refine z_astore_n S d_Store_takePass_64 rfl (Nat.le_of_ble_eq_true rfl) [(3, .ref (ad 5 (nxL (s 4 2 0) π))), (0, .ref (ad 0 0)), (1, .ref (ad 1 i)), (2, .ref (ad 5 L))] rfl 65 rfl ?_
        refine z_aload_n S d_Store_takePass_65 rfl 0 rfl 66 rfl ?_
        refine z_get S hK hin_Letter (rl_nx hπ) kC_5 rfl 0 (Nat.le_of_ble_eq_true rfl) (ht _ w_224) (fun _ h => h) d_Store_takePass_66 69 rfl (.ref (ad 6 (8 + (nxL (s 4 2 0) π)))) rfl ?_
        refine z_aload_n S d_Store_takePass_69 rfl 2 rfl 70 rfl ?_
        refine z_get S hK hin_Server mi kC_1 rfl 1 (Nat.le_of_ble_eq_true rfl) (ht _ w_120) (fun _ h => h) d_Store_takePass_70 73 rfl (.ref (ad 6 i)) rfl ?_
        refine z_callV S hK (As := [.ref (ad 6 i)]) (rest := []) (c_View_become (a := 8 + (nxL (s 4 2 0) π)) (b := i) hJ (rl_lv (rl_nx hπ)) (rl_sv mi)) (cw_View_become hts w_360 rfl rfl ⟨(Nat.le_of_ble_eq_true rfl), (Nat.le_of_ble_eq_true rfl)⟩) (rl_lv (rl_nx hπ)) kC_6 rfl rfl rfl (Nat.le_of_ble_eq_true rfl) d_Store_takePass_73 76 rfl [] rfl ?_
        refine z_aload_n S d_Store_takePass_76 rfl 0 rfl 77 rfl ?_
        refine z_aload_n S d_Store_takePass_77 rfl 3 rfl 78 rfl ?_
        refine z_get S hK hin_Letter mL kC_5 rfl 7 (Nat.le_of_ble_eq_true rfl) (ht _ w_243) (fun _ h => h) d_Store_takePass_78 81 rfl (.int (s 5 7 L)) rfl ?_
        refine z_put S hJ hK hin_Letter t_Letter ok_Letter nm_Letter (rl_nx hπ) kC_5 rfl 7 (Nat.le_of_ble_eq_true rfl) (ht _ w_243) (fun _ h => h) rfl rfl rfl (Nat.le_of_ble_eq_true rfl) up_5_7 d_Store_takePass_81 84 rfl ?_
        refine z_iconst S d_Store_takePass_84 1 (by decide) 85 rfl ?_
        exact z_zret S hr (zb_n zb_1) hlk d_Store_takePass_85 (by unfold v_Store_takePass; simp only [if_neg h1, if_neg h2, if_pos h3]) (kC_eq (by unfold S_Store_takePass; simp only [if_neg h1, if_neg h2, if_pos h3]))
    · refine z_iconst S d_Store_takePass_21 0 (by decide) 22 rfl ?_
      exact z_zret S hr (zb_n zb_0) hlk d_Store_takePass_22 (by unfold v_Store_takePass; simp only [if_neg h1, if_pos h2]) (kC_eq (by unfold S_Store_takePass; simp only [if_neg h1, if_pos h2]))
theorem d_Store_takeFilled_0 : decode prog_1_method_28_code 0 = .ok (.aload_n 1, 1) := by decide +kernel
theorem d_Store_takeFilled_1 : decode prog_1_method_28_code 1 = .ok (.aload_n 2, 1) := by decide +kernel
theorem d_Store_takeFilled_2 : decode prog_1_method_28_code 2 = .ok (.getfield 223, 3) := by decide +kernel
theorem d_Store_takeFilled_5 : decode prog_1_method_28_code 5 = .ok (.getfield 92, 3) := by decide +kernel
theorem d_Store_takeFilled_8 : decode prog_1_method_28_code 8 = .ok (.invokevirtual 244, 3) := by decide +kernel
theorem d_Store_takeFilled_11 : decode prog_1_method_28_code 11 = .ok (.ifCond .eq 10, 3) := by decide +kernel
theorem d_Store_takeFilled_14 : decode prog_1_method_28_code 14 = .ok (.aload_n 1, 1) := by decide +kernel
theorem d_Store_takeFilled_15 : decode prog_1_method_28_code 15 = .ok (.getfield 107, 3) := by decide +kernel
theorem d_Store_takeFilled_18 : decode prog_1_method_28_code 18 = .ok (.ifCond .eq 5, 3) := by decide +kernel
theorem d_Store_takeFilled_21 : decode prog_1_method_28_code 21 = .ok (.iconst 0, 1) := by decide +kernel
theorem d_Store_takeFilled_22 : decode prog_1_method_28_code 22 = .ok (.ireturn, 1) := by decide +kernel
theorem d_Store_takeFilled_23 : decode prog_1_method_28_code 23 = .ok (.aload_n 1, 1) := by decide +kernel
theorem d_Store_takeFilled_24 : decode prog_1_method_28_code 24 = .ok (.iconst 1, 1) := by decide +kernel
theorem d_Store_takeFilled_25 : decode prog_1_method_28_code 25 = .ok (.putfield 107, 3) := by decide +kernel
theorem d_Store_takeFilled_28 : decode prog_1_method_28_code 28 = .ok (.iconst 1, 1) := by decide +kernel
theorem d_Store_takeFilled_29 : decode prog_1_method_28_code 29 = .ok (.ireturn, 1) := by decide +kernel
def S_Store_takeFilled (n : Nat) (π : Nat → Nat) (s : S3) (i : Nat) (L : Nat) : S3 := if (v_Server_isPrimaryOf (s 6 0 i) (s 6 1 i) (s 1 0 i) (s 6 0 (8 + L))) = 0 then s else if (s 1 7 i) = 0 then (u3 s 1 7 i 1) else s
def v_Store_takeFilled (n : Nat) (π : Nat → Nat) (s : S3) (i : Nat) (L : Nat) : Int32 := if (v_Server_isPrimaryOf (s 6 0 i) (s 6 1 i) (s 1 0 i) (s 6 0 (8 + L))) = 0 then 0 else if (s 1 7 i) = 0 then 1 else 0
theorem zbv_Store_takeFilled {n : Nat} {π : Nat → Nat} {s : S3} {i : Nat} {L : Nat} : zb (v_Store_takeFilled n π s i L) := by
  unfold v_Store_takeFilled
  repeat' split
  all_goals first | with_reducible exact zb_0 | with_reducible exact zb_1 | with_reducible exact zbv_View_hasBackup | with_reducible exact zbv_Server_isPrimary | with_reducible exact zbv_Server_isPrimaryOf | with_reducible exact zbv_Server_isBackupOf | with_reducible exact zbv_Client_takeAnswer | with_reducible exact zbv_Service_isFresh | with_reducible exact zbv_Post_has | with_reducible exact zbv_Store_isServer | with_reducible exact zbv_Store_isClient | with_reducible exact zbv_Store_isCell | with_reducible exact zbv_Store_takeRead | with_reducible exact zbv_Store_takeWrite | with_reducible exact zbv_Store_takeAsk | with_reducible exact zbv_Store_takePassed | with_reducible exact zbv_Store_takePass
set_option maxHeartbeats 4000000 in
set_option maxRecDepth 100000 in
theorem c_Store_takeFilled {l : Launch} {D : va_G} {K : Nat → ClassId} {ad : Nat → Nat → Nat} {n : Nat} {π : Nat → Nat} {s : S3} {i L : Nat} (hJ : zw_J (cRL n) ad) (mi : (1, i) ∈ cRL n) (mL : (5, L) ∈ cRL n) : zM l y_Store_takeFilled ws_Store_takeFilled ({ frames := 1, cells := 0, slots := 0, locals := 21 }) D zCl (zTys K) (cRL n) ad [.ref (ad 0 0), .ref (ad 1 i), .ref (ad 5 L)] (kC K ad n s π) (some (.int (v_Store_takeFilled n π s i L))) (kC K ad n (S_Store_takeFilled n π s i L) π) := by
  refine zM.of (cc := prog_1_method_28_code) (maxL := 3) (ret := (Option.some Jvm.ClassFile.FieldType.boolean)) (by decide) rfl (Nat.le_of_ble_eq_true rfl) ?_
  intro pP eE U mM bL mT cO S hr hlk hK
  have hts := S.2.2.2.2
  have ht := fun w h => hts w (List.mem_cons_of_mem _ h)
  refine z_aload_n S d_Store_takeFilled_0 rfl 1 rfl 1 rfl ?_
  refine z_aload_n S d_Store_takeFilled_1 rfl 2 rfl 2 rfl ?_
  refine z_get S hK hin_Letter mL kC_5 rfl 0 (Nat.le_of_ble_eq_true rfl) (ht _ w_224) (fun _ h => h) d_Store_takeFilled_2 5 rfl (.ref (ad 6 (8 + L))) rfl ?_
  refine z_get S hK hin_View (rl_lv mL) kC_6 rfl 0 (Nat.le_of_ble_eq_true rfl) (ht _ w_43) (fun _ h => h) d_Store_takeFilled_5 8 rfl (.int (s 6 0 (8 + L))) rfl ?_
  refine z_callV S hK (As := [.int (s 6 0 (8 + L))]) (rest := []) (c_Server_isPrimaryOf (i := i) (x := s 6 0 (8 + L)) hJ mi) (cw_Server_isPrimaryOf hts w_443 rfl rfl ⟨(Nat.le_of_ble_eq_true rfl), (Nat.le_of_ble_eq_true rfl)⟩) mi kC_1 rfl rfl rfl (Nat.le_of_ble_eq_true rfl) d_Store_takeFilled_8 11 rfl [.int (v_Server_isPrimaryOf (s 6 0 i) (s 6 1 i) (s 1 0 i) (s 6 0 (8 + L)))] rfl ?_
  refine z_if_eq S d_Store_takeFilled_11 21 (by decide) 14 rfl (fun h1 => ?_) (fun h1 => ?_)
  · refine z_iconst S d_Store_takeFilled_21 0 (by decide) 22 rfl ?_
    exact z_zret S hr (zb_n zb_0) hlk d_Store_takeFilled_22 (by unfold v_Store_takeFilled; simp only [if_pos h1]) (kC_eq (by unfold S_Store_takeFilled; simp only [if_pos h1]))
  · refine z_aload_n S d_Store_takeFilled_14 rfl 1 rfl 15 rfl ?_
    refine z_get S hK hin_Server mi kC_1 rfl 7 (Nat.le_of_ble_eq_true rfl) (ht _ w_132) (fun _ h => h) d_Store_takeFilled_15 18 rfl (.int (s 1 7 i)) rfl ?_
    refine z_if_eq S d_Store_takeFilled_18 23 (by decide) 21 rfl (fun h2 => ?_) (fun h2 => ?_)
    · refine z_aload_n S d_Store_takeFilled_23 rfl 1 rfl 24 rfl ?_
      refine z_iconst S d_Store_takeFilled_24 1 (by decide) 25 rfl ?_
      refine z_put S hJ hK hin_Server t_Server ok_Server nm_Server mi kC_1 rfl 7 (Nat.le_of_ble_eq_true rfl) (ht _ w_132) (fun _ h => h) rfl (zb_n zb_1) (zb_f zb_1) (Nat.le_of_ble_eq_true rfl) up_1_7 d_Store_takeFilled_25 28 rfl ?_
      refine z_iconst S d_Store_takeFilled_28 1 (by decide) 29 rfl ?_
      exact z_zret S hr (zb_n zb_1) hlk d_Store_takeFilled_29 (by unfold v_Store_takeFilled; simp only [if_neg h1, if_pos h2]) (kC_eq (by unfold S_Store_takeFilled; simp only [if_neg h1, if_pos h2]))
    · refine z_iconst S d_Store_takeFilled_21 0 (by decide) 22 rfl ?_
      exact z_zret S hr (zb_n zb_0) hlk d_Store_takeFilled_22 (by unfold v_Store_takeFilled; simp only [if_neg h1, if_neg h2]) (kC_eq (by unfold S_Store_takeFilled; simp only [if_neg h1, if_neg h2]))
theorem d_Store_takeFill_0 : decode prog_1_method_27_code 0 = .ok (.aload_n 2, 1) := by decide +kernel
theorem d_Store_takeFill_1 : decode prog_1_method_27_code 1 = .ok (.getfield 223, 3) := by decide +kernel
theorem d_Store_takeFill_4 : decode prog_1_method_27_code 4 = .ok (.getfield 92, 3) := by decide +kernel
theorem d_Store_takeFill_7 : decode prog_1_method_27_code 7 = .ok (.aload_n 1, 1) := by decide +kernel
theorem d_Store_takeFill_8 : decode prog_1_method_27_code 8 = .ok (.getfield 101, 3) := by decide +kernel
theorem d_Store_takeFill_11 : decode prog_1_method_27_code 11 = .ok (.getfield 92, 3) := by decide +kernel
theorem d_Store_takeFill_14 : decode prog_1_method_27_code 14 = .ok (.if_icmp .ge 5, 3) := by decide +kernel
theorem d_Store_takeFill_17 : decode prog_1_method_27_code 17 = .ok (.iconst 0, 1) := by decide +kernel
theorem d_Store_takeFill_18 : decode prog_1_method_27_code 18 = .ok (.ireturn, 1) := by decide +kernel
theorem d_Store_takeFill_19 : decode prog_1_method_27_code 19 = .ok (.aload_n 2, 1) := by decide +kernel
theorem d_Store_takeFill_20 : decode prog_1_method_27_code 20 = .ok (.getfield 223, 3) := by decide +kernel
theorem d_Store_takeFill_23 : decode prog_1_method_27_code 23 = .ok (.getfield 92, 3) := by decide +kernel
theorem d_Store_takeFill_26 : decode prog_1_method_27_code 26 = .ok (.aload_n 1, 1) := by decide +kernel
theorem d_Store_takeFill_27 : decode prog_1_method_27_code 27 = .ok (.getfield 101, 3) := by decide +kernel
theorem d_Store_takeFill_30 : decode prog_1_method_27_code 30 = .ok (.getfield 92, 3) := by decide +kernel
theorem d_Store_takeFill_33 : decode prog_1_method_27_code 33 = .ok (.if_icmp .le 12, 3) := by decide +kernel
theorem d_Store_takeFill_36 : decode prog_1_method_27_code 36 = .ok (.aload_n 0, 1) := by decide +kernel
theorem d_Store_takeFill_37 : decode prog_1_method_27_code 37 = .ok (.aload_n 1, 1) := by decide +kernel
theorem d_Store_takeFill_38 : decode prog_1_method_27_code 38 = .ok (.aload_n 2, 1) := by decide +kernel
theorem d_Store_takeFill_39 : decode prog_1_method_27_code 39 = .ok (.getfield 223, 3) := by decide +kernel
theorem d_Store_takeFill_42 : decode prog_1_method_27_code 42 = .ok (.invokevirtual 227, 3) := by decide +kernel
theorem d_Store_takeFill_45 : decode prog_1_method_27_code 45 = .ok (.aload_n 1, 1) := by decide +kernel
theorem d_Store_takeFill_46 : decode prog_1_method_27_code 46 = .ok (.getfield 234, 3) := by decide +kernel
theorem d_Store_takeFill_49 : decode prog_1_method_27_code 49 = .ok (.ifCond .ne 19, 3) := by decide +kernel
theorem d_Store_takeFill_52 : decode prog_1_method_27_code 52 = .ok (.aload_n 1, 1) := by decide +kernel
theorem d_Store_takeFill_53 : decode prog_1_method_27_code 53 = .ok (.getfield 175, 3) := by decide +kernel
theorem d_Store_takeFill_56 : decode prog_1_method_27_code 56 = .ok (.aload_n 2, 1) := by decide +kernel
theorem d_Store_takeFill_57 : decode prog_1_method_27_code 57 = .ok (.getfield 237, 3) := by decide +kernel
theorem d_Store_takeFill_60 : decode prog_1_method_27_code 60 = .ok (.invokevirtual 238, 3) := by decide +kernel
theorem d_Store_takeFill_63 : decode prog_1_method_27_code 63 = .ok (.aload_n 1, 1) := by decide +kernel
theorem d_Store_takeFill_64 : decode prog_1_method_27_code 64 = .ok (.iconst 1, 1) := by decide +kernel
theorem d_Store_takeFill_65 : decode prog_1_method_27_code 65 = .ok (.putfield 234, 3) := by decide +kernel
theorem d_Store_takeFill_68 : decode prog_1_method_27_code 68 = .ok (.aload_n 0, 1) := by decide +kernel
theorem d_Store_takeFill_69 : decode prog_1_method_27_code 69 = .ok (.getfield 44, 3) := by decide +kernel
theorem d_Store_takeFill_72 : decode prog_1_method_27_code 72 = .ok (.iconst 4, 1) := by decide +kernel
theorem d_Store_takeFill_73 : decode prog_1_method_27_code 73 = .ok (.aload_n 1, 1) := by decide +kernel
theorem d_Store_takeFill_74 : decode prog_1_method_27_code 74 = .ok (.getfield 101, 3) := by decide +kernel
theorem d_Store_takeFill_77 : decode prog_1_method_27_code 77 = .ok (.getfield 241, 3) := by decide +kernel
theorem d_Store_takeFill_80 : decode prog_1_method_27_code 80 = .ok (.invokevirtual 63, 3) := by decide +kernel
theorem d_Store_takeFill_83 : decode prog_1_method_27_code 83 = .ok (.getfield 223, 3) := by decide +kernel
theorem d_Store_takeFill_86 : decode prog_1_method_27_code 86 = .ok (.aload_n 1, 1) := by decide +kernel
theorem d_Store_takeFill_87 : decode prog_1_method_27_code 87 = .ok (.getfield 101, 3) := by decide +kernel
theorem d_Store_takeFill_90 : decode prog_1_method_27_code 90 = .ok (.invokevirtual 224, 3) := by decide +kernel
theorem d_Store_takeFill_93 : decode prog_1_method_27_code 93 = .ok (.iconst 1, 1) := by decide +kernel
theorem d_Store_takeFill_94 : decode prog_1_method_27_code 94 = .ok (.ireturn, 1) := by decide +kernel
def S_Store_takeFill (n : Nat) (π : Nat → Nat) (s : S3) (i : Nat) (L : Nat) : S3 := if (s 6 0 i) ≤ (s 6 0 (8 + L)) then (if (s 6 0 (8 + L)) ≤ (s 6 0 i) then (if (s 1 9 i) = 0 then (S_View_become π (S_Post_next π (u3 (S_State_become π s i (8 + L)) 1 9 i 1) 4 (s 6 1 i)) (8 + (nxL (s 4 2 0) π)) i) else S_View_become π (S_Post_next π s 4 (s 6 1 i)) (8 + (nxL (s 4 2 0) π)) i) else if ((S_Store_enterView n π s i (8 + L)) 1 9 i) = 0 then (S_View_become π (S_Post_next π (u3 (S_State_become π (S_Store_enterView n π s i (8 + L)) i (8 + L)) 1 9 i 1) 4 ((S_Store_enterView n π s i (8 + L)) 6 1 i)) (8 + (nxL ((S_Store_enterView n π s i (8 + L)) 4 2 0) π)) i) else S_View_become π (S_Post_next π (S_Store_enterView n π s i (8 + L)) 4 ((S_Store_enterView n π s i (8 + L)) 6 1 i)) (8 + (nxL ((S_Store_enterView n π s i (8 + L)) 4 2 0) π)) i) else s
def v_Store_takeFill (n : Nat) (π : Nat → Nat) (s : S3) (i : Nat) (L : Nat) : Int32 := if (s 6 0 i) ≤ (s 6 0 (8 + L)) then (if (s 6 0 (8 + L)) ≤ (s 6 0 i) then (if (s 1 9 i) = 0 then 1 else 1) else if ((S_Store_enterView n π s i (8 + L)) 1 9 i) = 0 then 1 else 1) else 0
theorem zbv_Store_takeFill {n : Nat} {π : Nat → Nat} {s : S3} {i : Nat} {L : Nat} : zb (v_Store_takeFill n π s i L) := by
  unfold v_Store_takeFill
  repeat' split
  all_goals first | with_reducible exact zb_0 | with_reducible exact zb_1 | with_reducible exact zbv_View_hasBackup | with_reducible exact zbv_Server_isPrimary | with_reducible exact zbv_Server_isPrimaryOf | with_reducible exact zbv_Server_isBackupOf | with_reducible exact zbv_Client_takeAnswer | with_reducible exact zbv_Service_isFresh | with_reducible exact zbv_Post_has | with_reducible exact zbv_Store_isServer | with_reducible exact zbv_Store_isClient | with_reducible exact zbv_Store_isCell | with_reducible exact zbv_Store_takeRead | with_reducible exact zbv_Store_takeWrite | with_reducible exact zbv_Store_takeAsk | with_reducible exact zbv_Store_takePassed | with_reducible exact zbv_Store_takePass | with_reducible exact zbv_Store_takeFilled
set_option maxHeartbeats 4000000 in
set_option maxRecDepth 100000 in
theorem c_Store_takeFill {l : Launch} {D : va_G} {K : Nat → ClassId} {ad : Nat → Nat → Nat} {n : Nat} {π : Nat → Nat} {s : S3} {i L : Nat} (hJ : zw_J (cRL n) ad) (mi : (1, i) ∈ cRL n) (mL : (5, L) ∈ cRL n) (hw : vp_in (s 4 2 0) 33) (hπ : ∀ j, π j < 34) : zM l y_Store_takeFill ws_Store_takeFill ({ frames := 4, cells := 0, slots := 0, locals := 145 }) D zCl (zTys K) (cRL n) ad [.ref (ad 0 0), .ref (ad 1 i), .ref (ad 5 L)] (kC K ad n s π) (some (.int (v_Store_takeFill n π s i L))) (kC K ad n (S_Store_takeFill n π s i L) π) := by
  refine zM.of (cc := prog_1_method_27_code) (maxL := 3) (ret := (Option.some Jvm.ClassFile.FieldType.boolean)) (by decide) rfl (Nat.le_of_ble_eq_true rfl) ?_
  intro pP eE U mM bL mT cO S hr hlk hK
  have hts := S.2.2.2.2
  have ht := fun w h => hts w (List.mem_cons_of_mem _ h)
  refine z_aload_n S d_Store_takeFill_0 rfl 2 rfl 1 rfl ?_
  refine z_get S hK hin_Letter mL kC_5 rfl 0 (Nat.le_of_ble_eq_true rfl) (ht _ w_224) (fun _ h => h) d_Store_takeFill_1 4 rfl (.ref (ad 6 (8 + L))) rfl ?_
  refine z_get S hK hin_View (rl_lv mL) kC_6 rfl 0 (Nat.le_of_ble_eq_true rfl) (ht _ w_43) (fun _ h => h) d_Store_takeFill_4 7 rfl (.int (s 6 0 (8 + L))) rfl ?_
  refine z_aload_n S d_Store_takeFill_7 rfl 1 rfl 8 rfl ?_
  refine z_get S hK hin_Server mi kC_1 rfl 1 (Nat.le_of_ble_eq_true rfl) (ht _ w_120) (fun _ h => h) d_Store_takeFill_8 11 rfl (.ref (ad 6 i)) rfl ?_
  refine z_get S hK hin_View (rl_sv mi) kC_6 rfl 0 (Nat.le_of_ble_eq_true rfl) (ht _ w_43) (fun _ h => h) d_Store_takeFill_11 14 rfl (.int (s 6 0 i)) rfl ?_
  refine z_icmp_ge S d_Store_takeFill_14 19 (by decide) 17 rfl (fun h1 => ?_) (fun h1 => ?_)
  · refine z_aload_n S d_Store_takeFill_19 rfl 2 rfl 20 rfl ?_
    refine z_get S hK hin_Letter mL kC_5 rfl 0 (Nat.le_of_ble_eq_true rfl) (ht _ w_224) (fun _ h => h) d_Store_takeFill_20 23 rfl (.ref (ad 6 (8 + L))) rfl ?_
    refine z_get S hK hin_View (rl_lv mL) kC_6 rfl 0 (Nat.le_of_ble_eq_true rfl) (ht _ w_43) (fun _ h => h) d_Store_takeFill_23 26 rfl (.int (s 6 0 (8 + L))) rfl ?_
    refine z_aload_n S d_Store_takeFill_26 rfl 1 rfl 27 rfl ?_
    refine z_get S hK hin_Server mi kC_1 rfl 1 (Nat.le_of_ble_eq_true rfl) (ht _ w_120) (fun _ h => h) d_Store_takeFill_27 30 rfl (.ref (ad 6 i)) rfl ?_
    refine z_get S hK hin_View (rl_sv mi) kC_6 rfl 0 (Nat.le_of_ble_eq_true rfl) (ht _ w_43) (fun _ h => h) d_Store_takeFill_30 33 rfl (.int (s 6 0 i)) rfl ?_
    refine z_icmp_le S d_Store_takeFill_33 45 (by decide) 36 rfl (fun h2 => ?_) (fun h2 => ?_)
    · refine z_aload_n S d_Store_takeFill_45 rfl 1 rfl 46 rfl ?_
      refine z_get S hK hin_Server mi kC_1 rfl 9 (Nat.le_of_ble_eq_true rfl) (ht _ w_136) (fun _ h => h) d_Store_takeFill_46 49 rfl (.int (s 1 9 i)) rfl ?_
      refine z_if_ne S d_Store_takeFill_49 68 (by decide) 52 rfl (fun h3 => ?_) (fun h3 => ?_)
      · refine z_aload_n S d_Store_takeFill_68 rfl 0 rfl 69 rfl ?_
        refine z_get S hK hin_Store rl_0 kC_0 rfl 3 (Nat.le_of_ble_eq_true rfl) (ht _ w_281) (fun _ h => h) d_Store_takeFill_69 72 rfl (.ref (ad 4 0)) rfl ?_
        refine z_iconst S d_Store_takeFill_72 4 (by decide) 73 rfl ?_
        refine z_aload_n S d_Store_takeFill_73 rfl 1 rfl 74 rfl ?_
        refine z_get S hK hin_Server mi kC_1 rfl 1 (Nat.le_of_ble_eq_true rfl) (ht _ w_120) (fun _ h => h) d_Store_takeFill_74 77 rfl (.ref (ad 6 i)) rfl ?_
        refine z_get S hK hin_View (rl_sv mi) kC_6 rfl 1 (Nat.le_of_ble_eq_true rfl) (ht _ w_47) (fun _ h => h) d_Store_takeFill_77 80 rfl (.int (s 6 1 i)) rfl ?_
        refine z_callV S hK (As := [.int 4, .int (s 6 1 i)]) (rest := []) (c_Post_next (k := 4) (p := s 6 1 i) hJ hw hπ) (cw_Post_next hts w_310 rfl rfl ⟨(Nat.le_of_ble_eq_true rfl), (Nat.le_of_ble_eq_true rfl)⟩) rl_4 kC_4 rfl rfl rfl (Nat.le_of_ble_eq_true rfl) d_Store_takeFill_80 83 rfl [.ref (ad 5 (nxL (s 4 2 0) π))] rfl ?_
        refine z_get S hK hin_Letter (rl_nx hπ) kC_5 rfl 0 (Nat.le_of_ble_eq_true rfl) (ht _ w_224) (fun _ h => h) d_Store_takeFill_83 86 rfl (.ref (ad 6 (8 + (nxL (s 4 2 0) π)))) rfl ?_
        refine z_aload_n S d_Store_takeFill_86 rfl 1 rfl 87 rfl ?_
        refine z_get S hK hin_Server mi kC_1 rfl 1 (Nat.le_of_ble_eq_true rfl) (ht _ w_120) (fun _ h => h) d_Store_takeFill_87 90 rfl (.ref (ad 6 i)) rfl ?_
        refine z_callV S hK (As := [.ref (ad 6 i)]) (rest := []) (c_View_become (a := 8 + (nxL (s 4 2 0) π)) (b := i) hJ (rl_lv (rl_nx hπ)) (rl_sv mi)) (cw_View_become hts w_360 rfl rfl ⟨(Nat.le_of_ble_eq_true rfl), (Nat.le_of_ble_eq_true rfl)⟩) (rl_lv (rl_nx hπ)) kC_6 rfl rfl rfl (Nat.le_of_ble_eq_true rfl) d_Store_takeFill_90 93 rfl [] rfl ?_
        refine z_iconst S d_Store_takeFill_93 1 (by decide) 94 rfl ?_
        exact z_zret S hr (zb_n zb_1) hlk d_Store_takeFill_94 (by unfold v_Store_takeFill; simp only [if_pos h1, if_pos h2, if_neg h3]) (kC_eq (by unfold S_Store_takeFill; simp only [if_pos h1, if_pos h2, if_neg h3]))
      · refine z_aload_n S d_Store_takeFill_52 rfl 1 rfl 53 rfl ?_
        refine z_get S hK hin_Server mi kC_1 rfl 2 (Nat.le_of_ble_eq_true rfl) (ht _ w_122) (fun _ h => h) d_Store_takeFill_53 56 rfl (.ref (ad 8 i)) rfl ?_
        refine z_aload_n S d_Store_takeFill_56 rfl 2 rfl 57 rfl ?_
        refine z_get S hK hin_Letter mL kC_5 rfl 2 (Nat.le_of_ble_eq_true rfl) (ht _ w_229) (fun _ h => h) d_Store_takeFill_57 60 rfl (.ref (ad 8 (8 + L))) rfl ?_
        refine z_callV S hK (As := [.ref (ad 8 (8 + L))]) (rest := []) (c_State_become (a := i) (b := 8 + L) hJ (rl_ss mi) (rl_ls mL)) (cw_State_become hts w_364 rfl rfl ⟨(Nat.le_of_ble_eq_true rfl), (Nat.le_of_ble_eq_true rfl)⟩) (rl_ss mi) kC_8 rfl rfl rfl (Nat.le_of_ble_eq_true rfl) d_Store_takeFill_60 63 rfl [] rfl ?_
        refine z_aload_n S d_Store_takeFill_63 rfl 1 rfl 64 rfl ?_
        refine z_iconst S d_Store_takeFill_64 1 (by decide) 65 rfl ?_
        refine z_put S hJ hK hin_Server t_Server ok_Server nm_Server mi kC_1 rfl 9 (Nat.le_of_ble_eq_true rfl) (ht _ w_136) (fun _ h => h) rfl (zb_n zb_1) (zb_f zb_1) (Nat.le_of_ble_eq_true rfl) up_1_9 d_Store_takeFill_65 68 rfl ?_
        refine z_aload_n S d_Store_takeFill_68 rfl 0 rfl 69 rfl ?_
        refine z_get S hK hin_Store rl_0 kC_0 rfl 3 (Nat.le_of_ble_eq_true rfl) (ht _ w_281) (fun _ h => h) d_Store_takeFill_69 72 rfl (.ref (ad 4 0)) rfl ?_
        refine z_iconst S d_Store_takeFill_72 4 (by decide) 73 rfl ?_
        refine z_aload_n S d_Store_takeFill_73 rfl 1 rfl 74 rfl ?_
        refine z_get S hK hin_Server mi kC_1 rfl 1 (Nat.le_of_ble_eq_true rfl) (ht _ w_120) (fun _ h => h) d_Store_takeFill_74 77 rfl (.ref (ad 6 i)) rfl ?_
        refine z_get S hK hin_View (rl_sv mi) kC_6 rfl 1 (Nat.le_of_ble_eq_true rfl) (ht _ w_47) (fun _ h => h) d_Store_takeFill_77 80 rfl (.int (s 6 1 i)) rfl ?_
        refine z_callV S hK (As := [.int 4, .int (s 6 1 i)]) (rest := []) (c_Post_next (k := 4) (p := s 6 1 i) hJ hw hπ) (cw_Post_next hts w_310 rfl rfl ⟨(Nat.le_of_ble_eq_true rfl), (Nat.le_of_ble_eq_true rfl)⟩) rl_4 kC_4 rfl rfl rfl (Nat.le_of_ble_eq_true rfl) d_Store_takeFill_80 83 rfl [.ref (ad 5 (nxL (s 4 2 0) π))] rfl ?_
        refine z_get S hK hin_Letter (rl_nx hπ) kC_5 rfl 0 (Nat.le_of_ble_eq_true rfl) (ht _ w_224) (fun _ h => h) d_Store_takeFill_83 86 rfl (.ref (ad 6 (8 + (nxL (s 4 2 0) π)))) rfl ?_
        refine z_aload_n S d_Store_takeFill_86 rfl 1 rfl 87 rfl ?_
        refine z_get S hK hin_Server mi kC_1 rfl 1 (Nat.le_of_ble_eq_true rfl) (ht _ w_120) (fun _ h => h) d_Store_takeFill_87 90 rfl (.ref (ad 6 i)) rfl ?_
        refine z_callV S hK (As := [.ref (ad 6 i)]) (rest := []) (c_View_become (a := 8 + (nxL (s 4 2 0) π)) (b := i) hJ (rl_lv (rl_nx hπ)) (rl_sv mi)) (cw_View_become hts w_360 rfl rfl ⟨(Nat.le_of_ble_eq_true rfl), (Nat.le_of_ble_eq_true rfl)⟩) (rl_lv (rl_nx hπ)) kC_6 rfl rfl rfl (Nat.le_of_ble_eq_true rfl) d_Store_takeFill_90 93 rfl [] rfl ?_
        refine z_iconst S d_Store_takeFill_93 1 (by decide) 94 rfl ?_
        exact z_zret S hr (zb_n zb_1) hlk d_Store_takeFill_94 (by unfold v_Store_takeFill; simp only [if_pos h1, if_pos h2, if_pos h3]) (kC_eq (by unfold S_Store_takeFill; simp only [if_pos h1, if_pos h2, if_pos h3]))
    · refine z_aload_n S d_Store_takeFill_36 rfl 0 rfl 37 rfl ?_
      refine z_aload_n S d_Store_takeFill_37 rfl 1 rfl 38 rfl ?_
      refine z_aload_n S d_Store_takeFill_38 rfl 2 rfl 39 rfl ?_
      refine z_get S hK hin_Letter mL kC_5 rfl 0 (Nat.le_of_ble_eq_true rfl) (ht _ w_224) (fun _ h => h) d_Store_takeFill_39 42 rfl (.ref (ad 6 (8 + L))) rfl ?_
      refine z_callV S hK (As := [.ref (ad 1 i), .ref (ad 6 (8 + L))]) (rest := []) (c_Store_enterView (i := i) (v := 8 + L) hJ mi (rl_lv mL) hw hπ) (cw_Store_enterView hts w_431 rfl rfl ⟨(Nat.le_of_ble_eq_true rfl), (Nat.le_of_ble_eq_true rfl)⟩) rl_0 kC_0 rfl rfl rfl (Nat.le_of_ble_eq_true rfl) d_Store_takeFill_42 45 rfl [] rfl ?_
      refine z_aload_n S d_Store_takeFill_45 rfl 1 rfl 46 rfl ?_
      refine z_get S hK hin_Server mi kC_1 rfl 9 (Nat.le_of_ble_eq_true rfl) (ht _ w_136) (fun _ h => h) d_Store_takeFill_46 49 rfl (.int ((S_Store_enterView n π s i (8 + L)) 1 9 i)) rfl ?_
      refine z_if_ne S d_Store_takeFill_49 68 (by decide) 52 rfl (fun h4 => ?_) (fun h4 => ?_)
      · refine z_aload_n S d_Store_takeFill_68 rfl 0 rfl 69 rfl ?_
        refine z_get S hK hin_Store rl_0 kC_0 rfl 3 (Nat.le_of_ble_eq_true rfl) (ht _ w_281) (fun _ h => h) d_Store_takeFill_69 72 rfl (.ref (ad 4 0)) rfl ?_
        refine z_iconst S d_Store_takeFill_72 4 (by decide) 73 rfl ?_
        refine z_aload_n S d_Store_takeFill_73 rfl 1 rfl 74 rfl ?_
        refine z_get S hK hin_Server mi kC_1 rfl 1 (Nat.le_of_ble_eq_true rfl) (ht _ w_120) (fun _ h => h) d_Store_takeFill_74 77 rfl (.ref (ad 6 i)) rfl ?_
        refine z_get S hK hin_View (rl_sv mi) kC_6 rfl 1 (Nat.le_of_ble_eq_true rfl) (ht _ w_47) (fun _ h => h) d_Store_takeFill_77 80 rfl (.int ((S_Store_enterView n π s i (8 + L)) 6 1 i)) rfl ?_
        refine z_callV S hK (As := [.int 4, .int ((S_Store_enterView n π s i (8 + L)) 6 1 i)]) (rest := []) (c_Post_next (k := 4) (p := (S_Store_enterView n π s i (8 + L)) 6 1 i) hJ (hw_enter (n := n) hw) hπ) (cw_Post_next hts w_310 rfl rfl ⟨(Nat.le_of_ble_eq_true rfl), (Nat.le_of_ble_eq_true rfl)⟩) rl_4 kC_4 rfl rfl rfl (Nat.le_of_ble_eq_true rfl) d_Store_takeFill_80 83 rfl [.ref (ad 5 (nxL ((S_Store_enterView n π s i (8 + L)) 4 2 0) π))] rfl ?_
        refine z_get S hK hin_Letter (rl_nx hπ) kC_5 rfl 0 (Nat.le_of_ble_eq_true rfl) (ht _ w_224) (fun _ h => h) d_Store_takeFill_83 86 rfl (.ref (ad 6 (8 + (nxL ((S_Store_enterView n π s i (8 + L)) 4 2 0) π)))) rfl ?_
        refine z_aload_n S d_Store_takeFill_86 rfl 1 rfl 87 rfl ?_
        refine z_get S hK hin_Server mi kC_1 rfl 1 (Nat.le_of_ble_eq_true rfl) (ht _ w_120) (fun _ h => h) d_Store_takeFill_87 90 rfl (.ref (ad 6 i)) rfl ?_
        refine z_callV S hK (As := [.ref (ad 6 i)]) (rest := []) (c_View_become (a := 8 + (nxL ((S_Store_enterView n π s i (8 + L)) 4 2 0) π)) (b := i) hJ (rl_lv (rl_nx hπ)) (rl_sv mi)) (cw_View_become hts w_360 rfl rfl ⟨(Nat.le_of_ble_eq_true rfl), (Nat.le_of_ble_eq_true rfl)⟩) (rl_lv (rl_nx hπ)) kC_6 rfl rfl rfl (Nat.le_of_ble_eq_true rfl) d_Store_takeFill_90 93 rfl [] rfl ?_
        refine z_iconst S d_Store_takeFill_93 1 (by decide) 94 rfl ?_
        exact z_zret S hr (zb_n zb_1) hlk d_Store_takeFill_94 (by unfold v_Store_takeFill; simp only [if_pos h1, if_neg h2, if_neg h4]) (kC_eq (by unfold S_Store_takeFill; simp only [if_pos h1, if_neg h2, if_neg h4]))
      · refine z_aload_n S d_Store_takeFill_52 rfl 1 rfl 53 rfl ?_
        refine z_get S hK hin_Server mi kC_1 rfl 2 (Nat.le_of_ble_eq_true rfl) (ht _ w_122) (fun _ h => h) d_Store_takeFill_53 56 rfl (.ref (ad 8 i)) rfl ?_
        refine z_aload_n S d_Store_takeFill_56 rfl 2 rfl 57 rfl ?_
        refine z_get S hK hin_Letter mL kC_5 rfl 2 (Nat.le_of_ble_eq_true rfl) (ht _ w_229) (fun _ h => h) d_Store_takeFill_57 60 rfl (.ref (ad 8 (8 + L))) rfl ?_
        refine z_callV S hK (As := [.ref (ad 8 (8 + L))]) (rest := []) (c_State_become (a := i) (b := 8 + L) hJ (rl_ss mi) (rl_ls mL)) (cw_State_become hts w_364 rfl rfl ⟨(Nat.le_of_ble_eq_true rfl), (Nat.le_of_ble_eq_true rfl)⟩) (rl_ss mi) kC_8 rfl rfl rfl (Nat.le_of_ble_eq_true rfl) d_Store_takeFill_60 63 rfl [] rfl ?_
        refine z_aload_n S d_Store_takeFill_63 rfl 1 rfl 64 rfl ?_
        refine z_iconst S d_Store_takeFill_64 1 (by decide) 65 rfl ?_
        refine z_put S hJ hK hin_Server t_Server ok_Server nm_Server mi kC_1 rfl 9 (Nat.le_of_ble_eq_true rfl) (ht _ w_136) (fun _ h => h) rfl (zb_n zb_1) (zb_f zb_1) (Nat.le_of_ble_eq_true rfl) up_1_9 d_Store_takeFill_65 68 rfl ?_
        refine z_aload_n S d_Store_takeFill_68 rfl 0 rfl 69 rfl ?_
        refine z_get S hK hin_Store rl_0 kC_0 rfl 3 (Nat.le_of_ble_eq_true rfl) (ht _ w_281) (fun _ h => h) d_Store_takeFill_69 72 rfl (.ref (ad 4 0)) rfl ?_
        refine z_iconst S d_Store_takeFill_72 4 (by decide) 73 rfl ?_
        refine z_aload_n S d_Store_takeFill_73 rfl 1 rfl 74 rfl ?_
        refine z_get S hK hin_Server mi kC_1 rfl 1 (Nat.le_of_ble_eq_true rfl) (ht _ w_120) (fun _ h => h) d_Store_takeFill_74 77 rfl (.ref (ad 6 i)) rfl ?_
        refine z_get S hK hin_View (rl_sv mi) kC_6 rfl 1 (Nat.le_of_ble_eq_true rfl) (ht _ w_47) (fun _ h => h) d_Store_takeFill_77 80 rfl (.int ((S_Store_enterView n π s i (8 + L)) 6 1 i)) rfl ?_
        refine z_callV S hK (As := [.int 4, .int ((S_Store_enterView n π s i (8 + L)) 6 1 i)]) (rest := []) (c_Post_next (k := 4) (p := (S_Store_enterView n π s i (8 + L)) 6 1 i) hJ (hw_enter (n := n) hw) hπ) (cw_Post_next hts w_310 rfl rfl ⟨(Nat.le_of_ble_eq_true rfl), (Nat.le_of_ble_eq_true rfl)⟩) rl_4 kC_4 rfl rfl rfl (Nat.le_of_ble_eq_true rfl) d_Store_takeFill_80 83 rfl [.ref (ad 5 (nxL ((S_Store_enterView n π s i (8 + L)) 4 2 0) π))] rfl ?_
        refine z_get S hK hin_Letter (rl_nx hπ) kC_5 rfl 0 (Nat.le_of_ble_eq_true rfl) (ht _ w_224) (fun _ h => h) d_Store_takeFill_83 86 rfl (.ref (ad 6 (8 + (nxL ((S_Store_enterView n π s i (8 + L)) 4 2 0) π)))) rfl ?_
        refine z_aload_n S d_Store_takeFill_86 rfl 1 rfl 87 rfl ?_
        refine z_get S hK hin_Server mi kC_1 rfl 1 (Nat.le_of_ble_eq_true rfl) (ht _ w_120) (fun _ h => h) d_Store_takeFill_87 90 rfl (.ref (ad 6 i)) rfl ?_
        refine z_callV S hK (As := [.ref (ad 6 i)]) (rest := []) (c_View_become (a := 8 + (nxL ((S_Store_enterView n π s i (8 + L)) 4 2 0) π)) (b := i) hJ (rl_lv (rl_nx hπ)) (rl_sv mi)) (cw_View_become hts w_360 rfl rfl ⟨(Nat.le_of_ble_eq_true rfl), (Nat.le_of_ble_eq_true rfl)⟩) (rl_lv (rl_nx hπ)) kC_6 rfl rfl rfl (Nat.le_of_ble_eq_true rfl) d_Store_takeFill_90 93 rfl [] rfl ?_
        refine z_iconst S d_Store_takeFill_93 1 (by decide) 94 rfl ?_
        exact z_zret S hr (zb_n zb_1) hlk d_Store_takeFill_94 (by unfold v_Store_takeFill; simp only [if_pos h1, if_neg h2, if_pos h4]) (kC_eq (by unfold S_Store_takeFill; simp only [if_pos h1, if_neg h2, if_pos h4]))
  · refine z_iconst S d_Store_takeFill_17 0 (by decide) 18 rfl ?_
    exact z_zret S hr (zb_n zb_0) hlk d_Store_takeFill_18 (by unfold v_Store_takeFill; simp only [if_neg h1]) (kC_eq (by unfold S_Store_takeFill; simp only [if_neg h1]))
theorem d_Store_takeView_0 : decode prog_1_method_26_code 0 = .ok (.aload_n 2, 1) := by decide +kernel
theorem d_Store_takeView_1 : decode prog_1_method_26_code 1 = .ok (.getfield 223, 3) := by decide +kernel
theorem d_Store_takeView_4 : decode prog_1_method_26_code 4 = .ok (.getfield 92, 3) := by decide +kernel
theorem d_Store_takeView_7 : decode prog_1_method_26_code 7 = .ok (.aload_n 1, 1) := by decide +kernel
theorem d_Store_takeView_8 : decode prog_1_method_26_code 8 = .ok (.getfield 101, 3) := by decide +kernel
theorem d_Store_takeView_11 : decode prog_1_method_26_code 11 = .ok (.getfield 92, 3) := by decide +kernel
theorem d_Store_takeView_14 : decode prog_1_method_26_code 14 = .ok (.if_icmp .ge 5, 3) := by decide +kernel
theorem d_Store_takeView_17 : decode prog_1_method_26_code 17 = .ok (.iconst 0, 1) := by decide +kernel
theorem d_Store_takeView_18 : decode prog_1_method_26_code 18 = .ok (.ireturn, 1) := by decide +kernel
theorem d_Store_takeView_19 : decode prog_1_method_26_code 19 = .ok (.aload_n 2, 1) := by decide +kernel
theorem d_Store_takeView_20 : decode prog_1_method_26_code 20 = .ok (.getfield 223, 3) := by decide +kernel
theorem d_Store_takeView_23 : decode prog_1_method_26_code 23 = .ok (.getfield 92, 3) := by decide +kernel
theorem d_Store_takeView_26 : decode prog_1_method_26_code 26 = .ok (.aload_n 1, 1) := by decide +kernel
theorem d_Store_takeView_27 : decode prog_1_method_26_code 27 = .ok (.getfield 101, 3) := by decide +kernel
theorem d_Store_takeView_30 : decode prog_1_method_26_code 30 = .ok (.getfield 92, 3) := by decide +kernel
theorem d_Store_takeView_33 : decode prog_1_method_26_code 33 = .ok (.if_icmp .le 12, 3) := by decide +kernel
theorem d_Store_takeView_36 : decode prog_1_method_26_code 36 = .ok (.aload_n 0, 1) := by decide +kernel
theorem d_Store_takeView_37 : decode prog_1_method_26_code 37 = .ok (.aload_n 1, 1) := by decide +kernel
theorem d_Store_takeView_38 : decode prog_1_method_26_code 38 = .ok (.aload_n 2, 1) := by decide +kernel
theorem d_Store_takeView_39 : decode prog_1_method_26_code 39 = .ok (.getfield 223, 3) := by decide +kernel
theorem d_Store_takeView_42 : decode prog_1_method_26_code 42 = .ok (.invokevirtual 227, 3) := by decide +kernel
theorem d_Store_takeView_45 : decode prog_1_method_26_code 45 = .ok (.aload_n 1, 1) := by decide +kernel
theorem d_Store_takeView_46 : decode prog_1_method_26_code 46 = .ok (.invokevirtual 97, 3) := by decide +kernel
theorem d_Store_takeView_49 : decode prog_1_method_26_code 49 = .ok (.ifCond .eq 21, 3) := by decide +kernel
theorem d_Store_takeView_52 : decode prog_1_method_26_code 52 = .ok (.aload_n 1, 1) := by decide +kernel
theorem d_Store_takeView_53 : decode prog_1_method_26_code 53 = .ok (.aload_n 1, 1) := by decide +kernel
theorem d_Store_takeView_54 : decode prog_1_method_26_code 54 = .ok (.getfield 231, 3) := by decide +kernel
theorem d_Store_takeView_57 : decode prog_1_method_26_code 57 = .ok (.aload_n 2, 1) := by decide +kernel
theorem d_Store_takeView_58 : decode prog_1_method_26_code 58 = .ok (.getfield 80, 3) := by decide +kernel
theorem d_Store_takeView_61 : decode prog_1_method_26_code 61 = .ok (.bipush 100, 2) := by decide +kernel
theorem d_Store_takeView_63 : decode prog_1_method_26_code 63 = .ok (.iadd, 1) := by decide +kernel
theorem d_Store_takeView_64 : decode prog_1_method_26_code 64 = .ok (.invokestatic 15, 3) := by decide +kernel
theorem d_Store_takeView_67 : decode prog_1_method_26_code 67 = .ok (.putfield 231, 3) := by decide +kernel
theorem d_Store_takeView_70 : decode prog_1_method_26_code 70 = .ok (.iconst 1, 1) := by decide +kernel
theorem d_Store_takeView_71 : decode prog_1_method_26_code 71 = .ok (.ireturn, 1) := by decide +kernel
def S_Store_takeView (n : Nat) (π : Nat → Nat) (s : S3) (i : Nat) (L : Nat) : S3 := if (s 6 0 i) ≤ (s 6 0 (8 + L)) then (if (s 6 0 (8 + L)) ≤ (s 6 0 i) then (if (v_Server_isPrimary (s 6 1 i) (s 1 0 i)) = 0 then s else u3 s 1 5 i (if (s 1 5 i) < ((s 5 6 L) + 100) then ((s 5 6 L) + 100) else (s 1 5 i))) else if (v_Server_isPrimary ((S_Store_enterView n π s i (8 + L)) 6 1 i) ((S_Store_enterView n π s i (8 + L)) 1 0 i)) = 0 then (S_Store_enterView n π s i (8 + L)) else u3 (S_Store_enterView n π s i (8 + L)) 1 5 i (if ((S_Store_enterView n π s i (8 + L)) 1 5 i) < (((S_Store_enterView n π s i (8 + L)) 5 6 L) + 100) then (((S_Store_enterView n π s i (8 + L)) 5 6 L) + 100) else ((S_Store_enterView n π s i (8 + L)) 1 5 i))) else s
def v_Store_takeView (n : Nat) (π : Nat → Nat) (s : S3) (i : Nat) (L : Nat) : Int32 := if (s 6 0 i) ≤ (s 6 0 (8 + L)) then (if (s 6 0 (8 + L)) ≤ (s 6 0 i) then (if (v_Server_isPrimary (s 6 1 i) (s 1 0 i)) = 0 then 1 else 1) else if (v_Server_isPrimary ((S_Store_enterView n π s i (8 + L)) 6 1 i) ((S_Store_enterView n π s i (8 + L)) 1 0 i)) = 0 then 1 else 1) else 0
theorem zbv_Store_takeView {n : Nat} {π : Nat → Nat} {s : S3} {i : Nat} {L : Nat} : zb (v_Store_takeView n π s i L) := by
  unfold v_Store_takeView
  repeat' split
  all_goals first | with_reducible exact zb_0 | with_reducible exact zb_1 | with_reducible exact zbv_View_hasBackup | with_reducible exact zbv_Server_isPrimary | with_reducible exact zbv_Server_isPrimaryOf | with_reducible exact zbv_Server_isBackupOf | with_reducible exact zbv_Client_takeAnswer | with_reducible exact zbv_Service_isFresh | with_reducible exact zbv_Post_has | with_reducible exact zbv_Store_isServer | with_reducible exact zbv_Store_isClient | with_reducible exact zbv_Store_isCell | with_reducible exact zbv_Store_takeRead | with_reducible exact zbv_Store_takeWrite | with_reducible exact zbv_Store_takeAsk | with_reducible exact zbv_Store_takePassed | with_reducible exact zbv_Store_takePass | with_reducible exact zbv_Store_takeFilled | with_reducible exact zbv_Store_takeFill
set_option maxHeartbeats 4000000 in
set_option maxRecDepth 100000 in
theorem c_Store_takeView {l : Launch} {D : va_G} {K : Nat → ClassId} {ad : Nat → Nat → Nat} {n : Nat} {π : Nat → Nat} {s : S3} {i L : Nat} (hJ : zw_J (cRL n) ad) (mi : (1, i) ∈ cRL n) (mL : (5, L) ∈ cRL n) (hw : vp_in (s 4 2 0) 33) (hπ : ∀ j, π j < 34) : zM l y_Store_takeView ws_Store_takeView ({ frames := 4, cells := 0, slots := 0, locals := 145 }) D zCl (zTys K) (cRL n) ad [.ref (ad 0 0), .ref (ad 1 i), .ref (ad 5 L)] (kC K ad n s π) (some (.int (v_Store_takeView n π s i L))) (kC K ad n (S_Store_takeView n π s i L) π) := by
  refine zM.of (cc := prog_1_method_26_code) (maxL := 3) (ret := (Option.some Jvm.ClassFile.FieldType.boolean)) (by decide) rfl (Nat.le_of_ble_eq_true rfl) ?_
  intro pP eE U mM bL mT cO S hr hlk hK
  have hts := S.2.2.2.2
  have ht := fun w h => hts w (List.mem_cons_of_mem _ h)
  refine z_aload_n S d_Store_takeView_0 rfl 2 rfl 1 rfl ?_
  refine z_get S hK hin_Letter mL kC_5 rfl 0 (Nat.le_of_ble_eq_true rfl) (ht _ w_224) (fun _ h => h) d_Store_takeView_1 4 rfl (.ref (ad 6 (8 + L))) rfl ?_
  refine z_get S hK hin_View (rl_lv mL) kC_6 rfl 0 (Nat.le_of_ble_eq_true rfl) (ht _ w_43) (fun _ h => h) d_Store_takeView_4 7 rfl (.int (s 6 0 (8 + L))) rfl ?_
  refine z_aload_n S d_Store_takeView_7 rfl 1 rfl 8 rfl ?_
  refine z_get S hK hin_Server mi kC_1 rfl 1 (Nat.le_of_ble_eq_true rfl) (ht _ w_120) (fun _ h => h) d_Store_takeView_8 11 rfl (.ref (ad 6 i)) rfl ?_
  refine z_get S hK hin_View (rl_sv mi) kC_6 rfl 0 (Nat.le_of_ble_eq_true rfl) (ht _ w_43) (fun _ h => h) d_Store_takeView_11 14 rfl (.int (s 6 0 i)) rfl ?_
  refine z_icmp_ge S d_Store_takeView_14 19 (by decide) 17 rfl (fun h1 => ?_) (fun h1 => ?_)
  · refine z_aload_n S d_Store_takeView_19 rfl 2 rfl 20 rfl ?_
    refine z_get S hK hin_Letter mL kC_5 rfl 0 (Nat.le_of_ble_eq_true rfl) (ht _ w_224) (fun _ h => h) d_Store_takeView_20 23 rfl (.ref (ad 6 (8 + L))) rfl ?_
    refine z_get S hK hin_View (rl_lv mL) kC_6 rfl 0 (Nat.le_of_ble_eq_true rfl) (ht _ w_43) (fun _ h => h) d_Store_takeView_23 26 rfl (.int (s 6 0 (8 + L))) rfl ?_
    refine z_aload_n S d_Store_takeView_26 rfl 1 rfl 27 rfl ?_
    refine z_get S hK hin_Server mi kC_1 rfl 1 (Nat.le_of_ble_eq_true rfl) (ht _ w_120) (fun _ h => h) d_Store_takeView_27 30 rfl (.ref (ad 6 i)) rfl ?_
    refine z_get S hK hin_View (rl_sv mi) kC_6 rfl 0 (Nat.le_of_ble_eq_true rfl) (ht _ w_43) (fun _ h => h) d_Store_takeView_30 33 rfl (.int (s 6 0 i)) rfl ?_
    refine z_icmp_le S d_Store_takeView_33 45 (by decide) 36 rfl (fun h2 => ?_) (fun h2 => ?_)
    · refine z_aload_n S d_Store_takeView_45 rfl 1 rfl 46 rfl ?_
      refine z_callV S hK (As := []) (rest := []) (c_Server_isPrimary (i := i) hJ mi) (cw_Server_isPrimary hts w_354 rfl rfl ⟨(Nat.le_of_ble_eq_true rfl), (Nat.le_of_ble_eq_true rfl)⟩) mi kC_1 rfl rfl rfl (Nat.le_of_ble_eq_true rfl) d_Store_takeView_46 49 rfl [.int (v_Server_isPrimary (s 6 1 i) (s 1 0 i))] rfl ?_
      refine z_if_eq S d_Store_takeView_49 70 (by decide) 52 rfl (fun h3 => ?_) (fun h3 => ?_)
      · refine z_iconst S d_Store_takeView_70 1 (by decide) 71 rfl ?_
        exact z_zret S hr (zb_n zb_1) hlk d_Store_takeView_71 (by unfold v_Store_takeView; simp only [if_pos h1, if_pos h2, if_pos h3]) (kC_eq (by unfold S_Store_takeView; simp only [if_pos h1, if_pos h2, if_pos h3]))
      · refine z_aload_n S d_Store_takeView_52 rfl 1 rfl 53 rfl ?_
        refine z_aload_n S d_Store_takeView_53 rfl 1 rfl 54 rfl ?_
        refine z_get S hK hin_Server mi kC_1 rfl 5 (Nat.le_of_ble_eq_true rfl) (ht _ w_128) (fun _ h => h) d_Store_takeView_54 57 rfl (.int (s 1 5 i)) rfl ?_
        refine z_aload_n S d_Store_takeView_57 rfl 2 rfl 58 rfl ?_
        refine z_get S hK hin_Letter mL kC_5 rfl 6 (Nat.le_of_ble_eq_true rfl) (ht _ w_241) (fun _ h => h) d_Store_takeView_58 61 rfl (.int (s 5 6 L)) rfl ?_
        refine z_bipush S d_Store_takeView_61 100 (by decide) 63 rfl ?_
        refine z_iadd S d_Store_takeView_63 64 rfl ?_
        refine z_mmax S (ht _ w_24) (ht _ w_25) (ht _ w_2) (ht _ w_26) (Nat.le_of_ble_eq_true rfl) (Nat.le_of_ble_eq_true rfl) d_Store_takeView_64 67 rfl ?_
        refine z_put S hJ hK hin_Server t_Server ok_Server nm_Server mi kC_1 rfl 5 (Nat.le_of_ble_eq_true rfl) (ht _ w_128) (fun _ h => h) rfl rfl rfl (Nat.le_of_ble_eq_true rfl) up_1_5 d_Store_takeView_67 70 rfl ?_
        refine z_iconst S d_Store_takeView_70 1 (by decide) 71 rfl ?_
        exact z_zret S hr (zb_n zb_1) hlk d_Store_takeView_71 (by unfold v_Store_takeView; simp only [if_pos h1, if_pos h2, if_neg h3]) (kC_eq (by unfold S_Store_takeView; simp only [if_pos h1, if_pos h2, if_neg h3]))
    · refine z_aload_n S d_Store_takeView_36 rfl 0 rfl 37 rfl ?_
      refine z_aload_n S d_Store_takeView_37 rfl 1 rfl 38 rfl ?_
      refine z_aload_n S d_Store_takeView_38 rfl 2 rfl 39 rfl ?_
      refine z_get S hK hin_Letter mL kC_5 rfl 0 (Nat.le_of_ble_eq_true rfl) (ht _ w_224) (fun _ h => h) d_Store_takeView_39 42 rfl (.ref (ad 6 (8 + L))) rfl ?_
      refine z_callV S hK (As := [.ref (ad 1 i), .ref (ad 6 (8 + L))]) (rest := []) (c_Store_enterView (i := i) (v := 8 + L) hJ mi (rl_lv mL) hw hπ) (cw_Store_enterView hts w_431 rfl rfl ⟨(Nat.le_of_ble_eq_true rfl), (Nat.le_of_ble_eq_true rfl)⟩) rl_0 kC_0 rfl rfl rfl (Nat.le_of_ble_eq_true rfl) d_Store_takeView_42 45 rfl [] rfl ?_
      refine z_aload_n S d_Store_takeView_45 rfl 1 rfl 46 rfl ?_
      refine z_callV S hK (As := []) (rest := []) (c_Server_isPrimary (i := i) hJ mi) (cw_Server_isPrimary hts w_354 rfl rfl ⟨(Nat.le_of_ble_eq_true rfl), (Nat.le_of_ble_eq_true rfl)⟩) mi kC_1 rfl rfl rfl (Nat.le_of_ble_eq_true rfl) d_Store_takeView_46 49 rfl [.int (v_Server_isPrimary ((S_Store_enterView n π s i (8 + L)) 6 1 i) ((S_Store_enterView n π s i (8 + L)) 1 0 i))] rfl ?_
      refine z_if_eq S d_Store_takeView_49 70 (by decide) 52 rfl (fun h4 => ?_) (fun h4 => ?_)
      · refine z_iconst S d_Store_takeView_70 1 (by decide) 71 rfl ?_
        exact z_zret S hr (zb_n zb_1) hlk d_Store_takeView_71 (by unfold v_Store_takeView; simp only [if_pos h1, if_neg h2, if_pos h4]) (kC_eq (by unfold S_Store_takeView; simp only [if_pos h1, if_neg h2, if_pos h4]))
      · refine z_aload_n S d_Store_takeView_52 rfl 1 rfl 53 rfl ?_
        refine z_aload_n S d_Store_takeView_53 rfl 1 rfl 54 rfl ?_
        refine z_get S hK hin_Server mi kC_1 rfl 5 (Nat.le_of_ble_eq_true rfl) (ht _ w_128) (fun _ h => h) d_Store_takeView_54 57 rfl (.int ((S_Store_enterView n π s i (8 + L)) 1 5 i)) rfl ?_
        refine z_aload_n S d_Store_takeView_57 rfl 2 rfl 58 rfl ?_
        refine z_get S hK hin_Letter mL kC_5 rfl 6 (Nat.le_of_ble_eq_true rfl) (ht _ w_241) (fun _ h => h) d_Store_takeView_58 61 rfl (.int ((S_Store_enterView n π s i (8 + L)) 5 6 L)) rfl ?_
        refine z_bipush S d_Store_takeView_61 100 (by decide) 63 rfl ?_
        refine z_iadd S d_Store_takeView_63 64 rfl ?_
        refine z_mmax S (ht _ w_24) (ht _ w_25) (ht _ w_2) (ht _ w_26) (Nat.le_of_ble_eq_true rfl) (Nat.le_of_ble_eq_true rfl) d_Store_takeView_64 67 rfl ?_
        refine z_put S hJ hK hin_Server t_Server ok_Server nm_Server mi kC_1 rfl 5 (Nat.le_of_ble_eq_true rfl) (ht _ w_128) (fun _ h => h) rfl rfl rfl (Nat.le_of_ble_eq_true rfl) up_1_5 d_Store_takeView_67 70 rfl ?_
        refine z_iconst S d_Store_takeView_70 1 (by decide) 71 rfl ?_
        exact z_zret S hr (zb_n zb_1) hlk d_Store_takeView_71 (by unfold v_Store_takeView; simp only [if_pos h1, if_neg h2, if_neg h4]) (kC_eq (by unfold S_Store_takeView; simp only [if_pos h1, if_neg h2, if_neg h4]))
  · refine z_iconst S d_Store_takeView_17 0 (by decide) 18 rfl ?_
    exact z_zret S hr (zb_n zb_0) hlk d_Store_takeView_18 (by unfold v_Store_takeView; simp only [if_neg h1]) (kC_eq (by unfold S_Store_takeView; simp only [if_neg h1]))
theorem d_Store_takePing_0 : decode prog_1_method_25_code 0 = .ok (.aload_n 0, 1) := by decide +kernel
theorem d_Store_takePing_1 : decode prog_1_method_25_code 1 = .ok (.getfield 37, 3) := by decide +kernel
theorem d_Store_takePing_4 : decode prog_1_method_25_code 4 = .ok (.aload_n 1, 1) := by decide +kernel
theorem d_Store_takePing_5 : decode prog_1_method_25_code 5 = .ok (.aload_n 0, 1) := by decide +kernel
theorem d_Store_takePing_6 : decode prog_1_method_25_code 6 = .ok (.getfield 48, 3) := by decide +kernel
theorem d_Store_takePing_9 : decode prog_1_method_25_code 9 = .ok (.invokevirtual 219, 3) := by decide +kernel
theorem d_Store_takePing_12 : decode prog_1_method_25_code 12 = .ok (.aload_n 0, 1) := by decide +kernel
theorem d_Store_takePing_13 : decode prog_1_method_25_code 13 = .ok (.getfield 44, 3) := by decide +kernel
theorem d_Store_takePing_16 : decode prog_1_method_25_code 16 = .ok (.iconst 2, 1) := by decide +kernel
theorem d_Store_takePing_17 : decode prog_1_method_25_code 17 = .ok (.aload_n 1, 1) := by decide +kernel
theorem d_Store_takePing_18 : decode prog_1_method_25_code 18 = .ok (.getfield 166, 3) := by decide +kernel
theorem d_Store_takePing_21 : decode prog_1_method_25_code 21 = .ok (.invokevirtual 63, 3) := by decide +kernel
theorem d_Store_takePing_24 : decode prog_1_method_25_code 24 = .ok (.astore_n 2, 1) := by decide +kernel
theorem d_Store_takePing_25 : decode prog_1_method_25_code 25 = .ok (.aload_n 2, 1) := by decide +kernel
theorem d_Store_takePing_26 : decode prog_1_method_25_code 26 = .ok (.getfield 223, 3) := by decide +kernel
theorem d_Store_takePing_29 : decode prog_1_method_25_code 29 = .ok (.aload_n 0, 1) := by decide +kernel
theorem d_Store_takePing_30 : decode prog_1_method_25_code 30 = .ok (.getfield 37, 3) := by decide +kernel
theorem d_Store_takePing_33 : decode prog_1_method_25_code 33 = .ok (.getfield 88, 3) := by decide +kernel
theorem d_Store_takePing_36 : decode prog_1_method_25_code 36 = .ok (.invokevirtual 224, 3) := by decide +kernel
theorem d_Store_takePing_39 : decode prog_1_method_25_code 39 = .ok (.aload_n 2, 1) := by decide +kernel
theorem d_Store_takePing_40 : decode prog_1_method_25_code 40 = .ok (.aload_n 1, 1) := by decide +kernel
theorem d_Store_takePing_41 : decode prog_1_method_25_code 41 = .ok (.getfield 80, 3) := by decide +kernel
theorem d_Store_takePing_44 : decode prog_1_method_25_code 44 = .ok (.putfield 80, 3) := by decide +kernel
theorem d_Store_takePing_47 : decode prog_1_method_25_code 47 = .ok (.iconst 1, 1) := by decide +kernel
theorem d_Store_takePing_48 : decode prog_1_method_25_code 48 = .ok (.ireturn, 1) := by decide +kernel
def S_Store_takePing (n : Nat) (π : Nat → Nat) (s : S3) (L : Nat) : S3 := u3 (S_View_become π (S_Post_next π (S_Service_notePing n π s L (s 0 4 0)) 2 ((S_Service_notePing n π s L (s 0 4 0)) 5 4 L)) (8 + (nxL ((S_Service_notePing n π s L (s 0 4 0)) 4 2 0) π)) 7) 5 6 (nxL ((S_Service_notePing n π s L (s 0 4 0)) 4 2 0) π) ((S_Service_notePing n π s L (s 0 4 0)) 5 6 L)
def v_Store_takePing (n : Nat) (π : Nat → Nat) (s : S3) (L : Nat) : Int32 := 1
theorem zbv_Store_takePing {n : Nat} {π : Nat → Nat} {s : S3} {L : Nat} : zb (v_Store_takePing n π s L) := by
  unfold v_Store_takePing
  repeat' split
  all_goals first | with_reducible exact zb_0 | with_reducible exact zb_1 | with_reducible exact zbv_View_hasBackup | with_reducible exact zbv_Server_isPrimary | with_reducible exact zbv_Server_isPrimaryOf | with_reducible exact zbv_Server_isBackupOf | with_reducible exact zbv_Client_takeAnswer | with_reducible exact zbv_Service_isFresh | with_reducible exact zbv_Post_has | with_reducible exact zbv_Store_isServer | with_reducible exact zbv_Store_isClient | with_reducible exact zbv_Store_isCell | with_reducible exact zbv_Store_takeRead | with_reducible exact zbv_Store_takeWrite | with_reducible exact zbv_Store_takeAsk | with_reducible exact zbv_Store_takePassed | with_reducible exact zbv_Store_takePass | with_reducible exact zbv_Store_takeFilled | with_reducible exact zbv_Store_takeFill | with_reducible exact zbv_Store_takeView
set_option maxHeartbeats 4000000 in
set_option maxRecDepth 100000 in
theorem c_Store_takePing {l : Launch} {D : va_G} {K : Nat → ClassId} {ad : Nat → Nat → Nat} {n : Nat} {π : Nat → Nat} {s : S3} {L : Nat} (hJ : zw_J (cRL n) ad) (mL : (5, L) ∈ cRL n) (hw : vp_in (s 4 2 0) 33) (hπ : ∀ j, π j < 34) (hp : vp_in (s 5 4 L) n) : zM l y_Store_takePing ws_Store_takePing ({ frames := 2, cells := 0, slots := 0, locals := 44 }) D zCl (zTys K) (cRL n) ad [.ref (ad 0 0), .ref (ad 5 L)] (kC K ad n s π) (some (.int (v_Store_takePing n π s L))) (kC K ad n (S_Store_takePing n π s L) π) := by
  refine zM.of (cc := prog_1_method_25_code) (maxL := 3) (ret := (Option.some Jvm.ClassFile.FieldType.boolean)) (by decide) rfl (Nat.le_of_ble_eq_true rfl) ?_
  intro pP eE U mM bL mT cO S hr hlk hK
  have hts := S.2.2.2.2
  have ht := fun w h => hts w (List.mem_cons_of_mem _ h)
  refine z_aload_n S d_Store_takePing_0 rfl 0 rfl 1 rfl ?_
  refine z_get S hK hin_Store rl_0 kC_0 rfl 2 (Nat.le_of_ble_eq_true rfl) (ht _ w_280) (fun _ h => h) d_Store_takePing_1 4 rfl (.ref (ad 3 0)) rfl ?_
  refine z_aload_n S d_Store_takePing_4 rfl 1 rfl 5 rfl ?_
  refine z_aload_n S d_Store_takePing_5 rfl 0 rfl 6 rfl ?_
  refine z_get S hK hin_Store rl_0 kC_0 rfl 4 (Nat.le_of_ble_eq_true rfl) (ht _ w_282) (fun _ h => h) d_Store_takePing_6 9 rfl (.int (s 0 4 0)) rfl ?_
  refine z_callV S hK (As := [.ref (ad 5 L), .int (s 0 4 0)]) (rest := []) (c_Service_notePing (L := L) (t := s 0 4 0) hJ mL hp) (cw_Service_notePing hts w_419 rfl rfl ⟨(Nat.le_of_ble_eq_true rfl), (Nat.le_of_ble_eq_true rfl)⟩) rl_3 kC_3 rfl rfl rfl (Nat.le_of_ble_eq_true rfl) d_Store_takePing_9 12 rfl [] rfl ?_
  refine z_aload_n S d_Store_takePing_12 rfl 0 rfl 13 rfl ?_
  refine z_get S hK hin_Store rl_0 kC_0 rfl 3 (Nat.le_of_ble_eq_true rfl) (ht _ w_281) (fun _ h => h) d_Store_takePing_13 16 rfl (.ref (ad 4 0)) rfl ?_
  refine z_iconst S d_Store_takePing_16 2 (by decide) 17 rfl ?_
  refine z_aload_n S d_Store_takePing_17 rfl 1 rfl 18 rfl ?_
  refine z_get S hK hin_Letter mL kC_5 rfl 4 (Nat.le_of_ble_eq_true rfl) (ht _ w_236) (fun _ h => h) d_Store_takePing_18 21 rfl (.int ((S_Service_notePing n π s L (s 0 4 0)) 5 4 L)) rfl ?_
  refine z_callV S hK (As := [.int 2, .int ((S_Service_notePing n π s L (s 0 4 0)) 5 4 L)]) (rest := []) (c_Post_next (k := 2) (p := (S_Service_notePing n π s L (s 0 4 0)) 5 4 L) hJ (hw_note (n := n) hw) hπ) (cw_Post_next hts w_310 rfl rfl ⟨(Nat.le_of_ble_eq_true rfl), (Nat.le_of_ble_eq_true rfl)⟩) rl_4 kC_4 rfl rfl rfl (Nat.le_of_ble_eq_true rfl) d_Store_takePing_21 24 rfl [.ref (ad 5 (nxL ((S_Service_notePing n π s L (s 0 4 0)) 4 2 0) π))] rfl ?_
  refine z_astore_n S d_Store_takePing_24 rfl (Nat.le_of_ble_eq_true rfl) [(2, .ref (ad 5 (nxL ((S_Service_notePing n π s L (s 0 4 0)) 4 2 0) π))), (0, .ref (ad 0 0)), (1, .ref (ad 5 L))] rfl 25 rfl ?_
  refine z_aload_n S d_Store_takePing_25 rfl 0 rfl 26 rfl ?_
  refine z_get S hK hin_Letter (rl_nx hπ) kC_5 rfl 0 (Nat.le_of_ble_eq_true rfl) (ht _ w_224) (fun _ h => h) d_Store_takePing_26 29 rfl (.ref (ad 6 (8 + (nxL ((S_Service_notePing n π s L (s 0 4 0)) 4 2 0) π)))) rfl ?_
  refine z_aload_n S d_Store_takePing_29 rfl 1 rfl 30 rfl ?_
  refine z_get S hK hin_Store rl_0 kC_0 rfl 2 (Nat.le_of_ble_eq_true rfl) (ht _ w_280) (fun _ h => h) d_Store_takePing_30 33 rfl (.ref (ad 3 0)) rfl ?_
  refine z_get S hK hin_Service rl_3 kC_3 rfl 0 (Nat.le_of_ble_eq_true rfl) (ht _ w_193) (fun _ h => h) d_Store_takePing_33 36 rfl (.ref (ad 6 7)) rfl ?_
  refine z_callV S hK (As := [.ref (ad 6 7)]) (rest := []) (c_View_become (a := 8 + (nxL ((S_Service_notePing n π s L (s 0 4 0)) 4 2 0) π)) (b := 7) hJ (rl_lv (rl_nx hπ)) rl_67) (cw_View_become hts w_360 rfl rfl ⟨(Nat.le_of_ble_eq_true rfl), (Nat.le_of_ble_eq_true rfl)⟩) (rl_lv (rl_nx hπ)) kC_6 rfl rfl rfl (Nat.le_of_ble_eq_true rfl) d_Store_takePing_36 39 rfl [] rfl ?_
  refine z_aload_n S d_Store_takePing_39 rfl 0 rfl 40 rfl ?_
  refine z_aload_n S d_Store_takePing_40 rfl 2 rfl 41 rfl ?_
  refine z_get S hK hin_Letter mL kC_5 rfl 6 (Nat.le_of_ble_eq_true rfl) (ht _ w_241) (fun _ h => h) d_Store_takePing_41 44 rfl (.int ((S_Service_notePing n π s L (s 0 4 0)) 5 6 L)) rfl ?_
  refine z_put S hJ hK hin_Letter t_Letter ok_Letter nm_Letter (rl_nx hπ) kC_5 rfl 6 (Nat.le_of_ble_eq_true rfl) (ht _ w_241) (fun _ h => h) rfl rfl rfl (Nat.le_of_ble_eq_true rfl) up_5_6 d_Store_takePing_44 47 rfl ?_
  refine z_iconst S d_Store_takePing_47 1 (by decide) 48 rfl ?_
  exact z_zret S hr (zb_n zb_1) hlk d_Store_takePing_48 rfl (kC_eq rfl)
theorem z_sw2_7 {x : Int32} (h2 : ¬ x = 2) (h3 : ¬ x = 3) (h4 : ¬ x = 4) (h5 : ¬ x = 5) (h6 : ¬ x = 6) (h7 : ¬ x = 7) : x.toInt < 2 ∨ 7 < x.toInt := by
  have f : ∀ k : Int32, ¬ x = k → x.toInt ≠ k.toInt := fun k h e => h (Int32.toInt_inj.mp e)
  have a2 := f 2 h2; have a3 := f 3 h3; have a4 := f 4 h4; have a5 := f 5 h5; have a6 := f 6 h6; have a7 := f 7 h7
  simp at a2 a3 a4 a5 a6 a7
  omega
theorem d_Store_takesEffect_0 : decode prog_1_method_24_code 0 = .ok (.aload_n 1, 1) := by decide +kernel
theorem d_Store_takesEffect_1 : decode prog_1_method_24_code 1 = .ok (.getfield 156, 3) := by decide +kernel
theorem d_Store_takesEffect_4 : decode prog_1_method_24_code 4 = .ok (.iconst 1, 1) := by decide +kernel
theorem d_Store_takesEffect_5 : decode prog_1_method_24_code 5 = .ok (.if_icmp .ne 9, 3) := by decide +kernel
theorem d_Store_takesEffect_8 : decode prog_1_method_24_code 8 = .ok (.aload_n 0, 1) := by decide +kernel
theorem d_Store_takesEffect_9 : decode prog_1_method_24_code 9 = .ok (.aload_n 1, 1) := by decide +kernel
theorem d_Store_takesEffect_10 : decode prog_1_method_24_code 10 = .ok (.invokevirtual 194, 3) := by decide +kernel
theorem d_Store_takesEffect_13 : decode prog_1_method_24_code 13 = .ok (.ireturn, 1) := by decide +kernel
theorem d_Store_takesEffect_14 : decode prog_1_method_24_code 14 = .ok (.aload_n 1, 1) := by decide +kernel
theorem d_Store_takesEffect_15 : decode prog_1_method_24_code 15 = .ok (.getfield 156, 3) := by decide +kernel
theorem d_Store_takesEffect_18 : decode prog_1_method_24_code 18 = .ok (.bipush 8, 2) := by decide +kernel
theorem d_Store_takesEffect_20 : decode prog_1_method_24_code 20 = .ok (.if_icmp .ne 17, 3) := by decide +kernel
theorem d_Store_takesEffect_23 : decode prog_1_method_24_code 23 = .ok (.aload_n 0, 1) := by decide +kernel
theorem d_Store_takesEffect_24 : decode prog_1_method_24_code 24 = .ok (.getfield 29, 3) := by decide +kernel
theorem d_Store_takesEffect_27 : decode prog_1_method_24_code 27 = .ok (.aload_n 1, 1) := by decide +kernel
theorem d_Store_takesEffect_28 : decode prog_1_method_24_code 28 = .ok (.getfield 166, 3) := by decide +kernel
theorem d_Store_takesEffect_31 : decode prog_1_method_24_code 31 = .ok (.aaload, 1) := by decide +kernel
theorem d_Store_takesEffect_32 : decode prog_1_method_24_code 32 = .ok (.aload_n 1, 1) := by decide +kernel
theorem d_Store_takesEffect_33 : decode prog_1_method_24_code 33 = .ok (.invokevirtual 197, 3) := by decide +kernel
theorem d_Store_takesEffect_36 : decode prog_1_method_24_code 36 = .ok (.ireturn, 1) := by decide +kernel
theorem d_Store_takesEffect_37 : decode prog_1_method_24_code 37 = .ok (.aload_n 0, 1) := by decide +kernel
theorem d_Store_takesEffect_38 : decode prog_1_method_24_code 38 = .ok (.getfield 20, 3) := by decide +kernel
theorem d_Store_takesEffect_41 : decode prog_1_method_24_code 41 = .ok (.aload_n 1, 1) := by decide +kernel
theorem d_Store_takesEffect_42 : decode prog_1_method_24_code 42 = .ok (.getfield 166, 3) := by decide +kernel
theorem d_Store_takesEffect_45 : decode prog_1_method_24_code 45 = .ok (.aaload, 1) := by decide +kernel
theorem d_Store_takesEffect_46 : decode prog_1_method_24_code 46 = .ok (.astore_n 2, 1) := by decide +kernel
theorem d_Store_takesEffect_47 : decode prog_1_method_24_code 47 = .ok (.aload_n 2, 1) := by decide +kernel
theorem d_Store_takesEffect_48 : decode prog_1_method_24_code 48 = .ok (.getfield 59, 3) := by decide +kernel
theorem d_Store_takesEffect_51 : decode prog_1_method_24_code 51 = .ok (.ifCond .eq 5, 3) := by decide +kernel
theorem d_Store_takesEffect_54 : decode prog_1_method_24_code 54 = .ok (.iconst 0, 1) := by decide +kernel
theorem d_Store_takesEffect_55 : decode prog_1_method_24_code 55 = .ok (.ireturn, 1) := by decide +kernel
theorem d_Store_takesEffect_56 : decode prog_1_method_24_code 56 = .ok (.aload_n 1, 1) := by decide +kernel
theorem d_Store_takesEffect_57 : decode prog_1_method_24_code 57 = .ok (.getfield 156, 3) := by decide +kernel
theorem d_Store_takesEffect_60 : decode prog_1_method_24_code 60 = .ok (.tableswitch 82 2 7 #[40, 47, 54, 61, 68, 75], 40) := by decide +kernel
theorem d_Store_takesEffect_100 : decode prog_1_method_24_code 100 = .ok (.aload_n 0, 1) := by decide +kernel
theorem d_Store_takesEffect_101 : decode prog_1_method_24_code 101 = .ok (.aload_n 2, 1) := by decide +kernel
theorem d_Store_takesEffect_102 : decode prog_1_method_24_code 102 = .ok (.aload_n 1, 1) := by decide +kernel
theorem d_Store_takesEffect_103 : decode prog_1_method_24_code 103 = .ok (.invokevirtual 200, 3) := by decide +kernel
theorem d_Store_takesEffect_106 : decode prog_1_method_24_code 106 = .ok (.ireturn, 1) := by decide +kernel
theorem d_Store_takesEffect_107 : decode prog_1_method_24_code 107 = .ok (.aload_n 0, 1) := by decide +kernel
theorem d_Store_takesEffect_108 : decode prog_1_method_24_code 108 = .ok (.aload_n 2, 1) := by decide +kernel
theorem d_Store_takesEffect_109 : decode prog_1_method_24_code 109 = .ok (.aload_n 1, 1) := by decide +kernel
theorem d_Store_takesEffect_110 : decode prog_1_method_24_code 110 = .ok (.invokevirtual 204, 3) := by decide +kernel
theorem d_Store_takesEffect_113 : decode prog_1_method_24_code 113 = .ok (.ireturn, 1) := by decide +kernel
theorem d_Store_takesEffect_114 : decode prog_1_method_24_code 114 = .ok (.aload_n 0, 1) := by decide +kernel
theorem d_Store_takesEffect_115 : decode prog_1_method_24_code 115 = .ok (.aload_n 2, 1) := by decide +kernel
theorem d_Store_takesEffect_116 : decode prog_1_method_24_code 116 = .ok (.aload_n 1, 1) := by decide +kernel
theorem d_Store_takesEffect_117 : decode prog_1_method_24_code 117 = .ok (.invokevirtual 207, 3) := by decide +kernel
theorem d_Store_takesEffect_120 : decode prog_1_method_24_code 120 = .ok (.ireturn, 1) := by decide +kernel
theorem d_Store_takesEffect_121 : decode prog_1_method_24_code 121 = .ok (.aload_n 0, 1) := by decide +kernel
theorem d_Store_takesEffect_122 : decode prog_1_method_24_code 122 = .ok (.aload_n 2, 1) := by decide +kernel
theorem d_Store_takesEffect_123 : decode prog_1_method_24_code 123 = .ok (.aload_n 1, 1) := by decide +kernel
theorem d_Store_takesEffect_124 : decode prog_1_method_24_code 124 = .ok (.invokevirtual 210, 3) := by decide +kernel
theorem d_Store_takesEffect_127 : decode prog_1_method_24_code 127 = .ok (.ireturn, 1) := by decide +kernel
theorem d_Store_takesEffect_128 : decode prog_1_method_24_code 128 = .ok (.aload_n 0, 1) := by decide +kernel
theorem d_Store_takesEffect_129 : decode prog_1_method_24_code 129 = .ok (.aload_n 2, 1) := by decide +kernel
theorem d_Store_takesEffect_130 : decode prog_1_method_24_code 130 = .ok (.aload_n 1, 1) := by decide +kernel
theorem d_Store_takesEffect_131 : decode prog_1_method_24_code 131 = .ok (.invokevirtual 213, 3) := by decide +kernel
theorem d_Store_takesEffect_134 : decode prog_1_method_24_code 134 = .ok (.ireturn, 1) := by decide +kernel
theorem d_Store_takesEffect_135 : decode prog_1_method_24_code 135 = .ok (.aload_n 0, 1) := by decide +kernel
theorem d_Store_takesEffect_136 : decode prog_1_method_24_code 136 = .ok (.aload_n 2, 1) := by decide +kernel
theorem d_Store_takesEffect_137 : decode prog_1_method_24_code 137 = .ok (.aload_n 1, 1) := by decide +kernel
theorem d_Store_takesEffect_138 : decode prog_1_method_24_code 138 = .ok (.invokevirtual 216, 3) := by decide +kernel
theorem d_Store_takesEffect_141 : decode prog_1_method_24_code 141 = .ok (.ireturn, 1) := by decide +kernel
theorem d_Store_takesEffect_142 : decode prog_1_method_24_code 142 = .ok (.iconst 0, 1) := by decide +kernel
theorem d_Store_takesEffect_143 : decode prog_1_method_24_code 143 = .ok (.ireturn, 1) := by decide +kernel
def S_Store_takesEffect (n : Nat) (π : Nat → Nat) (s : S3) (L : Nat) : S3 := if (s 5 3 L) = 1 then (S_Store_takePing n π s L) else if (s 5 3 L) = 8 then (S_Client_takeAnswer n π s ((s 5 4 L).toNatClampNeg) L) else if (s 1 6 ((s 5 4 L).toNatClampNeg)) = 0 then (if (s 5 3 L) = 2 then (S_Store_takeView n π s ((s 5 4 L).toNatClampNeg) L) else if (s 5 3 L) = 3 then (S_Store_takeFill n π s ((s 5 4 L).toNatClampNeg) L) else if (s 5 3 L) = 4 then (S_Store_takeFilled n π s ((s 5 4 L).toNatClampNeg) L) else if (s 5 3 L) = 5 then (S_Store_takePass n π s ((s 5 4 L).toNatClampNeg) L) else if (s 5 3 L) = 6 then (S_Store_takePassed n π s ((s 5 4 L).toNatClampNeg) L) else if (s 5 3 L) = 7 then (S_Store_takeAsk n π s ((s 5 4 L).toNatClampNeg) L) else s) else s
def v_Store_takesEffect (n : Nat) (π : Nat → Nat) (s : S3) (L : Nat) : Int32 := if (s 5 3 L) = 1 then (v_Store_takePing n π s L) else if (s 5 3 L) = 8 then (v_Client_takeAnswer n π s ((s 5 4 L).toNatClampNeg) L) else if (s 1 6 ((s 5 4 L).toNatClampNeg)) = 0 then (if (s 5 3 L) = 2 then (v_Store_takeView n π s ((s 5 4 L).toNatClampNeg) L) else if (s 5 3 L) = 3 then (v_Store_takeFill n π s ((s 5 4 L).toNatClampNeg) L) else if (s 5 3 L) = 4 then (v_Store_takeFilled n π s ((s 5 4 L).toNatClampNeg) L) else if (s 5 3 L) = 5 then (v_Store_takePass n π s ((s 5 4 L).toNatClampNeg) L) else if (s 5 3 L) = 6 then (v_Store_takePassed n π s ((s 5 4 L).toNatClampNeg) L) else if (s 5 3 L) = 7 then (v_Store_takeAsk n π s ((s 5 4 L).toNatClampNeg) L) else 0) else 0
theorem zbv_Store_takesEffect {n : Nat} {π : Nat → Nat} {s : S3} {L : Nat} : zb (v_Store_takesEffect n π s L) := by
  unfold v_Store_takesEffect
  repeat' split
  all_goals first | with_reducible exact zb_0 | with_reducible exact zb_1 | with_reducible exact zbv_View_hasBackup | with_reducible exact zbv_Server_isPrimary | with_reducible exact zbv_Server_isPrimaryOf | with_reducible exact zbv_Server_isBackupOf | with_reducible exact zbv_Client_takeAnswer | with_reducible exact zbv_Service_isFresh | with_reducible exact zbv_Post_has | with_reducible exact zbv_Store_isServer | with_reducible exact zbv_Store_isClient | with_reducible exact zbv_Store_isCell | with_reducible exact zbv_Store_takeRead | with_reducible exact zbv_Store_takeWrite | with_reducible exact zbv_Store_takeAsk | with_reducible exact zbv_Store_takePassed | with_reducible exact zbv_Store_takePass | with_reducible exact zbv_Store_takeFilled | with_reducible exact zbv_Store_takeFill | with_reducible exact zbv_Store_takeView | with_reducible exact zbv_Store_takePing
set_option maxHeartbeats 4000000 in
set_option maxRecDepth 100000 in
theorem c_Store_takesEffect {l : Launch} {D : va_G} {K : Nat → ClassId} {ad : Nat → Nat → Nat} {n : Nat} {π : Nat → Nat} {s : S3} {L : Nat} (hJ : zw_J (cRL n) ad) (mL : (5, L) ∈ cRL n) (hw : vp_in (s 4 2 0) 33) (hπ : ∀ j, π j < 34) (hop : opOK s) (hpa : (¬ s 5 3 L = 8 → vp_in (s 5 4 L) n) ∧ (s 5 3 L = 8 → vp_in (s 5 4 L) 3)) : zM l y_Store_takesEffect ws_Store_takesEffect ({ frames := 5, cells := 0, slots := 0, locals := 167 }) D zCl (zTys K) (cRL n) ad [.ref (ad 0 0), .ref (ad 5 L)] (kC K ad n s π) (some (.int (v_Store_takesEffect n π s L))) (kC K ad n (S_Store_takesEffect n π s L) π) := by
  refine zM.of (cc := prog_1_method_24_code) (maxL := 3) (ret := (Option.some Jvm.ClassFile.FieldType.boolean)) (by decide) rfl (Nat.le_of_ble_eq_true rfl) ?_
  intro pP eE U mM bL mT cO S hr hlk hK
  have hts := S.2.2.2.2
  have ht := fun w h => hts w (List.mem_cons_of_mem _ h)
  refine z_aload_n S d_Store_takesEffect_0 rfl 1 rfl 1 rfl ?_
  refine z_get S hK hin_Letter mL kC_5 rfl 3 (Nat.le_of_ble_eq_true rfl) (ht _ w_232) (fun _ h => h) d_Store_takesEffect_1 4 rfl (.int (s 5 3 L)) rfl ?_
  refine z_iconst S d_Store_takesEffect_4 1 (by decide) 5 rfl ?_
  refine z_icmp_ne S d_Store_takesEffect_5 14 (by decide) 8 rfl (fun h1 => ?_) (fun h1 => ?_)
  · refine z_aload_n S d_Store_takesEffect_14 rfl 1 rfl 15 rfl ?_
    refine z_get S hK hin_Letter mL kC_5 rfl 3 (Nat.le_of_ble_eq_true rfl) (ht _ w_232) (fun _ h => h) d_Store_takesEffect_15 18 rfl (.int (s 5 3 L)) rfl ?_
    refine z_bipush S d_Store_takesEffect_18 8 (by decide) 20 rfl ?_
    refine z_icmp_ne S d_Store_takesEffect_20 37 (by decide) 23 rfl (fun h2 => ?_) (fun h2 => ?_)
    · refine z_aload_n S d_Store_takesEffect_37 rfl 0 rfl 38 rfl ?_
      refine z_get S hK hin_Store rl_0 kC_0 rfl 0 (Nat.le_of_ble_eq_true rfl) (ht _ w_278) (fun _ h => h) d_Store_takesEffect_38 41 rfl (.ref (ad 10 0)) rfl ?_
      refine z_aload_n S d_Store_takesEffect_41 rfl 1 rfl 42 rfl ?_
      refine z_get S hK hin_Letter mL kC_5 rfl 4 (Nat.le_of_ble_eq_true rfl) (ht _ w_236) (fun _ h => h) d_Store_takesEffect_42 45 rfl (.int (s 5 4 L)) rfl ?_
      refine z_aald S hK rl_10 3 kC_10 rfl (hpa.1 h2) rfl d_Store_takesEffect_45 46 rfl ?_
      refine z_astore_n S d_Store_takesEffect_46 rfl (Nat.le_of_ble_eq_true rfl) [(2, .ref (ad 1 ((s 5 4 L).toNatClampNeg))), (0, .ref (ad 0 0)), (1, .ref (ad 5 L))] rfl 47 rfl ?_
      refine z_aload_n S d_Store_takesEffect_47 rfl 0 rfl 48 rfl ?_
      refine z_get S hK hin_Server (rl_srv (vp_lt (hpa.1 h2))) kC_1 rfl 6 (Nat.le_of_ble_eq_true rfl) (ht _ w_130) (fun _ h => h) d_Store_takesEffect_48 51 rfl (.int (s 1 6 ((s 5 4 L).toNatClampNeg))) rfl ?_
      refine z_if_eq S d_Store_takesEffect_51 56 (by decide) 54 rfl (fun h3 => ?_) (fun h3 => ?_)
      · refine z_aload_n S d_Store_takesEffect_56 rfl 2 rfl 57 rfl ?_
        refine z_get S hK hin_Letter mL kC_5 rfl 3 (Nat.le_of_ble_eq_true rfl) (ht _ w_232) (fun _ h => h) d_Store_takesEffect_57 60 rfl (.int (s 5 3 L)) rfl ?_
        by_cases h4 : (s 5 3 L) = 2
        · refine z_tableIn S d_Store_takesEffect_60 (by rw [h4]; decide) (by rw [h4]; decide) (by rw [h4]; rfl) 100 (by decide) ?_
          refine z_aload_n S d_Store_takesEffect_100 rfl 1 rfl 101 rfl ?_
          refine z_aload_n S d_Store_takesEffect_101 rfl 0 rfl 102 rfl ?_
          refine z_aload_n S d_Store_takesEffect_102 rfl 2 rfl 103 rfl ?_
          refine z_callV S hK (As := [.ref (ad 1 ((s 5 4 L).toNatClampNeg)), .ref (ad 5 L)]) (rest := []) (c_Store_takeView (i := (s 5 4 L).toNatClampNeg) (L := L) hJ (rl_srv (vp_lt (hpa.1 h2))) mL hw hπ) (cw_Store_takeView hts w_427 rfl rfl ⟨(Nat.le_of_ble_eq_true rfl), (Nat.le_of_ble_eq_true rfl)⟩) rl_0 kC_0 rfl rfl rfl (Nat.le_of_ble_eq_true rfl) d_Store_takesEffect_103 106 rfl [.int (v_Store_takeView n π s ((s 5 4 L).toNatClampNeg) L)] rfl ?_
          exact z_zret S hr (zb_n zbv_Store_takeView) hlk d_Store_takesEffect_106 (by unfold v_Store_takesEffect; simp only [if_neg h1, if_neg h2, if_pos h3, if_pos h4]) (kC_eq (by unfold S_Store_takesEffect; simp only [if_neg h1, if_neg h2, if_pos h3, if_pos h4]))
        by_cases h5 : (s 5 3 L) = 3
        · refine z_tableIn S d_Store_takesEffect_60 (by rw [h5]; decide) (by rw [h5]; decide) (by rw [h5]; rfl) 107 (by decide) ?_
          refine z_aload_n S d_Store_takesEffect_107 rfl 1 rfl 108 rfl ?_
          refine z_aload_n S d_Store_takesEffect_108 rfl 0 rfl 109 rfl ?_
          refine z_aload_n S d_Store_takesEffect_109 rfl 2 rfl 110 rfl ?_
          refine z_callV S hK (As := [.ref (ad 1 ((s 5 4 L).toNatClampNeg)), .ref (ad 5 L)]) (rest := []) (c_Store_takeFill (i := (s 5 4 L).toNatClampNeg) (L := L) hJ (rl_srv (vp_lt (hpa.1 h2))) mL hw hπ) (cw_Store_takeFill hts w_435 rfl rfl ⟨(Nat.le_of_ble_eq_true rfl), (Nat.le_of_ble_eq_true rfl)⟩) rl_0 kC_0 rfl rfl rfl (Nat.le_of_ble_eq_true rfl) d_Store_takesEffect_110 113 rfl [.int (v_Store_takeFill n π s ((s 5 4 L).toNatClampNeg) L)] rfl ?_
          exact z_zret S hr (zb_n zbv_Store_takeFill) hlk d_Store_takesEffect_113 (by unfold v_Store_takesEffect; simp only [if_neg h1, if_neg h2, if_pos h3, if_neg h4, if_pos h5]) (kC_eq (by unfold S_Store_takesEffect; simp only [if_neg h1, if_neg h2, if_pos h3, if_neg h4, if_pos h5]))
        by_cases h6 : (s 5 3 L) = 4
        · refine z_tableIn S d_Store_takesEffect_60 (by rw [h6]; decide) (by rw [h6]; decide) (by rw [h6]; rfl) 114 (by decide) ?_
          refine z_aload_n S d_Store_takesEffect_114 rfl 1 rfl 115 rfl ?_
          refine z_aload_n S d_Store_takesEffect_115 rfl 0 rfl 116 rfl ?_
          refine z_aload_n S d_Store_takesEffect_116 rfl 2 rfl 117 rfl ?_
          refine z_callV S hK (As := [.ref (ad 1 ((s 5 4 L).toNatClampNeg)), .ref (ad 5 L)]) (rest := []) (c_Store_takeFilled (i := (s 5 4 L).toNatClampNeg) (L := L) hJ (rl_srv (vp_lt (hpa.1 h2))) mL) (cw_Store_takeFilled hts w_439 rfl rfl ⟨(Nat.le_of_ble_eq_true rfl), (Nat.le_of_ble_eq_true rfl)⟩) rl_0 kC_0 rfl rfl rfl (Nat.le_of_ble_eq_true rfl) d_Store_takesEffect_117 120 rfl [.int (v_Store_takeFilled n π s ((s 5 4 L).toNatClampNeg) L)] rfl ?_
          exact z_zret S hr (zb_n zbv_Store_takeFilled) hlk d_Store_takesEffect_120 (by unfold v_Store_takesEffect; simp only [if_neg h1, if_neg h2, if_pos h3, if_neg h4, if_neg h5, if_pos h6]) (kC_eq (by unfold S_Store_takesEffect; simp only [if_neg h1, if_neg h2, if_pos h3, if_neg h4, if_neg h5, if_pos h6]))
        by_cases h7 : (s 5 3 L) = 5
        · refine z_tableIn S d_Store_takesEffect_60 (by rw [h7]; decide) (by rw [h7]; decide) (by rw [h7]; rfl) 121 (by decide) ?_
          refine z_aload_n S d_Store_takesEffect_121 rfl 1 rfl 122 rfl ?_
          refine z_aload_n S d_Store_takesEffect_122 rfl 0 rfl 123 rfl ?_
          refine z_aload_n S d_Store_takesEffect_123 rfl 2 rfl 124 rfl ?_
          refine z_callV S hK (As := [.ref (ad 1 ((s 5 4 L).toNatClampNeg)), .ref (ad 5 L)]) (rest := []) (c_Store_takePass (i := (s 5 4 L).toNatClampNeg) (L := L) hJ (rl_srv (vp_lt (hpa.1 h2))) mL hw hπ hop) (cw_Store_takePass hts w_447 rfl rfl ⟨(Nat.le_of_ble_eq_true rfl), (Nat.le_of_ble_eq_true rfl)⟩) rl_0 kC_0 rfl rfl rfl (Nat.le_of_ble_eq_true rfl) d_Store_takesEffect_124 127 rfl [.int (v_Store_takePass n π s ((s 5 4 L).toNatClampNeg) L)] rfl ?_
          exact z_zret S hr (zb_n zbv_Store_takePass) hlk d_Store_takesEffect_127 (by unfold v_Store_takesEffect; simp only [if_neg h1, if_neg h2, if_pos h3, if_neg h4, if_neg h5, if_neg h6, if_pos h7]) (kC_eq (by unfold S_Store_takesEffect; simp only [if_neg h1, if_neg h2, if_pos h3, if_neg h4, if_neg h5, if_neg h6, if_pos h7]))
        by_cases h8 : (s 5 3 L) = 6
        · refine z_tableIn S d_Store_takesEffect_60 (by rw [h8]; decide) (by rw [h8]; decide) (by rw [h8]; rfl) 128 (by decide) ?_
          refine z_aload_n S d_Store_takesEffect_128 rfl 1 rfl 129 rfl ?_
          refine z_aload_n S d_Store_takesEffect_129 rfl 0 rfl 130 rfl ?_
          refine z_aload_n S d_Store_takesEffect_130 rfl 2 rfl 131 rfl ?_
          refine z_callV S hK (As := [.ref (ad 1 ((s 5 4 L).toNatClampNeg)), .ref (ad 5 L)]) (rest := []) (c_Store_takePassed (i := (s 5 4 L).toNatClampNeg) (L := L) hJ (rl_srv (vp_lt (hpa.1 h2))) mL hw hπ hop) (cw_Store_takePassed hts w_459 rfl rfl ⟨(Nat.le_of_ble_eq_true rfl), (Nat.le_of_ble_eq_true rfl)⟩) rl_0 kC_0 rfl rfl rfl (Nat.le_of_ble_eq_true rfl) d_Store_takesEffect_131 134 rfl [.int (v_Store_takePassed n π s ((s 5 4 L).toNatClampNeg) L)] rfl ?_
          exact z_zret S hr (zb_n zbv_Store_takePassed) hlk d_Store_takesEffect_134 (by unfold v_Store_takesEffect; simp only [if_neg h1, if_neg h2, if_pos h3, if_neg h4, if_neg h5, if_neg h6, if_neg h7, if_pos h8]) (kC_eq (by unfold S_Store_takesEffect; simp only [if_neg h1, if_neg h2, if_pos h3, if_neg h4, if_neg h5, if_neg h6, if_neg h7, if_pos h8]))
        by_cases h9 : (s 5 3 L) = 7
        · refine z_tableIn S d_Store_takesEffect_60 (by rw [h9]; decide) (by rw [h9]; decide) (by rw [h9]; rfl) 135 (by decide) ?_
          refine z_aload_n S d_Store_takesEffect_135 rfl 1 rfl 136 rfl ?_
          refine z_aload_n S d_Store_takesEffect_136 rfl 0 rfl 137 rfl ?_
          refine z_aload_n S d_Store_takesEffect_137 rfl 2 rfl 138 rfl ?_
          refine z_callV S hK (As := [.ref (ad 1 ((s 5 4 L).toNatClampNeg)), .ref (ad 5 L)]) (rest := []) (c_Store_takeAsk (i := (s 5 4 L).toNatClampNeg) (L := L) hJ (rl_srv (vp_lt (hpa.1 h2))) mL hw hπ hop) (cw_Store_takeAsk hts w_471 rfl rfl ⟨(Nat.le_of_ble_eq_true rfl), (Nat.le_of_ble_eq_true rfl)⟩) rl_0 kC_0 rfl rfl rfl (Nat.le_of_ble_eq_true rfl) d_Store_takesEffect_138 141 rfl [.int (v_Store_takeAsk n π s ((s 5 4 L).toNatClampNeg) L)] rfl ?_
          exact z_zret S hr (zb_n zbv_Store_takeAsk) hlk d_Store_takesEffect_141 (by unfold v_Store_takesEffect; simp only [if_neg h1, if_neg h2, if_pos h3, if_neg h4, if_neg h5, if_neg h6, if_neg h7, if_neg h8, if_pos h9]) (kC_eq (by unfold S_Store_takesEffect; simp only [if_neg h1, if_neg h2, if_pos h3, if_neg h4, if_neg h5, if_neg h6, if_neg h7, if_neg h8, if_pos h9]))
        refine z_tableOut S d_Store_takesEffect_60 (z_sw2_7 h4 h5 h6 h7 h8 h9) 142 (by decide) ?_
        refine z_iconst S d_Store_takesEffect_142 0 (by decide) 143 rfl ?_
        exact z_zret S hr (zb_n zb_0) hlk d_Store_takesEffect_143 (by unfold v_Store_takesEffect; simp only [if_neg h1, if_neg h2, if_pos h3, if_neg h4, if_neg h5, if_neg h6, if_neg h7, if_neg h8, if_neg h9]) (kC_eq (by unfold S_Store_takesEffect; simp only [if_neg h1, if_neg h2, if_pos h3, if_neg h4, if_neg h5, if_neg h6, if_neg h7, if_neg h8, if_neg h9]))
      · refine z_iconst S d_Store_takesEffect_54 0 (by decide) 55 rfl ?_
        exact z_zret S hr (zb_n zb_0) hlk d_Store_takesEffect_55 (by unfold v_Store_takesEffect; simp only [if_neg h1, if_neg h2, if_neg h3]) (kC_eq (by unfold S_Store_takesEffect; simp only [if_neg h1, if_neg h2, if_neg h3]))
    · refine z_aload_n S d_Store_takesEffect_23 rfl 0 rfl 24 rfl ?_
      refine z_get S hK hin_Store rl_0 kC_0 rfl 1 (Nat.le_of_ble_eq_true rfl) (ht _ w_279) (fun _ h => h) d_Store_takesEffect_24 27 rfl (.ref (ad 11 0)) rfl ?_
      refine z_aload_n S d_Store_takesEffect_27 rfl 1 rfl 28 rfl ?_
      refine z_get S hK hin_Letter mL kC_5 rfl 4 (Nat.le_of_ble_eq_true rfl) (ht _ w_236) (fun _ h => h) d_Store_takesEffect_28 31 rfl (.int (s 5 4 L)) rfl ?_
      refine z_aald S hK rl_11 4 kC_11 rfl (hpa.2 h2) rfl d_Store_takesEffect_31 32 rfl ?_
      refine z_aload_n S d_Store_takesEffect_32 rfl 1 rfl 33 rfl ?_
      refine z_callV S hK (As := [.ref (ad 5 L)]) (rest := []) (c_Client_takeAnswer (c := (s 5 4 L).toNatClampNeg) (L := L) hJ (rl_cli (vp_lt (hpa.2 h2))) mL) (cw_Client_takeAnswer hts w_423 rfl rfl ⟨(Nat.le_of_ble_eq_true rfl), (Nat.le_of_ble_eq_true rfl)⟩) (rl_cli (vp_lt (hpa.2 h2))) kC_2 rfl rfl rfl (Nat.le_of_ble_eq_true rfl) d_Store_takesEffect_33 36 rfl [.int (v_Client_takeAnswer n π s ((s 5 4 L).toNatClampNeg) L)] rfl ?_
      exact z_zret S hr (zb_n zbv_Client_takeAnswer) hlk d_Store_takesEffect_36 (by unfold v_Store_takesEffect; simp only [if_neg h1, if_pos h2]) (kC_eq (by unfold S_Store_takesEffect; simp only [if_neg h1, if_pos h2]))
  · refine z_aload_n S d_Store_takesEffect_8 rfl 0 rfl 9 rfl ?_
    refine z_aload_n S d_Store_takesEffect_9 rfl 1 rfl 10 rfl ?_
    refine z_callV S hK (As := [.ref (ad 5 L)]) (rest := []) (c_Store_takePing (L := L) hJ mL hw hπ (hpa.1 (by rw [h1]; decide))) (cw_Store_takePing hts w_415 rfl rfl ⟨(Nat.le_of_ble_eq_true rfl), (Nat.le_of_ble_eq_true rfl)⟩) rl_0 kC_0 rfl rfl rfl (Nat.le_of_ble_eq_true rfl) d_Store_takesEffect_10 13 rfl [.int (v_Store_takePing n π s L)] rfl ?_
    exact z_zret S hr (zb_n zbv_Store_takePing) hlk d_Store_takesEffect_13 (by unfold v_Store_takesEffect; simp only [if_pos h1]) (kC_eq (by unfold S_Store_takesEffect; simp only [if_pos h1]))
