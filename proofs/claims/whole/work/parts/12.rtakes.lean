theorem has_in {w x : Int32} (hW : vp_in w 33) (h1 : ¬ x < 0) (h2 : x < w) : vp_in x w.toNatClampNeg := by
  obtain ⟨j, hj, rfl⟩ := nI_of h1
  obtain ⟨k, hk, hk2, rfl⟩ := vp_nI hW
  rw [nI_ltI hj hk2] at h2
  rw [nI_clamp hk2]
  exact nI_in h2 (by omega)
theorem la_in {oc d : Nat → Int32} {x c : Int32} {m : Nat} (hm : m ≤ 180) (h : 0 ≤ laF oc d x c m) : vp_in (laF oc d x c m) 180 := by
  induction m with
  | zero => exact absurd (show (0 : Int32) ≤ -1 from h) (by decide)
  | succ m ih =>
    unfold laF at h ⊢
    split
    · exact nI_in (by omega) (by omega)
    · rename_i hc
      rw [if_neg hc] at h
      exact ih (by omega) h
theorem d_Model_push_0 : decode prog_11_method_19_code 0 = .ok (.aload_n 0, 1) := by decide +kernel
theorem d_Model_push_1 : decode prog_11_method_19_code 1 = .ok (.iload_n 1, 1) := by decide +kernel
theorem d_Model_push_2 : decode prog_11_method_19_code 2 = .ok (.invokevirtual 138, 3) := by decide +kernel
theorem d_Model_push_5 : decode prog_11_method_19_code 5 = .ok (.ifCond .ne 47, 3) := by decide +kernel
theorem d_Model_push_8 : decode prog_11_method_19_code 8 = .ok (.aload_n 0, 1) := by decide +kernel
theorem d_Model_push_9 : decode prog_11_method_19_code 9 = .ok (.getfield 50, 3) := by decide +kernel
theorem d_Model_push_12 : decode prog_11_method_19_code 12 = .ok (.iload_n 1, 1) := by decide +kernel
theorem d_Model_push_13 : decode prog_11_method_19_code 13 = .ok (.baload, 1) := by decide +kernel
theorem d_Model_push_14 : decode prog_11_method_19_code 14 = .ok (.ifCond .ne 38, 3) := by decide +kernel
theorem d_Model_push_17 : decode prog_11_method_19_code 17 = .ok (.aload_n 0, 1) := by decide +kernel
theorem d_Model_push_18 : decode prog_11_method_19_code 18 = .ok (.iload_n 1, 1) := by decide +kernel
theorem d_Model_push_19 : decode prog_11_method_19_code 19 = .ok (.invokevirtual 141, 3) := by decide +kernel
theorem d_Model_push_22 : decode prog_11_method_19_code 22 = .ok (.ifCond .eq 30, 3) := by decide +kernel
theorem d_Model_push_25 : decode prog_11_method_19_code 25 = .ok (.aload_n 0, 1) := by decide +kernel
theorem d_Model_push_26 : decode prog_11_method_19_code 26 = .ok (.getfield 32, 3) := by decide +kernel
theorem d_Model_push_29 : decode prog_11_method_19_code 29 = .ok (.iload_n 1, 1) := by decide +kernel
theorem d_Model_push_30 : decode prog_11_method_19_code 30 = .ok (.iaload, 1) := by decide +kernel
theorem d_Model_push_31 : decode prog_11_method_19_code 31 = .ok (.ifCond .lt 21, 3) := by decide +kernel
theorem d_Model_push_34 : decode prog_11_method_19_code 34 = .ok (.aload_n 0, 1) := by decide +kernel
theorem d_Model_push_35 : decode prog_11_method_19_code 35 = .ok (.getfield 44, 3) := by decide +kernel
theorem d_Model_push_38 : decode prog_11_method_19_code 38 = .ok (.iload_n 1, 1) := by decide +kernel
theorem d_Model_push_39 : decode prog_11_method_19_code 39 = .ok (.baload, 1) := by decide +kernel
theorem d_Model_push_40 : decode prog_11_method_19_code 40 = .ok (.ifCond .eq 14, 3) := by decide +kernel
theorem d_Model_push_43 : decode prog_11_method_19_code 43 = .ok (.aload_n 0, 1) := by decide +kernel
theorem d_Model_push_44 : decode prog_11_method_19_code 44 = .ok (.getfield 53, 3) := by decide +kernel
theorem d_Model_push_47 : decode prog_11_method_19_code 47 = .ok (.iload_n 1, 1) := by decide +kernel
theorem d_Model_push_48 : decode prog_11_method_19_code 48 = .ok (.iaload, 1) := by decide +kernel
theorem d_Model_push_49 : decode prog_11_method_19_code 49 = .ok (.ifCond .ge 5, 3) := by decide +kernel
theorem d_Model_push_52 : decode prog_11_method_19_code 52 = .ok (.iconst 0, 1) := by decide +kernel
theorem d_Model_push_53 : decode prog_11_method_19_code 53 = .ok (.ireturn, 1) := by decide +kernel
theorem d_Model_push_54 : decode prog_11_method_19_code 54 = .ok (.aload_n 0, 1) := by decide +kernel
theorem d_Model_push_55 : decode prog_11_method_19_code 55 = .ok (.getfield 44, 3) := by decide +kernel
theorem d_Model_push_58 : decode prog_11_method_19_code 58 = .ok (.iload_n 1, 1) := by decide +kernel
theorem d_Model_push_59 : decode prog_11_method_19_code 59 = .ok (.baload, 1) := by decide +kernel
theorem d_Model_push_60 : decode prog_11_method_19_code 60 = .ok (.ifCond .ne 8, 3) := by decide +kernel
theorem d_Model_push_63 : decode prog_11_method_19_code 63 = .ok (.aload_n 0, 1) := by decide +kernel
theorem d_Model_push_64 : decode prog_11_method_19_code 64 = .ok (.iload_n 1, 1) := by decide +kernel
theorem d_Model_push_65 : decode prog_11_method_19_code 65 = .ok (.invokevirtual 123, 3) := by decide +kernel
theorem d_Model_push_68 : decode prog_11_method_19_code 68 = .ok (.aload_n 0, 1) := by decide +kernel
theorem d_Model_push_69 : decode prog_11_method_19_code 69 = .ok (.getfield 53, 3) := by decide +kernel
theorem d_Model_push_72 : decode prog_11_method_19_code 72 = .ok (.iload_n 1, 1) := by decide +kernel
theorem d_Model_push_73 : decode prog_11_method_19_code 73 = .ok (.iaload, 1) := by decide +kernel
theorem d_Model_push_74 : decode prog_11_method_19_code 74 = .ok (.ifCond .lt 8, 3) := by decide +kernel
theorem d_Model_push_77 : decode prog_11_method_19_code 77 = .ok (.aload_n 0, 1) := by decide +kernel
theorem d_Model_push_78 : decode prog_11_method_19_code 78 = .ok (.iload_n 1, 1) := by decide +kernel
theorem d_Model_push_79 : decode prog_11_method_19_code 79 = .ok (.invokevirtual 144, 3) := by decide +kernel
theorem d_Model_push_82 : decode prog_11_method_19_code 82 = .ok (.iconst 1, 1) := by decide +kernel
theorem d_Model_push_83 : decode prog_11_method_19_code 83 = .ok (.ireturn, 1) := by decide +kernel
def S_Model_push (s : S3) (x : Int32) : S3 := if (v_Model_noServer (s 0 0 0) x) = 0 then (if (s 17 0 x.toNatClampNeg) = 0 then (if (v_Model_leads (s 8 0 x.toNatClampNeg) (s 9 0 x.toNatClampNeg) x) = 0 then s else if (s 10 0 x.toNatClampNeg) < 0 then s else if (s 15 0 x.toNatClampNeg) = 0 then (S_Model_sendFill s x) else if 0 ≤ (s 18 0 x.toNatClampNeg) then (if (s 18 0 x.toNatClampNeg) < 0 then s else S_Model_sendPass s x) else s) else s) else s
def v_Model_push (s : S3) (x : Int32) : Int32 := if (v_Model_noServer (s 0 0 0) x) = 0 then (if (s 17 0 x.toNatClampNeg) = 0 then (if (v_Model_leads (s 8 0 x.toNatClampNeg) (s 9 0 x.toNatClampNeg) x) = 0 then 0 else if (s 10 0 x.toNatClampNeg) < 0 then 0 else if (s 15 0 x.toNatClampNeg) = 0 then 1 else if 0 ≤ (s 18 0 x.toNatClampNeg) then (if (s 18 0 x.toNatClampNeg) < 0 then 1 else 1) else 0) else 0) else 0
theorem zbv_Model_push {s : S3} {x : Int32} : zb (v_Model_push s x) := by
  unfold v_Model_push
  repeat' split
  all_goals first | with_reducible exact zb_0 | with_reducible exact zb_1 | with_reducible exact zbv_Model_noServer | with_reducible exact zbv_Model_noClient | with_reducible exact zbv_Model_leads | with_reducible exact zbv_Model_fresh | with_reducible exact zbv_Model_skew | with_reducible exact zbv_Model_crash | with_reducible exact zbv_Model_ping
set_option maxHeartbeats 4000000 in
set_option maxRecDepth 100000 in
theorem c_Model_push {l : Launch} {D : va_G} {K : Nat → ClassId} {ad : Nat → Nat → Nat} {s : S3} {x : Int32} (hJ : zw_J (rRL) ad) (hN : vp_in (s 0 0 0) 6) (hW : vp_in (s 0 25 0) 33) (hB : fB s) (hla : ∀ j, vp_in (s 19 0 j) 180) (hpr : ∀ j, s 15 0 j = 0 → s 18 0 j < 0) : zM l y_Model_push ws_Model_push ({ frames := 2, cells := 0, slots := 0, locals := 46 }) D zCl (zTys K) (rRL) ad [.ref (ad 0 0), .int x] (rC K ad s) (some (.int (v_Model_push s x))) (rC K ad (S_Model_push s x)) := by
  refine zM.of (cc := prog_11_method_19_code) (maxL := 2) (ret := (Option.some Jvm.ClassFile.FieldType.boolean)) (by decide) rfl (Nat.le_of_ble_eq_true rfl) ?_
  intro pP eE U mM bL mT cO S hr hlk hK
  have hts := S.2.2.2.2
  have ht := fun w h => hts w (List.mem_cons_of_mem _ h)
  refine z_aload_n S d_Model_push_0 rfl 0 rfl 1 rfl ?_
  refine z_iload_n S d_Model_push_1 rfl 1 rfl 2 rfl ?_
  refine z_callV S hK (As := [.int x]) (rest := []) (c_Model_noServer (x := x) hJ) (cw_Model_noServer hts w_670 rfl rfl ⟨(Nat.le_of_ble_eq_true rfl), (Nat.le_of_ble_eq_true rfl)⟩) rm_0 rC_0 rfl rfl rfl (Nat.le_of_ble_eq_true rfl) d_Model_push_2 5 rfl [.int (v_Model_noServer (s 0 0 0) x)] rfl ?_
  refine z_if_ne S d_Model_push_5 52 (by decide) 8 rfl (fun h1 => ?_) (fun h1 => ?_)
  · refine z_iconst S d_Model_push_52 0 (by decide) 53 rfl ?_
    exact z_zret S hr (zb_n zb_0) hlk d_Model_push_53 (by unfold v_Model_push; simp only [if_neg h1] <;> rfl) (rC_eq (by unfold S_Model_push; simp only [if_neg h1] <;> rfl))
  · refine z_aload_n S d_Model_push_8 rfl 0 rfl 9 rfl ?_
    refine z_get S hK hin_Model rm_0 rC_0 rfl 17 (Nat.le_of_ble_eq_true rfl) (ht _ w_557) (fun _ h => h) d_Model_push_9 12 rfl (.ref (ad 17 0)) rfl ?_
    refine z_iload_n S d_Model_push_12 rfl 1 rfl 13 rfl ?_
    refine z_zald S hK rm_17 1 rC_17 rfl (in_srvR hN h1) d_Model_push_13 14 rfl (s 17 0 x.toNatClampNeg) rfl ?_
    refine z_if_ne S d_Model_push_14 52 (by decide) 17 rfl (fun h2 => ?_) (fun h2 => ?_)
    · refine z_iconst S d_Model_push_52 0 (by decide) 53 rfl ?_
      exact z_zret S hr (zb_n zb_0) hlk d_Model_push_53 (by unfold v_Model_push; simp only [if_pos h1, if_neg h2] <;> rfl) (rC_eq (by unfold S_Model_push; simp only [if_pos h1, if_neg h2] <;> rfl))
    · refine z_aload_n S d_Model_push_17 rfl 0 rfl 18 rfl ?_
      refine z_iload_n S d_Model_push_18 rfl 1 rfl 19 rfl ?_
      refine z_callV S hK (As := [.int x]) (rest := []) (c_Model_leads (x := x) hJ (in_srvR hN h1)) (cw_Model_leads hts w_682 rfl rfl ⟨(Nat.le_of_ble_eq_true rfl), (Nat.le_of_ble_eq_true rfl)⟩) rm_0 rC_0 rfl rfl rfl (Nat.le_of_ble_eq_true rfl) d_Model_push_19 22 rfl [.int (v_Model_leads (s 8 0 x.toNatClampNeg) (s 9 0 x.toNatClampNeg) x)] rfl ?_
      refine z_if_eq S d_Model_push_22 52 (by decide) 25 rfl (fun h3 => ?_) (fun h3 => ?_)
      · refine z_iconst S d_Model_push_52 0 (by decide) 53 rfl ?_
        exact z_zret S hr (zb_n zb_0) hlk d_Model_push_53 (by unfold v_Model_push; simp only [if_pos h1, if_pos h2, if_pos h3] <;> rfl) (rC_eq (by unfold S_Model_push; simp only [if_pos h1, if_pos h2, if_pos h3] <;> rfl))
      · refine z_aload_n S d_Model_push_25 rfl 0 rfl 26 rfl ?_
        refine z_get S hK hin_Model rm_0 rC_0 rfl 10 (Nat.le_of_ble_eq_true rfl) (ht _ w_550) (fun _ h => h) d_Model_push_26 29 rfl (.ref (ad 10 0)) rfl ?_
        refine z_iload_n S d_Model_push_29 rfl 1 rfl 30 rfl ?_
        refine z_iald S hK rm_10 0 rC_10 rfl (vp_mono (in_srvR hN h1) (by omega)) d_Model_push_30 31 rfl (s 10 0 x.toNatClampNeg) rfl ?_
        refine z_if_lt S d_Model_push_31 52 (by decide) 34 rfl (fun h4 => ?_) (fun h4 => ?_)
        · refine z_iconst S d_Model_push_52 0 (by decide) 53 rfl ?_
          exact z_zret S hr (zb_n zb_0) hlk d_Model_push_53 (by unfold v_Model_push; simp only [if_pos h1, if_pos h2, if_neg h3, if_pos h4] <;> rfl) (rC_eq (by unfold S_Model_push; simp only [if_pos h1, if_pos h2, if_neg h3, if_pos h4] <;> rfl))
        · refine z_aload_n S d_Model_push_34 rfl 0 rfl 35 rfl ?_
          refine z_get S hK hin_Model rm_0 rC_0 rfl 15 (Nat.le_of_ble_eq_true rfl) (ht _ w_555) (fun _ h => h) d_Model_push_35 38 rfl (.ref (ad 15 0)) rfl ?_
          refine z_iload_n S d_Model_push_38 rfl 1 rfl 39 rfl ?_
          refine z_zald S hK rm_15 1 rC_15 rfl (in_srvR hN h1) d_Model_push_39 40 rfl (s 15 0 x.toNatClampNeg) rfl ?_
          refine z_if_eq S d_Model_push_40 54 (by decide) 43 rfl (fun h5 => ?_) (fun h5 => ?_)
          · refine z_aload_n S d_Model_push_54 rfl 0 rfl 55 rfl ?_
            refine z_get S hK hin_Model rm_0 rC_0 rfl 15 (Nat.le_of_ble_eq_true rfl) (ht _ w_555) (fun _ h => h) d_Model_push_55 58 rfl (.ref (ad 15 0)) rfl ?_
            refine z_iload_n S d_Model_push_58 rfl 1 rfl 59 rfl ?_
            refine z_zald S hK rm_15 1 rC_15 rfl (in_srvR hN h1) d_Model_push_59 60 rfl (s 15 0 x.toNatClampNeg) rfl ?_
            refine z_if_ne S d_Model_push_60 68 (by decide) 63 rfl (fun h6 => ?_) (fun h6 => ?_)
            · exact absurd h5 h6
            · refine z_aload_n S d_Model_push_63 rfl 0 rfl 64 rfl ?_
              refine z_iload_n S d_Model_push_64 rfl 1 rfl 65 rfl ?_
              refine z_callV S hK (As := [.int x]) (rest := []) (c_Model_sendFill (x := x) hJ hW hB (in_srvR hN h1) (vp_mono (hla _) (by omega))) (cw_Model_sendFill hts w_690 rfl rfl ⟨(Nat.le_of_ble_eq_true rfl), (Nat.le_of_ble_eq_true rfl)⟩) rm_0 rC_0 rfl rfl rfl (Nat.le_of_ble_eq_true rfl) d_Model_push_65 68 rfl [] rfl ?_
              refine z_aload_n S d_Model_push_68 rfl 0 rfl 69 rfl ?_
              refine z_get S hK hin_Model rm_0 rC_0 rfl 18 (Nat.le_of_ble_eq_true rfl) (ht _ w_558) (fun _ h => h) d_Model_push_69 72 rfl (.ref (ad 18 0)) rfl ?_
              refine z_iload_n S d_Model_push_72 rfl 1 rfl 73 rfl ?_
              refine z_iald S hK rm_18 0 rC_18 rfl (in_srvR hN h1) d_Model_push_73 74 rfl (s 18 0 x.toNatClampNeg) rfl ?_
              refine z_if_lt S d_Model_push_74 82 (by decide) 77 rfl (fun h7 => ?_) (fun h7 => ?_)
              · refine z_iconst S d_Model_push_82 1 (by decide) 83 rfl ?_
                exact z_zret S hr (zb_n zb_1) hlk d_Model_push_83 (by unfold v_Model_push; simp only [if_pos h1, if_pos h2, if_neg h3, if_neg h4, if_pos h5, if_pos h7] <;> rfl) (rC_eq (by unfold S_Model_push; simp only [if_pos h1, if_pos h2, if_neg h3, if_neg h4, if_pos h5, if_pos h7] <;> rfl))
              · exact absurd (hpr _ h5) h7
          · refine z_aload_n S d_Model_push_43 rfl 0 rfl 44 rfl ?_
            refine z_get S hK hin_Model rm_0 rC_0 rfl 18 (Nat.le_of_ble_eq_true rfl) (ht _ w_558) (fun _ h => h) d_Model_push_44 47 rfl (.ref (ad 18 0)) rfl ?_
            refine z_iload_n S d_Model_push_47 rfl 1 rfl 48 rfl ?_
            refine z_iald S hK rm_18 0 rC_18 rfl (in_srvR hN h1) d_Model_push_48 49 rfl (s 18 0 x.toNatClampNeg) rfl ?_
            refine z_if_ge S d_Model_push_49 54 (by decide) 52 rfl (fun h8 => ?_) (fun h8 => ?_)
            · refine z_aload_n S d_Model_push_54 rfl 0 rfl 55 rfl ?_
              refine z_get S hK hin_Model rm_0 rC_0 rfl 15 (Nat.le_of_ble_eq_true rfl) (ht _ w_555) (fun _ h => h) d_Model_push_55 58 rfl (.ref (ad 15 0)) rfl ?_
              refine z_iload_n S d_Model_push_58 rfl 1 rfl 59 rfl ?_
              refine z_zald S hK rm_15 1 rC_15 rfl (in_srvR hN h1) d_Model_push_59 60 rfl (s 15 0 x.toNatClampNeg) rfl ?_
              refine z_if_ne S d_Model_push_60 68 (by decide) 63 rfl (fun h9 => ?_) (fun h9 => ?_)
              · refine z_aload_n S d_Model_push_68 rfl 0 rfl 69 rfl ?_
                refine z_get S hK hin_Model rm_0 rC_0 rfl 18 (Nat.le_of_ble_eq_true rfl) (ht _ w_558) (fun _ h => h) d_Model_push_69 72 rfl (.ref (ad 18 0)) rfl ?_
                refine z_iload_n S d_Model_push_72 rfl 1 rfl 73 rfl ?_
                refine z_iald S hK rm_18 0 rC_18 rfl (in_srvR hN h1) d_Model_push_73 74 rfl (s 18 0 x.toNatClampNeg) rfl ?_
                refine z_if_lt S d_Model_push_74 82 (by decide) 77 rfl (fun h10 => ?_) (fun h10 => ?_)
                · refine z_iconst S d_Model_push_82 1 (by decide) 83 rfl ?_
                  exact z_zret S hr (zb_n zb_1) hlk d_Model_push_83 (by unfold v_Model_push; simp only [if_pos h1, if_pos h2, if_neg h3, if_neg h4, if_neg h5, if_pos h8, if_pos h10] <;> rfl) (rC_eq (by unfold S_Model_push; simp only [if_pos h1, if_pos h2, if_neg h3, if_neg h4, if_neg h5, if_pos h8, if_pos h10] <;> rfl))
                · refine z_aload_n S d_Model_push_77 rfl 0 rfl 78 rfl ?_
                  refine z_iload_n S d_Model_push_78 rfl 1 rfl 79 rfl ?_
                  refine z_callV S hK (As := [.int x]) (rest := []) (c_Model_sendPass (x := x) hJ hW hB (in_srvR hN h1)) (cw_Model_sendPass hts w_694 rfl rfl ⟨(Nat.le_of_ble_eq_true rfl), (Nat.le_of_ble_eq_true rfl)⟩) rm_0 rC_0 rfl rfl rfl (Nat.le_of_ble_eq_true rfl) d_Model_push_79 82 rfl [] rfl ?_
                  refine z_iconst S d_Model_push_82 1 (by decide) 83 rfl ?_
                  exact z_zret S hr (zb_n zb_1) hlk d_Model_push_83 (by unfold v_Model_push; simp only [if_pos h1, if_pos h2, if_neg h3, if_neg h4, if_neg h5, if_pos h8, if_neg h10] <;> rfl) (rC_eq (by unfold S_Model_push; simp only [if_pos h1, if_pos h2, if_neg h3, if_neg h4, if_neg h5, if_pos h8, if_neg h10] <;> rfl))
              · exact absurd h9 h5
            · refine z_iconst S d_Model_push_52 0 (by decide) 53 rfl ?_
              exact z_zret S hr (zb_n zb_0) hlk d_Model_push_53 (by unfold v_Model_push; simp only [if_pos h1, if_pos h2, if_neg h3, if_neg h4, if_neg h5, if_neg h8] <;> rfl) (rC_eq (by unfold S_Model_push; simp only [if_pos h1, if_pos h2, if_neg h3, if_neg h4, if_neg h5, if_neg h8] <;> rfl))
theorem d_Model_begin_0 : decode prog_11_method_20_code 0 = .ok (.aload_n 0, 1) := by decide +kernel
theorem d_Model_begin_1 : decode prog_11_method_20_code 1 = .ok (.iload_n 1, 1) := by decide +kernel
theorem d_Model_begin_2 : decode prog_11_method_20_code 2 = .ok (.invokevirtual 147, 3) := by decide +kernel
theorem d_Model_begin_5 : decode prog_11_method_20_code 5 = .ok (.ifCond .ne 12, 3) := by decide +kernel
theorem d_Model_begin_8 : decode prog_11_method_20_code 8 = .ok (.iload_n 3, 1) := by decide +kernel
theorem d_Model_begin_9 : decode prog_11_method_20_code 9 = .ok (.ifCond .lt 8, 3) := by decide +kernel
theorem d_Model_begin_12 : decode prog_11_method_20_code 12 = .ok (.iload_n 3, 1) := by decide +kernel
theorem d_Model_begin_13 : decode prog_11_method_20_code 13 = .ok (.iconst 3, 1) := by decide +kernel
theorem d_Model_begin_14 : decode prog_11_method_20_code 14 = .ok (.if_icmp .le 5, 3) := by decide +kernel
theorem d_Model_begin_17 : decode prog_11_method_20_code 17 = .ok (.iconst (-1), 1) := by decide +kernel
theorem d_Model_begin_18 : decode prog_11_method_20_code 18 = .ok (.ireturn, 1) := by decide +kernel
theorem d_Model_begin_19 : decode prog_11_method_20_code 19 = .ok (.aload_n 0, 1) := by decide +kernel
theorem d_Model_begin_20 : decode prog_11_method_20_code 20 = .ok (.getfield 63, 3) := by decide +kernel
theorem d_Model_begin_23 : decode prog_11_method_20_code 23 = .ok (.iload_n 1, 1) := by decide +kernel
theorem d_Model_begin_24 : decode prog_11_method_20_code 24 = .ok (.iaload, 1) := by decide +kernel
theorem d_Model_begin_25 : decode prog_11_method_20_code 25 = .ok (.ifCond .lt 6, 3) := by decide +kernel
theorem d_Model_begin_28 : decode prog_11_method_20_code 28 = .ok (.bipush (-2), 2) := by decide +kernel
theorem d_Model_begin_30 : decode prog_11_method_20_code 30 = .ok (.ireturn, 1) := by decide +kernel
theorem d_Model_begin_31 : decode prog_11_method_20_code 31 = .ok (.aload_n 0, 1) := by decide +kernel
theorem d_Model_begin_32 : decode prog_11_method_20_code 32 = .ok (.getfield 66, 3) := by decide +kernel
theorem d_Model_begin_35 : decode prog_11_method_20_code 35 = .ok (.iload_n 1, 1) := by decide +kernel
theorem d_Model_begin_36 : decode prog_11_method_20_code 36 = .ok (.dup2, 1) := by decide +kernel
theorem d_Model_begin_37 : decode prog_11_method_20_code 37 = .ok (.iaload, 1) := by decide +kernel
theorem d_Model_begin_38 : decode prog_11_method_20_code 38 = .ok (.iconst 1, 1) := by decide +kernel
theorem d_Model_begin_39 : decode prog_11_method_20_code 39 = .ok (.iadd, 1) := by decide +kernel
theorem d_Model_begin_40 : decode prog_11_method_20_code 40 = .ok (.iastore, 1) := by decide +kernel
theorem d_Model_begin_41 : decode prog_11_method_20_code 41 = .ok (.aload_n 0, 1) := by decide +kernel
theorem d_Model_begin_42 : decode prog_11_method_20_code 42 = .ok (.getfield 7, 3) := by decide +kernel
theorem d_Model_begin_45 : decode prog_11_method_20_code 45 = .ok (.aload_n 0, 1) := by decide +kernel
theorem d_Model_begin_46 : decode prog_11_method_20_code 46 = .ok (.getfield 150, 3) := by decide +kernel
theorem d_Model_begin_49 : decode prog_11_method_20_code 49 = .ok (.iload_n 1, 1) := by decide +kernel
theorem d_Model_begin_50 : decode prog_11_method_20_code 50 = .ok (.iastore, 1) := by decide +kernel
theorem d_Model_begin_51 : decode prog_11_method_20_code 51 = .ok (.aload_n 0, 1) := by decide +kernel
theorem d_Model_begin_52 : decode prog_11_method_20_code 52 = .ok (.getfield 13, 3) := by decide +kernel
theorem d_Model_begin_55 : decode prog_11_method_20_code 55 = .ok (.aload_n 0, 1) := by decide +kernel
theorem d_Model_begin_56 : decode prog_11_method_20_code 56 = .ok (.getfield 150, 3) := by decide +kernel
theorem d_Model_begin_59 : decode prog_11_method_20_code 59 = .ok (.aload_n 0, 1) := by decide +kernel
theorem d_Model_begin_60 : decode prog_11_method_20_code 60 = .ok (.getfield 66, 3) := by decide +kernel
theorem d_Model_begin_63 : decode prog_11_method_20_code 63 = .ok (.iload_n 1, 1) := by decide +kernel
theorem d_Model_begin_64 : decode prog_11_method_20_code 64 = .ok (.iaload, 1) := by decide +kernel
theorem d_Model_begin_65 : decode prog_11_method_20_code 65 = .ok (.iastore, 1) := by decide +kernel
theorem d_Model_begin_66 : decode prog_11_method_20_code 66 = .ok (.aload_n 0, 1) := by decide +kernel
theorem d_Model_begin_67 : decode prog_11_method_20_code 67 = .ok (.getfield 16, 3) := by decide +kernel
theorem d_Model_begin_70 : decode prog_11_method_20_code 70 = .ok (.aload_n 0, 1) := by decide +kernel
theorem d_Model_begin_71 : decode prog_11_method_20_code 71 = .ok (.getfield 150, 3) := by decide +kernel
theorem d_Model_begin_74 : decode prog_11_method_20_code 74 = .ok (.iload_n 3, 1) := by decide +kernel
theorem d_Model_begin_75 : decode prog_11_method_20_code 75 = .ok (.iastore, 1) := by decide +kernel
theorem d_Model_begin_76 : decode prog_11_method_20_code 76 = .ok (.aload_n 0, 1) := by decide +kernel
theorem d_Model_begin_77 : decode prog_11_method_20_code 77 = .ok (.getfield 19, 3) := by decide +kernel
theorem d_Model_begin_80 : decode prog_11_method_20_code 80 = .ok (.aload_n 0, 1) := by decide +kernel
theorem d_Model_begin_81 : decode prog_11_method_20_code 81 = .ok (.getfield 150, 3) := by decide +kernel
theorem d_Model_begin_84 : decode prog_11_method_20_code 84 = .ok (.iload 4, 2) := by decide +kernel
theorem d_Model_begin_86 : decode prog_11_method_20_code 86 = .ok (.iastore, 1) := by decide +kernel
theorem d_Model_begin_87 : decode prog_11_method_20_code 87 = .ok (.aload_n 0, 1) := by decide +kernel
theorem d_Model_begin_88 : decode prog_11_method_20_code 88 = .ok (.getfield 22, 3) := by decide +kernel
theorem d_Model_begin_91 : decode prog_11_method_20_code 91 = .ok (.aload_n 0, 1) := by decide +kernel
theorem d_Model_begin_92 : decode prog_11_method_20_code 92 = .ok (.getfield 150, 3) := by decide +kernel
theorem d_Model_begin_95 : decode prog_11_method_20_code 95 = .ok (.iload_n 2, 1) := by decide +kernel
theorem d_Model_begin_96 : decode prog_11_method_20_code 96 = .ok (.bastore, 1) := by decide +kernel
theorem d_Model_begin_97 : decode prog_11_method_20_code 97 = .ok (.aload_n 0, 1) := by decide +kernel
theorem d_Model_begin_98 : decode prog_11_method_20_code 98 = .ok (.getfield 63, 3) := by decide +kernel
theorem d_Model_begin_101 : decode prog_11_method_20_code 101 = .ok (.iload_n 1, 1) := by decide +kernel
theorem d_Model_begin_102 : decode prog_11_method_20_code 102 = .ok (.aload_n 0, 1) := by decide +kernel
theorem d_Model_begin_103 : decode prog_11_method_20_code 103 = .ok (.getfield 150, 3) := by decide +kernel
theorem d_Model_begin_106 : decode prog_11_method_20_code 106 = .ok (.iastore, 1) := by decide +kernel
theorem d_Model_begin_107 : decode prog_11_method_20_code 107 = .ok (.aload_n 0, 1) := by decide +kernel
theorem d_Model_begin_108 : decode prog_11_method_20_code 108 = .ok (.dup, 1) := by decide +kernel
theorem d_Model_begin_109 : decode prog_11_method_20_code 109 = .ok (.getfield 150, 3) := by decide +kernel
theorem d_Model_begin_112 : decode prog_11_method_20_code 112 = .ok (.iconst 1, 1) := by decide +kernel
theorem d_Model_begin_113 : decode prog_11_method_20_code 113 = .ok (.iadd, 1) := by decide +kernel
theorem d_Model_begin_114 : decode prog_11_method_20_code 114 = .ok (.putfield 150, 3) := by decide +kernel
theorem d_Model_begin_117 : decode prog_11_method_20_code 117 = .ok (.aload_n 0, 1) := by decide +kernel
theorem d_Model_begin_118 : decode prog_11_method_20_code 118 = .ok (.getfield 66, 3) := by decide +kernel
theorem d_Model_begin_121 : decode prog_11_method_20_code 121 = .ok (.iload_n 1, 1) := by decide +kernel
theorem d_Model_begin_122 : decode prog_11_method_20_code 122 = .ok (.iaload, 1) := by decide +kernel
theorem d_Model_begin_123 : decode prog_11_method_20_code 123 = .ok (.ireturn, 1) := by decide +kernel
def S_Model_begin (s : S3) (x : Int32) (w : Int32) (k : Int32) (v : Int32) : S3 := if (v_Model_noClient x) = 0 then (if k < 0 then s else if k ≤ 3 then (if (s 21 0 x.toNatClampNeg) < 0 then (u3 (u3 (u3 (u3 (u3 (u3 (u3 (u3 s 22 0 x.toNatClampNeg ((s 22 0 x.toNatClampNeg) + 1)) 3 0 ((s 0 2 0).toNatClampNeg) x) 4 0 ((s 0 2 0).toNatClampNeg) ((s 22 0 x.toNatClampNeg) + 1)) 5 0 ((s 0 2 0).toNatClampNeg) k) 6 0 ((s 0 2 0).toNatClampNeg) v) 7 0 ((s 0 2 0).toNatClampNeg) w) 21 0 x.toNatClampNeg (s 0 2 0)) 0 2 0 ((s 0 2 0) + 1)) else s) else s) else s
def v_Model_begin (s : S3) (x : Int32) (w : Int32) (k : Int32) (v : Int32) : Int32 := if (v_Model_noClient x) = 0 then (if k < 0 then (-1) else if k ≤ 3 then (if (s 21 0 x.toNatClampNeg) < 0 then ((s 22 0 x.toNatClampNeg) + 1) else (-2)) else (-1)) else (-1)
set_option maxHeartbeats 4000000 in
set_option maxRecDepth 100000 in
theorem c_Model_begin {l : Launch} {D : va_G} {K : Nat → ClassId} {ad : Nat → Nat → Nat} {s : S3} {x w k v : Int32} (hJ : zw_J (rRL) ad) (hbg : vp_in (s 0 2 0) 512) (hz : zb w) : zM l y_Model_begin ws_Model_begin ({ frames := 1, cells := 0, slots := 0, locals := 21 }) D zCl (zTys K) (rRL) ad [.ref (ad 0 0), .int x, .int w, .int k, .int v] (rC K ad s) (some (.int (v_Model_begin s x w k v))) (rC K ad (S_Model_begin s x w k v)) := by
  refine zM.of (cc := prog_11_method_20_code) (maxL := 5) (ret := (Option.some Jvm.ClassFile.FieldType.int)) (by decide) rfl (Nat.le_of_ble_eq_true rfl) ?_
  intro pP eE U mM bL mT cO S hr hlk hK
  have hts := S.2.2.2.2
  have ht := fun w h => hts w (List.mem_cons_of_mem _ h)
  refine z_aload_n S d_Model_begin_0 rfl 0 rfl 1 rfl ?_
  refine z_iload_n S d_Model_begin_1 rfl 1 rfl 2 rfl ?_
  refine z_callV S hK (As := [.int x]) (rest := []) (c_Model_noClient (x := x) hJ) (cw_Model_noClient hts w_702 rfl rfl ⟨(Nat.le_of_ble_eq_true rfl), (Nat.le_of_ble_eq_true rfl)⟩) rm_0 rC_0 rfl rfl rfl (Nat.le_of_ble_eq_true rfl) d_Model_begin_2 5 rfl [.int (v_Model_noClient x)] rfl ?_
  refine z_if_ne S d_Model_begin_5 17 (by decide) 8 rfl (fun h1 => ?_) (fun h1 => ?_)
  · refine z_iconst S d_Model_begin_17 (-1) (by decide) 18 rfl ?_
    exact z_iret S hr hlk d_Model_begin_18 (by unfold v_Model_begin; simp only [if_neg h1] <;> rfl) (rC_eq (by unfold S_Model_begin; simp only [if_neg h1] <;> rfl))
  · refine z_iload_n S d_Model_begin_8 rfl 3 rfl 9 rfl ?_
    refine z_if_lt S d_Model_begin_9 17 (by decide) 12 rfl (fun h2 => ?_) (fun h2 => ?_)
    · refine z_iconst S d_Model_begin_17 (-1) (by decide) 18 rfl ?_
      exact z_iret S hr hlk d_Model_begin_18 (by unfold v_Model_begin; simp only [if_pos h1, if_pos h2] <;> rfl) (rC_eq (by unfold S_Model_begin; simp only [if_pos h1, if_pos h2] <;> rfl))
    · refine z_iload_n S d_Model_begin_12 rfl 3 rfl 13 rfl ?_
      refine z_iconst S d_Model_begin_13 3 (by decide) 14 rfl ?_
      refine z_icmp_le S d_Model_begin_14 19 (by decide) 17 rfl (fun h3 => ?_) (fun h3 => ?_)
      · refine z_aload_n S d_Model_begin_19 rfl 0 rfl 20 rfl ?_
        refine z_get S hK hin_Model rm_0 rC_0 rfl 21 (Nat.le_of_ble_eq_true rfl) (ht _ w_561) (fun _ h => h) d_Model_begin_20 23 rfl (.ref (ad 21 0)) rfl ?_
        refine z_iload_n S d_Model_begin_23 rfl 1 rfl 24 rfl ?_
        refine z_iald S hK rm_21 0 rC_21 rfl (in_cliR h1) d_Model_begin_24 25 rfl (s 21 0 x.toNatClampNeg) rfl ?_
        refine z_if_lt S d_Model_begin_25 31 (by decide) 28 rfl (fun h4 => ?_) (fun h4 => ?_)
        · refine z_aload_n S d_Model_begin_31 rfl 0 rfl 32 rfl ?_
          refine z_get S hK hin_Model rm_0 rC_0 rfl 22 (Nat.le_of_ble_eq_true rfl) (ht _ w_562) (fun _ h => h) d_Model_begin_32 35 rfl (.ref (ad 22 0)) rfl ?_
          refine z_iload_n S d_Model_begin_35 rfl 1 rfl 36 rfl ?_
          refine z_dup2_11 S d_Model_begin_36 rfl rfl 37 rfl ?_
          refine z_iald S hK rm_22 0 rC_22 rfl (in_cliR h1) d_Model_begin_37 38 rfl (s 22 0 x.toNatClampNeg) rfl ?_
          refine z_iconst S d_Model_begin_38 1 (by decide) 39 rfl ?_
          refine z_iadd S d_Model_begin_39 40 rfl ?_
          refine z_iast S hJ hK rm_22 0 rC_22 rfl (in_cliR h1) rfl rupI_22 d_Model_begin_40 41 rfl ?_
          refine z_aload_n S d_Model_begin_41 rfl 0 rfl 42 rfl ?_
          refine z_get S hK hin_Model rm_0 rC_0 rfl 3 (Nat.le_of_ble_eq_true rfl) (ht _ w_543) (fun _ h => h) d_Model_begin_42 45 rfl (.ref (ad 3 0)) rfl ?_
          refine z_aload_n S d_Model_begin_45 rfl 0 rfl 46 rfl ?_
          refine z_get S hK hin_Model rm_0 rC_0 rfl 2 (Nat.le_of_ble_eq_true rfl) (ht _ w_542) (fun _ h => h) d_Model_begin_46 49 rfl (.int (s 0 2 0)) rfl ?_
          refine z_iload_n S d_Model_begin_49 rfl 1 rfl 50 rfl ?_
          refine z_iast S hJ hK rm_3 0 rC_3 rfl hbg rfl rupI_3 d_Model_begin_50 51 rfl ?_
          refine z_aload_n S d_Model_begin_51 rfl 0 rfl 52 rfl ?_
          refine z_get S hK hin_Model rm_0 rC_0 rfl 4 (Nat.le_of_ble_eq_true rfl) (ht _ w_544) (fun _ h => h) d_Model_begin_52 55 rfl (.ref (ad 4 0)) rfl ?_
          refine z_aload_n S d_Model_begin_55 rfl 0 rfl 56 rfl ?_
          refine z_get S hK hin_Model rm_0 rC_0 rfl 2 (Nat.le_of_ble_eq_true rfl) (ht _ w_542) (fun _ h => h) d_Model_begin_56 59 rfl (.int (s 0 2 0)) rfl ?_
          refine z_aload_n S d_Model_begin_59 rfl 0 rfl 60 rfl ?_
          refine z_get S hK hin_Model rm_0 rC_0 rfl 22 (Nat.le_of_ble_eq_true rfl) (ht _ w_562) (fun _ h => h) d_Model_begin_60 63 rfl (.ref (ad 22 0)) rfl ?_
          refine z_iload_n S d_Model_begin_63 rfl 1 rfl 64 rfl ?_
          refine z_iald S hK rm_22 0 rC_22 rfl (in_cliR h1) d_Model_begin_64 65 rfl ((s 22 0 x.toNatClampNeg) + 1) (by simp [u3, uA, upd]) ?_
          refine z_iast S hJ hK rm_4 0 rC_4 rfl hbg rfl rupI_4 d_Model_begin_65 66 rfl ?_
          refine z_aload_n S d_Model_begin_66 rfl 0 rfl 67 rfl ?_
          refine z_get S hK hin_Model rm_0 rC_0 rfl 5 (Nat.le_of_ble_eq_true rfl) (ht _ w_545) (fun _ h => h) d_Model_begin_67 70 rfl (.ref (ad 5 0)) rfl ?_
          refine z_aload_n S d_Model_begin_70 rfl 0 rfl 71 rfl ?_
          refine z_get S hK hin_Model rm_0 rC_0 rfl 2 (Nat.le_of_ble_eq_true rfl) (ht _ w_542) (fun _ h => h) d_Model_begin_71 74 rfl (.int (s 0 2 0)) rfl ?_
          refine z_iload_n S d_Model_begin_74 rfl 3 rfl 75 rfl ?_
          refine z_iast S hJ hK rm_5 0 rC_5 rfl hbg rfl rupI_5 d_Model_begin_75 76 rfl ?_
          refine z_aload_n S d_Model_begin_76 rfl 0 rfl 77 rfl ?_
          refine z_get S hK hin_Model rm_0 rC_0 rfl 6 (Nat.le_of_ble_eq_true rfl) (ht _ w_546) (fun _ h => h) d_Model_begin_77 80 rfl (.ref (ad 6 0)) rfl ?_
          refine z_aload_n S d_Model_begin_80 rfl 0 rfl 81 rfl ?_
          refine z_get S hK hin_Model rm_0 rC_0 rfl 2 (Nat.le_of_ble_eq_true rfl) (ht _ w_542) (fun _ h => h) d_Model_begin_81 84 rfl (.int (s 0 2 0)) rfl ?_
          refine z_iload S d_Model_begin_84 4 rfl 86 rfl ?_
          refine z_iast S hJ hK rm_6 0 rC_6 rfl hbg rfl rupI_6 d_Model_begin_86 87 rfl ?_
          refine z_aload_n S d_Model_begin_87 rfl 0 rfl 88 rfl ?_
          refine z_get S hK hin_Model rm_0 rC_0 rfl 7 (Nat.le_of_ble_eq_true rfl) (ht _ w_547) (fun _ h => h) d_Model_begin_88 91 rfl (.ref (ad 7 0)) rfl ?_
          refine z_aload_n S d_Model_begin_91 rfl 0 rfl 92 rfl ?_
          refine z_get S hK hin_Model rm_0 rC_0 rfl 2 (Nat.le_of_ble_eq_true rfl) (ht _ w_542) (fun _ h => h) d_Model_begin_92 95 rfl (.int (s 0 2 0)) rfl ?_
          refine z_iload_n S d_Model_begin_95 rfl 2 rfl 96 rfl ?_
          refine z_zast S hJ hK rm_7 1 rC_7 rfl hbg (zb_v hz) rupI_7 d_Model_begin_96 97 rfl ?_
          refine z_aload_n S d_Model_begin_97 rfl 0 rfl 98 rfl ?_
          refine z_get S hK hin_Model rm_0 rC_0 rfl 21 (Nat.le_of_ble_eq_true rfl) (ht _ w_561) (fun _ h => h) d_Model_begin_98 101 rfl (.ref (ad 21 0)) rfl ?_
          refine z_iload_n S d_Model_begin_101 rfl 1 rfl 102 rfl ?_
          refine z_aload_n S d_Model_begin_102 rfl 0 rfl 103 rfl ?_
          refine z_get S hK hin_Model rm_0 rC_0 rfl 2 (Nat.le_of_ble_eq_true rfl) (ht _ w_542) (fun _ h => h) d_Model_begin_103 106 rfl (.int (s 0 2 0)) rfl ?_
          refine z_iast S hJ hK rm_21 0 rC_21 rfl (in_cliR h1) rfl rupI_21 d_Model_begin_106 107 rfl ?_
          refine z_aload_n S d_Model_begin_107 rfl 0 rfl 108 rfl ?_
          refine z_dup S d_Model_begin_108 rfl 109 rfl ?_
          refine z_get S hK hin_Model rm_0 rC_0 rfl 2 (Nat.le_of_ble_eq_true rfl) (ht _ w_542) (fun _ h => h) d_Model_begin_109 112 rfl (.int (s 0 2 0)) rfl ?_
          refine z_iconst S d_Model_begin_112 1 (by decide) 113 rfl ?_
          refine z_iadd S d_Model_begin_113 114 rfl ?_
          refine z_put S hJ hK hin_Model t_Model ok_Model nm_Model rm_0 rC_0 rfl 2 (Nat.le_of_ble_eq_true rfl) (ht _ w_542) (fun _ h => h) rfl rfl rfl (Nat.le_of_ble_eq_true rfl) rup_2 d_Model_begin_114 117 rfl ?_
          refine z_aload_n S d_Model_begin_117 rfl 0 rfl 118 rfl ?_
          refine z_get S hK hin_Model rm_0 rC_0 rfl 22 (Nat.le_of_ble_eq_true rfl) (ht _ w_562) (fun _ h => h) d_Model_begin_118 121 rfl (.ref (ad 22 0)) rfl ?_
          refine z_iload_n S d_Model_begin_121 rfl 1 rfl 122 rfl ?_
          refine z_iald S hK rm_22 0 rC_22 rfl (in_cliR h1) d_Model_begin_122 123 rfl ((s 22 0 x.toNatClampNeg) + 1) (by simp [u3, uA, upd]) ?_
          exact z_iret S hr hlk d_Model_begin_123 (by unfold v_Model_begin; simp only [if_pos h1, if_neg h2, if_pos h3, if_pos h4] <;> rfl) (rC_eq (by unfold S_Model_begin; simp only [if_pos h1, if_neg h2, if_pos h3, if_pos h4] <;> rfl))
        · refine z_bipush S d_Model_begin_28 (-2) (by decide) 30 rfl ?_
          exact z_iret S hr hlk d_Model_begin_30 (by unfold v_Model_begin; simp only [if_pos h1, if_neg h2, if_pos h3, if_neg h4] <;> rfl) (rC_eq (by unfold S_Model_begin; simp only [if_pos h1, if_neg h2, if_pos h3, if_neg h4] <;> rfl))
      · refine z_iconst S d_Model_begin_17 (-1) (by decide) 18 rfl ?_
        exact z_iret S hr hlk d_Model_begin_18 (by unfold v_Model_begin; simp only [if_pos h1, if_neg h2, if_neg h3] <;> rfl) (rC_eq (by unfold S_Model_begin; simp only [if_pos h1, if_neg h2, if_neg h3] <;> rfl))
theorem d_Model_send_0 : decode prog_11_method_21_code 0 = .ok (.aload_n 0, 1) := by decide +kernel
theorem d_Model_send_1 : decode prog_11_method_21_code 1 = .ok (.iload_n 1, 1) := by decide +kernel
theorem d_Model_send_2 : decode prog_11_method_21_code 2 = .ok (.invokevirtual 147, 3) := by decide +kernel
theorem d_Model_send_5 : decode prog_11_method_21_code 5 = .ok (.ifCond .ne 20, 3) := by decide +kernel
theorem d_Model_send_8 : decode prog_11_method_21_code 8 = .ok (.aload_n 0, 1) := by decide +kernel
theorem d_Model_send_9 : decode prog_11_method_21_code 9 = .ok (.iload_n 2, 1) := by decide +kernel
theorem d_Model_send_10 : decode prog_11_method_21_code 10 = .ok (.invokevirtual 138, 3) := by decide +kernel
theorem d_Model_send_13 : decode prog_11_method_21_code 13 = .ok (.ifCond .ne 12, 3) := by decide +kernel
theorem d_Model_send_16 : decode prog_11_method_21_code 16 = .ok (.aload_n 0, 1) := by decide +kernel
theorem d_Model_send_17 : decode prog_11_method_21_code 17 = .ok (.getfield 63, 3) := by decide +kernel
theorem d_Model_send_20 : decode prog_11_method_21_code 20 = .ok (.iload_n 1, 1) := by decide +kernel
theorem d_Model_send_21 : decode prog_11_method_21_code 21 = .ok (.iaload, 1) := by decide +kernel
theorem d_Model_send_22 : decode prog_11_method_21_code 22 = .ok (.ifCond .ge 5, 3) := by decide +kernel
theorem d_Model_send_25 : decode prog_11_method_21_code 25 = .ok (.iconst 0, 1) := by decide +kernel
theorem d_Model_send_26 : decode prog_11_method_21_code 26 = .ok (.ireturn, 1) := by decide +kernel
theorem d_Model_send_27 : decode prog_11_method_21_code 27 = .ok (.aload_n 0, 1) := by decide +kernel
theorem d_Model_send_28 : decode prog_11_method_21_code 28 = .ok (.bipush 7, 2) := by decide +kernel
theorem d_Model_send_30 : decode prog_11_method_21_code 30 = .ok (.iload_n 2, 1) := by decide +kernel
theorem d_Model_send_31 : decode prog_11_method_21_code 31 = .ok (.invokevirtual 115, 3) := by decide +kernel
theorem d_Model_send_34 : decode prog_11_method_21_code 34 = .ok (.istore_n 3, 1) := by decide +kernel
theorem d_Model_send_35 : decode prog_11_method_21_code 35 = .ok (.aload_n 0, 1) := by decide +kernel
theorem d_Model_send_36 : decode prog_11_method_21_code 36 = .ok (.getfield 99, 3) := by decide +kernel
theorem d_Model_send_39 : decode prog_11_method_21_code 39 = .ok (.iload_n 3, 1) := by decide +kernel
theorem d_Model_send_40 : decode prog_11_method_21_code 40 = .ok (.aload_n 0, 1) := by decide +kernel
theorem d_Model_send_41 : decode prog_11_method_21_code 41 = .ok (.getfield 63, 3) := by decide +kernel
theorem d_Model_send_44 : decode prog_11_method_21_code 44 = .ok (.iload_n 1, 1) := by decide +kernel
theorem d_Model_send_45 : decode prog_11_method_21_code 45 = .ok (.iaload, 1) := by decide +kernel
theorem d_Model_send_46 : decode prog_11_method_21_code 46 = .ok (.iastore, 1) := by decide +kernel
theorem d_Model_send_47 : decode prog_11_method_21_code 47 = .ok (.iconst 1, 1) := by decide +kernel
theorem d_Model_send_48 : decode prog_11_method_21_code 48 = .ok (.ireturn, 1) := by decide +kernel
def S_Model_send (s : S3) (x : Int32) (y : Int32) : S3 := if (v_Model_noClient x) = 0 then (if (v_Model_noServer (s 0 0 0) y) = 0 then (if 0 ≤ (s 21 0 x.toNatClampNeg) then (u3 (S_Model_post s 7 y) 34 0 ((ppF (s 0 25 0) (s 27 0)).toNatClampNeg) (s 21 0 x.toNatClampNeg)) else s) else s) else s
def v_Model_send (s : S3) (x : Int32) (y : Int32) : Int32 := if (v_Model_noClient x) = 0 then (if (v_Model_noServer (s 0 0 0) y) = 0 then (if 0 ≤ (s 21 0 x.toNatClampNeg) then 1 else 0) else 0) else 0
theorem zbv_Model_send {s : S3} {x : Int32} {y : Int32} : zb (v_Model_send s x y) := by
  unfold v_Model_send
  repeat' split
  all_goals first | with_reducible exact zb_0 | with_reducible exact zb_1 | with_reducible exact zbv_Model_noServer | with_reducible exact zbv_Model_noClient | with_reducible exact zbv_Model_leads | with_reducible exact zbv_Model_fresh | with_reducible exact zbv_Model_skew | with_reducible exact zbv_Model_crash | with_reducible exact zbv_Model_ping | with_reducible exact zbv_Model_push
set_option maxHeartbeats 4000000 in
set_option maxRecDepth 100000 in
theorem c_Model_send {l : Launch} {D : va_G} {K : Nat → ClassId} {ad : Nat → Nat → Nat} {s : S3} {x y : Int32} (hJ : zw_J (rRL) ad) (hN : vp_in (s 0 0 0) 6) (hW : vp_in (s 0 25 0) 33) (hB : fB s) : zM l y_Model_send ws_Model_send ({ frames := 1, cells := 0, slots := 0, locals := 23 }) D zCl (zTys K) (rRL) ad [.ref (ad 0 0), .int x, .int y] (rC K ad s) (some (.int (v_Model_send s x y))) (rC K ad (S_Model_send s x y)) := by
  refine zM.of (cc := prog_11_method_21_code) (maxL := 4) (ret := (Option.some Jvm.ClassFile.FieldType.boolean)) (by decide) rfl (Nat.le_of_ble_eq_true rfl) ?_
  intro pP eE U mM bL mT cO S hr hlk hK
  have hts := S.2.2.2.2
  have ht := fun w h => hts w (List.mem_cons_of_mem _ h)
  refine z_aload_n S d_Model_send_0 rfl 0 rfl 1 rfl ?_
  refine z_iload_n S d_Model_send_1 rfl 1 rfl 2 rfl ?_
  refine z_callV S hK (As := [.int x]) (rest := []) (c_Model_noClient (x := x) hJ) (cw_Model_noClient hts w_702 rfl rfl ⟨(Nat.le_of_ble_eq_true rfl), (Nat.le_of_ble_eq_true rfl)⟩) rm_0 rC_0 rfl rfl rfl (Nat.le_of_ble_eq_true rfl) d_Model_send_2 5 rfl [.int (v_Model_noClient x)] rfl ?_
  refine z_if_ne S d_Model_send_5 25 (by decide) 8 rfl (fun h1 => ?_) (fun h1 => ?_)
  · refine z_iconst S d_Model_send_25 0 (by decide) 26 rfl ?_
    exact z_zret S hr (zb_n zb_0) hlk d_Model_send_26 (by unfold v_Model_send; simp only [if_neg h1] <;> rfl) (rC_eq (by unfold S_Model_send; simp only [if_neg h1] <;> rfl))
  · refine z_aload_n S d_Model_send_8 rfl 0 rfl 9 rfl ?_
    refine z_iload_n S d_Model_send_9 rfl 2 rfl 10 rfl ?_
    refine z_callV S hK (As := [.int y]) (rest := []) (c_Model_noServer (x := y) hJ) (cw_Model_noServer hts w_670 rfl rfl ⟨(Nat.le_of_ble_eq_true rfl), (Nat.le_of_ble_eq_true rfl)⟩) rm_0 rC_0 rfl rfl rfl (Nat.le_of_ble_eq_true rfl) d_Model_send_10 13 rfl [.int (v_Model_noServer (s 0 0 0) y)] rfl ?_
    refine z_if_ne S d_Model_send_13 25 (by decide) 16 rfl (fun h2 => ?_) (fun h2 => ?_)
    · refine z_iconst S d_Model_send_25 0 (by decide) 26 rfl ?_
      exact z_zret S hr (zb_n zb_0) hlk d_Model_send_26 (by unfold v_Model_send; simp only [if_pos h1, if_neg h2] <;> rfl) (rC_eq (by unfold S_Model_send; simp only [if_pos h1, if_neg h2] <;> rfl))
    · refine z_aload_n S d_Model_send_16 rfl 0 rfl 17 rfl ?_
      refine z_get S hK hin_Model rm_0 rC_0 rfl 21 (Nat.le_of_ble_eq_true rfl) (ht _ w_561) (fun _ h => h) d_Model_send_17 20 rfl (.ref (ad 21 0)) rfl ?_
      refine z_iload_n S d_Model_send_20 rfl 1 rfl 21 rfl ?_
      refine z_iald S hK rm_21 0 rC_21 rfl (in_cliR h1) d_Model_send_21 22 rfl (s 21 0 x.toNatClampNeg) rfl ?_
      refine z_if_ge S d_Model_send_22 27 (by decide) 25 rfl (fun h3 => ?_) (fun h3 => ?_)
      · refine z_aload_n S d_Model_send_27 rfl 0 rfl 28 rfl ?_
        refine z_bipush S d_Model_send_28 7 (by decide) 30 rfl ?_
        refine z_iload_n S d_Model_send_30 rfl 2 rfl 31 rfl ?_
        refine z_callV S hK (As := [.int 7, .int y]) (rest := []) (c_Model_post (k := 7) (a := y) hJ hW hB) (cw_Model_post hts w_678 rfl rfl ⟨(Nat.le_of_ble_eq_true rfl), (Nat.le_of_ble_eq_true rfl)⟩) rm_0 rC_0 rfl rfl rfl (Nat.le_of_ble_eq_true rfl) d_Model_send_31 34 rfl [.int (ppF (s 0 25 0) (s 27 0))] rfl ?_
        refine z_istore_n S d_Model_send_34 rfl (Nat.le_of_ble_eq_true rfl) [(3, .int (ppF (s 0 25 0) (s 27 0))), (0, .ref (ad 0 0)), (1, .int x), (2, .int y)] rfl 35 rfl ?_
        refine z_aload_n S d_Model_send_35 rfl 1 rfl 36 rfl ?_
        refine z_get S hK hin_Model rm_0 rC_0 rfl 34 (Nat.le_of_ble_eq_true rfl) (ht _ w_574) (fun _ h => h) d_Model_send_36 39 rfl (.ref (ad 34 0)) rfl ?_
        refine z_iload_n S d_Model_send_39 rfl 0 rfl 40 rfl ?_
        refine z_aload_n S d_Model_send_40 rfl 1 rfl 41 rfl ?_
        refine z_get S hK hin_Model rm_0 rC_0 rfl 21 (Nat.le_of_ble_eq_true rfl) (ht _ w_561) (fun _ h => h) d_Model_send_41 44 rfl (.ref (ad 21 0)) rfl ?_
        refine z_iload_n S d_Model_send_44 rfl 2 rfl 45 rfl ?_
        refine z_iald S hK rm_21 0 rC_21 rfl (in_cliR h1) d_Model_send_45 46 rfl (s 21 0 x.toNatClampNeg) rfl ?_
        refine z_iast S hJ hK rm_34 0 rC_34 rfl (pp_in hB) rfl rupI_34 d_Model_send_46 47 rfl ?_
        refine z_iconst S d_Model_send_47 1 (by decide) 48 rfl ?_
        exact z_zret S hr (zb_n zb_1) hlk d_Model_send_48 (by unfold v_Model_send; simp only [if_pos h1, if_pos h2, if_pos h3] <;> rfl) (rC_eq (by unfold S_Model_send; simp only [if_pos h1, if_pos h2, if_pos h3] <;> rfl))
      · refine z_iconst S d_Model_send_25 0 (by decide) 26 rfl ?_
        exact z_zret S hr (zb_n zb_0) hlk d_Model_send_26 (by unfold v_Model_send; simp only [if_pos h1, if_pos h2, if_neg h3] <;> rfl) (rC_eq (by unfold S_Model_send; simp only [if_pos h1, if_pos h2, if_neg h3] <;> rfl))
theorem d_Model_lose_0 : decode prog_11_method_22_code 0 = .ok (.iload_n 1, 1) := by decide +kernel
theorem d_Model_lose_1 : decode prog_11_method_22_code 1 = .ok (.ifCond .lt 11, 3) := by decide +kernel
theorem d_Model_lose_4 : decode prog_11_method_22_code 4 = .ok (.iload_n 1, 1) := by decide +kernel
theorem d_Model_lose_5 : decode prog_11_method_22_code 5 = .ok (.aload_n 0, 1) := by decide +kernel
theorem d_Model_lose_6 : decode prog_11_method_22_code 6 = .ok (.getfield 112, 3) := by decide +kernel
theorem d_Model_lose_9 : decode prog_11_method_22_code 9 = .ok (.if_icmp .lt 5, 3) := by decide +kernel
theorem d_Model_lose_12 : decode prog_11_method_22_code 12 = .ok (.iconst 0, 1) := by decide +kernel
theorem d_Model_lose_13 : decode prog_11_method_22_code 13 = .ok (.ireturn, 1) := by decide +kernel
theorem d_Model_lose_14 : decode prog_11_method_22_code 14 = .ok (.aload_n 0, 1) := by decide +kernel
theorem d_Model_lose_15 : decode prog_11_method_22_code 15 = .ok (.iload_n 1, 1) := by decide +kernel
theorem d_Model_lose_16 : decode prog_11_method_22_code 16 = .ok (.invokevirtual 153, 3) := by decide +kernel
theorem d_Model_lose_19 : decode prog_11_method_22_code 19 = .ok (.istore_n 2, 1) := by decide +kernel
theorem d_Model_lose_20 : decode prog_11_method_22_code 20 = .ok (.aload_n 0, 1) := by decide +kernel
theorem d_Model_lose_21 : decode prog_11_method_22_code 21 = .ok (.getfield 78, 3) := by decide +kernel
theorem d_Model_lose_24 : decode prog_11_method_22_code 24 = .ok (.iload_n 2, 1) := by decide +kernel
theorem d_Model_lose_25 : decode prog_11_method_22_code 25 = .ok (.iconst 0, 1) := by decide +kernel
theorem d_Model_lose_26 : decode prog_11_method_22_code 26 = .ok (.bastore, 1) := by decide +kernel
theorem d_Model_lose_27 : decode prog_11_method_22_code 27 = .ok (.iconst 1, 1) := by decide +kernel
theorem d_Model_lose_28 : decode prog_11_method_22_code 28 = .ok (.ireturn, 1) := by decide +kernel
def S_Model_lose (s : S3) (x : Int32) : S3 := if x < 0 then s else if x < (s 0 25 0) then (u3 (uA (u3 s 0 25 0 ((s 0 25 0) - 1)) 26 0 (rowR ((s 0 25 0).toNatClampNeg - 1 - x.toNatClampNeg) x.toNatClampNeg (s 26 0))) 27 0 ((s 26 0 x.toNatClampNeg).toNatClampNeg) 0) else s
def v_Model_lose (s : S3) (x : Int32) : Int32 := if x < 0 then 0 else if x < (s 0 25 0) then 1 else 0
theorem zbv_Model_lose {s : S3} {x : Int32} : zb (v_Model_lose s x) := by
  unfold v_Model_lose
  repeat' split
  all_goals first | with_reducible exact zb_0 | with_reducible exact zb_1 | with_reducible exact zbv_Model_noServer | with_reducible exact zbv_Model_noClient | with_reducible exact zbv_Model_leads | with_reducible exact zbv_Model_fresh | with_reducible exact zbv_Model_skew | with_reducible exact zbv_Model_crash | with_reducible exact zbv_Model_ping | with_reducible exact zbv_Model_push | with_reducible exact zbv_Model_send
set_option maxHeartbeats 4000000 in
set_option maxRecDepth 100000 in
theorem c_Model_lose {l : Launch} {D : va_G} {K : Nat → ClassId} {ad : Nat → Nat → Nat} {s : S3} {x : Int32} (hJ : zw_J (rRL) ad) (hW : vp_in (s 0 25 0) 33) (hor : ∀ j, vp_in (s 26 0 j) 34) : zM l y_Model_lose ws_Model_lose ({ frames := 1, cells := 0, slots := 0, locals := 23 }) D zCl (zTys K) (rRL) ad [.ref (ad 0 0), .int x] (rC K ad s) (some (.int (v_Model_lose s x))) (rC K ad (S_Model_lose s x)) := by
  refine zM.of (cc := prog_11_method_22_code) (maxL := 3) (ret := (Option.some Jvm.ClassFile.FieldType.boolean)) (by decide) rfl (Nat.le_of_ble_eq_true rfl) ?_
  intro pP eE U mM bL mT cO S hr hlk hK
  have hts := S.2.2.2.2
  have ht := fun w h => hts w (List.mem_cons_of_mem _ h)
  refine z_iload_n S d_Model_lose_0 rfl 1 rfl 1 rfl ?_
  refine z_if_lt S d_Model_lose_1 12 (by decide) 4 rfl (fun h1 => ?_) (fun h1 => ?_)
  · refine z_iconst S d_Model_lose_12 0 (by decide) 13 rfl ?_
    exact z_zret S hr (zb_n zb_0) hlk d_Model_lose_13 (by unfold v_Model_lose; simp only [if_pos h1] <;> rfl) (rC_eq (by unfold S_Model_lose; simp only [if_pos h1] <;> rfl))
  · refine z_iload_n S d_Model_lose_4 rfl 1 rfl 5 rfl ?_
    refine z_aload_n S d_Model_lose_5 rfl 0 rfl 6 rfl ?_
    refine z_get S hK hin_Model rm_0 rC_0 rfl 25 (Nat.le_of_ble_eq_true rfl) (ht _ w_565) (fun _ h => h) d_Model_lose_6 9 rfl (.int (s 0 25 0)) rfl ?_
    refine z_icmp_lt S d_Model_lose_9 14 (by decide) 12 rfl (fun h2 => ?_) (fun h2 => ?_)
    · refine z_aload_n S d_Model_lose_14 rfl 0 rfl 15 rfl ?_
      refine z_iload_n S d_Model_lose_15 rfl 1 rfl 16 rfl ?_
      refine z_callV S hK (As := [.int x]) (rest := []) (c_Model_take (x := x) hJ hW (has_in hW h1 h2)) (cw_Model_take hts w_714 rfl rfl ⟨(Nat.le_of_ble_eq_true rfl), (Nat.le_of_ble_eq_true rfl)⟩) rm_0 rC_0 rfl rfl rfl (Nat.le_of_ble_eq_true rfl) d_Model_lose_16 19 rfl [.int (s 26 0 x.toNatClampNeg)] rfl ?_
      refine z_istore_n S d_Model_lose_19 rfl (Nat.le_of_ble_eq_true rfl) [(2, .int (s 26 0 x.toNatClampNeg)), (0, .ref (ad 0 0)), (1, .int x)] rfl 20 rfl ?_
      refine z_aload_n S d_Model_lose_20 rfl 1 rfl 21 rfl ?_
      refine z_get S hK hin_Model rm_0 rC_0 rfl 27 (Nat.le_of_ble_eq_true rfl) (ht _ w_567) (fun _ h => h) d_Model_lose_21 24 rfl (.ref (ad 27 0)) rfl ?_
      refine z_iload_n S d_Model_lose_24 rfl 0 rfl 25 rfl ?_
      refine z_iconst S d_Model_lose_25 0 (by decide) 26 rfl ?_
      refine z_zast S hJ hK rm_27 1 rC_27 rfl (hor _) (zb_v zb_0) rupI_27 d_Model_lose_26 27 rfl ?_
      refine z_iconst S d_Model_lose_27 1 (by decide) 28 rfl ?_
      exact z_zret S hr (zb_n zb_1) hlk d_Model_lose_28 (by unfold v_Model_lose; simp only [if_neg h1, if_pos h2] <;> rfl) (rC_eq (by unfold S_Model_lose; simp only [if_neg h1, if_pos h2] <;> rfl))
    · refine z_iconst S d_Model_lose_12 0 (by decide) 13 rfl ?_
      exact z_zret S hr (zb_n zb_0) hlk d_Model_lose_13 (by unfold v_Model_lose; simp only [if_neg h1, if_neg h2] <;> rfl) (rC_eq (by unfold S_Model_lose; simp only [if_neg h1, if_neg h2] <;> rfl))
theorem d_Model_letter_0 : decode prog_11_method_34_code 0 = .ok (.iload_n 1, 1) := by decide +kernel
theorem d_Model_letter_1 : decode prog_11_method_34_code 1 = .ok (.ifCond .lt 11, 3) := by decide +kernel
theorem d_Model_letter_4 : decode prog_11_method_34_code 4 = .ok (.iload_n 1, 1) := by decide +kernel
theorem d_Model_letter_5 : decode prog_11_method_34_code 5 = .ok (.aload_n 0, 1) := by decide +kernel
theorem d_Model_letter_6 : decode prog_11_method_34_code 6 = .ok (.getfield 112, 3) := by decide +kernel
theorem d_Model_letter_9 : decode prog_11_method_34_code 9 = .ok (.if_icmp .lt 7, 3) := by decide +kernel
theorem d_Model_letter_12 : decode prog_11_method_34_code 12 = .ok (.iconst (-1), 1) := by decide +kernel
theorem d_Model_letter_13 : decode prog_11_method_34_code 13 = .ok (.goto 29, 3) := by decide +kernel
theorem d_Model_letter_16 : decode prog_11_method_34_code 16 = .ok (.aload_n 0, 1) := by decide +kernel
theorem d_Model_letter_17 : decode prog_11_method_34_code 17 = .ok (.getfield 81, 3) := by decide +kernel
theorem d_Model_letter_20 : decode prog_11_method_34_code 20 = .ok (.aload_n 0, 1) := by decide +kernel
theorem d_Model_letter_21 : decode prog_11_method_34_code 21 = .ok (.getfield 75, 3) := by decide +kernel
theorem d_Model_letter_24 : decode prog_11_method_34_code 24 = .ok (.iload_n 1, 1) := by decide +kernel
theorem d_Model_letter_25 : decode prog_11_method_34_code 25 = .ok (.iaload, 1) := by decide +kernel
theorem d_Model_letter_26 : decode prog_11_method_34_code 26 = .ok (.iaload, 1) := by decide +kernel
theorem d_Model_letter_27 : decode prog_11_method_34_code 27 = .ok (.bipush 16, 2) := by decide +kernel
theorem d_Model_letter_29 : decode prog_11_method_34_code 29 = .ok (.aload_n 0, 1) := by decide +kernel
theorem d_Model_letter_30 : decode prog_11_method_34_code 30 = .ok (.getfield 84, 3) := by decide +kernel
theorem d_Model_letter_33 : decode prog_11_method_34_code 33 = .ok (.aload_n 0, 1) := by decide +kernel
theorem d_Model_letter_34 : decode prog_11_method_34_code 34 = .ok (.getfield 75, 3) := by decide +kernel
theorem d_Model_letter_37 : decode prog_11_method_34_code 37 = .ok (.iload_n 1, 1) := by decide +kernel
theorem d_Model_letter_38 : decode prog_11_method_34_code 38 = .ok (.iaload, 1) := by decide +kernel
theorem d_Model_letter_39 : decode prog_11_method_34_code 39 = .ok (.iaload, 1) := by decide +kernel
theorem d_Model_letter_40 : decode prog_11_method_34_code 40 = .ok (.imul, 1) := by decide +kernel
theorem d_Model_letter_41 : decode prog_11_method_34_code 41 = .ok (.iadd, 1) := by decide +kernel
theorem d_Model_letter_42 : decode prog_11_method_34_code 42 = .ok (.ireturn, 1) := by decide +kernel
def v_Model_letter (s : S3) (x : Int32) : Int32 := if x < 0 then (-1) else if x < (s 0 25 0) then ((s 28 0 ((s 26 0 x.toNatClampNeg).toNatClampNeg)) + (16 * (s 29 0 ((s 26 0 x.toNatClampNeg).toNatClampNeg)))) else (-1)
set_option maxHeartbeats 4000000 in
set_option maxRecDepth 100000 in
theorem c_Model_letter {l : Launch} {D : va_G} {K : Nat → ClassId} {ad : Nat → Nat → Nat} {s : S3} {x : Int32} (hJ : zw_J (rRL) ad) (hW : vp_in (s 0 25 0) 33) (hor : ∀ j, vp_in (s 26 0 j) 34) : zM l y_Model_letter ws_Model_letter ({ frames := 0, cells := 0, slots := 0, locals := 0 }) D zCl (zTys K) (rRL) ad [.ref (ad 0 0), .int x] (rC K ad s) (some (.int (v_Model_letter s x))) (rC K ad s) := by
  refine zM.of (cc := prog_11_method_34_code) (maxL := 2) (ret := (Option.some Jvm.ClassFile.FieldType.int)) (by decide) rfl (Nat.le_of_ble_eq_true rfl) ?_
  intro pP eE U mM bL mT cO S hr hlk hK
  have hts := S.2.2.2.2
  have ht := fun w h => hts w (List.mem_cons_of_mem _ h)
  refine z_iload_n S d_Model_letter_0 rfl 1 rfl 1 rfl ?_
  refine z_if_lt S d_Model_letter_1 12 (by decide) 4 rfl (fun h1 => ?_) (fun h1 => ?_)
  · refine z_iconst S d_Model_letter_12 (-1) (by decide) 13 rfl ?_
    refine z_goto S d_Model_letter_13 42 (by decide) ?_
    exact z_iret S hr hlk d_Model_letter_42 (by unfold v_Model_letter; simp only [if_pos h1] <;> rfl) rfl
  · refine z_iload_n S d_Model_letter_4 rfl 1 rfl 5 rfl ?_
    refine z_aload_n S d_Model_letter_5 rfl 0 rfl 6 rfl ?_
    refine z_get S hK hin_Model rm_0 rC_0 rfl 25 (Nat.le_of_ble_eq_true rfl) (ht _ w_565) (fun _ h => h) d_Model_letter_6 9 rfl (.int (s 0 25 0)) rfl ?_
    refine z_icmp_lt S d_Model_letter_9 16 (by decide) 12 rfl (fun h2 => ?_) (fun h2 => ?_)
    · refine z_aload_n S d_Model_letter_16 rfl 0 rfl 17 rfl ?_
      refine z_get S hK hin_Model rm_0 rC_0 rfl 28 (Nat.le_of_ble_eq_true rfl) (ht _ w_568) (fun _ h => h) d_Model_letter_17 20 rfl (.ref (ad 28 0)) rfl ?_
      refine z_aload_n S d_Model_letter_20 rfl 0 rfl 21 rfl ?_
      refine z_get S hK hin_Model rm_0 rC_0 rfl 26 (Nat.le_of_ble_eq_true rfl) (ht _ w_566) (fun _ h => h) d_Model_letter_21 24 rfl (.ref (ad 26 0)) rfl ?_
      refine z_iload_n S d_Model_letter_24 rfl 1 rfl 25 rfl ?_
      refine z_iald S hK rm_26 0 rC_26 rfl (vp_mono (has_in hW h1 h2) (by have := vp_lt hW; omega)) d_Model_letter_25 26 rfl (s 26 0 x.toNatClampNeg) rfl ?_
      refine z_iald S hK rm_28 0 rC_28 rfl (hor _) d_Model_letter_26 27 rfl (s 28 0 ((s 26 0 x.toNatClampNeg).toNatClampNeg)) rfl ?_
      refine z_bipush S d_Model_letter_27 16 (by decide) 29 rfl ?_
      refine z_aload_n S d_Model_letter_29 rfl 0 rfl 30 rfl ?_
      refine z_get S hK hin_Model rm_0 rC_0 rfl 29 (Nat.le_of_ble_eq_true rfl) (ht _ w_569) (fun _ h => h) d_Model_letter_30 33 rfl (.ref (ad 29 0)) rfl ?_
      refine z_aload_n S d_Model_letter_33 rfl 0 rfl 34 rfl ?_
      refine z_get S hK hin_Model rm_0 rC_0 rfl 26 (Nat.le_of_ble_eq_true rfl) (ht _ w_566) (fun _ h => h) d_Model_letter_34 37 rfl (.ref (ad 26 0)) rfl ?_
      refine z_iload_n S d_Model_letter_37 rfl 1 rfl 38 rfl ?_
      refine z_iald S hK rm_26 0 rC_26 rfl (vp_mono (has_in hW h1 h2) (by have := vp_lt hW; omega)) d_Model_letter_38 39 rfl (s 26 0 x.toNatClampNeg) rfl ?_
      refine z_iald S hK rm_29 0 rC_29 rfl (hor _) d_Model_letter_39 40 rfl (s 29 0 ((s 26 0 x.toNatClampNeg).toNatClampNeg)) rfl ?_
      refine z_imul S d_Model_letter_40 41 rfl ?_
      refine z_iadd S d_Model_letter_41 42 rfl ?_
      exact z_iret S hr hlk d_Model_letter_42 (by unfold v_Model_letter; simp only [if_neg h1, if_pos h2] <;> rfl) rfl
    · refine z_iconst S d_Model_letter_12 (-1) (by decide) 13 rfl ?_
      refine z_goto S d_Model_letter_13 42 (by decide) ?_
      exact z_iret S hr hlk d_Model_letter_42 (by unfold v_Model_letter; simp only [if_neg h1, if_neg h2] <;> rfl) rfl
theorem d_Model_view_0 : decode prog_11_method_35_code 0 = .ok (.iload_n 1, 1) := by decide +kernel
theorem d_Model_view_1 : decode prog_11_method_35_code 1 = .ok (.iconst (-1), 1) := by decide +kernel
theorem d_Model_view_2 : decode prog_11_method_35_code 2 = .ok (.if_icmp .eq 13, 3) := by decide +kernel
theorem d_Model_view_5 : decode prog_11_method_35_code 5 = .ok (.aload_n 0, 1) := by decide +kernel
theorem d_Model_view_6 : decode prog_11_method_35_code 6 = .ok (.iload_n 1, 1) := by decide +kernel
theorem d_Model_view_7 : decode prog_11_method_35_code 7 = .ok (.invokevirtual 138, 3) := by decide +kernel
theorem d_Model_view_10 : decode prog_11_method_35_code 10 = .ok (.ifCond .eq 5, 3) := by decide +kernel
theorem d_Model_view_13 : decode prog_11_method_35_code 13 = .ok (.iconst (-1), 1) := by decide +kernel
theorem d_Model_view_14 : decode prog_11_method_35_code 14 = .ok (.ireturn, 1) := by decide +kernel
theorem d_Model_view_15 : decode prog_11_method_35_code 15 = .ok (.iload_n 1, 1) := by decide +kernel
theorem d_Model_view_16 : decode prog_11_method_35_code 16 = .ok (.iconst (-1), 1) := by decide +kernel
theorem d_Model_view_17 : decode prog_11_method_35_code 17 = .ok (.if_icmp .ne 7, 3) := by decide +kernel
theorem d_Model_view_20 : decode prog_11_method_35_code 20 = .ok (.iconst 5, 1) := by decide +kernel
theorem d_Model_view_21 : decode prog_11_method_35_code 21 = .ok (.goto 4, 3) := by decide +kernel
theorem d_Model_view_24 : decode prog_11_method_35_code 24 = .ok (.iload_n 1, 1) := by decide +kernel
theorem d_Model_view_25 : decode prog_11_method_35_code 25 = .ok (.istore_n 2, 1) := by decide +kernel
theorem d_Model_view_26 : decode prog_11_method_35_code 26 = .ok (.aload_n 0, 1) := by decide +kernel
theorem d_Model_view_27 : decode prog_11_method_35_code 27 = .ok (.getfield 26, 3) := by decide +kernel
theorem d_Model_view_30 : decode prog_11_method_35_code 30 = .ok (.iload_n 2, 1) := by decide +kernel
theorem d_Model_view_31 : decode prog_11_method_35_code 31 = .ok (.iaload, 1) := by decide +kernel
theorem d_Model_view_32 : decode prog_11_method_35_code 32 = .ok (.ifCond .ne 7, 3) := by decide +kernel
theorem d_Model_view_35 : decode prog_11_method_35_code 35 = .ok (.iconst 0, 1) := by decide +kernel
theorem d_Model_view_36 : decode prog_11_method_35_code 36 = .ok (.goto 43, 3) := by decide +kernel
theorem d_Model_view_39 : decode prog_11_method_35_code 39 = .ok (.bipush 64, 2) := by decide +kernel
theorem d_Model_view_41 : decode prog_11_method_35_code 41 = .ok (.aload_n 0, 1) := by decide +kernel
theorem d_Model_view_42 : decode prog_11_method_35_code 42 = .ok (.getfield 26, 3) := by decide +kernel
theorem d_Model_view_45 : decode prog_11_method_35_code 45 = .ok (.iload_n 2, 1) := by decide +kernel
theorem d_Model_view_46 : decode prog_11_method_35_code 46 = .ok (.iaload, 1) := by decide +kernel
theorem d_Model_view_47 : decode prog_11_method_35_code 47 = .ok (.imul, 1) := by decide +kernel
theorem d_Model_view_48 : decode prog_11_method_35_code 48 = .ok (.bipush 8, 2) := by decide +kernel
theorem d_Model_view_50 : decode prog_11_method_35_code 50 = .ok (.aload_n 0, 1) := by decide +kernel
theorem d_Model_view_51 : decode prog_11_method_35_code 51 = .ok (.getfield 29, 3) := by decide +kernel
theorem d_Model_view_54 : decode prog_11_method_35_code 54 = .ok (.iload_n 2, 1) := by decide +kernel
theorem d_Model_view_55 : decode prog_11_method_35_code 55 = .ok (.iaload, 1) := by decide +kernel
theorem d_Model_view_56 : decode prog_11_method_35_code 56 = .ok (.imul, 1) := by decide +kernel
theorem d_Model_view_57 : decode prog_11_method_35_code 57 = .ok (.iadd, 1) := by decide +kernel
theorem d_Model_view_58 : decode prog_11_method_35_code 58 = .ok (.aload_n 0, 1) := by decide +kernel
theorem d_Model_view_59 : decode prog_11_method_35_code 59 = .ok (.getfield 32, 3) := by decide +kernel
theorem d_Model_view_62 : decode prog_11_method_35_code 62 = .ok (.iload_n 2, 1) := by decide +kernel
theorem d_Model_view_63 : decode prog_11_method_35_code 63 = .ok (.iaload, 1) := by decide +kernel
theorem d_Model_view_64 : decode prog_11_method_35_code 64 = .ok (.ifCond .ge 8, 3) := by decide +kernel
theorem d_Model_view_67 : decode prog_11_method_35_code 67 = .ok (.bipush 7, 2) := by decide +kernel
theorem d_Model_view_69 : decode prog_11_method_35_code 69 = .ok (.goto 9, 3) := by decide +kernel
theorem d_Model_view_72 : decode prog_11_method_35_code 72 = .ok (.aload_n 0, 1) := by decide +kernel
theorem d_Model_view_73 : decode prog_11_method_35_code 73 = .ok (.getfield 32, 3) := by decide +kernel
theorem d_Model_view_76 : decode prog_11_method_35_code 76 = .ok (.iload_n 2, 1) := by decide +kernel
theorem d_Model_view_77 : decode prog_11_method_35_code 77 = .ok (.iaload, 1) := by decide +kernel
theorem d_Model_view_78 : decode prog_11_method_35_code 78 = .ok (.iadd, 1) := by decide +kernel
theorem d_Model_view_79 : decode prog_11_method_35_code 79 = .ok (.ireturn, 1) := by decide +kernel
def v_Model_view (x0 : Int32) (x1 : Int32) (x2 : Int32) (x3 : Int32) (x4 : Int32) (x5 : Int32) (x6 : Int32) (x : Int32) : Int32 := if x = (-1) then (if (x0) = 0 then 0 else if 0 ≤ (x1) then (((64 * (x0)) + (8 * (x2))) + (x1)) else ((64 * (x0)) + (8 * (x2))) + 7) else if (v_Model_noServer (x3) x) = 0 then (if (x4) = 0 then 0 else if 0 ≤ (x5) then (((64 * (x4)) + (8 * (x6))) + (x5)) else ((64 * (x4)) + (8 * (x6))) + 7) else (-1)
set_option maxHeartbeats 4000000 in
set_option maxRecDepth 100000 in
theorem c_Model_view {l : Launch} {D : va_G} {K : Nat → ClassId} {ad : Nat → Nat → Nat} {s : S3} {x : Int32} (hJ : zw_J (rRL) ad) (hN : vp_in (s 0 0 0) 6) : zM l y_Model_view ws_Model_view ({ frames := 1, cells := 0, slots := 0, locals := 21 }) D zCl (zTys K) (rRL) ad [.ref (ad 0 0), .int x] (rC K ad s) (some (.int (v_Model_view (s 8 0 5) (s 10 0 5) (s 9 0 5) (s 0 0 0) (s 8 0 x.toNatClampNeg) (s 10 0 x.toNatClampNeg) (s 9 0 x.toNatClampNeg) x))) (rC K ad s) := by
  refine zM.of (cc := prog_11_method_35_code) (maxL := 3) (ret := (Option.some Jvm.ClassFile.FieldType.int)) (by decide) rfl (Nat.le_of_ble_eq_true rfl) ?_
  intro pP eE U mM bL mT cO S hr hlk hK
  have hts := S.2.2.2.2
  have ht := fun w h => hts w (List.mem_cons_of_mem _ h)
  refine z_iload_n S d_Model_view_0 rfl 1 rfl 1 rfl ?_
  refine z_iconst S d_Model_view_1 (-1) (by decide) 2 rfl ?_
  refine z_icmp_eq S d_Model_view_2 15 (by decide) 5 rfl (fun h1 => ?_) (fun h1 => ?_)
  · refine z_iload_n S d_Model_view_15 rfl 1 rfl 16 rfl ?_
    refine z_iconst S d_Model_view_16 (-1) (by decide) 17 rfl ?_
    refine z_icmp_ne S d_Model_view_17 24 (by decide) 20 rfl (fun h2 => ?_) (fun h2 => ?_)
    · exact absurd h1 h2
    · refine z_iconst S d_Model_view_20 5 (by decide) 21 rfl ?_
      refine z_goto S d_Model_view_21 25 (by decide) ?_
      refine z_istore_n S d_Model_view_25 rfl (Nat.le_of_ble_eq_true rfl) [(2, .int 5), (0, .ref (ad 0 0)), (1, .int x)] rfl 26 rfl ?_
      refine z_aload_n S d_Model_view_26 rfl 1 rfl 27 rfl ?_
      refine z_get S hK hin_Model rm_0 rC_0 rfl 8 (Nat.le_of_ble_eq_true rfl) (ht _ w_548) (fun _ h => h) d_Model_view_27 30 rfl (.ref (ad 8 0)) rfl ?_
      refine z_iload_n S d_Model_view_30 rfl 0 rfl 31 rfl ?_
      refine z_iald S hK rm_8 0 rC_8 rfl (vp_c (c := 5) (N := 6) (by omega) (by omega)) d_Model_view_31 32 rfl (s 8 0 5) rfl ?_
      refine z_if_ne S d_Model_view_32 39 (by decide) 35 rfl (fun h3 => ?_) (fun h3 => ?_)
      · refine z_bipush S d_Model_view_39 64 (by decide) 41 rfl ?_
        refine z_aload_n S d_Model_view_41 rfl 1 rfl 42 rfl ?_
        refine z_get S hK hin_Model rm_0 rC_0 rfl 8 (Nat.le_of_ble_eq_true rfl) (ht _ w_548) (fun _ h => h) d_Model_view_42 45 rfl (.ref (ad 8 0)) rfl ?_
        refine z_iload_n S d_Model_view_45 rfl 0 rfl 46 rfl ?_
        refine z_iald S hK rm_8 0 rC_8 rfl (vp_c (c := 5) (N := 6) (by omega) (by omega)) d_Model_view_46 47 rfl (s 8 0 5) rfl ?_
        refine z_imul S d_Model_view_47 48 rfl ?_
        refine z_bipush S d_Model_view_48 8 (by decide) 50 rfl ?_
        refine z_aload_n S d_Model_view_50 rfl 1 rfl 51 rfl ?_
        refine z_get S hK hin_Model rm_0 rC_0 rfl 9 (Nat.le_of_ble_eq_true rfl) (ht _ w_549) (fun _ h => h) d_Model_view_51 54 rfl (.ref (ad 9 0)) rfl ?_
        refine z_iload_n S d_Model_view_54 rfl 0 rfl 55 rfl ?_
        refine z_iald S hK rm_9 0 rC_9 rfl (vp_c (c := 5) (N := 6) (by omega) (by omega)) d_Model_view_55 56 rfl (s 9 0 5) rfl ?_
        refine z_imul S d_Model_view_56 57 rfl ?_
        refine z_iadd S d_Model_view_57 58 rfl ?_
        refine z_aload_n S d_Model_view_58 rfl 1 rfl 59 rfl ?_
        refine z_get S hK hin_Model rm_0 rC_0 rfl 10 (Nat.le_of_ble_eq_true rfl) (ht _ w_550) (fun _ h => h) d_Model_view_59 62 rfl (.ref (ad 10 0)) rfl ?_
        refine z_iload_n S d_Model_view_62 rfl 0 rfl 63 rfl ?_
        refine z_iald S hK rm_10 0 rC_10 rfl (vp_c (c := 5) (N := 6) (by omega) (by omega)) d_Model_view_63 64 rfl (s 10 0 5) rfl ?_
        refine z_if_ge S d_Model_view_64 72 (by decide) 67 rfl (fun h4 => ?_) (fun h4 => ?_)
        · refine z_aload_n S d_Model_view_72 rfl 1 rfl 73 rfl ?_
          refine z_get S hK hin_Model rm_0 rC_0 rfl 10 (Nat.le_of_ble_eq_true rfl) (ht _ w_550) (fun _ h => h) d_Model_view_73 76 rfl (.ref (ad 10 0)) rfl ?_
          refine z_iload_n S d_Model_view_76 rfl 0 rfl 77 rfl ?_
          refine z_iald S hK rm_10 0 rC_10 rfl (vp_c (c := 5) (N := 6) (by omega) (by omega)) d_Model_view_77 78 rfl (s 10 0 5) rfl ?_
          refine z_iadd S d_Model_view_78 79 rfl ?_
          exact z_iret S hr hlk d_Model_view_79 (by unfold v_Model_view; simp only [if_pos h1, if_neg h3, if_pos h4] <;> rfl) rfl
        · refine z_bipush S d_Model_view_67 7 (by decide) 69 rfl ?_
          refine z_goto S d_Model_view_69 78 (by decide) ?_
          refine z_iadd S d_Model_view_78 79 rfl ?_
          exact z_iret S hr hlk d_Model_view_79 (by unfold v_Model_view; simp only [if_pos h1, if_neg h3, if_neg h4] <;> rfl) rfl
      · refine z_iconst S d_Model_view_35 0 (by decide) 36 rfl ?_
        refine z_goto S d_Model_view_36 79 (by decide) ?_
        exact z_iret S hr hlk d_Model_view_79 (by unfold v_Model_view; simp only [if_pos h1, if_pos h3] <;> rfl) rfl
  · refine z_aload_n S d_Model_view_5 rfl 0 rfl 6 rfl ?_
    refine z_iload_n S d_Model_view_6 rfl 1 rfl 7 rfl ?_
    refine z_callV S hK (As := [.int x]) (rest := []) (c_Model_noServer (x := x) hJ) (cw_Model_noServer hts w_670 rfl rfl ⟨(Nat.le_of_ble_eq_true rfl), (Nat.le_of_ble_eq_true rfl)⟩) rm_0 rC_0 rfl rfl rfl (Nat.le_of_ble_eq_true rfl) d_Model_view_7 10 rfl [.int (v_Model_noServer (s 0 0 0) x)] rfl ?_
    refine z_if_eq S d_Model_view_10 15 (by decide) 13 rfl (fun h5 => ?_) (fun h5 => ?_)
    · refine z_iload_n S d_Model_view_15 rfl 1 rfl 16 rfl ?_
      refine z_iconst S d_Model_view_16 (-1) (by decide) 17 rfl ?_
      refine z_icmp_ne S d_Model_view_17 24 (by decide) 20 rfl (fun h6 => ?_) (fun h6 => ?_)
      · refine z_iload_n S d_Model_view_24 rfl 1 rfl 25 rfl ?_
        refine z_istore_n S d_Model_view_25 rfl (Nat.le_of_ble_eq_true rfl) [(2, .int x), (0, .ref (ad 0 0)), (1, .int x)] rfl 26 rfl ?_
        refine z_aload_n S d_Model_view_26 rfl 1 rfl 27 rfl ?_
        refine z_get S hK hin_Model rm_0 rC_0 rfl 8 (Nat.le_of_ble_eq_true rfl) (ht _ w_548) (fun _ h => h) d_Model_view_27 30 rfl (.ref (ad 8 0)) rfl ?_
        refine z_iload_n S d_Model_view_30 rfl 0 rfl 31 rfl ?_
        refine z_iald S hK rm_8 0 rC_8 rfl (vp_mono (in_srvR hN h5) (by omega)) d_Model_view_31 32 rfl (s 8 0 x.toNatClampNeg) rfl ?_
        refine z_if_ne S d_Model_view_32 39 (by decide) 35 rfl (fun h7 => ?_) (fun h7 => ?_)
        · refine z_bipush S d_Model_view_39 64 (by decide) 41 rfl ?_
          refine z_aload_n S d_Model_view_41 rfl 1 rfl 42 rfl ?_
          refine z_get S hK hin_Model rm_0 rC_0 rfl 8 (Nat.le_of_ble_eq_true rfl) (ht _ w_548) (fun _ h => h) d_Model_view_42 45 rfl (.ref (ad 8 0)) rfl ?_
          refine z_iload_n S d_Model_view_45 rfl 0 rfl 46 rfl ?_
          refine z_iald S hK rm_8 0 rC_8 rfl (vp_mono (in_srvR hN h5) (by omega)) d_Model_view_46 47 rfl (s 8 0 x.toNatClampNeg) rfl ?_
          refine z_imul S d_Model_view_47 48 rfl ?_
          refine z_bipush S d_Model_view_48 8 (by decide) 50 rfl ?_
          refine z_aload_n S d_Model_view_50 rfl 1 rfl 51 rfl ?_
          refine z_get S hK hin_Model rm_0 rC_0 rfl 9 (Nat.le_of_ble_eq_true rfl) (ht _ w_549) (fun _ h => h) d_Model_view_51 54 rfl (.ref (ad 9 0)) rfl ?_
          refine z_iload_n S d_Model_view_54 rfl 0 rfl 55 rfl ?_
          refine z_iald S hK rm_9 0 rC_9 rfl (vp_mono (in_srvR hN h5) (by omega)) d_Model_view_55 56 rfl (s 9 0 x.toNatClampNeg) rfl ?_
          refine z_imul S d_Model_view_56 57 rfl ?_
          refine z_iadd S d_Model_view_57 58 rfl ?_
          refine z_aload_n S d_Model_view_58 rfl 1 rfl 59 rfl ?_
          refine z_get S hK hin_Model rm_0 rC_0 rfl 10 (Nat.le_of_ble_eq_true rfl) (ht _ w_550) (fun _ h => h) d_Model_view_59 62 rfl (.ref (ad 10 0)) rfl ?_
          refine z_iload_n S d_Model_view_62 rfl 0 rfl 63 rfl ?_
          refine z_iald S hK rm_10 0 rC_10 rfl (vp_mono (in_srvR hN h5) (by omega)) d_Model_view_63 64 rfl (s 10 0 x.toNatClampNeg) rfl ?_
          refine z_if_ge S d_Model_view_64 72 (by decide) 67 rfl (fun h8 => ?_) (fun h8 => ?_)
          · refine z_aload_n S d_Model_view_72 rfl 1 rfl 73 rfl ?_
            refine z_get S hK hin_Model rm_0 rC_0 rfl 10 (Nat.le_of_ble_eq_true rfl) (ht _ w_550) (fun _ h => h) d_Model_view_73 76 rfl (.ref (ad 10 0)) rfl ?_
            refine z_iload_n S d_Model_view_76 rfl 0 rfl 77 rfl ?_
            refine z_iald S hK rm_10 0 rC_10 rfl (vp_mono (in_srvR hN h5) (by omega)) d_Model_view_77 78 rfl (s 10 0 x.toNatClampNeg) rfl ?_
            refine z_iadd S d_Model_view_78 79 rfl ?_
            exact z_iret S hr hlk d_Model_view_79 (by unfold v_Model_view; simp only [if_neg h1, if_pos h5, if_neg h7, if_pos h8] <;> rfl) rfl
          · refine z_bipush S d_Model_view_67 7 (by decide) 69 rfl ?_
            refine z_goto S d_Model_view_69 78 (by decide) ?_
            refine z_iadd S d_Model_view_78 79 rfl ?_
            exact z_iret S hr hlk d_Model_view_79 (by unfold v_Model_view; simp only [if_neg h1, if_pos h5, if_neg h7, if_neg h8] <;> rfl) rfl
        · refine z_iconst S d_Model_view_35 0 (by decide) 36 rfl ?_
          refine z_goto S d_Model_view_36 79 (by decide) ?_
          exact z_iret S hr hlk d_Model_view_79 (by unfold v_Model_view; simp only [if_neg h1, if_pos h5, if_pos h7] <;> rfl) rfl
      · exact absurd h6 h1
    · refine z_iconst S d_Model_view_13 (-1) (by decide) 14 rfl ?_
      exact z_iret S hr hlk d_Model_view_14 (by unfold v_Model_view; simp only [if_neg h1, if_neg h5] <;> rfl) rfl
theorem d_Model_hear_0 : decode prog_11_method_26_code 0 = .ok (.aload_n 0, 1) := by decide +kernel
theorem d_Model_hear_1 : decode prog_11_method_26_code 1 = .ok (.getfield 35, 3) := by decide +kernel
theorem d_Model_hear_4 : decode prog_11_method_26_code 4 = .ok (.iload_n 2, 1) := by decide +kernel
theorem d_Model_hear_5 : decode prog_11_method_26_code 5 = .ok (.aload_n 0, 1) := by decide +kernel
theorem d_Model_hear_6 : decode prog_11_method_26_code 6 = .ok (.getfield 127, 3) := by decide +kernel
theorem d_Model_hear_9 : decode prog_11_method_26_code 9 = .ok (.iastore, 1) := by decide +kernel
theorem d_Model_hear_10 : decode prog_11_method_26_code 10 = .ok (.aload_n 0, 1) := by decide +kernel
theorem d_Model_hear_11 : decode prog_11_method_26_code 11 = .ok (.getfield 26, 3) := by decide +kernel
theorem d_Model_hear_14 : decode prog_11_method_26_code 14 = .ok (.iconst 5, 1) := by decide +kernel
theorem d_Model_hear_15 : decode prog_11_method_26_code 15 = .ok (.iaload, 1) := by decide +kernel
theorem d_Model_hear_16 : decode prog_11_method_26_code 16 = .ok (.ifCond .ne 27, 3) := by decide +kernel
theorem d_Model_hear_19 : decode prog_11_method_26_code 19 = .ok (.aload_n 0, 1) := by decide +kernel
theorem d_Model_hear_20 : decode prog_11_method_26_code 20 = .ok (.getfield 26, 3) := by decide +kernel
theorem d_Model_hear_23 : decode prog_11_method_26_code 23 = .ok (.iconst 5, 1) := by decide +kernel
theorem d_Model_hear_24 : decode prog_11_method_26_code 24 = .ok (.iconst 1, 1) := by decide +kernel
theorem d_Model_hear_25 : decode prog_11_method_26_code 25 = .ok (.iastore, 1) := by decide +kernel
theorem d_Model_hear_26 : decode prog_11_method_26_code 26 = .ok (.aload_n 0, 1) := by decide +kernel
theorem d_Model_hear_27 : decode prog_11_method_26_code 27 = .ok (.getfield 29, 3) := by decide +kernel
theorem d_Model_hear_30 : decode prog_11_method_26_code 30 = .ok (.iconst 5, 1) := by decide +kernel
theorem d_Model_hear_31 : decode prog_11_method_26_code 31 = .ok (.iload_n 2, 1) := by decide +kernel
theorem d_Model_hear_32 : decode prog_11_method_26_code 32 = .ok (.iastore, 1) := by decide +kernel
theorem d_Model_hear_33 : decode prog_11_method_26_code 33 = .ok (.aload_n 0, 1) := by decide +kernel
theorem d_Model_hear_34 : decode prog_11_method_26_code 34 = .ok (.getfield 32, 3) := by decide +kernel
theorem d_Model_hear_37 : decode prog_11_method_26_code 37 = .ok (.iconst 5, 1) := by decide +kernel
theorem d_Model_hear_38 : decode prog_11_method_26_code 38 = .ok (.iconst (-1), 1) := by decide +kernel
theorem d_Model_hear_39 : decode prog_11_method_26_code 39 = .ok (.iastore, 1) := by decide +kernel
theorem d_Model_hear_40 : decode prog_11_method_26_code 40 = .ok (.goto 33, 3) := by decide +kernel
theorem d_Model_hear_43 : decode prog_11_method_26_code 43 = .ok (.aload_n 0, 1) := by decide +kernel
theorem d_Model_hear_44 : decode prog_11_method_26_code 44 = .ok (.getfield 29, 3) := by decide +kernel
theorem d_Model_hear_47 : decode prog_11_method_26_code 47 = .ok (.iconst 5, 1) := by decide +kernel
theorem d_Model_hear_48 : decode prog_11_method_26_code 48 = .ok (.iaload, 1) := by decide +kernel
theorem d_Model_hear_49 : decode prog_11_method_26_code 49 = .ok (.iload_n 2, 1) := by decide +kernel
theorem d_Model_hear_50 : decode prog_11_method_26_code 50 = .ok (.if_icmp .ne 23, 3) := by decide +kernel
theorem d_Model_hear_53 : decode prog_11_method_26_code 53 = .ok (.aload_n 0, 1) := by decide +kernel
theorem d_Model_hear_54 : decode prog_11_method_26_code 54 = .ok (.getfield 87, 3) := by decide +kernel
theorem d_Model_hear_57 : decode prog_11_method_26_code 57 = .ok (.iload_n 1, 1) := by decide +kernel
theorem d_Model_hear_58 : decode prog_11_method_26_code 58 = .ok (.iaload, 1) := by decide +kernel
theorem d_Model_hear_59 : decode prog_11_method_26_code 59 = .ok (.aload_n 0, 1) := by decide +kernel
theorem d_Model_hear_60 : decode prog_11_method_26_code 60 = .ok (.getfield 26, 3) := by decide +kernel
theorem d_Model_hear_63 : decode prog_11_method_26_code 63 = .ok (.iconst 5, 1) := by decide +kernel
theorem d_Model_hear_64 : decode prog_11_method_26_code 64 = .ok (.iaload, 1) := by decide +kernel
theorem d_Model_hear_65 : decode prog_11_method_26_code 65 = .ok (.if_icmp .ne 8, 3) := by decide +kernel
theorem d_Model_hear_68 : decode prog_11_method_26_code 68 = .ok (.aload_n 0, 1) := by decide +kernel
theorem d_Model_hear_69 : decode prog_11_method_26_code 69 = .ok (.iconst 1, 1) := by decide +kernel
theorem d_Model_hear_70 : decode prog_11_method_26_code 70 = .ok (.putfield 130, 3) := by decide +kernel
theorem d_Model_hear_73 : decode prog_11_method_26_code 73 = .ok (.aload_n 0, 1) := by decide +kernel
theorem d_Model_hear_74 : decode prog_11_method_26_code 74 = .ok (.iconst 2, 1) := by decide +kernel
theorem d_Model_hear_75 : decode prog_11_method_26_code 75 = .ok (.iload_n 2, 1) := by decide +kernel
theorem d_Model_hear_76 : decode prog_11_method_26_code 76 = .ok (.invokevirtual 115, 3) := by decide +kernel
theorem d_Model_hear_79 : decode prog_11_method_26_code 79 = .ok (.istore_n 3, 1) := by decide +kernel
theorem d_Model_hear_80 : decode prog_11_method_26_code 80 = .ok (.aload_n 0, 1) := by decide +kernel
theorem d_Model_hear_81 : decode prog_11_method_26_code 81 = .ok (.getfield 87, 3) := by decide +kernel
theorem d_Model_hear_84 : decode prog_11_method_26_code 84 = .ok (.iload_n 3, 1) := by decide +kernel
theorem d_Model_hear_85 : decode prog_11_method_26_code 85 = .ok (.aload_n 0, 1) := by decide +kernel
theorem d_Model_hear_86 : decode prog_11_method_26_code 86 = .ok (.getfield 26, 3) := by decide +kernel
theorem d_Model_hear_89 : decode prog_11_method_26_code 89 = .ok (.iconst 5, 1) := by decide +kernel
theorem d_Model_hear_90 : decode prog_11_method_26_code 90 = .ok (.iaload, 1) := by decide +kernel
theorem d_Model_hear_91 : decode prog_11_method_26_code 91 = .ok (.iastore, 1) := by decide +kernel
theorem d_Model_hear_92 : decode prog_11_method_26_code 92 = .ok (.aload_n 0, 1) := by decide +kernel
theorem d_Model_hear_93 : decode prog_11_method_26_code 93 = .ok (.getfield 90, 3) := by decide +kernel
theorem d_Model_hear_96 : decode prog_11_method_26_code 96 = .ok (.iload_n 3, 1) := by decide +kernel
theorem d_Model_hear_97 : decode prog_11_method_26_code 97 = .ok (.aload_n 0, 1) := by decide +kernel
theorem d_Model_hear_98 : decode prog_11_method_26_code 98 = .ok (.getfield 29, 3) := by decide +kernel
theorem d_Model_hear_101 : decode prog_11_method_26_code 101 = .ok (.iconst 5, 1) := by decide +kernel
theorem d_Model_hear_102 : decode prog_11_method_26_code 102 = .ok (.iaload, 1) := by decide +kernel
theorem d_Model_hear_103 : decode prog_11_method_26_code 103 = .ok (.iastore, 1) := by decide +kernel
theorem d_Model_hear_104 : decode prog_11_method_26_code 104 = .ok (.aload_n 0, 1) := by decide +kernel
theorem d_Model_hear_105 : decode prog_11_method_26_code 105 = .ok (.getfield 93, 3) := by decide +kernel
theorem d_Model_hear_108 : decode prog_11_method_26_code 108 = .ok (.iload_n 3, 1) := by decide +kernel
theorem d_Model_hear_109 : decode prog_11_method_26_code 109 = .ok (.aload_n 0, 1) := by decide +kernel
theorem d_Model_hear_110 : decode prog_11_method_26_code 110 = .ok (.getfield 32, 3) := by decide +kernel
theorem d_Model_hear_113 : decode prog_11_method_26_code 113 = .ok (.iconst 5, 1) := by decide +kernel
theorem d_Model_hear_114 : decode prog_11_method_26_code 114 = .ok (.iaload, 1) := by decide +kernel
theorem d_Model_hear_115 : decode prog_11_method_26_code 115 = .ok (.iastore, 1) := by decide +kernel
theorem d_Model_hear_116 : decode prog_11_method_26_code 116 = .ok (.aload_n 0, 1) := by decide +kernel
theorem d_Model_hear_117 : decode prog_11_method_26_code 117 = .ok (.getfield 96, 3) := by decide +kernel
theorem d_Model_hear_120 : decode prog_11_method_26_code 120 = .ok (.iload_n 3, 1) := by decide +kernel
theorem d_Model_hear_121 : decode prog_11_method_26_code 121 = .ok (.aload_n 0, 1) := by decide +kernel
theorem d_Model_hear_122 : decode prog_11_method_26_code 122 = .ok (.getfield 96, 3) := by decide +kernel
theorem d_Model_hear_125 : decode prog_11_method_26_code 125 = .ok (.iload_n 1, 1) := by decide +kernel
theorem d_Model_hear_126 : decode prog_11_method_26_code 126 = .ok (.iaload, 1) := by decide +kernel
theorem d_Model_hear_127 : decode prog_11_method_26_code 127 = .ok (.iastore, 1) := by decide +kernel
theorem d_Model_hear_128 : decode prog_11_method_26_code 128 = .ok (.return_, 1) := by decide +kernel
def S_Model_hear (s : S3) (p : Int32) (x : Int32) : S3 := if (s 8 0 5) = 0 then (u3 (u3 (u3 (u3 (S_Model_post (u3 (u3 (u3 (u3 s 12 0 x.toNatClampNeg (s 0 1 0)) 8 0 5 1) 9 0 5 x) 10 0 5 (-1)) 2 x) 30 0 ((ppF (s 0 25 0) (s 27 0)).toNatClampNeg) 1) 31 0 ((ppF (s 0 25 0) (s 27 0)).toNatClampNeg) x) 32 0 ((ppF (s 0 25 0) (s 27 0)).toNatClampNeg) (-1)) 33 0 ((ppF (s 0 25 0) (s 27 0)).toNatClampNeg) (s 33 0 p.toNatClampNeg)) else if (s 9 0 5) = x then (if (s 30 0 p.toNatClampNeg) = (s 8 0 5) then (u3 (u3 (u3 (u3 (S_Model_post (u3 (u3 s 12 0 x.toNatClampNeg (s 0 1 0)) 0 11 0 1) 2 x) 30 0 ((ppF (s 0 25 0) (s 27 0)).toNatClampNeg) (s 8 0 5)) 31 0 ((ppF (s 0 25 0) (s 27 0)).toNatClampNeg) (s 9 0 5)) 32 0 ((ppF (s 0 25 0) (s 27 0)).toNatClampNeg) (s 10 0 5)) 33 0 ((ppF (s 0 25 0) (s 27 0)).toNatClampNeg) (s 33 0 p.toNatClampNeg)) else u3 (u3 (u3 (u3 (S_Model_post (u3 s 12 0 x.toNatClampNeg (s 0 1 0)) 2 x) 30 0 ((ppF (s 0 25 0) (s 27 0)).toNatClampNeg) (s 8 0 5)) 31 0 ((ppF (s 0 25 0) (s 27 0)).toNatClampNeg) (s 9 0 5)) 32 0 ((ppF (s 0 25 0) (s 27 0)).toNatClampNeg) (s 10 0 5)) 33 0 ((ppF (s 0 25 0) (s 27 0)).toNatClampNeg) (s 33 0 p.toNatClampNeg)) else u3 (u3 (u3 (u3 (S_Model_post (u3 s 12 0 x.toNatClampNeg (s 0 1 0)) 2 x) 30 0 ((ppF (s 0 25 0) (s 27 0)).toNatClampNeg) (s 8 0 5)) 31 0 ((ppF (s 0 25 0) (s 27 0)).toNatClampNeg) (s 9 0 5)) 32 0 ((ppF (s 0 25 0) (s 27 0)).toNatClampNeg) (s 10 0 5)) 33 0 ((ppF (s 0 25 0) (s 27 0)).toNatClampNeg) (s 33 0 p.toNatClampNeg)
set_option maxHeartbeats 4000000 in
set_option maxRecDepth 100000 in
theorem c_Model_hear {l : Launch} {D : va_G} {K : Nat → ClassId} {ad : Nat → Nat → Nat} {s : S3} {p x : Int32} (hJ : zw_J (rRL) ad) (hW : vp_in (s 0 25 0) 33) (hB : fB s) (hp : vp_in p 34) (hx : vp_in x 5) : zM l y_Model_hear ws_Model_hear ({ frames := 1, cells := 0, slots := 0, locals := 23 }) D zCl (zTys K) (rRL) ad [.ref (ad 0 0), .int p, .int x] (rC K ad s) (none) (rC K ad (S_Model_hear s p x)) := by
  refine zM.of (cc := prog_11_method_26_code) (maxL := 4) (ret := (Option.none : Option Jvm.ClassFile.FieldType)) (by decide) rfl (Nat.le_of_ble_eq_true rfl) ?_
  intro pP eE U mM bL mT cO S hr hlk hK
  have hts := S.2.2.2.2
  have ht := fun w h => hts w (List.mem_cons_of_mem _ h)
  refine z_aload_n S d_Model_hear_0 rfl 0 rfl 1 rfl ?_
  refine z_get S hK hin_Model rm_0 rC_0 rfl 12 (Nat.le_of_ble_eq_true rfl) (ht _ w_552) (fun _ h => h) d_Model_hear_1 4 rfl (.ref (ad 12 0)) rfl ?_
  refine z_iload_n S d_Model_hear_4 rfl 2 rfl 5 rfl ?_
  refine z_aload_n S d_Model_hear_5 rfl 0 rfl 6 rfl ?_
  refine z_get S hK hin_Model rm_0 rC_0 rfl 1 (Nat.le_of_ble_eq_true rfl) (ht _ w_541) (fun _ h => h) d_Model_hear_6 9 rfl (.int (s 0 1 0)) rfl ?_
  refine z_iast S hJ hK rm_12 0 rC_12 rfl hx rfl rupI_12 d_Model_hear_9 10 rfl ?_
  refine z_aload_n S d_Model_hear_10 rfl 0 rfl 11 rfl ?_
  refine z_get S hK hin_Model rm_0 rC_0 rfl 8 (Nat.le_of_ble_eq_true rfl) (ht _ w_548) (fun _ h => h) d_Model_hear_11 14 rfl (.ref (ad 8 0)) rfl ?_
  refine z_iconst S d_Model_hear_14 5 (by decide) 15 rfl ?_
  refine z_iald S hK rm_8 0 rC_8 rfl (vp_c (c := 5) (N := 6) (by omega) (by omega)) d_Model_hear_15 16 rfl (s 8 0 5) rfl ?_
  refine z_if_ne S d_Model_hear_16 43 (by decide) 19 rfl (fun h1 => ?_) (fun h1 => ?_)
  · refine z_aload_n S d_Model_hear_43 rfl 0 rfl 44 rfl ?_
    refine z_get S hK hin_Model rm_0 rC_0 rfl 9 (Nat.le_of_ble_eq_true rfl) (ht _ w_549) (fun _ h => h) d_Model_hear_44 47 rfl (.ref (ad 9 0)) rfl ?_
    refine z_iconst S d_Model_hear_47 5 (by decide) 48 rfl ?_
    refine z_iald S hK rm_9 0 rC_9 rfl (vp_c (c := 5) (N := 6) (by omega) (by omega)) d_Model_hear_48 49 rfl (s 9 0 5) rfl ?_
    refine z_iload_n S d_Model_hear_49 rfl 2 rfl 50 rfl ?_
    refine z_icmp_ne S d_Model_hear_50 73 (by decide) 53 rfl (fun h2 => ?_) (fun h2 => ?_)
    · refine z_aload_n S d_Model_hear_73 rfl 0 rfl 74 rfl ?_
      refine z_iconst S d_Model_hear_74 2 (by decide) 75 rfl ?_
      refine z_iload_n S d_Model_hear_75 rfl 2 rfl 76 rfl ?_
      refine z_callV S hK (As := [.int 2, .int x]) (rest := []) (c_Model_post (k := 2) (a := x) hJ hW hB) (cw_Model_post hts w_678 rfl rfl ⟨(Nat.le_of_ble_eq_true rfl), (Nat.le_of_ble_eq_true rfl)⟩) rm_0 rC_0 rfl rfl rfl (Nat.le_of_ble_eq_true rfl) d_Model_hear_76 79 rfl [.int (ppF (s 0 25 0) (s 27 0))] rfl ?_
      refine z_istore_n S d_Model_hear_79 rfl (Nat.le_of_ble_eq_true rfl) [(3, .int (ppF (s 0 25 0) (s 27 0))), (0, .ref (ad 0 0)), (1, .int p), (2, .int x)] rfl 80 rfl ?_
      refine z_aload_n S d_Model_hear_80 rfl 1 rfl 81 rfl ?_
      refine z_get S hK hin_Model rm_0 rC_0 rfl 30 (Nat.le_of_ble_eq_true rfl) (ht _ w_570) (fun _ h => h) d_Model_hear_81 84 rfl (.ref (ad 30 0)) rfl ?_
      refine z_iload_n S d_Model_hear_84 rfl 0 rfl 85 rfl ?_
      refine z_aload_n S d_Model_hear_85 rfl 1 rfl 86 rfl ?_
      refine z_get S hK hin_Model rm_0 rC_0 rfl 8 (Nat.le_of_ble_eq_true rfl) (ht _ w_548) (fun _ h => h) d_Model_hear_86 89 rfl (.ref (ad 8 0)) rfl ?_
      refine z_iconst S d_Model_hear_89 5 (by decide) 90 rfl ?_
      refine z_iald S hK rm_8 0 rC_8 rfl (vp_c (c := 5) (N := 6) (by omega) (by omega)) d_Model_hear_90 91 rfl (s 8 0 5) rfl ?_
      refine z_iast S hJ hK rm_30 0 rC_30 rfl (pp_in hB) rfl rupI_30 d_Model_hear_91 92 rfl ?_
      refine z_aload_n S d_Model_hear_92 rfl 1 rfl 93 rfl ?_
      refine z_get S hK hin_Model rm_0 rC_0 rfl 31 (Nat.le_of_ble_eq_true rfl) (ht _ w_571) (fun _ h => h) d_Model_hear_93 96 rfl (.ref (ad 31 0)) rfl ?_
      refine z_iload_n S d_Model_hear_96 rfl 0 rfl 97 rfl ?_
      refine z_aload_n S d_Model_hear_97 rfl 1 rfl 98 rfl ?_
      refine z_get S hK hin_Model rm_0 rC_0 rfl 9 (Nat.le_of_ble_eq_true rfl) (ht _ w_549) (fun _ h => h) d_Model_hear_98 101 rfl (.ref (ad 9 0)) rfl ?_
      refine z_iconst S d_Model_hear_101 5 (by decide) 102 rfl ?_
      refine z_iald S hK rm_9 0 rC_9 rfl (vp_c (c := 5) (N := 6) (by omega) (by omega)) d_Model_hear_102 103 rfl (s 9 0 5) rfl ?_
      refine z_iast S hJ hK rm_31 0 rC_31 rfl (pp_in hB) rfl rupI_31 d_Model_hear_103 104 rfl ?_
      refine z_aload_n S d_Model_hear_104 rfl 1 rfl 105 rfl ?_
      refine z_get S hK hin_Model rm_0 rC_0 rfl 32 (Nat.le_of_ble_eq_true rfl) (ht _ w_572) (fun _ h => h) d_Model_hear_105 108 rfl (.ref (ad 32 0)) rfl ?_
      refine z_iload_n S d_Model_hear_108 rfl 0 rfl 109 rfl ?_
      refine z_aload_n S d_Model_hear_109 rfl 1 rfl 110 rfl ?_
      refine z_get S hK hin_Model rm_0 rC_0 rfl 10 (Nat.le_of_ble_eq_true rfl) (ht _ w_550) (fun _ h => h) d_Model_hear_110 113 rfl (.ref (ad 10 0)) rfl ?_
      refine z_iconst S d_Model_hear_113 5 (by decide) 114 rfl ?_
      refine z_iald S hK rm_10 0 rC_10 rfl (vp_c (c := 5) (N := 6) (by omega) (by omega)) d_Model_hear_114 115 rfl (s 10 0 5) rfl ?_
      refine z_iast S hJ hK rm_32 0 rC_32 rfl (pp_in hB) rfl rupI_32 d_Model_hear_115 116 rfl ?_
      refine z_aload_n S d_Model_hear_116 rfl 1 rfl 117 rfl ?_
      refine z_get S hK hin_Model rm_0 rC_0 rfl 33 (Nat.le_of_ble_eq_true rfl) (ht _ w_573) (fun _ h => h) d_Model_hear_117 120 rfl (.ref (ad 33 0)) rfl ?_
      refine z_iload_n S d_Model_hear_120 rfl 0 rfl 121 rfl ?_
      refine z_aload_n S d_Model_hear_121 rfl 1 rfl 122 rfl ?_
      refine z_get S hK hin_Model rm_0 rC_0 rfl 33 (Nat.le_of_ble_eq_true rfl) (ht _ w_573) (fun _ h => h) d_Model_hear_122 125 rfl (.ref (ad 33 0)) rfl ?_
      refine z_iload_n S d_Model_hear_125 rfl 2 rfl 126 rfl ?_
      refine z_iald S hK rm_33 0 rC_33 rfl hp d_Model_hear_126 127 rfl (s 33 0 p.toNatClampNeg) rfl ?_
      refine z_iast S hJ hK rm_33 0 rC_33 rfl (pp_in hB) rfl rupI_33 d_Model_hear_127 128 rfl ?_
      exact z_vret S hr hlk d_Model_hear_128 (rC_eq (by unfold S_Model_hear; simp only [if_neg h1, if_neg h2] <;> rfl))
    · refine z_aload_n S d_Model_hear_53 rfl 0 rfl 54 rfl ?_
      refine z_get S hK hin_Model rm_0 rC_0 rfl 30 (Nat.le_of_ble_eq_true rfl) (ht _ w_570) (fun _ h => h) d_Model_hear_54 57 rfl (.ref (ad 30 0)) rfl ?_
      refine z_iload_n S d_Model_hear_57 rfl 1 rfl 58 rfl ?_
      refine z_iald S hK rm_30 0 rC_30 rfl hp d_Model_hear_58 59 rfl (s 30 0 p.toNatClampNeg) rfl ?_
      refine z_aload_n S d_Model_hear_59 rfl 0 rfl 60 rfl ?_
      refine z_get S hK hin_Model rm_0 rC_0 rfl 8 (Nat.le_of_ble_eq_true rfl) (ht _ w_548) (fun _ h => h) d_Model_hear_60 63 rfl (.ref (ad 8 0)) rfl ?_
      refine z_iconst S d_Model_hear_63 5 (by decide) 64 rfl ?_
      refine z_iald S hK rm_8 0 rC_8 rfl (vp_c (c := 5) (N := 6) (by omega) (by omega)) d_Model_hear_64 65 rfl (s 8 0 5) rfl ?_
      refine z_icmp_ne S d_Model_hear_65 73 (by decide) 68 rfl (fun h3 => ?_) (fun h3 => ?_)
      · refine z_aload_n S d_Model_hear_73 rfl 0 rfl 74 rfl ?_
        refine z_iconst S d_Model_hear_74 2 (by decide) 75 rfl ?_
        refine z_iload_n S d_Model_hear_75 rfl 2 rfl 76 rfl ?_
        refine z_callV S hK (As := [.int 2, .int x]) (rest := []) (c_Model_post (k := 2) (a := x) hJ hW hB) (cw_Model_post hts w_678 rfl rfl ⟨(Nat.le_of_ble_eq_true rfl), (Nat.le_of_ble_eq_true rfl)⟩) rm_0 rC_0 rfl rfl rfl (Nat.le_of_ble_eq_true rfl) d_Model_hear_76 79 rfl [.int (ppF (s 0 25 0) (s 27 0))] rfl ?_
        refine z_istore_n S d_Model_hear_79 rfl (Nat.le_of_ble_eq_true rfl) [(3, .int (ppF (s 0 25 0) (s 27 0))), (0, .ref (ad 0 0)), (1, .int p), (2, .int x)] rfl 80 rfl ?_
        refine z_aload_n S d_Model_hear_80 rfl 1 rfl 81 rfl ?_
        refine z_get S hK hin_Model rm_0 rC_0 rfl 30 (Nat.le_of_ble_eq_true rfl) (ht _ w_570) (fun _ h => h) d_Model_hear_81 84 rfl (.ref (ad 30 0)) rfl ?_
        refine z_iload_n S d_Model_hear_84 rfl 0 rfl 85 rfl ?_
        refine z_aload_n S d_Model_hear_85 rfl 1 rfl 86 rfl ?_
        refine z_get S hK hin_Model rm_0 rC_0 rfl 8 (Nat.le_of_ble_eq_true rfl) (ht _ w_548) (fun _ h => h) d_Model_hear_86 89 rfl (.ref (ad 8 0)) rfl ?_
        refine z_iconst S d_Model_hear_89 5 (by decide) 90 rfl ?_
        refine z_iald S hK rm_8 0 rC_8 rfl (vp_c (c := 5) (N := 6) (by omega) (by omega)) d_Model_hear_90 91 rfl (s 8 0 5) rfl ?_
        refine z_iast S hJ hK rm_30 0 rC_30 rfl (pp_in hB) rfl rupI_30 d_Model_hear_91 92 rfl ?_
        refine z_aload_n S d_Model_hear_92 rfl 1 rfl 93 rfl ?_
        refine z_get S hK hin_Model rm_0 rC_0 rfl 31 (Nat.le_of_ble_eq_true rfl) (ht _ w_571) (fun _ h => h) d_Model_hear_93 96 rfl (.ref (ad 31 0)) rfl ?_
        refine z_iload_n S d_Model_hear_96 rfl 0 rfl 97 rfl ?_
        refine z_aload_n S d_Model_hear_97 rfl 1 rfl 98 rfl ?_
        refine z_get S hK hin_Model rm_0 rC_0 rfl 9 (Nat.le_of_ble_eq_true rfl) (ht _ w_549) (fun _ h => h) d_Model_hear_98 101 rfl (.ref (ad 9 0)) rfl ?_
        refine z_iconst S d_Model_hear_101 5 (by decide) 102 rfl ?_
        refine z_iald S hK rm_9 0 rC_9 rfl (vp_c (c := 5) (N := 6) (by omega) (by omega)) d_Model_hear_102 103 rfl (s 9 0 5) rfl ?_
        refine z_iast S hJ hK rm_31 0 rC_31 rfl (pp_in hB) rfl rupI_31 d_Model_hear_103 104 rfl ?_
        refine z_aload_n S d_Model_hear_104 rfl 1 rfl 105 rfl ?_
        refine z_get S hK hin_Model rm_0 rC_0 rfl 32 (Nat.le_of_ble_eq_true rfl) (ht _ w_572) (fun _ h => h) d_Model_hear_105 108 rfl (.ref (ad 32 0)) rfl ?_
        refine z_iload_n S d_Model_hear_108 rfl 0 rfl 109 rfl ?_
        refine z_aload_n S d_Model_hear_109 rfl 1 rfl 110 rfl ?_
        refine z_get S hK hin_Model rm_0 rC_0 rfl 10 (Nat.le_of_ble_eq_true rfl) (ht _ w_550) (fun _ h => h) d_Model_hear_110 113 rfl (.ref (ad 10 0)) rfl ?_
        refine z_iconst S d_Model_hear_113 5 (by decide) 114 rfl ?_
        refine z_iald S hK rm_10 0 rC_10 rfl (vp_c (c := 5) (N := 6) (by omega) (by omega)) d_Model_hear_114 115 rfl (s 10 0 5) rfl ?_
        refine z_iast S hJ hK rm_32 0 rC_32 rfl (pp_in hB) rfl rupI_32 d_Model_hear_115 116 rfl ?_
        refine z_aload_n S d_Model_hear_116 rfl 1 rfl 117 rfl ?_
        refine z_get S hK hin_Model rm_0 rC_0 rfl 33 (Nat.le_of_ble_eq_true rfl) (ht _ w_573) (fun _ h => h) d_Model_hear_117 120 rfl (.ref (ad 33 0)) rfl ?_
        refine z_iload_n S d_Model_hear_120 rfl 0 rfl 121 rfl ?_
        refine z_aload_n S d_Model_hear_121 rfl 1 rfl 122 rfl ?_
        refine z_get S hK hin_Model rm_0 rC_0 rfl 33 (Nat.le_of_ble_eq_true rfl) (ht _ w_573) (fun _ h => h) d_Model_hear_122 125 rfl (.ref (ad 33 0)) rfl ?_
        refine z_iload_n S d_Model_hear_125 rfl 2 rfl 126 rfl ?_
        refine z_iald S hK rm_33 0 rC_33 rfl hp d_Model_hear_126 127 rfl (s 33 0 p.toNatClampNeg) rfl ?_
        refine z_iast S hJ hK rm_33 0 rC_33 rfl (pp_in hB) rfl rupI_33 d_Model_hear_127 128 rfl ?_
        exact z_vret S hr hlk d_Model_hear_128 (rC_eq (by unfold S_Model_hear; simp only [if_neg h1, if_pos h2, if_neg h3] <;> rfl))
      · refine z_aload_n S d_Model_hear_68 rfl 0 rfl 69 rfl ?_
        refine z_iconst S d_Model_hear_69 1 (by decide) 70 rfl ?_
        refine z_put S hJ hK hin_Model t_Model ok_Model nm_Model rm_0 rC_0 rfl 11 (Nat.le_of_ble_eq_true rfl) (ht _ w_551) (fun _ h => h) rfl (zb_n zb_1) (zb_f zb_1) (Nat.le_of_ble_eq_true rfl) rup_11 d_Model_hear_70 73 rfl ?_
        refine z_aload_n S d_Model_hear_73 rfl 0 rfl 74 rfl ?_
        refine z_iconst S d_Model_hear_74 2 (by decide) 75 rfl ?_
        refine z_iload_n S d_Model_hear_75 rfl 2 rfl 76 rfl ?_
        refine z_callV S hK (As := [.int 2, .int x]) (rest := []) (c_Model_post (k := 2) (a := x) hJ hW hB) (cw_Model_post hts w_678 rfl rfl ⟨(Nat.le_of_ble_eq_true rfl), (Nat.le_of_ble_eq_true rfl)⟩) rm_0 rC_0 rfl rfl rfl (Nat.le_of_ble_eq_true rfl) d_Model_hear_76 79 rfl [.int (ppF (s 0 25 0) (s 27 0))] rfl ?_
        refine z_istore_n S d_Model_hear_79 rfl (Nat.le_of_ble_eq_true rfl) [(3, .int (ppF (s 0 25 0) (s 27 0))), (0, .ref (ad 0 0)), (1, .int p), (2, .int x)] rfl 80 rfl ?_
        refine z_aload_n S d_Model_hear_80 rfl 1 rfl 81 rfl ?_
        refine z_get S hK hin_Model rm_0 rC_0 rfl 30 (Nat.le_of_ble_eq_true rfl) (ht _ w_570) (fun _ h => h) d_Model_hear_81 84 rfl (.ref (ad 30 0)) rfl ?_
        refine z_iload_n S d_Model_hear_84 rfl 0 rfl 85 rfl ?_
        refine z_aload_n S d_Model_hear_85 rfl 1 rfl 86 rfl ?_
        refine z_get S hK hin_Model rm_0 rC_0 rfl 8 (Nat.le_of_ble_eq_true rfl) (ht _ w_548) (fun _ h => h) d_Model_hear_86 89 rfl (.ref (ad 8 0)) rfl ?_
        refine z_iconst S d_Model_hear_89 5 (by decide) 90 rfl ?_
        refine z_iald S hK rm_8 0 rC_8 rfl (vp_c (c := 5) (N := 6) (by omega) (by omega)) d_Model_hear_90 91 rfl (s 8 0 5) rfl ?_
        refine z_iast S hJ hK rm_30 0 rC_30 rfl (pp_in hB) rfl rupI_30 d_Model_hear_91 92 rfl ?_
        refine z_aload_n S d_Model_hear_92 rfl 1 rfl 93 rfl ?_
        refine z_get S hK hin_Model rm_0 rC_0 rfl 31 (Nat.le_of_ble_eq_true rfl) (ht _ w_571) (fun _ h => h) d_Model_hear_93 96 rfl (.ref (ad 31 0)) rfl ?_
        refine z_iload_n S d_Model_hear_96 rfl 0 rfl 97 rfl ?_
        refine z_aload_n S d_Model_hear_97 rfl 1 rfl 98 rfl ?_
        refine z_get S hK hin_Model rm_0 rC_0 rfl 9 (Nat.le_of_ble_eq_true rfl) (ht _ w_549) (fun _ h => h) d_Model_hear_98 101 rfl (.ref (ad 9 0)) rfl ?_
        refine z_iconst S d_Model_hear_101 5 (by decide) 102 rfl ?_
        refine z_iald S hK rm_9 0 rC_9 rfl (vp_c (c := 5) (N := 6) (by omega) (by omega)) d_Model_hear_102 103 rfl (s 9 0 5) rfl ?_
        refine z_iast S hJ hK rm_31 0 rC_31 rfl (pp_in hB) rfl rupI_31 d_Model_hear_103 104 rfl ?_
        refine z_aload_n S d_Model_hear_104 rfl 1 rfl 105 rfl ?_
        refine z_get S hK hin_Model rm_0 rC_0 rfl 32 (Nat.le_of_ble_eq_true rfl) (ht _ w_572) (fun _ h => h) d_Model_hear_105 108 rfl (.ref (ad 32 0)) rfl ?_
        refine z_iload_n S d_Model_hear_108 rfl 0 rfl 109 rfl ?_
        refine z_aload_n S d_Model_hear_109 rfl 1 rfl 110 rfl ?_
        refine z_get S hK hin_Model rm_0 rC_0 rfl 10 (Nat.le_of_ble_eq_true rfl) (ht _ w_550) (fun _ h => h) d_Model_hear_110 113 rfl (.ref (ad 10 0)) rfl ?_
        refine z_iconst S d_Model_hear_113 5 (by decide) 114 rfl ?_
        refine z_iald S hK rm_10 0 rC_10 rfl (vp_c (c := 5) (N := 6) (by omega) (by omega)) d_Model_hear_114 115 rfl (s 10 0 5) rfl ?_
        refine z_iast S hJ hK rm_32 0 rC_32 rfl (pp_in hB) rfl rupI_32 d_Model_hear_115 116 rfl ?_
        refine z_aload_n S d_Model_hear_116 rfl 1 rfl 117 rfl ?_
        refine z_get S hK hin_Model rm_0 rC_0 rfl 33 (Nat.le_of_ble_eq_true rfl) (ht _ w_573) (fun _ h => h) d_Model_hear_117 120 rfl (.ref (ad 33 0)) rfl ?_
        refine z_iload_n S d_Model_hear_120 rfl 0 rfl 121 rfl ?_
        refine z_aload_n S d_Model_hear_121 rfl 1 rfl 122 rfl ?_
        refine z_get S hK hin_Model rm_0 rC_0 rfl 33 (Nat.le_of_ble_eq_true rfl) (ht _ w_573) (fun _ h => h) d_Model_hear_122 125 rfl (.ref (ad 33 0)) rfl ?_
        refine z_iload_n S d_Model_hear_125 rfl 2 rfl 126 rfl ?_
        refine z_iald S hK rm_33 0 rC_33 rfl hp d_Model_hear_126 127 rfl (s 33 0 p.toNatClampNeg) rfl ?_
        refine z_iast S hJ hK rm_33 0 rC_33 rfl (pp_in hB) rfl rupI_33 d_Model_hear_127 128 rfl ?_
        exact z_vret S hr hlk d_Model_hear_128 (rC_eq (by unfold S_Model_hear; simp only [if_neg h1, if_pos h2, if_pos h3] <;> rfl))
  · refine z_aload_n S d_Model_hear_19 rfl 0 rfl 20 rfl ?_
    refine z_get S hK hin_Model rm_0 rC_0 rfl 8 (Nat.le_of_ble_eq_true rfl) (ht _ w_548) (fun _ h => h) d_Model_hear_20 23 rfl (.ref (ad 8 0)) rfl ?_
    refine z_iconst S d_Model_hear_23 5 (by decide) 24 rfl ?_
    refine z_iconst S d_Model_hear_24 1 (by decide) 25 rfl ?_
    refine z_iast S hJ hK rm_8 0 rC_8 rfl (vp_c (c := 5) (N := 6) (by omega) (by omega)) rfl rupI_8 d_Model_hear_25 26 rfl ?_
    refine z_aload_n S d_Model_hear_26 rfl 0 rfl 27 rfl ?_
    refine z_get S hK hin_Model rm_0 rC_0 rfl 9 (Nat.le_of_ble_eq_true rfl) (ht _ w_549) (fun _ h => h) d_Model_hear_27 30 rfl (.ref (ad 9 0)) rfl ?_
    refine z_iconst S d_Model_hear_30 5 (by decide) 31 rfl ?_
    refine z_iload_n S d_Model_hear_31 rfl 2 rfl 32 rfl ?_
    refine z_iast S hJ hK rm_9 0 rC_9 rfl (vp_c (c := 5) (N := 6) (by omega) (by omega)) rfl rupI_9 d_Model_hear_32 33 rfl ?_
    refine z_aload_n S d_Model_hear_33 rfl 0 rfl 34 rfl ?_
    refine z_get S hK hin_Model rm_0 rC_0 rfl 10 (Nat.le_of_ble_eq_true rfl) (ht _ w_550) (fun _ h => h) d_Model_hear_34 37 rfl (.ref (ad 10 0)) rfl ?_
    refine z_iconst S d_Model_hear_37 5 (by decide) 38 rfl ?_
    refine z_iconst S d_Model_hear_38 (-1) (by decide) 39 rfl ?_
    refine z_iast S hJ hK rm_10 0 rC_10 rfl (vp_c (c := 5) (N := 6) (by omega) (by omega)) rfl rupI_10 d_Model_hear_39 40 rfl ?_
    refine z_goto S d_Model_hear_40 73 (by decide) ?_
    refine z_aload_n S d_Model_hear_73 rfl 0 rfl 74 rfl ?_
    refine z_iconst S d_Model_hear_74 2 (by decide) 75 rfl ?_
    refine z_iload_n S d_Model_hear_75 rfl 2 rfl 76 rfl ?_
    refine z_callV S hK (As := [.int 2, .int x]) (rest := []) (c_Model_post (k := 2) (a := x) hJ hW hB) (cw_Model_post hts w_678 rfl rfl ⟨(Nat.le_of_ble_eq_true rfl), (Nat.le_of_ble_eq_true rfl)⟩) rm_0 rC_0 rfl rfl rfl (Nat.le_of_ble_eq_true rfl) d_Model_hear_76 79 rfl [.int (ppF (s 0 25 0) (s 27 0))] rfl ?_
    refine z_istore_n S d_Model_hear_79 rfl (Nat.le_of_ble_eq_true rfl) [(3, .int (ppF (s 0 25 0) (s 27 0))), (0, .ref (ad 0 0)), (1, .int p), (2, .int x)] rfl 80 rfl ?_
    refine z_aload_n S d_Model_hear_80 rfl 1 rfl 81 rfl ?_
    refine z_get S hK hin_Model rm_0 rC_0 rfl 30 (Nat.le_of_ble_eq_true rfl) (ht _ w_570) (fun _ h => h) d_Model_hear_81 84 rfl (.ref (ad 30 0)) rfl ?_
    refine z_iload_n S d_Model_hear_84 rfl 0 rfl 85 rfl ?_
    refine z_aload_n S d_Model_hear_85 rfl 1 rfl 86 rfl ?_
    refine z_get S hK hin_Model rm_0 rC_0 rfl 8 (Nat.le_of_ble_eq_true rfl) (ht _ w_548) (fun _ h => h) d_Model_hear_86 89 rfl (.ref (ad 8 0)) rfl ?_
    refine z_iconst S d_Model_hear_89 5 (by decide) 90 rfl ?_
    refine z_iald S hK rm_8 0 rC_8 rfl (vp_c (c := 5) (N := 6) (by omega) (by omega)) d_Model_hear_90 91 rfl (1) rfl ?_
    refine z_iast S hJ hK rm_30 0 rC_30 rfl (pp_in hB) rfl rupI_30 d_Model_hear_91 92 rfl ?_
    refine z_aload_n S d_Model_hear_92 rfl 1 rfl 93 rfl ?_
    refine z_get S hK hin_Model rm_0 rC_0 rfl 31 (Nat.le_of_ble_eq_true rfl) (ht _ w_571) (fun _ h => h) d_Model_hear_93 96 rfl (.ref (ad 31 0)) rfl ?_
    refine z_iload_n S d_Model_hear_96 rfl 0 rfl 97 rfl ?_
    refine z_aload_n S d_Model_hear_97 rfl 1 rfl 98 rfl ?_
    refine z_get S hK hin_Model rm_0 rC_0 rfl 9 (Nat.le_of_ble_eq_true rfl) (ht _ w_549) (fun _ h => h) d_Model_hear_98 101 rfl (.ref (ad 9 0)) rfl ?_
    refine z_iconst S d_Model_hear_101 5 (by decide) 102 rfl ?_
    refine z_iald S hK rm_9 0 rC_9 rfl (vp_c (c := 5) (N := 6) (by omega) (by omega)) d_Model_hear_102 103 rfl (x) rfl ?_
    refine z_iast S hJ hK rm_31 0 rC_31 rfl (pp_in hB) rfl rupI_31 d_Model_hear_103 104 rfl ?_
    refine z_aload_n S d_Model_hear_104 rfl 1 rfl 105 rfl ?_
    refine z_get S hK hin_Model rm_0 rC_0 rfl 32 (Nat.le_of_ble_eq_true rfl) (ht _ w_572) (fun _ h => h) d_Model_hear_105 108 rfl (.ref (ad 32 0)) rfl ?_
    refine z_iload_n S d_Model_hear_108 rfl 0 rfl 109 rfl ?_
    refine z_aload_n S d_Model_hear_109 rfl 1 rfl 110 rfl ?_
    refine z_get S hK hin_Model rm_0 rC_0 rfl 10 (Nat.le_of_ble_eq_true rfl) (ht _ w_550) (fun _ h => h) d_Model_hear_110 113 rfl (.ref (ad 10 0)) rfl ?_
    refine z_iconst S d_Model_hear_113 5 (by decide) 114 rfl ?_
    refine z_iald S hK rm_10 0 rC_10 rfl (vp_c (c := 5) (N := 6) (by omega) (by omega)) d_Model_hear_114 115 rfl ((-1)) rfl ?_
    refine z_iast S hJ hK rm_32 0 rC_32 rfl (pp_in hB) rfl rupI_32 d_Model_hear_115 116 rfl ?_
    refine z_aload_n S d_Model_hear_116 rfl 1 rfl 117 rfl ?_
    refine z_get S hK hin_Model rm_0 rC_0 rfl 33 (Nat.le_of_ble_eq_true rfl) (ht _ w_573) (fun _ h => h) d_Model_hear_117 120 rfl (.ref (ad 33 0)) rfl ?_
    refine z_iload_n S d_Model_hear_120 rfl 0 rfl 121 rfl ?_
    refine z_aload_n S d_Model_hear_121 rfl 1 rfl 122 rfl ?_
    refine z_get S hK hin_Model rm_0 rC_0 rfl 33 (Nat.le_of_ble_eq_true rfl) (ht _ w_573) (fun _ h => h) d_Model_hear_122 125 rfl (.ref (ad 33 0)) rfl ?_
    refine z_iload_n S d_Model_hear_125 rfl 2 rfl 126 rfl ?_
    refine z_iald S hK rm_33 0 rC_33 rfl hp d_Model_hear_126 127 rfl (s 33 0 p.toNatClampNeg) rfl ?_
    refine z_iast S hJ hK rm_33 0 rC_33 rfl (pp_in hB) rfl rupI_33 d_Model_hear_127 128 rfl ?_
    exact z_vret S hr hlk d_Model_hear_128 (rC_eq (by unfold S_Model_hear; simp only [if_pos h1] <;> rfl))
theorem d_Model_see_0 : decode prog_11_method_27_code 0 = .ok (.aload_n 0, 1) := by decide +kernel
theorem d_Model_see_1 : decode prog_11_method_27_code 1 = .ok (.getfield 87, 3) := by decide +kernel
theorem d_Model_see_4 : decode prog_11_method_27_code 4 = .ok (.iload_n 1, 1) := by decide +kernel
theorem d_Model_see_5 : decode prog_11_method_27_code 5 = .ok (.iaload, 1) := by decide +kernel
theorem d_Model_see_6 : decode prog_11_method_27_code 6 = .ok (.aload_n 0, 1) := by decide +kernel
theorem d_Model_see_7 : decode prog_11_method_27_code 7 = .ok (.getfield 26, 3) := by decide +kernel
theorem d_Model_see_10 : decode prog_11_method_27_code 10 = .ok (.iload_n 2, 1) := by decide +kernel
theorem d_Model_see_11 : decode prog_11_method_27_code 11 = .ok (.iaload, 1) := by decide +kernel
theorem d_Model_see_12 : decode prog_11_method_27_code 12 = .ok (.if_icmp .ge 5, 3) := by decide +kernel
theorem d_Model_see_15 : decode prog_11_method_27_code 15 = .ok (.iconst 0, 1) := by decide +kernel
theorem d_Model_see_16 : decode prog_11_method_27_code 16 = .ok (.ireturn, 1) := by decide +kernel
theorem d_Model_see_17 : decode prog_11_method_27_code 17 = .ok (.aload_n 0, 1) := by decide +kernel
theorem d_Model_see_18 : decode prog_11_method_27_code 18 = .ok (.getfield 87, 3) := by decide +kernel
theorem d_Model_see_21 : decode prog_11_method_27_code 21 = .ok (.iload_n 1, 1) := by decide +kernel
theorem d_Model_see_22 : decode prog_11_method_27_code 22 = .ok (.iaload, 1) := by decide +kernel
theorem d_Model_see_23 : decode prog_11_method_27_code 23 = .ok (.aload_n 0, 1) := by decide +kernel
theorem d_Model_see_24 : decode prog_11_method_27_code 24 = .ok (.getfield 26, 3) := by decide +kernel
theorem d_Model_see_27 : decode prog_11_method_27_code 27 = .ok (.iload_n 2, 1) := by decide +kernel
theorem d_Model_see_28 : decode prog_11_method_27_code 28 = .ok (.iaload, 1) := by decide +kernel
theorem d_Model_see_29 : decode prog_11_method_27_code 29 = .ok (.if_icmp .le 26, 3) := by decide +kernel
theorem d_Model_see_32 : decode prog_11_method_27_code 32 = .ok (.aload_n 0, 1) := by decide +kernel
theorem d_Model_see_33 : decode prog_11_method_27_code 33 = .ok (.iload_n 2, 1) := by decide +kernel
theorem d_Model_see_34 : decode prog_11_method_27_code 34 = .ok (.aload_n 0, 1) := by decide +kernel
theorem d_Model_see_35 : decode prog_11_method_27_code 35 = .ok (.getfield 87, 3) := by decide +kernel
theorem d_Model_see_38 : decode prog_11_method_27_code 38 = .ok (.iload_n 1, 1) := by decide +kernel
theorem d_Model_see_39 : decode prog_11_method_27_code 39 = .ok (.iaload, 1) := by decide +kernel
theorem d_Model_see_40 : decode prog_11_method_27_code 40 = .ok (.aload_n 0, 1) := by decide +kernel
theorem d_Model_see_41 : decode prog_11_method_27_code 41 = .ok (.getfield 90, 3) := by decide +kernel
theorem d_Model_see_44 : decode prog_11_method_27_code 44 = .ok (.iload_n 1, 1) := by decide +kernel
theorem d_Model_see_45 : decode prog_11_method_27_code 45 = .ok (.iaload, 1) := by decide +kernel
theorem d_Model_see_46 : decode prog_11_method_27_code 46 = .ok (.aload_n 0, 1) := by decide +kernel
theorem d_Model_see_47 : decode prog_11_method_27_code 47 = .ok (.getfield 93, 3) := by decide +kernel
theorem d_Model_see_50 : decode prog_11_method_27_code 50 = .ok (.iload_n 1, 1) := by decide +kernel
theorem d_Model_see_51 : decode prog_11_method_27_code 51 = .ok (.iaload, 1) := by decide +kernel
theorem d_Model_see_52 : decode prog_11_method_27_code 52 = .ok (.invokevirtual 183, 3) := by decide +kernel
theorem d_Model_see_55 : decode prog_11_method_27_code 55 = .ok (.aload_n 0, 1) := by decide +kernel
theorem d_Model_see_56 : decode prog_11_method_27_code 56 = .ok (.iload_n 2, 1) := by decide +kernel
theorem d_Model_see_57 : decode prog_11_method_27_code 57 = .ok (.invokevirtual 141, 3) := by decide +kernel
theorem d_Model_see_60 : decode prog_11_method_27_code 60 = .ok (.ifCond .eq 36, 3) := by decide +kernel
theorem d_Model_see_63 : decode prog_11_method_27_code 63 = .ok (.aload_n 0, 1) := by decide +kernel
theorem d_Model_see_64 : decode prog_11_method_27_code 64 = .ok (.getfield 41, 3) := by decide +kernel
theorem d_Model_see_67 : decode prog_11_method_27_code 67 = .ok (.iload_n 2, 1) := by decide +kernel
theorem d_Model_see_68 : decode prog_11_method_27_code 68 = .ok (.iaload, 1) := by decide +kernel
theorem d_Model_see_69 : decode prog_11_method_27_code 69 = .ok (.aload_n 0, 1) := by decide +kernel
theorem d_Model_see_70 : decode prog_11_method_27_code 70 = .ok (.getfield 96, 3) := by decide +kernel
theorem d_Model_see_73 : decode prog_11_method_27_code 73 = .ok (.iload_n 1, 1) := by decide +kernel
theorem d_Model_see_74 : decode prog_11_method_27_code 74 = .ok (.iaload, 1) := by decide +kernel
theorem d_Model_see_75 : decode prog_11_method_27_code 75 = .ok (.bipush 100, 2) := by decide +kernel
theorem d_Model_see_77 : decode prog_11_method_27_code 77 = .ok (.iadd, 1) := by decide +kernel
theorem d_Model_see_78 : decode prog_11_method_27_code 78 = .ok (.if_icmp .ge 18, 3) := by decide +kernel
theorem d_Model_see_81 : decode prog_11_method_27_code 81 = .ok (.aload_n 0, 1) := by decide +kernel
theorem d_Model_see_82 : decode prog_11_method_27_code 82 = .ok (.getfield 41, 3) := by decide +kernel
theorem d_Model_see_85 : decode prog_11_method_27_code 85 = .ok (.iload_n 2, 1) := by decide +kernel
theorem d_Model_see_86 : decode prog_11_method_27_code 86 = .ok (.aload_n 0, 1) := by decide +kernel
theorem d_Model_see_87 : decode prog_11_method_27_code 87 = .ok (.getfield 96, 3) := by decide +kernel
theorem d_Model_see_90 : decode prog_11_method_27_code 90 = .ok (.iload_n 1, 1) := by decide +kernel
theorem d_Model_see_91 : decode prog_11_method_27_code 91 = .ok (.iaload, 1) := by decide +kernel
theorem d_Model_see_92 : decode prog_11_method_27_code 92 = .ok (.bipush 100, 2) := by decide +kernel
theorem d_Model_see_94 : decode prog_11_method_27_code 94 = .ok (.iadd, 1) := by decide +kernel
theorem d_Model_see_95 : decode prog_11_method_27_code 95 = .ok (.iastore, 1) := by decide +kernel
theorem d_Model_see_96 : decode prog_11_method_27_code 96 = .ok (.iconst 1, 1) := by decide +kernel
theorem d_Model_see_97 : decode prog_11_method_27_code 97 = .ok (.ireturn, 1) := by decide +kernel
def S_Model_see (s : S3) (p : Int32) (x : Int32) : S3 := if (s 8 0 x.toNatClampNeg) ≤ (s 30 0 p.toNatClampNeg) then (if (s 30 0 p.toNatClampNeg) ≤ (s 8 0 x.toNatClampNeg) then (if (v_Model_leads (s 8 0 x.toNatClampNeg) (s 9 0 x.toNatClampNeg) x) = 0 then s else if ((s 33 0 p.toNatClampNeg) + 100) ≤ (s 14 0 x.toNatClampNeg) then s else u3 s 14 0 x.toNatClampNeg ((s 33 0 p.toNatClampNeg) + 100)) else if (v_Model_leads ((S_Model_enter s x (s 30 0 p.toNatClampNeg) (s 31 0 p.toNatClampNeg) (s 32 0 p.toNatClampNeg)) 8 0 x.toNatClampNeg) ((S_Model_enter s x (s 30 0 p.toNatClampNeg) (s 31 0 p.toNatClampNeg) (s 32 0 p.toNatClampNeg)) 9 0 x.toNatClampNeg) x) = 0 then (S_Model_enter s x (s 30 0 p.toNatClampNeg) (s 31 0 p.toNatClampNeg) (s 32 0 p.toNatClampNeg)) else if (((S_Model_enter s x (s 30 0 p.toNatClampNeg) (s 31 0 p.toNatClampNeg) (s 32 0 p.toNatClampNeg)) 33 0 p.toNatClampNeg) + 100) ≤ ((S_Model_enter s x (s 30 0 p.toNatClampNeg) (s 31 0 p.toNatClampNeg) (s 32 0 p.toNatClampNeg)) 14 0 x.toNatClampNeg) then (S_Model_enter s x (s 30 0 p.toNatClampNeg) (s 31 0 p.toNatClampNeg) (s 32 0 p.toNatClampNeg)) else u3 (S_Model_enter s x (s 30 0 p.toNatClampNeg) (s 31 0 p.toNatClampNeg) (s 32 0 p.toNatClampNeg)) 14 0 x.toNatClampNeg (((S_Model_enter s x (s 30 0 p.toNatClampNeg) (s 31 0 p.toNatClampNeg) (s 32 0 p.toNatClampNeg)) 33 0 p.toNatClampNeg) + 100)) else s
def v_Model_see (s : S3) (p : Int32) (x : Int32) : Int32 := if (s 8 0 x.toNatClampNeg) ≤ (s 30 0 p.toNatClampNeg) then (if (s 30 0 p.toNatClampNeg) ≤ (s 8 0 x.toNatClampNeg) then (if (v_Model_leads (s 8 0 x.toNatClampNeg) (s 9 0 x.toNatClampNeg) x) = 0 then 1 else if ((s 33 0 p.toNatClampNeg) + 100) ≤ (s 14 0 x.toNatClampNeg) then 1 else 1) else if (v_Model_leads ((S_Model_enter s x (s 30 0 p.toNatClampNeg) (s 31 0 p.toNatClampNeg) (s 32 0 p.toNatClampNeg)) 8 0 x.toNatClampNeg) ((S_Model_enter s x (s 30 0 p.toNatClampNeg) (s 31 0 p.toNatClampNeg) (s 32 0 p.toNatClampNeg)) 9 0 x.toNatClampNeg) x) = 0 then 1 else if (((S_Model_enter s x (s 30 0 p.toNatClampNeg) (s 31 0 p.toNatClampNeg) (s 32 0 p.toNatClampNeg)) 33 0 p.toNatClampNeg) + 100) ≤ ((S_Model_enter s x (s 30 0 p.toNatClampNeg) (s 31 0 p.toNatClampNeg) (s 32 0 p.toNatClampNeg)) 14 0 x.toNatClampNeg) then 1 else 1) else 0
theorem zbv_Model_see {s : S3} {p : Int32} {x : Int32} : zb (v_Model_see s p x) := by
  unfold v_Model_see
  repeat' split
  all_goals first | with_reducible exact zb_0 | with_reducible exact zb_1 | with_reducible exact zbv_Model_noServer | with_reducible exact zbv_Model_noClient | with_reducible exact zbv_Model_leads | with_reducible exact zbv_Model_fresh | with_reducible exact zbv_Model_skew | with_reducible exact zbv_Model_crash | with_reducible exact zbv_Model_ping | with_reducible exact zbv_Model_push | with_reducible exact zbv_Model_send | with_reducible exact zbv_Model_lose
set_option maxHeartbeats 4000000 in
set_option maxRecDepth 100000 in
theorem c_Model_see {l : Launch} {D : va_G} {K : Nat → ClassId} {ad : Nat → Nat → Nat} {s : S3} {p x : Int32} (hJ : zw_J (rRL) ad) (hW : vp_in (s 0 25 0) 33) (hB : fB s) (hla : ∀ j, vp_in (s 19 0 j) 180) (hp : vp_in p 34) (hx : vp_in x 5) : zM l y_Model_see ws_Model_see ({ frames := 3, cells := 0, slots := 0, locals := 70 }) D zCl (zTys K) (rRL) ad [.ref (ad 0 0), .int p, .int x] (rC K ad s) (some (.int (v_Model_see s p x))) (rC K ad (S_Model_see s p x)) := by
  refine zM.of (cc := prog_11_method_27_code) (maxL := 3) (ret := (Option.some Jvm.ClassFile.FieldType.boolean)) (by decide) rfl (Nat.le_of_ble_eq_true rfl) ?_
  intro pP eE U mM bL mT cO S hr hlk hK
  have hts := S.2.2.2.2
  have ht := fun w h => hts w (List.mem_cons_of_mem _ h)
  refine z_aload_n S d_Model_see_0 rfl 0 rfl 1 rfl ?_
  refine z_get S hK hin_Model rm_0 rC_0 rfl 30 (Nat.le_of_ble_eq_true rfl) (ht _ w_570) (fun _ h => h) d_Model_see_1 4 rfl (.ref (ad 30 0)) rfl ?_
  refine z_iload_n S d_Model_see_4 rfl 1 rfl 5 rfl ?_
  refine z_iald S hK rm_30 0 rC_30 rfl hp d_Model_see_5 6 rfl (s 30 0 p.toNatClampNeg) rfl ?_
  refine z_aload_n S d_Model_see_6 rfl 0 rfl 7 rfl ?_
  refine z_get S hK hin_Model rm_0 rC_0 rfl 8 (Nat.le_of_ble_eq_true rfl) (ht _ w_548) (fun _ h => h) d_Model_see_7 10 rfl (.ref (ad 8 0)) rfl ?_
  refine z_iload_n S d_Model_see_10 rfl 2 rfl 11 rfl ?_
  refine z_iald S hK rm_8 0 rC_8 rfl (vp_mono hx (by omega)) d_Model_see_11 12 rfl (s 8 0 x.toNatClampNeg) rfl ?_
  refine z_icmp_ge S d_Model_see_12 17 (by decide) 15 rfl (fun h1 => ?_) (fun h1 => ?_)
  · refine z_aload_n S d_Model_see_17 rfl 0 rfl 18 rfl ?_
    refine z_get S hK hin_Model rm_0 rC_0 rfl 30 (Nat.le_of_ble_eq_true rfl) (ht _ w_570) (fun _ h => h) d_Model_see_18 21 rfl (.ref (ad 30 0)) rfl ?_
    refine z_iload_n S d_Model_see_21 rfl 1 rfl 22 rfl ?_
    refine z_iald S hK rm_30 0 rC_30 rfl hp d_Model_see_22 23 rfl (s 30 0 p.toNatClampNeg) rfl ?_
    refine z_aload_n S d_Model_see_23 rfl 0 rfl 24 rfl ?_
    refine z_get S hK hin_Model rm_0 rC_0 rfl 8 (Nat.le_of_ble_eq_true rfl) (ht _ w_548) (fun _ h => h) d_Model_see_24 27 rfl (.ref (ad 8 0)) rfl ?_
    refine z_iload_n S d_Model_see_27 rfl 2 rfl 28 rfl ?_
    refine z_iald S hK rm_8 0 rC_8 rfl (vp_mono hx (by omega)) d_Model_see_28 29 rfl (s 8 0 x.toNatClampNeg) rfl ?_
    refine z_icmp_le S d_Model_see_29 55 (by decide) 32 rfl (fun h2 => ?_) (fun h2 => ?_)
    · refine z_aload_n S d_Model_see_55 rfl 0 rfl 56 rfl ?_
      refine z_iload_n S d_Model_see_56 rfl 2 rfl 57 rfl ?_
      refine z_callV S hK (As := [.int x]) (rest := []) (c_Model_leads (x := x) hJ hx) (cw_Model_leads hts w_682 rfl rfl ⟨(Nat.le_of_ble_eq_true rfl), (Nat.le_of_ble_eq_true rfl)⟩) rm_0 rC_0 rfl rfl rfl (Nat.le_of_ble_eq_true rfl) d_Model_see_57 60 rfl [.int (v_Model_leads (s 8 0 x.toNatClampNeg) (s 9 0 x.toNatClampNeg) x)] rfl ?_
      refine z_if_eq S d_Model_see_60 96 (by decide) 63 rfl (fun h3 => ?_) (fun h3 => ?_)
      · refine z_iconst S d_Model_see_96 1 (by decide) 97 rfl ?_
        exact z_zret S hr (zb_n zb_1) hlk d_Model_see_97 (by unfold v_Model_see; simp only [if_pos h1, if_pos h2, if_pos h3] <;> rfl) (rC_eq (by unfold S_Model_see; simp only [if_pos h1, if_pos h2, if_pos h3] <;> rfl))
      · refine z_aload_n S d_Model_see_63 rfl 0 rfl 64 rfl ?_
        refine z_get S hK hin_Model rm_0 rC_0 rfl 14 (Nat.le_of_ble_eq_true rfl) (ht _ w_554) (fun _ h => h) d_Model_see_64 67 rfl (.ref (ad 14 0)) rfl ?_
        refine z_iload_n S d_Model_see_67 rfl 2 rfl 68 rfl ?_
        refine z_iald S hK rm_14 0 rC_14 rfl hx d_Model_see_68 69 rfl (s 14 0 x.toNatClampNeg) rfl ?_
        refine z_aload_n S d_Model_see_69 rfl 0 rfl 70 rfl ?_
        refine z_get S hK hin_Model rm_0 rC_0 rfl 33 (Nat.le_of_ble_eq_true rfl) (ht _ w_573) (fun _ h => h) d_Model_see_70 73 rfl (.ref (ad 33 0)) rfl ?_
        refine z_iload_n S d_Model_see_73 rfl 1 rfl 74 rfl ?_
        refine z_iald S hK rm_33 0 rC_33 rfl hp d_Model_see_74 75 rfl (s 33 0 p.toNatClampNeg) rfl ?_
        refine z_bipush S d_Model_see_75 100 (by decide) 77 rfl ?_
        refine z_iadd S d_Model_see_77 78 rfl ?_
        refine z_icmp_ge S d_Model_see_78 96 (by decide) 81 rfl (fun h4 => ?_) (fun h4 => ?_)
        · refine z_iconst S d_Model_see_96 1 (by decide) 97 rfl ?_
          exact z_zret S hr (zb_n zb_1) hlk d_Model_see_97 (by unfold v_Model_see; simp only [if_pos h1, if_pos h2, if_neg h3, if_pos h4] <;> rfl) (rC_eq (by unfold S_Model_see; simp only [if_pos h1, if_pos h2, if_neg h3, if_pos h4] <;> rfl))
        · refine z_aload_n S d_Model_see_81 rfl 0 rfl 82 rfl ?_
          refine z_get S hK hin_Model rm_0 rC_0 rfl 14 (Nat.le_of_ble_eq_true rfl) (ht _ w_554) (fun _ h => h) d_Model_see_82 85 rfl (.ref (ad 14 0)) rfl ?_
          refine z_iload_n S d_Model_see_85 rfl 2 rfl 86 rfl ?_
          refine z_aload_n S d_Model_see_86 rfl 0 rfl 87 rfl ?_
          refine z_get S hK hin_Model rm_0 rC_0 rfl 33 (Nat.le_of_ble_eq_true rfl) (ht _ w_573) (fun _ h => h) d_Model_see_87 90 rfl (.ref (ad 33 0)) rfl ?_
          refine z_iload_n S d_Model_see_90 rfl 1 rfl 91 rfl ?_
          refine z_iald S hK rm_33 0 rC_33 rfl hp d_Model_see_91 92 rfl (s 33 0 p.toNatClampNeg) rfl ?_
          refine z_bipush S d_Model_see_92 100 (by decide) 94 rfl ?_
          refine z_iadd S d_Model_see_94 95 rfl ?_
          refine z_iast S hJ hK rm_14 0 rC_14 rfl hx rfl rupI_14 d_Model_see_95 96 rfl ?_
          refine z_iconst S d_Model_see_96 1 (by decide) 97 rfl ?_
          exact z_zret S hr (zb_n zb_1) hlk d_Model_see_97 (by unfold v_Model_see; simp only [if_pos h1, if_pos h2, if_neg h3, if_neg h4] <;> rfl) (rC_eq (by unfold S_Model_see; simp only [if_pos h1, if_pos h2, if_neg h3, if_neg h4] <;> rfl))
    · refine z_aload_n S d_Model_see_32 rfl 0 rfl 33 rfl ?_
      refine z_iload_n S d_Model_see_33 rfl 2 rfl 34 rfl ?_
      refine z_aload_n S d_Model_see_34 rfl 0 rfl 35 rfl ?_
      refine z_get S hK hin_Model rm_0 rC_0 rfl 30 (Nat.le_of_ble_eq_true rfl) (ht _ w_570) (fun _ h => h) d_Model_see_35 38 rfl (.ref (ad 30 0)) rfl ?_
      refine z_iload_n S d_Model_see_38 rfl 1 rfl 39 rfl ?_
      refine z_iald S hK rm_30 0 rC_30 rfl hp d_Model_see_39 40 rfl (s 30 0 p.toNatClampNeg) rfl ?_
      refine z_aload_n S d_Model_see_40 rfl 0 rfl 41 rfl ?_
      refine z_get S hK hin_Model rm_0 rC_0 rfl 31 (Nat.le_of_ble_eq_true rfl) (ht _ w_571) (fun _ h => h) d_Model_see_41 44 rfl (.ref (ad 31 0)) rfl ?_
      refine z_iload_n S d_Model_see_44 rfl 1 rfl 45 rfl ?_
      refine z_iald S hK rm_31 0 rC_31 rfl hp d_Model_see_45 46 rfl (s 31 0 p.toNatClampNeg) rfl ?_
      refine z_aload_n S d_Model_see_46 rfl 0 rfl 47 rfl ?_
      refine z_get S hK hin_Model rm_0 rC_0 rfl 32 (Nat.le_of_ble_eq_true rfl) (ht _ w_572) (fun _ h => h) d_Model_see_47 50 rfl (.ref (ad 32 0)) rfl ?_
      refine z_iload_n S d_Model_see_50 rfl 1 rfl 51 rfl ?_
      refine z_iald S hK rm_32 0 rC_32 rfl hp d_Model_see_51 52 rfl (s 32 0 p.toNatClampNeg) rfl ?_
      refine z_callV S hK (As := [.int x, .int (s 30 0 p.toNatClampNeg), .int (s 31 0 p.toNatClampNeg), .int (s 32 0 p.toNatClampNeg)]) (rest := []) (c_Model_enter (x := x) (v := s 30 0 p.toNatClampNeg) (p := s 31 0 p.toNatClampNeg) (b := s 32 0 p.toNatClampNeg) hJ hW hB hx (vp_mono (hla _) (by omega))) (cw_Model_enter hts w_738 rfl rfl ⟨(Nat.le_of_ble_eq_true rfl), (Nat.le_of_ble_eq_true rfl)⟩) rm_0 rC_0 rfl rfl rfl (Nat.le_of_ble_eq_true rfl) d_Model_see_52 55 rfl [] rfl ?_
      refine z_aload_n S d_Model_see_55 rfl 0 rfl 56 rfl ?_
      refine z_iload_n S d_Model_see_56 rfl 2 rfl 57 rfl ?_
      refine z_callV S hK (As := [.int x]) (rest := []) (c_Model_leads (x := x) hJ hx) (cw_Model_leads hts w_682 rfl rfl ⟨(Nat.le_of_ble_eq_true rfl), (Nat.le_of_ble_eq_true rfl)⟩) rm_0 rC_0 rfl rfl rfl (Nat.le_of_ble_eq_true rfl) d_Model_see_57 60 rfl [.int (v_Model_leads ((S_Model_enter s x (s 30 0 p.toNatClampNeg) (s 31 0 p.toNatClampNeg) (s 32 0 p.toNatClampNeg)) 8 0 x.toNatClampNeg) ((S_Model_enter s x (s 30 0 p.toNatClampNeg) (s 31 0 p.toNatClampNeg) (s 32 0 p.toNatClampNeg)) 9 0 x.toNatClampNeg) x)] rfl ?_
      refine z_if_eq S d_Model_see_60 96 (by decide) 63 rfl (fun h5 => ?_) (fun h5 => ?_)
      · refine z_iconst S d_Model_see_96 1 (by decide) 97 rfl ?_
        exact z_zret S hr (zb_n zb_1) hlk d_Model_see_97 (by unfold v_Model_see; simp only [if_pos h1, if_neg h2, if_pos h5] <;> rfl) (rC_eq (by unfold S_Model_see; simp only [if_pos h1, if_neg h2, if_pos h5] <;> rfl))
      · refine z_aload_n S d_Model_see_63 rfl 0 rfl 64 rfl ?_
        refine z_get S hK hin_Model rm_0 rC_0 rfl 14 (Nat.le_of_ble_eq_true rfl) (ht _ w_554) (fun _ h => h) d_Model_see_64 67 rfl (.ref (ad 14 0)) rfl ?_
        refine z_iload_n S d_Model_see_67 rfl 2 rfl 68 rfl ?_
        refine z_iald S hK rm_14 0 rC_14 rfl hx d_Model_see_68 69 rfl ((S_Model_enter s x (s 30 0 p.toNatClampNeg) (s 31 0 p.toNatClampNeg) (s 32 0 p.toNatClampNeg)) 14 0 x.toNatClampNeg) rfl ?_
        refine z_aload_n S d_Model_see_69 rfl 0 rfl 70 rfl ?_
        refine z_get S hK hin_Model rm_0 rC_0 rfl 33 (Nat.le_of_ble_eq_true rfl) (ht _ w_573) (fun _ h => h) d_Model_see_70 73 rfl (.ref (ad 33 0)) rfl ?_
        refine z_iload_n S d_Model_see_73 rfl 1 rfl 74 rfl ?_
        refine z_iald S hK rm_33 0 rC_33 rfl hp d_Model_see_74 75 rfl ((S_Model_enter s x (s 30 0 p.toNatClampNeg) (s 31 0 p.toNatClampNeg) (s 32 0 p.toNatClampNeg)) 33 0 p.toNatClampNeg) rfl ?_
        refine z_bipush S d_Model_see_75 100 (by decide) 77 rfl ?_
        refine z_iadd S d_Model_see_77 78 rfl ?_
        refine z_icmp_ge S d_Model_see_78 96 (by decide) 81 rfl (fun h6 => ?_) (fun h6 => ?_)
        · refine z_iconst S d_Model_see_96 1 (by decide) 97 rfl ?_
          exact z_zret S hr (zb_n zb_1) hlk d_Model_see_97 (by unfold v_Model_see; simp only [if_pos h1, if_neg h2, if_neg h5, if_pos h6] <;> rfl) (rC_eq (by unfold S_Model_see; simp only [if_pos h1, if_neg h2, if_neg h5, if_pos h6] <;> rfl))
        · refine z_aload_n S d_Model_see_81 rfl 0 rfl 82 rfl ?_
          refine z_get S hK hin_Model rm_0 rC_0 rfl 14 (Nat.le_of_ble_eq_true rfl) (ht _ w_554) (fun _ h => h) d_Model_see_82 85 rfl (.ref (ad 14 0)) rfl ?_
          refine z_iload_n S d_Model_see_85 rfl 2 rfl 86 rfl ?_
          refine z_aload_n S d_Model_see_86 rfl 0 rfl 87 rfl ?_
          refine z_get S hK hin_Model rm_0 rC_0 rfl 33 (Nat.le_of_ble_eq_true rfl) (ht _ w_573) (fun _ h => h) d_Model_see_87 90 rfl (.ref (ad 33 0)) rfl ?_
          refine z_iload_n S d_Model_see_90 rfl 1 rfl 91 rfl ?_
          refine z_iald S hK rm_33 0 rC_33 rfl hp d_Model_see_91 92 rfl ((S_Model_enter s x (s 30 0 p.toNatClampNeg) (s 31 0 p.toNatClampNeg) (s 32 0 p.toNatClampNeg)) 33 0 p.toNatClampNeg) rfl ?_
          refine z_bipush S d_Model_see_92 100 (by decide) 94 rfl ?_
          refine z_iadd S d_Model_see_94 95 rfl ?_
          refine z_iast S hJ hK rm_14 0 rC_14 rfl hx rfl rupI_14 d_Model_see_95 96 rfl ?_
          refine z_iconst S d_Model_see_96 1 (by decide) 97 rfl ?_
          exact z_zret S hr (zb_n zb_1) hlk d_Model_see_97 (by unfold v_Model_see; simp only [if_pos h1, if_neg h2, if_neg h5, if_neg h6] <;> rfl) (rC_eq (by unfold S_Model_see; simp only [if_pos h1, if_neg h2, if_neg h5, if_neg h6] <;> rfl))
  · refine z_iconst S d_Model_see_15 0 (by decide) 16 rfl ?_
    exact z_zret S hr (zb_n zb_0) hlk d_Model_see_16 (by unfold v_Model_see; simp only [if_neg h1] <;> rfl) (rC_eq (by unfold S_Model_see; simp only [if_neg h1] <;> rfl))
theorem d_Model_filledBack_0 : decode prog_11_method_29_code 0 = .ok (.aload_n 0, 1) := by decide +kernel
theorem d_Model_filledBack_1 : decode prog_11_method_29_code 1 = .ok (.getfield 87, 3) := by decide +kernel
theorem d_Model_filledBack_4 : decode prog_11_method_29_code 4 = .ok (.iload_n 1, 1) := by decide +kernel
theorem d_Model_filledBack_5 : decode prog_11_method_29_code 5 = .ok (.iaload, 1) := by decide +kernel
theorem d_Model_filledBack_6 : decode prog_11_method_29_code 6 = .ok (.aload_n 0, 1) := by decide +kernel
theorem d_Model_filledBack_7 : decode prog_11_method_29_code 7 = .ok (.getfield 26, 3) := by decide +kernel
theorem d_Model_filledBack_10 : decode prog_11_method_29_code 10 = .ok (.iload_n 2, 1) := by decide +kernel
theorem d_Model_filledBack_11 : decode prog_11_method_29_code 11 = .ok (.iaload, 1) := by decide +kernel
theorem d_Model_filledBack_12 : decode prog_11_method_29_code 12 = .ok (.if_icmp .ne 20, 3) := by decide +kernel
theorem d_Model_filledBack_15 : decode prog_11_method_29_code 15 = .ok (.aload_n 0, 1) := by decide +kernel
theorem d_Model_filledBack_16 : decode prog_11_method_29_code 16 = .ok (.iload_n 2, 1) := by decide +kernel
theorem d_Model_filledBack_17 : decode prog_11_method_29_code 17 = .ok (.invokevirtual 141, 3) := by decide +kernel
theorem d_Model_filledBack_20 : decode prog_11_method_29_code 20 = .ok (.ifCond .eq 12, 3) := by decide +kernel
theorem d_Model_filledBack_23 : decode prog_11_method_29_code 23 = .ok (.aload_n 0, 1) := by decide +kernel
theorem d_Model_filledBack_24 : decode prog_11_method_29_code 24 = .ok (.getfield 44, 3) := by decide +kernel
theorem d_Model_filledBack_27 : decode prog_11_method_29_code 27 = .ok (.iload_n 2, 1) := by decide +kernel
theorem d_Model_filledBack_28 : decode prog_11_method_29_code 28 = .ok (.baload, 1) := by decide +kernel
theorem d_Model_filledBack_29 : decode prog_11_method_29_code 29 = .ok (.ifCond .eq 5, 3) := by decide +kernel
theorem d_Model_filledBack_32 : decode prog_11_method_29_code 32 = .ok (.iconst 0, 1) := by decide +kernel
theorem d_Model_filledBack_33 : decode prog_11_method_29_code 33 = .ok (.ireturn, 1) := by decide +kernel
theorem d_Model_filledBack_34 : decode prog_11_method_29_code 34 = .ok (.aload_n 0, 1) := by decide +kernel
theorem d_Model_filledBack_35 : decode prog_11_method_29_code 35 = .ok (.getfield 44, 3) := by decide +kernel
theorem d_Model_filledBack_38 : decode prog_11_method_29_code 38 = .ok (.iload_n 2, 1) := by decide +kernel
theorem d_Model_filledBack_39 : decode prog_11_method_29_code 39 = .ok (.iconst 1, 1) := by decide +kernel
theorem d_Model_filledBack_40 : decode prog_11_method_29_code 40 = .ok (.bastore, 1) := by decide +kernel
theorem d_Model_filledBack_41 : decode prog_11_method_29_code 41 = .ok (.iconst 1, 1) := by decide +kernel
theorem d_Model_filledBack_42 : decode prog_11_method_29_code 42 = .ok (.ireturn, 1) := by decide +kernel
def S_Model_filledBack (s : S3) (p : Int32) (x : Int32) : S3 := if (s 30 0 p.toNatClampNeg) = (s 8 0 x.toNatClampNeg) then (if (v_Model_leads (s 8 0 x.toNatClampNeg) (s 9 0 x.toNatClampNeg) x) = 0 then s else if (s 15 0 x.toNatClampNeg) = 0 then (u3 s 15 0 x.toNatClampNeg 1) else s) else s
def v_Model_filledBack (s : S3) (p : Int32) (x : Int32) : Int32 := if (s 30 0 p.toNatClampNeg) = (s 8 0 x.toNatClampNeg) then (if (v_Model_leads (s 8 0 x.toNatClampNeg) (s 9 0 x.toNatClampNeg) x) = 0 then 0 else if (s 15 0 x.toNatClampNeg) = 0 then 1 else 0) else 0
theorem zbv_Model_filledBack {s : S3} {p : Int32} {x : Int32} : zb (v_Model_filledBack s p x) := by
  unfold v_Model_filledBack
  repeat' split
  all_goals first | with_reducible exact zb_0 | with_reducible exact zb_1 | with_reducible exact zbv_Model_noServer | with_reducible exact zbv_Model_noClient | with_reducible exact zbv_Model_leads | with_reducible exact zbv_Model_fresh | with_reducible exact zbv_Model_skew | with_reducible exact zbv_Model_crash | with_reducible exact zbv_Model_ping | with_reducible exact zbv_Model_push | with_reducible exact zbv_Model_send | with_reducible exact zbv_Model_lose | with_reducible exact zbv_Model_see
set_option maxHeartbeats 4000000 in
set_option maxRecDepth 100000 in
theorem c_Model_filledBack {l : Launch} {D : va_G} {K : Nat → ClassId} {ad : Nat → Nat → Nat} {s : S3} {p x : Int32} (hJ : zw_J (rRL) ad) (hp : vp_in p 34) (hx : vp_in x 5) : zM l y_Model_filledBack ws_Model_filledBack ({ frames := 1, cells := 0, slots := 0, locals := 21 }) D zCl (zTys K) (rRL) ad [.ref (ad 0 0), .int p, .int x] (rC K ad s) (some (.int (v_Model_filledBack s p x))) (rC K ad (S_Model_filledBack s p x)) := by
  refine zM.of (cc := prog_11_method_29_code) (maxL := 3) (ret := (Option.some Jvm.ClassFile.FieldType.boolean)) (by decide) rfl (Nat.le_of_ble_eq_true rfl) ?_
  intro pP eE U mM bL mT cO S hr hlk hK
  have hts := S.2.2.2.2
  have ht := fun w h => hts w (List.mem_cons_of_mem _ h)
  refine z_aload_n S d_Model_filledBack_0 rfl 0 rfl 1 rfl ?_
  refine z_get S hK hin_Model rm_0 rC_0 rfl 30 (Nat.le_of_ble_eq_true rfl) (ht _ w_570) (fun _ h => h) d_Model_filledBack_1 4 rfl (.ref (ad 30 0)) rfl ?_
  refine z_iload_n S d_Model_filledBack_4 rfl 1 rfl 5 rfl ?_
  refine z_iald S hK rm_30 0 rC_30 rfl hp d_Model_filledBack_5 6 rfl (s 30 0 p.toNatClampNeg) rfl ?_
  refine z_aload_n S d_Model_filledBack_6 rfl 0 rfl 7 rfl ?_
  refine z_get S hK hin_Model rm_0 rC_0 rfl 8 (Nat.le_of_ble_eq_true rfl) (ht _ w_548) (fun _ h => h) d_Model_filledBack_7 10 rfl (.ref (ad 8 0)) rfl ?_
  refine z_iload_n S d_Model_filledBack_10 rfl 2 rfl 11 rfl ?_
  refine z_iald S hK rm_8 0 rC_8 rfl (vp_mono hx (by omega)) d_Model_filledBack_11 12 rfl (s 8 0 x.toNatClampNeg) rfl ?_
  refine z_icmp_ne S d_Model_filledBack_12 32 (by decide) 15 rfl (fun h1 => ?_) (fun h1 => ?_)
  · refine z_iconst S d_Model_filledBack_32 0 (by decide) 33 rfl ?_
    exact z_zret S hr (zb_n zb_0) hlk d_Model_filledBack_33 (by unfold v_Model_filledBack; simp only [if_neg h1] <;> rfl) (rC_eq (by unfold S_Model_filledBack; simp only [if_neg h1] <;> rfl))
  · refine z_aload_n S d_Model_filledBack_15 rfl 0 rfl 16 rfl ?_
    refine z_iload_n S d_Model_filledBack_16 rfl 2 rfl 17 rfl ?_
    refine z_callV S hK (As := [.int x]) (rest := []) (c_Model_leads (x := x) hJ hx) (cw_Model_leads hts w_682 rfl rfl ⟨(Nat.le_of_ble_eq_true rfl), (Nat.le_of_ble_eq_true rfl)⟩) rm_0 rC_0 rfl rfl rfl (Nat.le_of_ble_eq_true rfl) d_Model_filledBack_17 20 rfl [.int (v_Model_leads (s 8 0 x.toNatClampNeg) (s 9 0 x.toNatClampNeg) x)] rfl ?_
    refine z_if_eq S d_Model_filledBack_20 32 (by decide) 23 rfl (fun h2 => ?_) (fun h2 => ?_)
    · refine z_iconst S d_Model_filledBack_32 0 (by decide) 33 rfl ?_
      exact z_zret S hr (zb_n zb_0) hlk d_Model_filledBack_33 (by unfold v_Model_filledBack; simp only [if_pos h1, if_pos h2] <;> rfl) (rC_eq (by unfold S_Model_filledBack; simp only [if_pos h1, if_pos h2] <;> rfl))
    · refine z_aload_n S d_Model_filledBack_23 rfl 0 rfl 24 rfl ?_
      refine z_get S hK hin_Model rm_0 rC_0 rfl 15 (Nat.le_of_ble_eq_true rfl) (ht _ w_555) (fun _ h => h) d_Model_filledBack_24 27 rfl (.ref (ad 15 0)) rfl ?_
      refine z_iload_n S d_Model_filledBack_27 rfl 2 rfl 28 rfl ?_
      refine z_zald S hK rm_15 1 rC_15 rfl hx d_Model_filledBack_28 29 rfl (s 15 0 x.toNatClampNeg) rfl ?_
      refine z_if_eq S d_Model_filledBack_29 34 (by decide) 32 rfl (fun h3 => ?_) (fun h3 => ?_)
      · refine z_aload_n S d_Model_filledBack_34 rfl 0 rfl 35 rfl ?_
        refine z_get S hK hin_Model rm_0 rC_0 rfl 15 (Nat.le_of_ble_eq_true rfl) (ht _ w_555) (fun _ h => h) d_Model_filledBack_35 38 rfl (.ref (ad 15 0)) rfl ?_
        refine z_iload_n S d_Model_filledBack_38 rfl 2 rfl 39 rfl ?_
        refine z_iconst S d_Model_filledBack_39 1 (by decide) 40 rfl ?_
        refine z_zast S hJ hK rm_15 1 rC_15 rfl hx (zb_v zb_1) rupI_15 d_Model_filledBack_40 41 rfl ?_
        refine z_iconst S d_Model_filledBack_41 1 (by decide) 42 rfl ?_
        exact z_zret S hr (zb_n zb_1) hlk d_Model_filledBack_42 (by unfold v_Model_filledBack; simp only [if_pos h1, if_neg h2, if_pos h3] <;> rfl) (rC_eq (by unfold S_Model_filledBack; simp only [if_pos h1, if_neg h2, if_pos h3] <;> rfl))
      · refine z_iconst S d_Model_filledBack_32 0 (by decide) 33 rfl ?_
        exact z_zret S hr (zb_n zb_0) hlk d_Model_filledBack_33 (by unfold v_Model_filledBack; simp only [if_pos h1, if_neg h2, if_neg h3] <;> rfl) (rC_eq (by unfold S_Model_filledBack; simp only [if_pos h1, if_neg h2, if_neg h3] <;> rfl))
theorem d_Model_pass_0 : decode prog_11_method_30_code 0 = .ok (.aload_n 0, 1) := by decide +kernel
theorem d_Model_pass_1 : decode prog_11_method_30_code 1 = .ok (.getfield 87, 3) := by decide +kernel
theorem d_Model_pass_4 : decode prog_11_method_30_code 4 = .ok (.iload_n 1, 1) := by decide +kernel
theorem d_Model_pass_5 : decode prog_11_method_30_code 5 = .ok (.iaload, 1) := by decide +kernel
theorem d_Model_pass_6 : decode prog_11_method_30_code 6 = .ok (.aload_n 0, 1) := by decide +kernel
theorem d_Model_pass_7 : decode prog_11_method_30_code 7 = .ok (.getfield 26, 3) := by decide +kernel
theorem d_Model_pass_10 : decode prog_11_method_30_code 10 = .ok (.iload_n 2, 1) := by decide +kernel
theorem d_Model_pass_11 : decode prog_11_method_30_code 11 = .ok (.iaload, 1) := by decide +kernel
theorem d_Model_pass_12 : decode prog_11_method_30_code 12 = .ok (.if_icmp .ne 22, 3) := by decide +kernel
theorem d_Model_pass_15 : decode prog_11_method_30_code 15 = .ok (.aload_n 0, 1) := by decide +kernel
theorem d_Model_pass_16 : decode prog_11_method_30_code 16 = .ok (.getfield 32, 3) := by decide +kernel
theorem d_Model_pass_19 : decode prog_11_method_30_code 19 = .ok (.iload_n 2, 1) := by decide +kernel
theorem d_Model_pass_20 : decode prog_11_method_30_code 20 = .ok (.iaload, 1) := by decide +kernel
theorem d_Model_pass_21 : decode prog_11_method_30_code 21 = .ok (.iload_n 2, 1) := by decide +kernel
theorem d_Model_pass_22 : decode prog_11_method_30_code 22 = .ok (.if_icmp .ne 12, 3) := by decide +kernel
theorem d_Model_pass_25 : decode prog_11_method_30_code 25 = .ok (.aload_n 0, 1) := by decide +kernel
theorem d_Model_pass_26 : decode prog_11_method_30_code 26 = .ok (.getfield 47, 3) := by decide +kernel
theorem d_Model_pass_29 : decode prog_11_method_30_code 29 = .ok (.iload_n 2, 1) := by decide +kernel
theorem d_Model_pass_30 : decode prog_11_method_30_code 30 = .ok (.baload, 1) := by decide +kernel
theorem d_Model_pass_31 : decode prog_11_method_30_code 31 = .ok (.ifCond .ne 5, 3) := by decide +kernel
theorem d_Model_pass_34 : decode prog_11_method_30_code 34 = .ok (.iconst 0, 1) := by decide +kernel
theorem d_Model_pass_35 : decode prog_11_method_30_code 35 = .ok (.ireturn, 1) := by decide +kernel
theorem d_Model_pass_36 : decode prog_11_method_30_code 36 = .ok (.aload_n 0, 1) := by decide +kernel
theorem d_Model_pass_37 : decode prog_11_method_30_code 37 = .ok (.getfield 96, 3) := by decide +kernel
theorem d_Model_pass_40 : decode prog_11_method_30_code 40 = .ok (.iload_n 1, 1) := by decide +kernel
theorem d_Model_pass_41 : decode prog_11_method_30_code 41 = .ok (.iaload, 1) := by decide +kernel
theorem d_Model_pass_42 : decode prog_11_method_30_code 42 = .ok (.istore_n 3, 1) := by decide +kernel
theorem d_Model_pass_43 : decode prog_11_method_30_code 43 = .ok (.aload_n 0, 1) := by decide +kernel
theorem d_Model_pass_44 : decode prog_11_method_30_code 44 = .ok (.getfield 56, 3) := by decide +kernel
theorem d_Model_pass_47 : decode prog_11_method_30_code 47 = .ok (.iload_n 2, 1) := by decide +kernel
theorem d_Model_pass_48 : decode prog_11_method_30_code 48 = .ok (.iaload, 1) := by decide +kernel
theorem d_Model_pass_49 : decode prog_11_method_30_code 49 = .ok (.iload_n 3, 1) := by decide +kernel
theorem d_Model_pass_50 : decode prog_11_method_30_code 50 = .ok (.if_icmp .ne 16, 3) := by decide +kernel
theorem d_Model_pass_53 : decode prog_11_method_30_code 53 = .ok (.aload_n 0, 1) := by decide +kernel
theorem d_Model_pass_54 : decode prog_11_method_30_code 54 = .ok (.iload_n 2, 1) := by decide +kernel
theorem d_Model_pass_55 : decode prog_11_method_30_code 55 = .ok (.aload_n 0, 1) := by decide +kernel
theorem d_Model_pass_56 : decode prog_11_method_30_code 56 = .ok (.getfield 99, 3) := by decide +kernel
theorem d_Model_pass_59 : decode prog_11_method_30_code 59 = .ok (.iload_n 1, 1) := by decide +kernel
theorem d_Model_pass_60 : decode prog_11_method_30_code 60 = .ok (.iaload, 1) := by decide +kernel
theorem d_Model_pass_61 : decode prog_11_method_30_code 61 = .ok (.invokevirtual 187, 3) := by decide +kernel
theorem d_Model_pass_64 : decode prog_11_method_30_code 64 = .ok (.istore 4, 2) := by decide +kernel
theorem d_Model_pass_66 : decode prog_11_method_30_code 66 = .ok (.aload_n 0, 1) := by decide +kernel
theorem d_Model_pass_67 : decode prog_11_method_30_code 67 = .ok (.bipush 6, 2) := by decide +kernel
theorem d_Model_pass_69 : decode prog_11_method_30_code 69 = .ok (.aload_n 0, 1) := by decide +kernel
theorem d_Model_pass_70 : decode prog_11_method_30_code 70 = .ok (.getfield 29, 3) := by decide +kernel
theorem d_Model_pass_73 : decode prog_11_method_30_code 73 = .ok (.iload_n 2, 1) := by decide +kernel
theorem d_Model_pass_74 : decode prog_11_method_30_code 74 = .ok (.iaload, 1) := by decide +kernel
theorem d_Model_pass_75 : decode prog_11_method_30_code 75 = .ok (.invokevirtual 115, 3) := by decide +kernel
theorem d_Model_pass_78 : decode prog_11_method_30_code 78 = .ok (.istore 4, 2) := by decide +kernel
theorem d_Model_pass_80 : decode prog_11_method_30_code 80 = .ok (.aload_n 0, 1) := by decide +kernel
theorem d_Model_pass_81 : decode prog_11_method_30_code 81 = .ok (.getfield 87, 3) := by decide +kernel
theorem d_Model_pass_84 : decode prog_11_method_30_code 84 = .ok (.iload 4, 2) := by decide +kernel
theorem d_Model_pass_86 : decode prog_11_method_30_code 86 = .ok (.aload_n 0, 1) := by decide +kernel
theorem d_Model_pass_87 : decode prog_11_method_30_code 87 = .ok (.getfield 87, 3) := by decide +kernel
theorem d_Model_pass_90 : decode prog_11_method_30_code 90 = .ok (.iload_n 1, 1) := by decide +kernel
theorem d_Model_pass_91 : decode prog_11_method_30_code 91 = .ok (.iaload, 1) := by decide +kernel
theorem d_Model_pass_92 : decode prog_11_method_30_code 92 = .ok (.iastore, 1) := by decide +kernel
theorem d_Model_pass_93 : decode prog_11_method_30_code 93 = .ok (.aload_n 0, 1) := by decide +kernel
theorem d_Model_pass_94 : decode prog_11_method_30_code 94 = .ok (.getfield 96, 3) := by decide +kernel
theorem d_Model_pass_97 : decode prog_11_method_30_code 97 = .ok (.iload 4, 2) := by decide +kernel
theorem d_Model_pass_99 : decode prog_11_method_30_code 99 = .ok (.iload_n 3, 1) := by decide +kernel
theorem d_Model_pass_100 : decode prog_11_method_30_code 100 = .ok (.iastore, 1) := by decide +kernel
theorem d_Model_pass_101 : decode prog_11_method_30_code 101 = .ok (.iconst 1, 1) := by decide +kernel
theorem d_Model_pass_102 : decode prog_11_method_30_code 102 = .ok (.ireturn, 1) := by decide +kernel
def S_Model_pass (s : S3) (p : Int32) (x : Int32) : S3 := if (s 30 0 p.toNatClampNeg) = (s 8 0 x.toNatClampNeg) then (if (s 10 0 x.toNatClampNeg) = x then (if (s 16 0 x.toNatClampNeg) = 0 then s else if (s 19 0 x.toNatClampNeg) = (s 33 0 p.toNatClampNeg) then (u3 (u3 (S_Model_post (S_Model_perform s x (s 34 0 p.toNatClampNeg)) 6 (s 9 0 x.toNatClampNeg)) 30 0 ((ppF (s 0 25 0) (s 27 0)).toNatClampNeg) (s 30 0 p.toNatClampNeg)) 33 0 ((ppF (s 0 25 0) (s 27 0)).toNatClampNeg) (s 33 0 p.toNatClampNeg)) else u3 (u3 (S_Model_post s 6 (s 9 0 x.toNatClampNeg)) 30 0 ((ppF (s 0 25 0) (s 27 0)).toNatClampNeg) (s 30 0 p.toNatClampNeg)) 33 0 ((ppF (s 0 25 0) (s 27 0)).toNatClampNeg) (s 33 0 p.toNatClampNeg)) else s) else s
def v_Model_pass (s : S3) (p : Int32) (x : Int32) : Int32 := if (s 30 0 p.toNatClampNeg) = (s 8 0 x.toNatClampNeg) then (if (s 10 0 x.toNatClampNeg) = x then (if (s 16 0 x.toNatClampNeg) = 0 then 0 else if (s 19 0 x.toNatClampNeg) = (s 33 0 p.toNatClampNeg) then 1 else 1) else 0) else 0
theorem zbv_Model_pass {s : S3} {p : Int32} {x : Int32} : zb (v_Model_pass s p x) := by
  unfold v_Model_pass
  repeat' split
  all_goals first | with_reducible exact zb_0 | with_reducible exact zb_1 | with_reducible exact zbv_Model_noServer | with_reducible exact zbv_Model_noClient | with_reducible exact zbv_Model_leads | with_reducible exact zbv_Model_fresh | with_reducible exact zbv_Model_skew | with_reducible exact zbv_Model_crash | with_reducible exact zbv_Model_ping | with_reducible exact zbv_Model_push | with_reducible exact zbv_Model_send | with_reducible exact zbv_Model_lose | with_reducible exact zbv_Model_see | with_reducible exact zbv_Model_filledBack
set_option maxHeartbeats 4000000 in
set_option maxRecDepth 100000 in
theorem c_Model_pass {l : Launch} {D : va_G} {K : Nat → ClassId} {ad : Nat → Nat → Nat} {s : S3} {p x : Int32} (hJ : zw_J (rRL) ad) (hW : vp_in (s 0 25 0) 33) (hB : fB s) (hla : ∀ j, vp_in (s 19 0 j) 180) (hd : ∀ j, vp_in (s 20 0 j) 512) (hwh : vp_in (s 34 0 p.toNatClampNeg) 512) (hp : vp_in p 34) (hx : vp_in x 5) : zM l y_Model_pass ws_Model_pass ({ frames := 2, cells := 0, slots := 0, locals := 48 }) D zCl (zTys K) (rRL) ad [.ref (ad 0 0), .int p, .int x] (rC K ad s) (some (.int (v_Model_pass s p x))) (rC K ad (S_Model_pass s p x)) := by
  refine zM.of (cc := prog_11_method_30_code) (maxL := 5) (ret := (Option.some Jvm.ClassFile.FieldType.boolean)) (by decide) rfl (Nat.le_of_ble_eq_true rfl) ?_
  intro pP eE U mM bL mT cO S hr hlk hK
  have hts := S.2.2.2.2
  have ht := fun w h => hts w (List.mem_cons_of_mem _ h)
  refine z_aload_n S d_Model_pass_0 rfl 0 rfl 1 rfl ?_
  refine z_get S hK hin_Model rm_0 rC_0 rfl 30 (Nat.le_of_ble_eq_true rfl) (ht _ w_570) (fun _ h => h) d_Model_pass_1 4 rfl (.ref (ad 30 0)) rfl ?_
  refine z_iload_n S d_Model_pass_4 rfl 1 rfl 5 rfl ?_
  refine z_iald S hK rm_30 0 rC_30 rfl hp d_Model_pass_5 6 rfl (s 30 0 p.toNatClampNeg) rfl ?_
  refine z_aload_n S d_Model_pass_6 rfl 0 rfl 7 rfl ?_
  refine z_get S hK hin_Model rm_0 rC_0 rfl 8 (Nat.le_of_ble_eq_true rfl) (ht _ w_548) (fun _ h => h) d_Model_pass_7 10 rfl (.ref (ad 8 0)) rfl ?_
  refine z_iload_n S d_Model_pass_10 rfl 2 rfl 11 rfl ?_
  refine z_iald S hK rm_8 0 rC_8 rfl (vp_mono hx (by omega)) d_Model_pass_11 12 rfl (s 8 0 x.toNatClampNeg) rfl ?_
  refine z_icmp_ne S d_Model_pass_12 34 (by decide) 15 rfl (fun h1 => ?_) (fun h1 => ?_)
  · refine z_iconst S d_Model_pass_34 0 (by decide) 35 rfl ?_
    exact z_zret S hr (zb_n zb_0) hlk d_Model_pass_35 (by unfold v_Model_pass; simp only [if_neg h1] <;> rfl) (rC_eq (by unfold S_Model_pass; simp only [if_neg h1] <;> rfl))
  · refine z_aload_n S d_Model_pass_15 rfl 0 rfl 16 rfl ?_
    refine z_get S hK hin_Model rm_0 rC_0 rfl 10 (Nat.le_of_ble_eq_true rfl) (ht _ w_550) (fun _ h => h) d_Model_pass_16 19 rfl (.ref (ad 10 0)) rfl ?_
    refine z_iload_n S d_Model_pass_19 rfl 2 rfl 20 rfl ?_
    refine z_iald S hK rm_10 0 rC_10 rfl (vp_mono hx (by omega)) d_Model_pass_20 21 rfl (s 10 0 x.toNatClampNeg) rfl ?_
    refine z_iload_n S d_Model_pass_21 rfl 2 rfl 22 rfl ?_
    refine z_icmp_ne S d_Model_pass_22 34 (by decide) 25 rfl (fun h2 => ?_) (fun h2 => ?_)
    · refine z_iconst S d_Model_pass_34 0 (by decide) 35 rfl ?_
      exact z_zret S hr (zb_n zb_0) hlk d_Model_pass_35 (by unfold v_Model_pass; simp only [if_pos h1, if_neg h2] <;> rfl) (rC_eq (by unfold S_Model_pass; simp only [if_pos h1, if_neg h2] <;> rfl))
    · refine z_aload_n S d_Model_pass_25 rfl 0 rfl 26 rfl ?_
      refine z_get S hK hin_Model rm_0 rC_0 rfl 16 (Nat.le_of_ble_eq_true rfl) (ht _ w_556) (fun _ h => h) d_Model_pass_26 29 rfl (.ref (ad 16 0)) rfl ?_
      refine z_iload_n S d_Model_pass_29 rfl 2 rfl 30 rfl ?_
      refine z_zald S hK rm_16 1 rC_16 rfl hx d_Model_pass_30 31 rfl (s 16 0 x.toNatClampNeg) rfl ?_
      refine z_if_ne S d_Model_pass_31 36 (by decide) 34 rfl (fun h3 => ?_) (fun h3 => ?_)
      · refine z_aload_n S d_Model_pass_36 rfl 0 rfl 37 rfl ?_
        refine z_get S hK hin_Model rm_0 rC_0 rfl 33 (Nat.le_of_ble_eq_true rfl) (ht _ w_573) (fun _ h => h) d_Model_pass_37 40 rfl (.ref (ad 33 0)) rfl ?_
        refine z_iload_n S d_Model_pass_40 rfl 1 rfl 41 rfl ?_
        refine z_iald S hK rm_33 0 rC_33 rfl hp d_Model_pass_41 42 rfl (s 33 0 p.toNatClampNeg) rfl ?_
        refine z_istore_n S d_Model_pass_42 rfl (Nat.le_of_ble_eq_true rfl) [(3, .int (s 33 0 p.toNatClampNeg)), (0, .ref (ad 0 0)), (1, .int p), (2, .int x)] rfl 43 rfl ?_
        refine z_aload_n S d_Model_pass_43 rfl 1 rfl 44 rfl ?_
        refine z_get S hK hin_Model rm_0 rC_0 rfl 19 (Nat.le_of_ble_eq_true rfl) (ht _ w_559) (fun _ h => h) d_Model_pass_44 47 rfl (.ref (ad 19 0)) rfl ?_
        refine z_iload_n S d_Model_pass_47 rfl 3 rfl 48 rfl ?_
        refine z_iald S hK rm_19 0 rC_19 rfl hx d_Model_pass_48 49 rfl (s 19 0 x.toNatClampNeg) rfl ?_
        refine z_iload_n S d_Model_pass_49 rfl 0 rfl 50 rfl ?_
        refine z_icmp_ne S d_Model_pass_50 66 (by decide) 53 rfl (fun h4 => ?_) (fun h4 => ?_)
        · refine z_aload_n S d_Model_pass_66 rfl 1 rfl 67 rfl ?_
          refine z_bipush S d_Model_pass_67 6 (by decide) 69 rfl ?_
          refine z_aload_n S d_Model_pass_69 rfl 1 rfl 70 rfl ?_
          refine z_get S hK hin_Model rm_0 rC_0 rfl 9 (Nat.le_of_ble_eq_true rfl) (ht _ w_549) (fun _ h => h) d_Model_pass_70 73 rfl (.ref (ad 9 0)) rfl ?_
          refine z_iload_n S d_Model_pass_73 rfl 3 rfl 74 rfl ?_
          refine z_iald S hK rm_9 0 rC_9 rfl (vp_mono hx (by omega)) d_Model_pass_74 75 rfl (s 9 0 x.toNatClampNeg) rfl ?_
          refine z_callV S hK (As := [.int 6, .int (s 9 0 x.toNatClampNeg)]) (rest := []) (c_Model_post (k := 6) (a := s 9 0 x.toNatClampNeg) hJ hW hB) (cw_Model_post hts w_678 rfl rfl ⟨(Nat.le_of_ble_eq_true rfl), (Nat.le_of_ble_eq_true rfl)⟩) rm_0 rC_0 rfl rfl rfl (Nat.le_of_ble_eq_true rfl) d_Model_pass_75 78 rfl [.int (ppF (s 0 25 0) (s 27 0))] rfl ?_
          refine z_istore S d_Model_pass_78 (Nat.le_of_ble_eq_true rfl) [(4, .int (ppF (s 0 25 0) (s 27 0))), (3, .int (s 33 0 p.toNatClampNeg)), (0, .ref (ad 0 0)), (1, .int p), (2, .int x)] rfl 80 rfl ?_
          refine z_aload_n S d_Model_pass_80 rfl 2 rfl 81 rfl ?_
          refine z_get S hK hin_Model rm_0 rC_0 rfl 30 (Nat.le_of_ble_eq_true rfl) (ht _ w_570) (fun _ h => h) d_Model_pass_81 84 rfl (.ref (ad 30 0)) rfl ?_
          refine z_iload S d_Model_pass_84 0 rfl 86 rfl ?_
          refine z_aload_n S d_Model_pass_86 rfl 2 rfl 87 rfl ?_
          refine z_get S hK hin_Model rm_0 rC_0 rfl 30 (Nat.le_of_ble_eq_true rfl) (ht _ w_570) (fun _ h => h) d_Model_pass_87 90 rfl (.ref (ad 30 0)) rfl ?_
          refine z_iload_n S d_Model_pass_90 rfl 3 rfl 91 rfl ?_
          refine z_iald S hK rm_30 0 rC_30 rfl hp d_Model_pass_91 92 rfl (s 30 0 p.toNatClampNeg) rfl ?_
          refine z_iast S hJ hK rm_30 0 rC_30 rfl (pp_in hB) rfl rupI_30 d_Model_pass_92 93 rfl ?_
          refine z_aload_n S d_Model_pass_93 rfl 2 rfl 94 rfl ?_
          refine z_get S hK hin_Model rm_0 rC_0 rfl 33 (Nat.le_of_ble_eq_true rfl) (ht _ w_573) (fun _ h => h) d_Model_pass_94 97 rfl (.ref (ad 33 0)) rfl ?_
          refine z_iload S d_Model_pass_97 0 rfl 99 rfl ?_
          refine z_iload_n S d_Model_pass_99 rfl 1 rfl 100 rfl ?_
          refine z_iast S hJ hK rm_33 0 rC_33 rfl (pp_in hB) rfl rupI_33 d_Model_pass_100 101 rfl ?_
          refine z_iconst S d_Model_pass_101 1 (by decide) 102 rfl ?_
          exact z_zret S hr (zb_n zb_1) hlk d_Model_pass_102 (by unfold v_Model_pass; simp only [if_pos h1, if_pos h2, if_neg h3, if_neg h4] <;> rfl) (rC_eq (by unfold S_Model_pass; simp only [if_pos h1, if_pos h2, if_neg h3, if_neg h4] <;> rfl))
        · refine z_aload_n S d_Model_pass_53 rfl 1 rfl 54 rfl ?_
          refine z_iload_n S d_Model_pass_54 rfl 3 rfl 55 rfl ?_
          refine z_aload_n S d_Model_pass_55 rfl 1 rfl 56 rfl ?_
          refine z_get S hK hin_Model rm_0 rC_0 rfl 34 (Nat.le_of_ble_eq_true rfl) (ht _ w_574) (fun _ h => h) d_Model_pass_56 59 rfl (.ref (ad 34 0)) rfl ?_
          refine z_iload_n S d_Model_pass_59 rfl 2 rfl 60 rfl ?_
          refine z_iald S hK rm_34 0 rC_34 rfl hp d_Model_pass_60 61 rfl (s 34 0 p.toNatClampNeg) rfl ?_
          refine z_callV S hK (As := [.int x, .int (s 34 0 p.toNatClampNeg)]) (rest := []) (c_Model_perform (x := x) (o := s 34 0 p.toNatClampNeg) hJ hx hwh (hla _) hd) (cw_Model_perform hts w_754 rfl rfl ⟨(Nat.le_of_ble_eq_true rfl), (Nat.le_of_ble_eq_true rfl)⟩) rm_0 rC_0 rfl rfl rfl (Nat.le_of_ble_eq_true rfl) d_Model_pass_61 64 rfl [.int (hdF (s 5 0) (s 6 0) (s 20 0) x (s 5 0 ((s 34 0 p.toNatClampNeg).toNatClampNeg)) ((s 19 0 x.toNatClampNeg).toNatClampNeg))] rfl ?_
          refine z_istore S d_Model_pass_64 (Nat.le_of_ble_eq_true rfl) [(4, .int (hdF (s 5 0) (s 6 0) (s 20 0) x (s 5 0 ((s 34 0 p.toNatClampNeg).toNatClampNeg)) ((s 19 0 x.toNatClampNeg).toNatClampNeg))), (3, .int (s 33 0 p.toNatClampNeg)), (0, .ref (ad 0 0)), (1, .int p), (2, .int x)] rfl 66 rfl ?_
          refine z_aload_n S d_Model_pass_66 rfl 2 rfl 67 rfl ?_
          refine z_bipush S d_Model_pass_67 6 (by decide) 69 rfl ?_
          refine z_aload_n S d_Model_pass_69 rfl 2 rfl 70 rfl ?_
          refine z_get S hK hin_Model rm_0 rC_0 rfl 9 (Nat.le_of_ble_eq_true rfl) (ht _ w_549) (fun _ h => h) d_Model_pass_70 73 rfl (.ref (ad 9 0)) rfl ?_
          refine z_iload_n S d_Model_pass_73 rfl 4 rfl 74 rfl ?_
          refine z_iald S hK rm_9 0 rC_9 rfl (vp_mono hx (by omega)) d_Model_pass_74 75 rfl (s 9 0 x.toNatClampNeg) rfl ?_
          refine z_callV S hK (As := [.int 6, .int (s 9 0 x.toNatClampNeg)]) (rest := []) (c_Model_post (k := 6) (a := s 9 0 x.toNatClampNeg) hJ hW hB) (cw_Model_post hts w_678 rfl rfl ⟨(Nat.le_of_ble_eq_true rfl), (Nat.le_of_ble_eq_true rfl)⟩) rm_0 rC_0 rfl rfl rfl (Nat.le_of_ble_eq_true rfl) d_Model_pass_75 78 rfl [.int (ppF (s 0 25 0) (s 27 0))] rfl ?_
          refine z_istore S d_Model_pass_78 (Nat.le_of_ble_eq_true rfl) [(4, .int (ppF (s 0 25 0) (s 27 0))), (3, .int (s 33 0 p.toNatClampNeg)), (0, .ref (ad 0 0)), (1, .int p), (2, .int x)] rfl 80 rfl ?_
          refine z_aload_n S d_Model_pass_80 rfl 2 rfl 81 rfl ?_
          refine z_get S hK hin_Model rm_0 rC_0 rfl 30 (Nat.le_of_ble_eq_true rfl) (ht _ w_570) (fun _ h => h) d_Model_pass_81 84 rfl (.ref (ad 30 0)) rfl ?_
          refine z_iload S d_Model_pass_84 0 rfl 86 rfl ?_
          refine z_aload_n S d_Model_pass_86 rfl 2 rfl 87 rfl ?_
          refine z_get S hK hin_Model rm_0 rC_0 rfl 30 (Nat.le_of_ble_eq_true rfl) (ht _ w_570) (fun _ h => h) d_Model_pass_87 90 rfl (.ref (ad 30 0)) rfl ?_
          refine z_iload_n S d_Model_pass_90 rfl 3 rfl 91 rfl ?_
          refine z_iald S hK rm_30 0 rC_30 rfl hp d_Model_pass_91 92 rfl (s 30 0 p.toNatClampNeg) rfl ?_
          refine z_iast S hJ hK rm_30 0 rC_30 rfl (pp_in hB) rfl rupI_30 d_Model_pass_92 93 rfl ?_
          refine z_aload_n S d_Model_pass_93 rfl 2 rfl 94 rfl ?_
          refine z_get S hK hin_Model rm_0 rC_0 rfl 33 (Nat.le_of_ble_eq_true rfl) (ht _ w_573) (fun _ h => h) d_Model_pass_94 97 rfl (.ref (ad 33 0)) rfl ?_
          refine z_iload S d_Model_pass_97 0 rfl 99 rfl ?_
          refine z_iload_n S d_Model_pass_99 rfl 1 rfl 100 rfl ?_
          refine z_iast S hJ hK rm_33 0 rC_33 rfl (pp_in hB) rfl rupI_33 d_Model_pass_100 101 rfl ?_
          refine z_iconst S d_Model_pass_101 1 (by decide) 102 rfl ?_
          exact z_zret S hr (zb_n zb_1) hlk d_Model_pass_102 (by unfold v_Model_pass; simp only [if_pos h1, if_pos h2, if_neg h3, if_pos h4] <;> rfl) (rC_eq (by unfold S_Model_pass; simp only [if_pos h1, if_pos h2, if_neg h3, if_pos h4] <;> rfl))
      · refine z_iconst S d_Model_pass_34 0 (by decide) 35 rfl ?_
        exact z_zret S hr (zb_n zb_0) hlk d_Model_pass_35 (by unfold v_Model_pass; simp only [if_pos h1, if_pos h2, if_pos h3] <;> rfl) (rC_eq (by unfold S_Model_pass; simp only [if_pos h1, if_pos h2, if_pos h3] <;> rfl))
theorem d_Model_passed_0 : decode prog_11_method_31_code 0 = .ok (.aload_n 0, 1) := by decide +kernel
theorem d_Model_passed_1 : decode prog_11_method_31_code 1 = .ok (.getfield 87, 3) := by decide +kernel
theorem d_Model_passed_4 : decode prog_11_method_31_code 4 = .ok (.iload_n 1, 1) := by decide +kernel
theorem d_Model_passed_5 : decode prog_11_method_31_code 5 = .ok (.iaload, 1) := by decide +kernel
theorem d_Model_passed_6 : decode prog_11_method_31_code 6 = .ok (.aload_n 0, 1) := by decide +kernel
theorem d_Model_passed_7 : decode prog_11_method_31_code 7 = .ok (.getfield 26, 3) := by decide +kernel
theorem d_Model_passed_10 : decode prog_11_method_31_code 10 = .ok (.iload_n 2, 1) := by decide +kernel
theorem d_Model_passed_11 : decode prog_11_method_31_code 11 = .ok (.iaload, 1) := by decide +kernel
theorem d_Model_passed_12 : decode prog_11_method_31_code 12 = .ok (.if_icmp .ne 35, 3) := by decide +kernel
theorem d_Model_passed_15 : decode prog_11_method_31_code 15 = .ok (.aload_n 0, 1) := by decide +kernel
theorem d_Model_passed_16 : decode prog_11_method_31_code 16 = .ok (.iload_n 2, 1) := by decide +kernel
theorem d_Model_passed_17 : decode prog_11_method_31_code 17 = .ok (.invokevirtual 141, 3) := by decide +kernel
theorem d_Model_passed_20 : decode prog_11_method_31_code 20 = .ok (.ifCond .eq 27, 3) := by decide +kernel
theorem d_Model_passed_23 : decode prog_11_method_31_code 23 = .ok (.aload_n 0, 1) := by decide +kernel
theorem d_Model_passed_24 : decode prog_11_method_31_code 24 = .ok (.getfield 53, 3) := by decide +kernel
theorem d_Model_passed_27 : decode prog_11_method_31_code 27 = .ok (.iload_n 2, 1) := by decide +kernel
theorem d_Model_passed_28 : decode prog_11_method_31_code 28 = .ok (.iaload, 1) := by decide +kernel
theorem d_Model_passed_29 : decode prog_11_method_31_code 29 = .ok (.ifCond .lt 18, 3) := by decide +kernel
theorem d_Model_passed_32 : decode prog_11_method_31_code 32 = .ok (.aload_n 0, 1) := by decide +kernel
theorem d_Model_passed_33 : decode prog_11_method_31_code 33 = .ok (.getfield 56, 3) := by decide +kernel
theorem d_Model_passed_36 : decode prog_11_method_31_code 36 = .ok (.iload_n 2, 1) := by decide +kernel
theorem d_Model_passed_37 : decode prog_11_method_31_code 37 = .ok (.iaload, 1) := by decide +kernel
theorem d_Model_passed_38 : decode prog_11_method_31_code 38 = .ok (.aload_n 0, 1) := by decide +kernel
theorem d_Model_passed_39 : decode prog_11_method_31_code 39 = .ok (.getfield 96, 3) := by decide +kernel
theorem d_Model_passed_42 : decode prog_11_method_31_code 42 = .ok (.iload_n 1, 1) := by decide +kernel
theorem d_Model_passed_43 : decode prog_11_method_31_code 43 = .ok (.iaload, 1) := by decide +kernel
theorem d_Model_passed_44 : decode prog_11_method_31_code 44 = .ok (.if_icmp .eq 5, 3) := by decide +kernel
theorem d_Model_passed_47 : decode prog_11_method_31_code 47 = .ok (.iconst 0, 1) := by decide +kernel
theorem d_Model_passed_48 : decode prog_11_method_31_code 48 = .ok (.ireturn, 1) := by decide +kernel
theorem d_Model_passed_49 : decode prog_11_method_31_code 49 = .ok (.aload_n 0, 1) := by decide +kernel
theorem d_Model_passed_50 : decode prog_11_method_31_code 50 = .ok (.getfield 53, 3) := by decide +kernel
theorem d_Model_passed_53 : decode prog_11_method_31_code 53 = .ok (.iload_n 2, 1) := by decide +kernel
theorem d_Model_passed_54 : decode prog_11_method_31_code 54 = .ok (.iaload, 1) := by decide +kernel
theorem d_Model_passed_55 : decode prog_11_method_31_code 55 = .ok (.istore_n 3, 1) := by decide +kernel
theorem d_Model_passed_56 : decode prog_11_method_31_code 56 = .ok (.aload_n 0, 1) := by decide +kernel
theorem d_Model_passed_57 : decode prog_11_method_31_code 57 = .ok (.getfield 53, 3) := by decide +kernel
theorem d_Model_passed_60 : decode prog_11_method_31_code 60 = .ok (.iload_n 2, 1) := by decide +kernel
theorem d_Model_passed_61 : decode prog_11_method_31_code 61 = .ok (.iconst (-1), 1) := by decide +kernel
theorem d_Model_passed_62 : decode prog_11_method_31_code 62 = .ok (.iastore, 1) := by decide +kernel
theorem d_Model_passed_63 : decode prog_11_method_31_code 63 = .ok (.aload_n 0, 1) := by decide +kernel
theorem d_Model_passed_64 : decode prog_11_method_31_code 64 = .ok (.iload_n 2, 1) := by decide +kernel
theorem d_Model_passed_65 : decode prog_11_method_31_code 65 = .ok (.iload_n 3, 1) := by decide +kernel
theorem d_Model_passed_66 : decode prog_11_method_31_code 66 = .ok (.invokevirtual 187, 3) := by decide +kernel
theorem d_Model_passed_69 : decode prog_11_method_31_code 69 = .ok (.istore 4, 2) := by decide +kernel
theorem d_Model_passed_71 : decode prog_11_method_31_code 71 = .ok (.aload_n 0, 1) := by decide +kernel
theorem d_Model_passed_72 : decode prog_11_method_31_code 72 = .ok (.iload_n 3, 1) := by decide +kernel
theorem d_Model_passed_73 : decode prog_11_method_31_code 73 = .ok (.iload 4, 2) := by decide +kernel
theorem d_Model_passed_75 : decode prog_11_method_31_code 75 = .ok (.invokevirtual 190, 3) := by decide +kernel
theorem d_Model_passed_78 : decode prog_11_method_31_code 78 = .ok (.iconst 1, 1) := by decide +kernel
theorem d_Model_passed_79 : decode prog_11_method_31_code 79 = .ok (.ireturn, 1) := by decide +kernel
def S_Model_passed (s : S3) (p : Int32) (x : Int32) : S3 := if (s 30 0 p.toNatClampNeg) = (s 8 0 x.toNatClampNeg) then (if (v_Model_leads (s 8 0 x.toNatClampNeg) (s 9 0 x.toNatClampNeg) x) = 0 then s else if (s 18 0 x.toNatClampNeg) < 0 then s else if (s 19 0 x.toNatClampNeg) = (s 33 0 p.toNatClampNeg) then (S_Model_answer (S_Model_perform (u3 s 18 0 x.toNatClampNeg (-1)) x (s 18 0 x.toNatClampNeg)) (s 18 0 x.toNatClampNeg) (hdF (s 5 0) (s 6 0) (s 20 0) x (s 5 0 ((s 18 0 x.toNatClampNeg).toNatClampNeg)) ((s 19 0 x.toNatClampNeg).toNatClampNeg))) else s) else s
def v_Model_passed (s : S3) (p : Int32) (x : Int32) : Int32 := if (s 30 0 p.toNatClampNeg) = (s 8 0 x.toNatClampNeg) then (if (v_Model_leads (s 8 0 x.toNatClampNeg) (s 9 0 x.toNatClampNeg) x) = 0 then 0 else if (s 18 0 x.toNatClampNeg) < 0 then 0 else if (s 19 0 x.toNatClampNeg) = (s 33 0 p.toNatClampNeg) then 1 else 0) else 0
theorem zbv_Model_passed {s : S3} {p : Int32} {x : Int32} : zb (v_Model_passed s p x) := by
  unfold v_Model_passed
  repeat' split
  all_goals first | with_reducible exact zb_0 | with_reducible exact zb_1 | with_reducible exact zbv_Model_noServer | with_reducible exact zbv_Model_noClient | with_reducible exact zbv_Model_leads | with_reducible exact zbv_Model_fresh | with_reducible exact zbv_Model_skew | with_reducible exact zbv_Model_crash | with_reducible exact zbv_Model_ping | with_reducible exact zbv_Model_push | with_reducible exact zbv_Model_send | with_reducible exact zbv_Model_lose | with_reducible exact zbv_Model_see | with_reducible exact zbv_Model_filledBack | with_reducible exact zbv_Model_pass
set_option maxHeartbeats 4000000 in
set_option maxRecDepth 100000 in
theorem c_Model_passed {l : Launch} {D : va_G} {K : Nat → ClassId} {ad : Nat → Nat → Nat} {s : S3} {p x : Int32} (hJ : zw_J (rRL) ad) (hW : vp_in (s 0 25 0) 33) (hB : fB s) (hla : ∀ j, vp_in (s 19 0 j) 180) (hd : ∀ j, vp_in (s 20 0 j) 512) (hpe : ∀ j, ¬ s 18 0 j < 0 → vp_in (s 18 0 j) 512) (hp : vp_in p 34) (hx : vp_in x 5) : zM l y_Model_passed ws_Model_passed ({ frames := 2, cells := 0, slots := 0, locals := 48 }) D zCl (zTys K) (rRL) ad [.ref (ad 0 0), .int p, .int x] (rC K ad s) (some (.int (v_Model_passed s p x))) (rC K ad (S_Model_passed s p x)) := by
  refine zM.of (cc := prog_11_method_31_code) (maxL := 5) (ret := (Option.some Jvm.ClassFile.FieldType.boolean)) (by decide) rfl (Nat.le_of_ble_eq_true rfl) ?_
  intro pP eE U mM bL mT cO S hr hlk hK
  have hts := S.2.2.2.2
  have ht := fun w h => hts w (List.mem_cons_of_mem _ h)
  refine z_aload_n S d_Model_passed_0 rfl 0 rfl 1 rfl ?_
  refine z_get S hK hin_Model rm_0 rC_0 rfl 30 (Nat.le_of_ble_eq_true rfl) (ht _ w_570) (fun _ h => h) d_Model_passed_1 4 rfl (.ref (ad 30 0)) rfl ?_
  refine z_iload_n S d_Model_passed_4 rfl 1 rfl 5 rfl ?_
  refine z_iald S hK rm_30 0 rC_30 rfl hp d_Model_passed_5 6 rfl (s 30 0 p.toNatClampNeg) rfl ?_
  refine z_aload_n S d_Model_passed_6 rfl 0 rfl 7 rfl ?_
  refine z_get S hK hin_Model rm_0 rC_0 rfl 8 (Nat.le_of_ble_eq_true rfl) (ht _ w_548) (fun _ h => h) d_Model_passed_7 10 rfl (.ref (ad 8 0)) rfl ?_
  refine z_iload_n S d_Model_passed_10 rfl 2 rfl 11 rfl ?_
  refine z_iald S hK rm_8 0 rC_8 rfl (vp_mono hx (by omega)) d_Model_passed_11 12 rfl (s 8 0 x.toNatClampNeg) rfl ?_
  refine z_icmp_ne S d_Model_passed_12 47 (by decide) 15 rfl (fun h1 => ?_) (fun h1 => ?_)
  · refine z_iconst S d_Model_passed_47 0 (by decide) 48 rfl ?_
    exact z_zret S hr (zb_n zb_0) hlk d_Model_passed_48 (by unfold v_Model_passed; simp only [if_neg h1] <;> rfl) (rC_eq (by unfold S_Model_passed; simp only [if_neg h1] <;> rfl))
  · refine z_aload_n S d_Model_passed_15 rfl 0 rfl 16 rfl ?_
    refine z_iload_n S d_Model_passed_16 rfl 2 rfl 17 rfl ?_
    refine z_callV S hK (As := [.int x]) (rest := []) (c_Model_leads (x := x) hJ hx) (cw_Model_leads hts w_682 rfl rfl ⟨(Nat.le_of_ble_eq_true rfl), (Nat.le_of_ble_eq_true rfl)⟩) rm_0 rC_0 rfl rfl rfl (Nat.le_of_ble_eq_true rfl) d_Model_passed_17 20 rfl [.int (v_Model_leads (s 8 0 x.toNatClampNeg) (s 9 0 x.toNatClampNeg) x)] rfl ?_
    refine z_if_eq S d_Model_passed_20 47 (by decide) 23 rfl (fun h2 => ?_) (fun h2 => ?_)
    · refine z_iconst S d_Model_passed_47 0 (by decide) 48 rfl ?_
      exact z_zret S hr (zb_n zb_0) hlk d_Model_passed_48 (by unfold v_Model_passed; simp only [if_pos h1, if_pos h2] <;> rfl) (rC_eq (by unfold S_Model_passed; simp only [if_pos h1, if_pos h2] <;> rfl))
    · refine z_aload_n S d_Model_passed_23 rfl 0 rfl 24 rfl ?_
      refine z_get S hK hin_Model rm_0 rC_0 rfl 18 (Nat.le_of_ble_eq_true rfl) (ht _ w_558) (fun _ h => h) d_Model_passed_24 27 rfl (.ref (ad 18 0)) rfl ?_
      refine z_iload_n S d_Model_passed_27 rfl 2 rfl 28 rfl ?_
      refine z_iald S hK rm_18 0 rC_18 rfl hx d_Model_passed_28 29 rfl (s 18 0 x.toNatClampNeg) rfl ?_
      refine z_if_lt S d_Model_passed_29 47 (by decide) 32 rfl (fun h3 => ?_) (fun h3 => ?_)
      · refine z_iconst S d_Model_passed_47 0 (by decide) 48 rfl ?_
        exact z_zret S hr (zb_n zb_0) hlk d_Model_passed_48 (by unfold v_Model_passed; simp only [if_pos h1, if_neg h2, if_pos h3] <;> rfl) (rC_eq (by unfold S_Model_passed; simp only [if_pos h1, if_neg h2, if_pos h3] <;> rfl))
      · refine z_aload_n S d_Model_passed_32 rfl 0 rfl 33 rfl ?_
        refine z_get S hK hin_Model rm_0 rC_0 rfl 19 (Nat.le_of_ble_eq_true rfl) (ht _ w_559) (fun _ h => h) d_Model_passed_33 36 rfl (.ref (ad 19 0)) rfl ?_
        refine z_iload_n S d_Model_passed_36 rfl 2 rfl 37 rfl ?_
        refine z_iald S hK rm_19 0 rC_19 rfl hx d_Model_passed_37 38 rfl (s 19 0 x.toNatClampNeg) rfl ?_
        refine z_aload_n S d_Model_passed_38 rfl 0 rfl 39 rfl ?_
        refine z_get S hK hin_Model rm_0 rC_0 rfl 33 (Nat.le_of_ble_eq_true rfl) (ht _ w_573) (fun _ h => h) d_Model_passed_39 42 rfl (.ref (ad 33 0)) rfl ?_
        refine z_iload_n S d_Model_passed_42 rfl 1 rfl 43 rfl ?_
        refine z_iald S hK rm_33 0 rC_33 rfl hp d_Model_passed_43 44 rfl (s 33 0 p.toNatClampNeg) rfl ?_
        refine z_icmp_eq S d_Model_passed_44 49 (by decide) 47 rfl (fun h4 => ?_) (fun h4 => ?_)
        · refine z_aload_n S d_Model_passed_49 rfl 0 rfl 50 rfl ?_
          refine z_get S hK hin_Model rm_0 rC_0 rfl 18 (Nat.le_of_ble_eq_true rfl) (ht _ w_558) (fun _ h => h) d_Model_passed_50 53 rfl (.ref (ad 18 0)) rfl ?_
          refine z_iload_n S d_Model_passed_53 rfl 2 rfl 54 rfl ?_
          refine z_iald S hK rm_18 0 rC_18 rfl hx d_Model_passed_54 55 rfl (s 18 0 x.toNatClampNeg) rfl ?_
          refine z_istore_n S d_Model_passed_55 rfl (Nat.le_of_ble_eq_true rfl) [(3, .int (s 18 0 x.toNatClampNeg)), (0, .ref (ad 0 0)), (1, .int p), (2, .int x)] rfl 56 rfl ?_
          refine z_aload_n S d_Model_passed_56 rfl 1 rfl 57 rfl ?_
          refine z_get S hK hin_Model rm_0 rC_0 rfl 18 (Nat.le_of_ble_eq_true rfl) (ht _ w_558) (fun _ h => h) d_Model_passed_57 60 rfl (.ref (ad 18 0)) rfl ?_
          refine z_iload_n S d_Model_passed_60 rfl 3 rfl 61 rfl ?_
          refine z_iconst S d_Model_passed_61 (-1) (by decide) 62 rfl ?_
          refine z_iast S hJ hK rm_18 0 rC_18 rfl hx rfl rupI_18 d_Model_passed_62 63 rfl ?_
          refine z_aload_n S d_Model_passed_63 rfl 1 rfl 64 rfl ?_
          refine z_iload_n S d_Model_passed_64 rfl 3 rfl 65 rfl ?_
          refine z_iload_n S d_Model_passed_65 rfl 0 rfl 66 rfl ?_
          refine z_callV S hK (As := [.int x, .int (s 18 0 x.toNatClampNeg)]) (rest := []) (c_Model_perform (x := x) (o := s 18 0 x.toNatClampNeg) hJ hx (hpe _ h3) (hla _) hd) (cw_Model_perform hts w_754 rfl rfl ⟨(Nat.le_of_ble_eq_true rfl), (Nat.le_of_ble_eq_true rfl)⟩) rm_0 rC_0 rfl rfl rfl (Nat.le_of_ble_eq_true rfl) d_Model_passed_66 69 rfl [.int (hdF (s 5 0) (s 6 0) (s 20 0) x (s 5 0 ((s 18 0 x.toNatClampNeg).toNatClampNeg)) ((s 19 0 x.toNatClampNeg).toNatClampNeg))] rfl ?_
          refine z_istore S d_Model_passed_69 (Nat.le_of_ble_eq_true rfl) [(4, .int (hdF (s 5 0) (s 6 0) (s 20 0) x (s 5 0 ((s 18 0 x.toNatClampNeg).toNatClampNeg)) ((s 19 0 x.toNatClampNeg).toNatClampNeg))), (3, .int (s 18 0 x.toNatClampNeg)), (0, .ref (ad 0 0)), (1, .int p), (2, .int x)] rfl 71 rfl ?_
          refine z_aload_n S d_Model_passed_71 rfl 2 rfl 72 rfl ?_
          refine z_iload_n S d_Model_passed_72 rfl 1 rfl 73 rfl ?_
          refine z_iload S d_Model_passed_73 0 rfl 75 rfl ?_
          refine z_callV S hK (As := [.int (s 18 0 x.toNatClampNeg), .int (hdF (s 5 0) (s 6 0) (s 20 0) x (s 5 0 ((s 18 0 x.toNatClampNeg).toNatClampNeg)) ((s 19 0 x.toNatClampNeg).toNatClampNeg))]) (rest := []) (c_Model_answer (o := s 18 0 x.toNatClampNeg) (r := hdF (s 5 0) (s 6 0) (s 20 0) x (s 5 0 ((s 18 0 x.toNatClampNeg).toNatClampNeg)) ((s 19 0 x.toNatClampNeg).toNatClampNeg)) hJ hW hB (hpe _ h3)) (cw_Model_answer hts w_766 rfl rfl ⟨(Nat.le_of_ble_eq_true rfl), (Nat.le_of_ble_eq_true rfl)⟩) rm_0 rC_0 rfl rfl rfl (Nat.le_of_ble_eq_true rfl) d_Model_passed_75 78 rfl [] rfl ?_
          refine z_iconst S d_Model_passed_78 1 (by decide) 79 rfl ?_
          exact z_zret S hr (zb_n zb_1) hlk d_Model_passed_79 (by unfold v_Model_passed; simp only [if_pos h1, if_neg h2, if_neg h3, if_pos h4] <;> rfl) (rC_eq (by unfold S_Model_passed; simp only [if_pos h1, if_neg h2, if_neg h3, if_pos h4] <;> rfl))
        · refine z_iconst S d_Model_passed_47 0 (by decide) 48 rfl ?_
          exact z_zret S hr (zb_n zb_0) hlk d_Model_passed_48 (by unfold v_Model_passed; simp only [if_pos h1, if_neg h2, if_neg h3, if_neg h4] <;> rfl) (rC_eq (by unfold S_Model_passed; simp only [if_pos h1, if_neg h2, if_neg h3, if_neg h4] <;> rfl))
theorem d_Model_ask_0 : decode prog_11_method_32_code 0 = .ok (.aload_n 0, 1) := by decide +kernel
theorem d_Model_ask_1 : decode prog_11_method_32_code 1 = .ok (.iload_n 2, 1) := by decide +kernel
theorem d_Model_ask_2 : decode prog_11_method_32_code 2 = .ok (.invokevirtual 141, 3) := by decide +kernel
theorem d_Model_ask_5 : decode prog_11_method_32_code 5 = .ok (.ifCond .ne 5, 3) := by decide +kernel
theorem d_Model_ask_8 : decode prog_11_method_32_code 8 = .ok (.iconst 0, 1) := by decide +kernel
theorem d_Model_ask_9 : decode prog_11_method_32_code 9 = .ok (.ireturn, 1) := by decide +kernel
theorem d_Model_ask_10 : decode prog_11_method_32_code 10 = .ok (.aload_n 0, 1) := by decide +kernel
theorem d_Model_ask_11 : decode prog_11_method_32_code 11 = .ok (.getfield 22, 3) := by decide +kernel
theorem d_Model_ask_14 : decode prog_11_method_32_code 14 = .ok (.iload_n 1, 1) := by decide +kernel
theorem d_Model_ask_15 : decode prog_11_method_32_code 15 = .ok (.baload, 1) := by decide +kernel
theorem d_Model_ask_16 : decode prog_11_method_32_code 16 = .ok (.ifCond .ne 51, 3) := by decide +kernel
theorem d_Model_ask_19 : decode prog_11_method_32_code 19 = .ok (.aload_n 0, 1) := by decide +kernel
theorem d_Model_ask_20 : decode prog_11_method_32_code 20 = .ok (.getfield 127, 3) := by decide +kernel
theorem d_Model_ask_23 : decode prog_11_method_32_code 23 = .ok (.aload_n 0, 1) := by decide +kernel
theorem d_Model_ask_24 : decode prog_11_method_32_code 24 = .ok (.getfield 38, 3) := by decide +kernel
theorem d_Model_ask_27 : decode prog_11_method_32_code 27 = .ok (.iload_n 2, 1) := by decide +kernel
theorem d_Model_ask_28 : decode prog_11_method_32_code 28 = .ok (.iaload, 1) := by decide +kernel
theorem d_Model_ask_29 : decode prog_11_method_32_code 29 = .ok (.iadd, 1) := by decide +kernel
theorem d_Model_ask_30 : decode prog_11_method_32_code 30 = .ok (.aload_n 0, 1) := by decide +kernel
theorem d_Model_ask_31 : decode prog_11_method_32_code 31 = .ok (.getfield 41, 3) := by decide +kernel
theorem d_Model_ask_34 : decode prog_11_method_32_code 34 = .ok (.iload_n 2, 1) := by decide +kernel
theorem d_Model_ask_35 : decode prog_11_method_32_code 35 = .ok (.iaload, 1) := by decide +kernel
theorem d_Model_ask_36 : decode prog_11_method_32_code 36 = .ok (.if_icmp .lt 5, 3) := by decide +kernel
theorem d_Model_ask_39 : decode prog_11_method_32_code 39 = .ok (.iconst 0, 1) := by decide +kernel
theorem d_Model_ask_40 : decode prog_11_method_32_code 40 = .ok (.ireturn, 1) := by decide +kernel
theorem d_Model_ask_41 : decode prog_11_method_32_code 41 = .ok (.aload_n 0, 1) := by decide +kernel
theorem d_Model_ask_42 : decode prog_11_method_32_code 42 = .ok (.iload_n 2, 1) := by decide +kernel
theorem d_Model_ask_43 : decode prog_11_method_32_code 43 = .ok (.aload_n 0, 1) := by decide +kernel
theorem d_Model_ask_44 : decode prog_11_method_32_code 44 = .ok (.getfield 16, 3) := by decide +kernel
theorem d_Model_ask_47 : decode prog_11_method_32_code 47 = .ok (.iload_n 1, 1) := by decide +kernel
theorem d_Model_ask_48 : decode prog_11_method_32_code 48 = .ok (.iaload, 1) := by decide +kernel
theorem d_Model_ask_49 : decode prog_11_method_32_code 49 = .ok (.aload_n 0, 1) := by decide +kernel
theorem d_Model_ask_50 : decode prog_11_method_32_code 50 = .ok (.getfield 56, 3) := by decide +kernel
theorem d_Model_ask_53 : decode prog_11_method_32_code 53 = .ok (.iload_n 2, 1) := by decide +kernel
theorem d_Model_ask_54 : decode prog_11_method_32_code 54 = .ok (.iaload, 1) := by decide +kernel
theorem d_Model_ask_55 : decode prog_11_method_32_code 55 = .ok (.invokevirtual 119, 3) := by decide +kernel
theorem d_Model_ask_58 : decode prog_11_method_32_code 58 = .ok (.istore_n 3, 1) := by decide +kernel
theorem d_Model_ask_59 : decode prog_11_method_32_code 59 = .ok (.aload_n 0, 1) := by decide +kernel
theorem d_Model_ask_60 : decode prog_11_method_32_code 60 = .ok (.iload_n 1, 1) := by decide +kernel
theorem d_Model_ask_61 : decode prog_11_method_32_code 61 = .ok (.iload_n 3, 1) := by decide +kernel
theorem d_Model_ask_62 : decode prog_11_method_32_code 62 = .ok (.invokevirtual 190, 3) := by decide +kernel
theorem d_Model_ask_65 : decode prog_11_method_32_code 65 = .ok (.iconst 1, 1) := by decide +kernel
theorem d_Model_ask_66 : decode prog_11_method_32_code 66 = .ok (.ireturn, 1) := by decide +kernel
theorem d_Model_ask_67 : decode prog_11_method_32_code 67 = .ok (.aload_n 0, 1) := by decide +kernel
theorem d_Model_ask_68 : decode prog_11_method_32_code 68 = .ok (.iload_n 2, 1) := by decide +kernel
theorem d_Model_ask_69 : decode prog_11_method_32_code 69 = .ok (.aload_n 0, 1) := by decide +kernel
theorem d_Model_ask_70 : decode prog_11_method_32_code 70 = .ok (.getfield 7, 3) := by decide +kernel
theorem d_Model_ask_73 : decode prog_11_method_32_code 73 = .ok (.iload_n 1, 1) := by decide +kernel
theorem d_Model_ask_74 : decode prog_11_method_32_code 74 = .ok (.iaload, 1) := by decide +kernel
theorem d_Model_ask_75 : decode prog_11_method_32_code 75 = .ok (.invokevirtual 193, 3) := by decide +kernel
theorem d_Model_ask_78 : decode prog_11_method_32_code 78 = .ok (.istore_n 3, 1) := by decide +kernel
theorem d_Model_ask_79 : decode prog_11_method_32_code 79 = .ok (.iload_n 3, 1) := by decide +kernel
theorem d_Model_ask_80 : decode prog_11_method_32_code 80 = .ok (.ifCond .ge 7, 3) := by decide +kernel
theorem d_Model_ask_83 : decode prog_11_method_32_code 83 = .ok (.iconst 0, 1) := by decide +kernel
theorem d_Model_ask_84 : decode prog_11_method_32_code 84 = .ok (.goto 20, 3) := by decide +kernel
theorem d_Model_ask_87 : decode prog_11_method_32_code 87 = .ok (.aload_n 0, 1) := by decide +kernel
theorem d_Model_ask_88 : decode prog_11_method_32_code 88 = .ok (.getfield 13, 3) := by decide +kernel
theorem d_Model_ask_91 : decode prog_11_method_32_code 91 = .ok (.aload_n 0, 1) := by decide +kernel
theorem d_Model_ask_92 : decode prog_11_method_32_code 92 = .ok (.getfield 59, 3) := by decide +kernel
theorem d_Model_ask_95 : decode prog_11_method_32_code 95 = .ok (.sipush 180, 3) := by decide +kernel
theorem d_Model_ask_98 : decode prog_11_method_32_code 98 = .ok (.iload_n 2, 1) := by decide +kernel
theorem d_Model_ask_99 : decode prog_11_method_32_code 99 = .ok (.imul, 1) := by decide +kernel
theorem d_Model_ask_100 : decode prog_11_method_32_code 100 = .ok (.iload_n 3, 1) := by decide +kernel
theorem d_Model_ask_101 : decode prog_11_method_32_code 101 = .ok (.iadd, 1) := by decide +kernel
theorem d_Model_ask_102 : decode prog_11_method_32_code 102 = .ok (.saload, 1) := by decide +kernel
theorem d_Model_ask_103 : decode prog_11_method_32_code 103 = .ok (.iaload, 1) := by decide +kernel
theorem d_Model_ask_104 : decode prog_11_method_32_code 104 = .ok (.istore 4, 2) := by decide +kernel
theorem d_Model_ask_106 : decode prog_11_method_32_code 106 = .ok (.aload_n 0, 1) := by decide +kernel
theorem d_Model_ask_107 : decode prog_11_method_32_code 107 = .ok (.getfield 13, 3) := by decide +kernel
theorem d_Model_ask_110 : decode prog_11_method_32_code 110 = .ok (.iload_n 1, 1) := by decide +kernel
theorem d_Model_ask_111 : decode prog_11_method_32_code 111 = .ok (.iaload, 1) := by decide +kernel
theorem d_Model_ask_112 : decode prog_11_method_32_code 112 = .ok (.iload 4, 2) := by decide +kernel
theorem d_Model_ask_114 : decode prog_11_method_32_code 114 = .ok (.if_icmp .ge 5, 3) := by decide +kernel
theorem d_Model_ask_117 : decode prog_11_method_32_code 117 = .ok (.iconst 0, 1) := by decide +kernel
theorem d_Model_ask_118 : decode prog_11_method_32_code 118 = .ok (.ireturn, 1) := by decide +kernel
theorem d_Model_ask_119 : decode prog_11_method_32_code 119 = .ok (.aload_n 0, 1) := by decide +kernel
theorem d_Model_ask_120 : decode prog_11_method_32_code 120 = .ok (.getfield 13, 3) := by decide +kernel
theorem d_Model_ask_123 : decode prog_11_method_32_code 123 = .ok (.iload_n 1, 1) := by decide +kernel
theorem d_Model_ask_124 : decode prog_11_method_32_code 124 = .ok (.iaload, 1) := by decide +kernel
theorem d_Model_ask_125 : decode prog_11_method_32_code 125 = .ok (.iload 4, 2) := by decide +kernel
theorem d_Model_ask_127 : decode prog_11_method_32_code 127 = .ok (.if_icmp .ne 26, 3) := by decide +kernel
theorem d_Model_ask_130 : decode prog_11_method_32_code 130 = .ok (.aload_n 0, 1) := by decide +kernel
theorem d_Model_ask_131 : decode prog_11_method_32_code 131 = .ok (.iload_n 2, 1) := by decide +kernel
theorem d_Model_ask_132 : decode prog_11_method_32_code 132 = .ok (.aload_n 0, 1) := by decide +kernel
theorem d_Model_ask_133 : decode prog_11_method_32_code 133 = .ok (.getfield 16, 3) := by decide +kernel
theorem d_Model_ask_136 : decode prog_11_method_32_code 136 = .ok (.iload_n 1, 1) := by decide +kernel
theorem d_Model_ask_137 : decode prog_11_method_32_code 137 = .ok (.iaload, 1) := by decide +kernel
theorem d_Model_ask_138 : decode prog_11_method_32_code 138 = .ok (.iload_n 3, 1) := by decide +kernel
theorem d_Model_ask_139 : decode prog_11_method_32_code 139 = .ok (.invokevirtual 119, 3) := by decide +kernel
theorem d_Model_ask_142 : decode prog_11_method_32_code 142 = .ok (.istore 5, 2) := by decide +kernel
theorem d_Model_ask_144 : decode prog_11_method_32_code 144 = .ok (.aload_n 0, 1) := by decide +kernel
theorem d_Model_ask_145 : decode prog_11_method_32_code 145 = .ok (.iload_n 1, 1) := by decide +kernel
theorem d_Model_ask_146 : decode prog_11_method_32_code 146 = .ok (.iload 5, 2) := by decide +kernel
theorem d_Model_ask_148 : decode prog_11_method_32_code 148 = .ok (.invokevirtual 190, 3) := by decide +kernel
theorem d_Model_ask_151 : decode prog_11_method_32_code 151 = .ok (.iconst 1, 1) := by decide +kernel
theorem d_Model_ask_152 : decode prog_11_method_32_code 152 = .ok (.ireturn, 1) := by decide +kernel
theorem d_Model_ask_153 : decode prog_11_method_32_code 153 = .ok (.aload_n 0, 1) := by decide +kernel
theorem d_Model_ask_154 : decode prog_11_method_32_code 154 = .ok (.getfield 32, 3) := by decide +kernel
theorem d_Model_ask_157 : decode prog_11_method_32_code 157 = .ok (.iload_n 2, 1) := by decide +kernel
theorem d_Model_ask_158 : decode prog_11_method_32_code 158 = .ok (.iaload, 1) := by decide +kernel
theorem d_Model_ask_159 : decode prog_11_method_32_code 159 = .ok (.ifCond .ge 20, 3) := by decide +kernel
theorem d_Model_ask_162 : decode prog_11_method_32_code 162 = .ok (.aload_n 0, 1) := by decide +kernel
theorem d_Model_ask_163 : decode prog_11_method_32_code 163 = .ok (.iload_n 2, 1) := by decide +kernel
theorem d_Model_ask_164 : decode prog_11_method_32_code 164 = .ok (.iload_n 1, 1) := by decide +kernel
theorem d_Model_ask_165 : decode prog_11_method_32_code 165 = .ok (.invokevirtual 187, 3) := by decide +kernel
theorem d_Model_ask_168 : decode prog_11_method_32_code 168 = .ok (.istore 5, 2) := by decide +kernel
theorem d_Model_ask_170 : decode prog_11_method_32_code 170 = .ok (.aload_n 0, 1) := by decide +kernel
theorem d_Model_ask_171 : decode prog_11_method_32_code 171 = .ok (.iload_n 1, 1) := by decide +kernel
theorem d_Model_ask_172 : decode prog_11_method_32_code 172 = .ok (.iload 5, 2) := by decide +kernel
theorem d_Model_ask_174 : decode prog_11_method_32_code 174 = .ok (.invokevirtual 190, 3) := by decide +kernel
theorem d_Model_ask_177 : decode prog_11_method_32_code 177 = .ok (.iconst 1, 1) := by decide +kernel
theorem d_Model_ask_178 : decode prog_11_method_32_code 178 = .ok (.ireturn, 1) := by decide +kernel
theorem d_Model_ask_179 : decode prog_11_method_32_code 179 = .ok (.aload_n 0, 1) := by decide +kernel
theorem d_Model_ask_180 : decode prog_11_method_32_code 180 = .ok (.getfield 44, 3) := by decide +kernel
theorem d_Model_ask_183 : decode prog_11_method_32_code 183 = .ok (.iload_n 2, 1) := by decide +kernel
theorem d_Model_ask_184 : decode prog_11_method_32_code 184 = .ok (.baload, 1) := by decide +kernel
theorem d_Model_ask_185 : decode prog_11_method_32_code 185 = .ok (.ifCond .eq 12, 3) := by decide +kernel
theorem d_Model_ask_188 : decode prog_11_method_32_code 188 = .ok (.aload_n 0, 1) := by decide +kernel
theorem d_Model_ask_189 : decode prog_11_method_32_code 189 = .ok (.getfield 53, 3) := by decide +kernel
theorem d_Model_ask_192 : decode prog_11_method_32_code 192 = .ok (.iload_n 2, 1) := by decide +kernel
theorem d_Model_ask_193 : decode prog_11_method_32_code 193 = .ok (.iaload, 1) := by decide +kernel
theorem d_Model_ask_194 : decode prog_11_method_32_code 194 = .ok (.ifCond .lt 5, 3) := by decide +kernel
theorem d_Model_ask_197 : decode prog_11_method_32_code 197 = .ok (.iconst 0, 1) := by decide +kernel
theorem d_Model_ask_198 : decode prog_11_method_32_code 198 = .ok (.ireturn, 1) := by decide +kernel
theorem d_Model_ask_199 : decode prog_11_method_32_code 199 = .ok (.aload_n 0, 1) := by decide +kernel
theorem d_Model_ask_200 : decode prog_11_method_32_code 200 = .ok (.getfield 53, 3) := by decide +kernel
theorem d_Model_ask_203 : decode prog_11_method_32_code 203 = .ok (.iload_n 2, 1) := by decide +kernel
theorem d_Model_ask_204 : decode prog_11_method_32_code 204 = .ok (.iload_n 1, 1) := by decide +kernel
theorem d_Model_ask_205 : decode prog_11_method_32_code 205 = .ok (.iastore, 1) := by decide +kernel
theorem d_Model_ask_206 : decode prog_11_method_32_code 206 = .ok (.aload_n 0, 1) := by decide +kernel
theorem d_Model_ask_207 : decode prog_11_method_32_code 207 = .ok (.iload_n 2, 1) := by decide +kernel
theorem d_Model_ask_208 : decode prog_11_method_32_code 208 = .ok (.invokevirtual 144, 3) := by decide +kernel
theorem d_Model_ask_211 : decode prog_11_method_32_code 211 = .ok (.iconst 1, 1) := by decide +kernel
theorem d_Model_ask_212 : decode prog_11_method_32_code 212 = .ok (.ireturn, 1) := by decide +kernel
def S_Model_ask (s : S3) (o : Int32) (x : Int32) : S3 := if (v_Model_leads (s 8 0 x.toNatClampNeg) (s 9 0 x.toNatClampNeg) x) = 0 then s else if (s 7 0 o.toNatClampNeg) = 0 then (if ((s 0 1 0) + (s 13 0 x.toNatClampNeg)) < (s 14 0 x.toNatClampNeg) then (S_Model_answer s o (hdF (s 5 0) (s 6 0) (s 20 0) x (s 5 0 o.toNatClampNeg) ((s 19 0 x.toNatClampNeg).toNatClampNeg))) else s) else if 0 ≤ (laF (s 3 0) (s 20 0) x (s 3 0 o.toNatClampNeg) (s 19 0 x.toNatClampNeg).toNatClampNeg) then (if (s 4 0 ((s 20 0 (((180 * x) + (laF (s 3 0) (s 20 0) x (s 3 0 o.toNatClampNeg) (s 19 0 x.toNatClampNeg).toNatClampNeg)).toNatClampNeg)).toNatClampNeg)) ≤ (s 4 0 o.toNatClampNeg) then (if (s 4 0 o.toNatClampNeg) = (s 4 0 ((s 20 0 (((180 * x) + (laF (s 3 0) (s 20 0) x (s 3 0 o.toNatClampNeg) (s 19 0 x.toNatClampNeg).toNatClampNeg)).toNatClampNeg)).toNatClampNeg)) then (S_Model_answer s o (hdF (s 5 0) (s 6 0) (s 20 0) x (s 5 0 o.toNatClampNeg) ((laF (s 3 0) (s 20 0) x (s 3 0 o.toNatClampNeg) (s 19 0 x.toNatClampNeg).toNatClampNeg).toNatClampNeg))) else if 0 ≤ (s 10 0 x.toNatClampNeg) then (if (s 15 0 x.toNatClampNeg) = 0 then s else if (s 18 0 x.toNatClampNeg) < 0 then (S_Model_sendPass (u3 s 18 0 x.toNatClampNeg o) x) else s) else S_Model_answer (S_Model_perform s x o) o (hdF (s 5 0) (s 6 0) (s 20 0) x (s 5 0 o.toNatClampNeg) ((s 19 0 x.toNatClampNeg).toNatClampNeg))) else s) else if 0 ≤ (s 4 0 o.toNatClampNeg) then (if 0 ≤ (s 10 0 x.toNatClampNeg) then (if (s 15 0 x.toNatClampNeg) = 0 then s else if (s 18 0 x.toNatClampNeg) < 0 then (S_Model_sendPass (u3 s 18 0 x.toNatClampNeg o) x) else s) else S_Model_answer (S_Model_perform s x o) o (hdF (s 5 0) (s 6 0) (s 20 0) x (s 5 0 o.toNatClampNeg) ((s 19 0 x.toNatClampNeg).toNatClampNeg))) else s
def v_Model_ask (s : S3) (o : Int32) (x : Int32) : Int32 := if (v_Model_leads (s 8 0 x.toNatClampNeg) (s 9 0 x.toNatClampNeg) x) = 0 then 0 else if (s 7 0 o.toNatClampNeg) = 0 then (if ((s 0 1 0) + (s 13 0 x.toNatClampNeg)) < (s 14 0 x.toNatClampNeg) then 1 else 0) else if 0 ≤ (laF (s 3 0) (s 20 0) x (s 3 0 o.toNatClampNeg) (s 19 0 x.toNatClampNeg).toNatClampNeg) then (if (s 4 0 ((s 20 0 (((180 * x) + (laF (s 3 0) (s 20 0) x (s 3 0 o.toNatClampNeg) (s 19 0 x.toNatClampNeg).toNatClampNeg)).toNatClampNeg)).toNatClampNeg)) ≤ (s 4 0 o.toNatClampNeg) then (if (s 4 0 o.toNatClampNeg) = (s 4 0 ((s 20 0 (((180 * x) + (laF (s 3 0) (s 20 0) x (s 3 0 o.toNatClampNeg) (s 19 0 x.toNatClampNeg).toNatClampNeg)).toNatClampNeg)).toNatClampNeg)) then 1 else if 0 ≤ (s 10 0 x.toNatClampNeg) then (if (s 15 0 x.toNatClampNeg) = 0 then 0 else if (s 18 0 x.toNatClampNeg) < 0 then 1 else 0) else 1) else 0) else if 0 ≤ (s 4 0 o.toNatClampNeg) then (if 0 ≤ (s 10 0 x.toNatClampNeg) then (if (s 15 0 x.toNatClampNeg) = 0 then 0 else if (s 18 0 x.toNatClampNeg) < 0 then 1 else 0) else 1) else 0
theorem zbv_Model_ask {s : S3} {o : Int32} {x : Int32} : zb (v_Model_ask s o x) := by
  unfold v_Model_ask
  repeat' split
  all_goals first | with_reducible exact zb_0 | with_reducible exact zb_1 | with_reducible exact zbv_Model_noServer | with_reducible exact zbv_Model_noClient | with_reducible exact zbv_Model_leads | with_reducible exact zbv_Model_fresh | with_reducible exact zbv_Model_skew | with_reducible exact zbv_Model_crash | with_reducible exact zbv_Model_ping | with_reducible exact zbv_Model_push | with_reducible exact zbv_Model_send | with_reducible exact zbv_Model_lose | with_reducible exact zbv_Model_see | with_reducible exact zbv_Model_filledBack | with_reducible exact zbv_Model_pass | with_reducible exact zbv_Model_passed
set_option maxHeartbeats 4000000 in
set_option maxRecDepth 100000 in
theorem c_Model_ask {l : Launch} {D : va_G} {K : Nat → ClassId} {ad : Nat → Nat → Nat} {s : S3} {o x : Int32} (hJ : zw_J (rRL) ad) (hW : vp_in (s 0 25 0) 33) (hB : fB s) (hla : ∀ j, vp_in (s 19 0 j) 180) (hd : ∀ j, vp_in (s 20 0 j) 512) (ho : vp_in o 512) (hx : vp_in x 5) (hon : ¬ s 4 0 o.toNatClampNeg = 0) : zM l y_Model_ask ws_Model_ask ({ frames := 2, cells := 0, slots := 0, locals := 48 }) D zCl (zTys K) (rRL) ad [.ref (ad 0 0), .int o, .int x] (rC K ad s) (some (.int (v_Model_ask s o x))) (rC K ad (S_Model_ask s o x)) := by
  refine zM.of (cc := prog_11_method_32_code) (maxL := 6) (ret := (Option.some Jvm.ClassFile.FieldType.boolean)) (by decide) rfl (Nat.le_of_ble_eq_true rfl) ?_
  intro pP eE U mM bL mT cO S hr hlk hK
  have hts := S.2.2.2.2
  have ht := fun w h => hts w (List.mem_cons_of_mem _ h)
  refine z_aload_n S d_Model_ask_0 rfl 0 rfl 1 rfl ?_
  refine z_iload_n S d_Model_ask_1 rfl 2 rfl 2 rfl ?_
  refine z_callV S hK (As := [.int x]) (rest := []) (c_Model_leads (x := x) hJ hx) (cw_Model_leads hts w_682 rfl rfl ⟨(Nat.le_of_ble_eq_true rfl), (Nat.le_of_ble_eq_true rfl)⟩) rm_0 rC_0 rfl rfl rfl (Nat.le_of_ble_eq_true rfl) d_Model_ask_2 5 rfl [.int (v_Model_leads (s 8 0 x.toNatClampNeg) (s 9 0 x.toNatClampNeg) x)] rfl ?_
  refine z_if_ne S d_Model_ask_5 10 (by decide) 8 rfl (fun h1 => ?_) (fun h1 => ?_)
  · refine z_aload_n S d_Model_ask_10 rfl 0 rfl 11 rfl ?_
    refine z_get S hK hin_Model rm_0 rC_0 rfl 7 (Nat.le_of_ble_eq_true rfl) (ht _ w_547) (fun _ h => h) d_Model_ask_11 14 rfl (.ref (ad 7 0)) rfl ?_
    refine z_iload_n S d_Model_ask_14 rfl 1 rfl 15 rfl ?_
    refine z_zald S hK rm_7 1 rC_7 rfl ho d_Model_ask_15 16 rfl (s 7 0 o.toNatClampNeg) rfl ?_
    refine z_if_ne S d_Model_ask_16 67 (by decide) 19 rfl (fun h2 => ?_) (fun h2 => ?_)
    · refine z_aload_n S d_Model_ask_67 rfl 0 rfl 68 rfl ?_
      refine z_iload_n S d_Model_ask_68 rfl 2 rfl 69 rfl ?_
      refine z_aload_n S d_Model_ask_69 rfl 0 rfl 70 rfl ?_
      refine z_get S hK hin_Model rm_0 rC_0 rfl 3 (Nat.le_of_ble_eq_true rfl) (ht _ w_543) (fun _ h => h) d_Model_ask_70 73 rfl (.ref (ad 3 0)) rfl ?_
      refine z_iload_n S d_Model_ask_73 rfl 1 rfl 74 rfl ?_
      refine z_iald S hK rm_3 0 rC_3 rfl ho d_Model_ask_74 75 rfl (s 3 0 o.toNatClampNeg) rfl ?_
      refine z_callV S hK (As := [.int x, .int (s 3 0 o.toNatClampNeg)]) (rest := []) (c_Model_latest (x := x) (c := s 3 0 o.toNatClampNeg) hJ hx (vp_mono (hla _) (by omega)) hd) (cw_Model_latest hts w_774 rfl rfl ⟨(Nat.le_of_ble_eq_true rfl), (Nat.le_of_ble_eq_true rfl)⟩) rm_0 rC_0 rfl rfl rfl (Nat.le_of_ble_eq_true rfl) d_Model_ask_75 78 rfl [.int (laF (s 3 0) (s 20 0) x (s 3 0 o.toNatClampNeg) (s 19 0 x.toNatClampNeg).toNatClampNeg)] rfl ?_
      refine z_istore_n S d_Model_ask_78 rfl (Nat.le_of_ble_eq_true rfl) [(3, .int (laF (s 3 0) (s 20 0) x (s 3 0 o.toNatClampNeg) (s 19 0 x.toNatClampNeg).toNatClampNeg)), (0, .ref (ad 0 0)), (1, .int o), (2, .int x)] rfl 79 rfl ?_
      refine z_iload_n S d_Model_ask_79 rfl 0 rfl 80 rfl ?_
      refine z_if_ge S d_Model_ask_80 87 (by decide) 83 rfl (fun h3 => ?_) (fun h3 => ?_)
      · refine z_aload_n S d_Model_ask_87 rfl 1 rfl 88 rfl ?_
        refine z_get S hK hin_Model rm_0 rC_0 rfl 4 (Nat.le_of_ble_eq_true rfl) (ht _ w_544) (fun _ h => h) d_Model_ask_88 91 rfl (.ref (ad 4 0)) rfl ?_
        refine z_aload_n S d_Model_ask_91 rfl 1 rfl 92 rfl ?_
        refine z_get S hK hin_Model rm_0 rC_0 rfl 20 (Nat.le_of_ble_eq_true rfl) (ht _ w_560) (fun _ h => h) d_Model_ask_92 95 rfl (.ref (ad 20 0)) rfl ?_
        refine z_sipush S d_Model_ask_95 180 (by decide) 98 rfl ?_
        refine z_iload_n S d_Model_ask_98 rfl 3 rfl 99 rfl ?_
        refine z_imul S d_Model_ask_99 100 rfl ?_
        refine z_iload_n S d_Model_ask_100 rfl 0 rfl 101 rfl ?_
        refine z_iadd S d_Model_ask_101 102 rfl ?_
        refine z_sald S hK rm_20 2 rC_20 rfl (vp_180 (a := 5) hx (la_in (by have := vp_lt (hla x.toNatClampNeg); omega) h3) (by omega)) d_Model_ask_102 103 rfl (s 20 0 (((180 * x) + (laF (s 3 0) (s 20 0) x (s 3 0 o.toNatClampNeg) (s 19 0 x.toNatClampNeg).toNatClampNeg)).toNatClampNeg)) rfl ?_
        refine z_iald S hK rm_4 0 rC_4 rfl (hd _) d_Model_ask_103 104 rfl (s 4 0 ((s 20 0 (((180 * x) + (laF (s 3 0) (s 20 0) x (s 3 0 o.toNatClampNeg) (s 19 0 x.toNatClampNeg).toNatClampNeg)).toNatClampNeg)).toNatClampNeg)) rfl ?_
        refine z_istore S d_Model_ask_104 (Nat.le_of_ble_eq_true rfl) [(4, .int (s 4 0 ((s 20 0 (((180 * x) + (laF (s 3 0) (s 20 0) x (s 3 0 o.toNatClampNeg) (s 19 0 x.toNatClampNeg).toNatClampNeg)).toNatClampNeg)).toNatClampNeg))), (3, .int (laF (s 3 0) (s 20 0) x (s 3 0 o.toNatClampNeg) (s 19 0 x.toNatClampNeg).toNatClampNeg)), (0, .ref (ad 0 0)), (1, .int o), (2, .int x)] rfl 106 rfl ?_
        refine z_aload_n S d_Model_ask_106 rfl 2 rfl 107 rfl ?_
        refine z_get S hK hin_Model rm_0 rC_0 rfl 4 (Nat.le_of_ble_eq_true rfl) (ht _ w_544) (fun _ h => h) d_Model_ask_107 110 rfl (.ref (ad 4 0)) rfl ?_
        refine z_iload_n S d_Model_ask_110 rfl 3 rfl 111 rfl ?_
        refine z_iald S hK rm_4 0 rC_4 rfl ho d_Model_ask_111 112 rfl (s 4 0 o.toNatClampNeg) rfl ?_
        refine z_iload S d_Model_ask_112 0 rfl 114 rfl ?_
        refine z_icmp_ge S d_Model_ask_114 119 (by decide) 117 rfl (fun h4 => ?_) (fun h4 => ?_)
        · refine z_aload_n S d_Model_ask_119 rfl 2 rfl 120 rfl ?_
          refine z_get S hK hin_Model rm_0 rC_0 rfl 4 (Nat.le_of_ble_eq_true rfl) (ht _ w_544) (fun _ h => h) d_Model_ask_120 123 rfl (.ref (ad 4 0)) rfl ?_
          refine z_iload_n S d_Model_ask_123 rfl 3 rfl 124 rfl ?_
          refine z_iald S hK rm_4 0 rC_4 rfl ho d_Model_ask_124 125 rfl (s 4 0 o.toNatClampNeg) rfl ?_
          refine z_iload S d_Model_ask_125 0 rfl 127 rfl ?_
          refine z_icmp_ne S d_Model_ask_127 153 (by decide) 130 rfl (fun h5 => ?_) (fun h5 => ?_)
          · refine z_aload_n S d_Model_ask_153 rfl 2 rfl 154 rfl ?_
            refine z_get S hK hin_Model rm_0 rC_0 rfl 10 (Nat.le_of_ble_eq_true rfl) (ht _ w_550) (fun _ h => h) d_Model_ask_154 157 rfl (.ref (ad 10 0)) rfl ?_
            refine z_iload_n S d_Model_ask_157 rfl 4 rfl 158 rfl ?_
            refine z_iald S hK rm_10 0 rC_10 rfl (vp_mono hx (by omega)) d_Model_ask_158 159 rfl (s 10 0 x.toNatClampNeg) rfl ?_
            refine z_if_ge S d_Model_ask_159 179 (by decide) 162 rfl (fun h6 => ?_) (fun h6 => ?_)
            · refine z_aload_n S d_Model_ask_179 rfl 2 rfl 180 rfl ?_
              refine z_get S hK hin_Model rm_0 rC_0 rfl 15 (Nat.le_of_ble_eq_true rfl) (ht _ w_555) (fun _ h => h) d_Model_ask_180 183 rfl (.ref (ad 15 0)) rfl ?_
              refine z_iload_n S d_Model_ask_183 rfl 4 rfl 184 rfl ?_
              refine z_zald S hK rm_15 1 rC_15 rfl hx d_Model_ask_184 185 rfl (s 15 0 x.toNatClampNeg) rfl ?_
              refine z_if_eq S d_Model_ask_185 197 (by decide) 188 rfl (fun h7 => ?_) (fun h7 => ?_)
              · refine z_iconst S d_Model_ask_197 0 (by decide) 198 rfl ?_
                exact z_zret S hr (zb_n zb_0) hlk d_Model_ask_198 (by unfold v_Model_ask; simp only [if_neg h1, if_neg h2, if_pos h3, if_pos h4, if_neg h5, if_pos h6, if_pos h7] <;> rfl) (rC_eq (by unfold S_Model_ask; simp only [if_neg h1, if_neg h2, if_pos h3, if_pos h4, if_neg h5, if_pos h6, if_pos h7] <;> rfl))
              · refine z_aload_n S d_Model_ask_188 rfl 2 rfl 189 rfl ?_
                refine z_get S hK hin_Model rm_0 rC_0 rfl 18 (Nat.le_of_ble_eq_true rfl) (ht _ w_558) (fun _ h => h) d_Model_ask_189 192 rfl (.ref (ad 18 0)) rfl ?_
                refine z_iload_n S d_Model_ask_192 rfl 4 rfl 193 rfl ?_
                refine z_iald S hK rm_18 0 rC_18 rfl hx d_Model_ask_193 194 rfl (s 18 0 x.toNatClampNeg) rfl ?_
                refine z_if_lt S d_Model_ask_194 199 (by decide) 197 rfl (fun h8 => ?_) (fun h8 => ?_)
                · refine z_aload_n S d_Model_ask_199 rfl 2 rfl 200 rfl ?_
                  refine z_get S hK hin_Model rm_0 rC_0 rfl 18 (Nat.le_of_ble_eq_true rfl) (ht _ w_558) (fun _ h => h) d_Model_ask_200 203 rfl (.ref (ad 18 0)) rfl ?_
                  refine z_iload_n S d_Model_ask_203 rfl 4 rfl 204 rfl ?_
                  refine z_iload_n S d_Model_ask_204 rfl 3 rfl 205 rfl ?_
                  refine z_iast S hJ hK rm_18 0 rC_18 rfl hx rfl rupI_18 d_Model_ask_205 206 rfl ?_
                  refine z_aload_n S d_Model_ask_206 rfl 2 rfl 207 rfl ?_
                  refine z_iload_n S d_Model_ask_207 rfl 4 rfl 208 rfl ?_
                  refine z_callV S hK (As := [.int x]) (rest := []) (c_Model_sendPass (x := x) hJ hW hB hx) (cw_Model_sendPass hts w_694 rfl rfl ⟨(Nat.le_of_ble_eq_true rfl), (Nat.le_of_ble_eq_true rfl)⟩) rm_0 rC_0 rfl rfl rfl (Nat.le_of_ble_eq_true rfl) d_Model_ask_208 211 rfl [] rfl ?_
                  refine z_iconst S d_Model_ask_211 1 (by decide) 212 rfl ?_
                  exact z_zret S hr (zb_n zb_1) hlk d_Model_ask_212 (by unfold v_Model_ask; simp only [if_neg h1, if_neg h2, if_pos h3, if_pos h4, if_neg h5, if_pos h6, if_neg h7, if_pos h8] <;> rfl) (rC_eq (by unfold S_Model_ask; simp only [if_neg h1, if_neg h2, if_pos h3, if_pos h4, if_neg h5, if_pos h6, if_neg h7, if_pos h8] <;> rfl))
                · refine z_iconst S d_Model_ask_197 0 (by decide) 198 rfl ?_
                  exact z_zret S hr (zb_n zb_0) hlk d_Model_ask_198 (by unfold v_Model_ask; simp only [if_neg h1, if_neg h2, if_pos h3, if_pos h4, if_neg h5, if_pos h6, if_neg h7, if_neg h8] <;> rfl) (rC_eq (by unfold S_Model_ask; simp only [if_neg h1, if_neg h2, if_pos h3, if_pos h4, if_neg h5, if_pos h6, if_neg h7, if_neg h8] <;> rfl))
            · refine z_aload_n S d_Model_ask_162 rfl 2 rfl 163 rfl ?_
              refine z_iload_n S d_Model_ask_163 rfl 4 rfl 164 rfl ?_
              refine z_iload_n S d_Model_ask_164 rfl 3 rfl 165 rfl ?_
              refine z_callV S hK (As := [.int x, .int o]) (rest := []) (c_Model_perform (x := x) (o := o) hJ hx ho (hla _) hd) (cw_Model_perform hts w_754 rfl rfl ⟨(Nat.le_of_ble_eq_true rfl), (Nat.le_of_ble_eq_true rfl)⟩) rm_0 rC_0 rfl rfl rfl (Nat.le_of_ble_eq_true rfl) d_Model_ask_165 168 rfl [.int (hdF (s 5 0) (s 6 0) (s 20 0) x (s 5 0 o.toNatClampNeg) ((s 19 0 x.toNatClampNeg).toNatClampNeg))] rfl ?_
              refine z_istore S d_Model_ask_168 (Nat.le_of_ble_eq_true rfl) [(5, .int (hdF (s 5 0) (s 6 0) (s 20 0) x (s 5 0 o.toNatClampNeg) ((s 19 0 x.toNatClampNeg).toNatClampNeg))), (4, .int (s 4 0 ((s 20 0 (((180 * x) + (laF (s 3 0) (s 20 0) x (s 3 0 o.toNatClampNeg) (s 19 0 x.toNatClampNeg).toNatClampNeg)).toNatClampNeg)).toNatClampNeg))), (3, .int (laF (s 3 0) (s 20 0) x (s 3 0 o.toNatClampNeg) (s 19 0 x.toNatClampNeg).toNatClampNeg)), (0, .ref (ad 0 0)), (1, .int o), (2, .int x)] rfl 170 rfl ?_
              refine z_aload_n S d_Model_ask_170 rfl 3 rfl 171 rfl ?_
              refine z_iload_n S d_Model_ask_171 rfl 4 rfl 172 rfl ?_
              refine z_iload S d_Model_ask_172 0 rfl 174 rfl ?_
              refine z_callV S hK (As := [.int o, .int (hdF (s 5 0) (s 6 0) (s 20 0) x (s 5 0 o.toNatClampNeg) ((s 19 0 x.toNatClampNeg).toNatClampNeg))]) (rest := []) (c_Model_answer (o := o) (r := hdF (s 5 0) (s 6 0) (s 20 0) x (s 5 0 o.toNatClampNeg) ((s 19 0 x.toNatClampNeg).toNatClampNeg)) hJ hW hB ho) (cw_Model_answer hts w_766 rfl rfl ⟨(Nat.le_of_ble_eq_true rfl), (Nat.le_of_ble_eq_true rfl)⟩) rm_0 rC_0 rfl rfl rfl (Nat.le_of_ble_eq_true rfl) d_Model_ask_174 177 rfl [] rfl ?_
              refine z_iconst S d_Model_ask_177 1 (by decide) 178 rfl ?_
              exact z_zret S hr (zb_n zb_1) hlk d_Model_ask_178 (by unfold v_Model_ask; simp only [if_neg h1, if_neg h2, if_pos h3, if_pos h4, if_neg h5, if_neg h6] <;> rfl) (rC_eq (by unfold S_Model_ask; simp only [if_neg h1, if_neg h2, if_pos h3, if_pos h4, if_neg h5, if_neg h6] <;> rfl))
          · refine z_aload_n S d_Model_ask_130 rfl 2 rfl 131 rfl ?_
            refine z_iload_n S d_Model_ask_131 rfl 4 rfl 132 rfl ?_
            refine z_aload_n S d_Model_ask_132 rfl 2 rfl 133 rfl ?_
            refine z_get S hK hin_Model rm_0 rC_0 rfl 5 (Nat.le_of_ble_eq_true rfl) (ht _ w_545) (fun _ h => h) d_Model_ask_133 136 rfl (.ref (ad 5 0)) rfl ?_
            refine z_iload_n S d_Model_ask_136 rfl 3 rfl 137 rfl ?_
            refine z_iald S hK rm_5 0 rC_5 rfl ho d_Model_ask_137 138 rfl (s 5 0 o.toNatClampNeg) rfl ?_
            refine z_iload_n S d_Model_ask_138 rfl 1 rfl 139 rfl ?_
            refine z_callV S hK (As := [.int x, .int (s 5 0 o.toNatClampNeg), .int (laF (s 3 0) (s 20 0) x (s 3 0 o.toNatClampNeg) (s 19 0 x.toNatClampNeg).toNatClampNeg)]) (rest := []) (c_Model_held (x := x) (k := s 5 0 o.toNatClampNeg) (m := laF (s 3 0) (s 20 0) x (s 3 0 o.toNatClampNeg) (s 19 0 x.toNatClampNeg).toNatClampNeg) hJ hx (vp_mono (la_in (by have := vp_lt (hla x.toNatClampNeg); omega) h3) (by omega)) hd) (cw_Model_held hts w_758 rfl rfl ⟨(Nat.le_of_ble_eq_true rfl), (Nat.le_of_ble_eq_true rfl)⟩) rm_0 rC_0 rfl rfl rfl (Nat.le_of_ble_eq_true rfl) d_Model_ask_139 142 rfl [.int (hdF (s 5 0) (s 6 0) (s 20 0) x (s 5 0 o.toNatClampNeg) ((laF (s 3 0) (s 20 0) x (s 3 0 o.toNatClampNeg) (s 19 0 x.toNatClampNeg).toNatClampNeg).toNatClampNeg))] rfl ?_
            refine z_istore S d_Model_ask_142 (Nat.le_of_ble_eq_true rfl) [(5, .int (hdF (s 5 0) (s 6 0) (s 20 0) x (s 5 0 o.toNatClampNeg) ((laF (s 3 0) (s 20 0) x (s 3 0 o.toNatClampNeg) (s 19 0 x.toNatClampNeg).toNatClampNeg).toNatClampNeg))), (4, .int (s 4 0 ((s 20 0 (((180 * x) + (laF (s 3 0) (s 20 0) x (s 3 0 o.toNatClampNeg) (s 19 0 x.toNatClampNeg).toNatClampNeg)).toNatClampNeg)).toNatClampNeg))), (3, .int (laF (s 3 0) (s 20 0) x (s 3 0 o.toNatClampNeg) (s 19 0 x.toNatClampNeg).toNatClampNeg)), (0, .ref (ad 0 0)), (1, .int o), (2, .int x)] rfl 144 rfl ?_
            refine z_aload_n S d_Model_ask_144 rfl 3 rfl 145 rfl ?_
            refine z_iload_n S d_Model_ask_145 rfl 4 rfl 146 rfl ?_
            refine z_iload S d_Model_ask_146 0 rfl 148 rfl ?_
            refine z_callV S hK (As := [.int o, .int (hdF (s 5 0) (s 6 0) (s 20 0) x (s 5 0 o.toNatClampNeg) ((laF (s 3 0) (s 20 0) x (s 3 0 o.toNatClampNeg) (s 19 0 x.toNatClampNeg).toNatClampNeg).toNatClampNeg))]) (rest := []) (c_Model_answer (o := o) (r := hdF (s 5 0) (s 6 0) (s 20 0) x (s 5 0 o.toNatClampNeg) ((laF (s 3 0) (s 20 0) x (s 3 0 o.toNatClampNeg) (s 19 0 x.toNatClampNeg).toNatClampNeg).toNatClampNeg)) hJ hW hB ho) (cw_Model_answer hts w_766 rfl rfl ⟨(Nat.le_of_ble_eq_true rfl), (Nat.le_of_ble_eq_true rfl)⟩) rm_0 rC_0 rfl rfl rfl (Nat.le_of_ble_eq_true rfl) d_Model_ask_148 151 rfl [] rfl ?_
            refine z_iconst S d_Model_ask_151 1 (by decide) 152 rfl ?_
            exact z_zret S hr (zb_n zb_1) hlk d_Model_ask_152 (by unfold v_Model_ask; simp only [if_neg h1, if_neg h2, if_pos h3, if_pos h4, if_pos h5] <;> rfl) (rC_eq (by unfold S_Model_ask; simp only [if_neg h1, if_neg h2, if_pos h3, if_pos h4, if_pos h5] <;> rfl))
        · refine z_iconst S d_Model_ask_117 0 (by decide) 118 rfl ?_
          exact z_zret S hr (zb_n zb_0) hlk d_Model_ask_118 (by unfold v_Model_ask; simp only [if_neg h1, if_neg h2, if_pos h3, if_neg h4] <;> rfl) (rC_eq (by unfold S_Model_ask; simp only [if_neg h1, if_neg h2, if_pos h3, if_neg h4] <;> rfl))
      · refine z_iconst S d_Model_ask_83 0 (by decide) 84 rfl ?_
        refine z_goto S d_Model_ask_84 104 (by decide) ?_
        refine z_istore S d_Model_ask_104 (Nat.le_of_ble_eq_true rfl) [(4, .int 0), (3, .int (laF (s 3 0) (s 20 0) x (s 3 0 o.toNatClampNeg) (s 19 0 x.toNatClampNeg).toNatClampNeg)), (0, .ref (ad 0 0)), (1, .int o), (2, .int x)] rfl 106 rfl ?_
        refine z_aload_n S d_Model_ask_106 rfl 2 rfl 107 rfl ?_
        refine z_get S hK hin_Model rm_0 rC_0 rfl 4 (Nat.le_of_ble_eq_true rfl) (ht _ w_544) (fun _ h => h) d_Model_ask_107 110 rfl (.ref (ad 4 0)) rfl ?_
        refine z_iload_n S d_Model_ask_110 rfl 3 rfl 111 rfl ?_
        refine z_iald S hK rm_4 0 rC_4 rfl ho d_Model_ask_111 112 rfl (s 4 0 o.toNatClampNeg) rfl ?_
        refine z_iload S d_Model_ask_112 0 rfl 114 rfl ?_
        refine z_icmp_ge S d_Model_ask_114 119 (by decide) 117 rfl (fun h9 => ?_) (fun h9 => ?_)
        · refine z_aload_n S d_Model_ask_119 rfl 2 rfl 120 rfl ?_
          refine z_get S hK hin_Model rm_0 rC_0 rfl 4 (Nat.le_of_ble_eq_true rfl) (ht _ w_544) (fun _ h => h) d_Model_ask_120 123 rfl (.ref (ad 4 0)) rfl ?_
          refine z_iload_n S d_Model_ask_123 rfl 3 rfl 124 rfl ?_
          refine z_iald S hK rm_4 0 rC_4 rfl ho d_Model_ask_124 125 rfl (s 4 0 o.toNatClampNeg) rfl ?_
          refine z_iload S d_Model_ask_125 0 rfl 127 rfl ?_
          refine z_icmp_ne S d_Model_ask_127 153 (by decide) 130 rfl (fun h10 => ?_) (fun h10 => ?_)
          · refine z_aload_n S d_Model_ask_153 rfl 2 rfl 154 rfl ?_
            refine z_get S hK hin_Model rm_0 rC_0 rfl 10 (Nat.le_of_ble_eq_true rfl) (ht _ w_550) (fun _ h => h) d_Model_ask_154 157 rfl (.ref (ad 10 0)) rfl ?_
            refine z_iload_n S d_Model_ask_157 rfl 4 rfl 158 rfl ?_
            refine z_iald S hK rm_10 0 rC_10 rfl (vp_mono hx (by omega)) d_Model_ask_158 159 rfl (s 10 0 x.toNatClampNeg) rfl ?_
            refine z_if_ge S d_Model_ask_159 179 (by decide) 162 rfl (fun h11 => ?_) (fun h11 => ?_)
            · refine z_aload_n S d_Model_ask_179 rfl 2 rfl 180 rfl ?_
              refine z_get S hK hin_Model rm_0 rC_0 rfl 15 (Nat.le_of_ble_eq_true rfl) (ht _ w_555) (fun _ h => h) d_Model_ask_180 183 rfl (.ref (ad 15 0)) rfl ?_
              refine z_iload_n S d_Model_ask_183 rfl 4 rfl 184 rfl ?_
              refine z_zald S hK rm_15 1 rC_15 rfl hx d_Model_ask_184 185 rfl (s 15 0 x.toNatClampNeg) rfl ?_
              refine z_if_eq S d_Model_ask_185 197 (by decide) 188 rfl (fun h12 => ?_) (fun h12 => ?_)
              · refine z_iconst S d_Model_ask_197 0 (by decide) 198 rfl ?_
                exact z_zret S hr (zb_n zb_0) hlk d_Model_ask_198 (by unfold v_Model_ask; simp only [if_neg h1, if_neg h2, if_neg h3, if_pos h9, if_neg h10, if_pos h11, if_pos h12] <;> rfl) (rC_eq (by unfold S_Model_ask; simp only [if_neg h1, if_neg h2, if_neg h3, if_pos h9, if_neg h10, if_pos h11, if_pos h12] <;> rfl))
              · refine z_aload_n S d_Model_ask_188 rfl 2 rfl 189 rfl ?_
                refine z_get S hK hin_Model rm_0 rC_0 rfl 18 (Nat.le_of_ble_eq_true rfl) (ht _ w_558) (fun _ h => h) d_Model_ask_189 192 rfl (.ref (ad 18 0)) rfl ?_
                refine z_iload_n S d_Model_ask_192 rfl 4 rfl 193 rfl ?_
                refine z_iald S hK rm_18 0 rC_18 rfl hx d_Model_ask_193 194 rfl (s 18 0 x.toNatClampNeg) rfl ?_
                refine z_if_lt S d_Model_ask_194 199 (by decide) 197 rfl (fun h13 => ?_) (fun h13 => ?_)
                · refine z_aload_n S d_Model_ask_199 rfl 2 rfl 200 rfl ?_
                  refine z_get S hK hin_Model rm_0 rC_0 rfl 18 (Nat.le_of_ble_eq_true rfl) (ht _ w_558) (fun _ h => h) d_Model_ask_200 203 rfl (.ref (ad 18 0)) rfl ?_
                  refine z_iload_n S d_Model_ask_203 rfl 4 rfl 204 rfl ?_
                  refine z_iload_n S d_Model_ask_204 rfl 3 rfl 205 rfl ?_
                  refine z_iast S hJ hK rm_18 0 rC_18 rfl hx rfl rupI_18 d_Model_ask_205 206 rfl ?_
                  refine z_aload_n S d_Model_ask_206 rfl 2 rfl 207 rfl ?_
                  refine z_iload_n S d_Model_ask_207 rfl 4 rfl 208 rfl ?_
                  refine z_callV S hK (As := [.int x]) (rest := []) (c_Model_sendPass (x := x) hJ hW hB hx) (cw_Model_sendPass hts w_694 rfl rfl ⟨(Nat.le_of_ble_eq_true rfl), (Nat.le_of_ble_eq_true rfl)⟩) rm_0 rC_0 rfl rfl rfl (Nat.le_of_ble_eq_true rfl) d_Model_ask_208 211 rfl [] rfl ?_
                  refine z_iconst S d_Model_ask_211 1 (by decide) 212 rfl ?_
                  exact z_zret S hr (zb_n zb_1) hlk d_Model_ask_212 (by unfold v_Model_ask; simp only [if_neg h1, if_neg h2, if_neg h3, if_pos h9, if_neg h10, if_pos h11, if_neg h12, if_pos h13] <;> rfl) (rC_eq (by unfold S_Model_ask; simp only [if_neg h1, if_neg h2, if_neg h3, if_pos h9, if_neg h10, if_pos h11, if_neg h12, if_pos h13] <;> rfl))
                · refine z_iconst S d_Model_ask_197 0 (by decide) 198 rfl ?_
                  exact z_zret S hr (zb_n zb_0) hlk d_Model_ask_198 (by unfold v_Model_ask; simp only [if_neg h1, if_neg h2, if_neg h3, if_pos h9, if_neg h10, if_pos h11, if_neg h12, if_neg h13] <;> rfl) (rC_eq (by unfold S_Model_ask; simp only [if_neg h1, if_neg h2, if_neg h3, if_pos h9, if_neg h10, if_pos h11, if_neg h12, if_neg h13] <;> rfl))
            · refine z_aload_n S d_Model_ask_162 rfl 2 rfl 163 rfl ?_
              refine z_iload_n S d_Model_ask_163 rfl 4 rfl 164 rfl ?_
              refine z_iload_n S d_Model_ask_164 rfl 3 rfl 165 rfl ?_
              refine z_callV S hK (As := [.int x, .int o]) (rest := []) (c_Model_perform (x := x) (o := o) hJ hx ho (hla _) hd) (cw_Model_perform hts w_754 rfl rfl ⟨(Nat.le_of_ble_eq_true rfl), (Nat.le_of_ble_eq_true rfl)⟩) rm_0 rC_0 rfl rfl rfl (Nat.le_of_ble_eq_true rfl) d_Model_ask_165 168 rfl [.int (hdF (s 5 0) (s 6 0) (s 20 0) x (s 5 0 o.toNatClampNeg) ((s 19 0 x.toNatClampNeg).toNatClampNeg))] rfl ?_
              refine z_istore S d_Model_ask_168 (Nat.le_of_ble_eq_true rfl) [(5, .int (hdF (s 5 0) (s 6 0) (s 20 0) x (s 5 0 o.toNatClampNeg) ((s 19 0 x.toNatClampNeg).toNatClampNeg))), (4, .int 0), (3, .int (laF (s 3 0) (s 20 0) x (s 3 0 o.toNatClampNeg) (s 19 0 x.toNatClampNeg).toNatClampNeg)), (0, .ref (ad 0 0)), (1, .int o), (2, .int x)] rfl 170 rfl ?_
              refine z_aload_n S d_Model_ask_170 rfl 3 rfl 171 rfl ?_
              refine z_iload_n S d_Model_ask_171 rfl 4 rfl 172 rfl ?_
              refine z_iload S d_Model_ask_172 0 rfl 174 rfl ?_
              refine z_callV S hK (As := [.int o, .int (hdF (s 5 0) (s 6 0) (s 20 0) x (s 5 0 o.toNatClampNeg) ((s 19 0 x.toNatClampNeg).toNatClampNeg))]) (rest := []) (c_Model_answer (o := o) (r := hdF (s 5 0) (s 6 0) (s 20 0) x (s 5 0 o.toNatClampNeg) ((s 19 0 x.toNatClampNeg).toNatClampNeg)) hJ hW hB ho) (cw_Model_answer hts w_766 rfl rfl ⟨(Nat.le_of_ble_eq_true rfl), (Nat.le_of_ble_eq_true rfl)⟩) rm_0 rC_0 rfl rfl rfl (Nat.le_of_ble_eq_true rfl) d_Model_ask_174 177 rfl [] rfl ?_
              refine z_iconst S d_Model_ask_177 1 (by decide) 178 rfl ?_
              exact z_zret S hr (zb_n zb_1) hlk d_Model_ask_178 (by unfold v_Model_ask; simp only [if_neg h1, if_neg h2, if_neg h3, if_pos h9, if_neg h10, if_neg h11] <;> rfl) (rC_eq (by unfold S_Model_ask; simp only [if_neg h1, if_neg h2, if_neg h3, if_pos h9, if_neg h10, if_neg h11] <;> rfl))
          · exact absurd h10 hon
        · refine z_iconst S d_Model_ask_117 0 (by decide) 118 rfl ?_
          exact z_zret S hr (zb_n zb_0) hlk d_Model_ask_118 (by unfold v_Model_ask; simp only [if_neg h1, if_neg h2, if_neg h3, if_neg h9] <;> rfl) (rC_eq (by unfold S_Model_ask; simp only [if_neg h1, if_neg h2, if_neg h3, if_neg h9] <;> rfl))
    · refine z_aload_n S d_Model_ask_19 rfl 0 rfl 20 rfl ?_
      refine z_get S hK hin_Model rm_0 rC_0 rfl 1 (Nat.le_of_ble_eq_true rfl) (ht _ w_541) (fun _ h => h) d_Model_ask_20 23 rfl (.int (s 0 1 0)) rfl ?_
      refine z_aload_n S d_Model_ask_23 rfl 0 rfl 24 rfl ?_
      refine z_get S hK hin_Model rm_0 rC_0 rfl 13 (Nat.le_of_ble_eq_true rfl) (ht _ w_553) (fun _ h => h) d_Model_ask_24 27 rfl (.ref (ad 13 0)) rfl ?_
      refine z_iload_n S d_Model_ask_27 rfl 2 rfl 28 rfl ?_
      refine z_iald S hK rm_13 0 rC_13 rfl hx d_Model_ask_28 29 rfl (s 13 0 x.toNatClampNeg) rfl ?_
      refine z_iadd S d_Model_ask_29 30 rfl ?_
      refine z_aload_n S d_Model_ask_30 rfl 0 rfl 31 rfl ?_
      refine z_get S hK hin_Model rm_0 rC_0 rfl 14 (Nat.le_of_ble_eq_true rfl) (ht _ w_554) (fun _ h => h) d_Model_ask_31 34 rfl (.ref (ad 14 0)) rfl ?_
      refine z_iload_n S d_Model_ask_34 rfl 2 rfl 35 rfl ?_
      refine z_iald S hK rm_14 0 rC_14 rfl hx d_Model_ask_35 36 rfl (s 14 0 x.toNatClampNeg) rfl ?_
      refine z_icmp_lt S d_Model_ask_36 41 (by decide) 39 rfl (fun h14 => ?_) (fun h14 => ?_)
      · refine z_aload_n S d_Model_ask_41 rfl 0 rfl 42 rfl ?_
        refine z_iload_n S d_Model_ask_42 rfl 2 rfl 43 rfl ?_
        refine z_aload_n S d_Model_ask_43 rfl 0 rfl 44 rfl ?_
        refine z_get S hK hin_Model rm_0 rC_0 rfl 5 (Nat.le_of_ble_eq_true rfl) (ht _ w_545) (fun _ h => h) d_Model_ask_44 47 rfl (.ref (ad 5 0)) rfl ?_
        refine z_iload_n S d_Model_ask_47 rfl 1 rfl 48 rfl ?_
        refine z_iald S hK rm_5 0 rC_5 rfl ho d_Model_ask_48 49 rfl (s 5 0 o.toNatClampNeg) rfl ?_
        refine z_aload_n S d_Model_ask_49 rfl 0 rfl 50 rfl ?_
        refine z_get S hK hin_Model rm_0 rC_0 rfl 19 (Nat.le_of_ble_eq_true rfl) (ht _ w_559) (fun _ h => h) d_Model_ask_50 53 rfl (.ref (ad 19 0)) rfl ?_
        refine z_iload_n S d_Model_ask_53 rfl 2 rfl 54 rfl ?_
        refine z_iald S hK rm_19 0 rC_19 rfl hx d_Model_ask_54 55 rfl (s 19 0 x.toNatClampNeg) rfl ?_
        refine z_callV S hK (As := [.int x, .int (s 5 0 o.toNatClampNeg), .int (s 19 0 x.toNatClampNeg)]) (rest := []) (c_Model_held (x := x) (k := s 5 0 o.toNatClampNeg) (m := s 19 0 x.toNatClampNeg) hJ hx (vp_mono (hla _) (by omega)) hd) (cw_Model_held hts w_758 rfl rfl ⟨(Nat.le_of_ble_eq_true rfl), (Nat.le_of_ble_eq_true rfl)⟩) rm_0 rC_0 rfl rfl rfl (Nat.le_of_ble_eq_true rfl) d_Model_ask_55 58 rfl [.int (hdF (s 5 0) (s 6 0) (s 20 0) x (s 5 0 o.toNatClampNeg) ((s 19 0 x.toNatClampNeg).toNatClampNeg))] rfl ?_
        refine z_istore_n S d_Model_ask_58 rfl (Nat.le_of_ble_eq_true rfl) [(3, .int (hdF (s 5 0) (s 6 0) (s 20 0) x (s 5 0 o.toNatClampNeg) ((s 19 0 x.toNatClampNeg).toNatClampNeg))), (0, .ref (ad 0 0)), (1, .int o), (2, .int x)] rfl 59 rfl ?_
        refine z_aload_n S d_Model_ask_59 rfl 1 rfl 60 rfl ?_
        refine z_iload_n S d_Model_ask_60 rfl 2 rfl 61 rfl ?_
        refine z_iload_n S d_Model_ask_61 rfl 0 rfl 62 rfl ?_
        refine z_callV S hK (As := [.int o, .int (hdF (s 5 0) (s 6 0) (s 20 0) x (s 5 0 o.toNatClampNeg) ((s 19 0 x.toNatClampNeg).toNatClampNeg))]) (rest := []) (c_Model_answer (o := o) (r := hdF (s 5 0) (s 6 0) (s 20 0) x (s 5 0 o.toNatClampNeg) ((s 19 0 x.toNatClampNeg).toNatClampNeg)) hJ hW hB ho) (cw_Model_answer hts w_766 rfl rfl ⟨(Nat.le_of_ble_eq_true rfl), (Nat.le_of_ble_eq_true rfl)⟩) rm_0 rC_0 rfl rfl rfl (Nat.le_of_ble_eq_true rfl) d_Model_ask_62 65 rfl [] rfl ?_
        refine z_iconst S d_Model_ask_65 1 (by decide) 66 rfl ?_
        exact z_zret S hr (zb_n zb_1) hlk d_Model_ask_66 (by unfold v_Model_ask; simp only [if_neg h1, if_pos h2, if_pos h14] <;> rfl) (rC_eq (by unfold S_Model_ask; simp only [if_neg h1, if_pos h2, if_pos h14] <;> rfl))
      · refine z_iconst S d_Model_ask_39 0 (by decide) 40 rfl ?_
        exact z_zret S hr (zb_n zb_0) hlk d_Model_ask_40 (by unfold v_Model_ask; simp only [if_neg h1, if_pos h2, if_neg h14] <;> rfl) (rC_eq (by unfold S_Model_ask; simp only [if_neg h1, if_pos h2, if_neg h14] <;> rfl))
  · refine z_iconst S d_Model_ask_8 0 (by decide) 9 rfl ?_
    exact z_zret S hr (zb_n zb_0) hlk d_Model_ask_9 (by unfold v_Model_ask; simp only [if_pos h1] <;> rfl) (rC_eq (by unfold S_Model_ask; simp only [if_pos h1] <;> rfl))
