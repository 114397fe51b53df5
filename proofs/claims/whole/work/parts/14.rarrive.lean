theorem z_sw1_7 {x : Int32} (h1 : ¬ x = 1) (h2 : ¬ x = 2) (h3 : ¬ x = 3) (h4 : ¬ x = 4) (h5 : ¬ x = 5) (h6 : ¬ x = 6) (h7 : ¬ x = 7) : x.toInt < 1 ∨ 7 < x.toInt := by
  have f : ∀ k : Int32, ¬ x = k → x.toInt ≠ k.toInt := fun k h e => h (Int32.toInt_inj.mp e)
  have a1 := f 1 h1
  have a2 := f 2 h2
  have a3 := f 3 h3
  have a4 := f 4 h4
  have a5 := f 5 h5
  have a6 := f 6 h6
  have a7 := f 7 h7
  simp at a1 a2 a3 a4 a5 a6 a7
  omega
/-- what a letter p of kind k must keep so that it can arrive -/
def arOK (s : S3) (p k : Int32) : Prop := ((¬ k = 8 → vp_in (s 29 0 p.toNatClampNeg) 5) ∧ (k = 8 → vp_in (s 29 0 p.toNatClampNeg) 3)) ∧ (¬ k = 1 → ¬ k = 2 → ¬ k = 3 → ¬ k = 4 → ¬ k = 5 → ¬ k = 6 → ¬ k = 7 → k = 8) ∧
  (k = 3 → vp_in (s 34 0 p.toNatClampNeg) 180 ∧ vp_in ((S_Model_enter s (s 29 0 p.toNatClampNeg) (s 30 0 p.toNatClampNeg) (s 31 0 p.toNatClampNeg) (s 32 0 p.toNatClampNeg)) 0 25 0) 33 ∧ fB (S_Model_enter s (s 29 0 p.toNatClampNeg) (s 30 0 p.toNatClampNeg) (s 31 0 p.toNatClampNeg) (s 32 0 p.toNatClampNeg)) ∧ vp_in ((S_Model_enter s (s 29 0 p.toNatClampNeg) (s 30 0 p.toNatClampNeg) (s 31 0 p.toNatClampNeg) (s 32 0 p.toNatClampNeg)) 34 0 p.toNatClampNeg) 180) ∧ (k = 5 → vp_in (s 34 0 p.toNatClampNeg) 512) ∧ (k = 7 → vp_in (s 34 0 p.toNatClampNeg) 512 ∧ ¬ s 4 0 (s 34 0 p.toNatClampNeg).toNatClampNeg = 0)
theorem d_Model_arrive_0 : decode prog_11_method_25_code 0 = .ok (.aload_n 0, 1) := by decide +kernel
theorem d_Model_arrive_1 : decode prog_11_method_25_code 1 = .ok (.getfield 84, 3) := by decide +kernel
theorem d_Model_arrive_4 : decode prog_11_method_25_code 4 = .ok (.iload_n 1, 1) := by decide +kernel
theorem d_Model_arrive_5 : decode prog_11_method_25_code 5 = .ok (.iaload, 1) := by decide +kernel
theorem d_Model_arrive_6 : decode prog_11_method_25_code 6 = .ok (.istore_n 3, 1) := by decide +kernel
theorem d_Model_arrive_7 : decode prog_11_method_25_code 7 = .ok (.iload_n 2, 1) := by decide +kernel
theorem d_Model_arrive_8 : decode prog_11_method_25_code 8 = .ok (.tableswitch 99 1 7 #[44, 52, 59, 66, 73, 80, 87], 44) := by decide +kernel
theorem d_Model_arrive_52 : decode prog_11_method_25_code 52 = .ok (.aload_n 0, 1) := by decide +kernel
theorem d_Model_arrive_53 : decode prog_11_method_25_code 53 = .ok (.iload_n 1, 1) := by decide +kernel
theorem d_Model_arrive_54 : decode prog_11_method_25_code 54 = .ok (.iload_n 3, 1) := by decide +kernel
theorem d_Model_arrive_55 : decode prog_11_method_25_code 55 = .ok (.invokevirtual 161, 3) := by decide +kernel
theorem d_Model_arrive_58 : decode prog_11_method_25_code 58 = .ok (.iconst 1, 1) := by decide +kernel
theorem d_Model_arrive_59 : decode prog_11_method_25_code 59 = .ok (.ireturn, 1) := by decide +kernel
theorem d_Model_arrive_60 : decode prog_11_method_25_code 60 = .ok (.aload_n 0, 1) := by decide +kernel
theorem d_Model_arrive_61 : decode prog_11_method_25_code 61 = .ok (.iload_n 1, 1) := by decide +kernel
theorem d_Model_arrive_62 : decode prog_11_method_25_code 62 = .ok (.iload_n 3, 1) := by decide +kernel
theorem d_Model_arrive_63 : decode prog_11_method_25_code 63 = .ok (.invokevirtual 165, 3) := by decide +kernel
theorem d_Model_arrive_66 : decode prog_11_method_25_code 66 = .ok (.ireturn, 1) := by decide +kernel
theorem d_Model_arrive_67 : decode prog_11_method_25_code 67 = .ok (.aload_n 0, 1) := by decide +kernel
theorem d_Model_arrive_68 : decode prog_11_method_25_code 68 = .ok (.iload_n 1, 1) := by decide +kernel
theorem d_Model_arrive_69 : decode prog_11_method_25_code 69 = .ok (.iload_n 3, 1) := by decide +kernel
theorem d_Model_arrive_70 : decode prog_11_method_25_code 70 = .ok (.invokevirtual 168, 3) := by decide +kernel
theorem d_Model_arrive_73 : decode prog_11_method_25_code 73 = .ok (.ireturn, 1) := by decide +kernel
theorem d_Model_arrive_74 : decode prog_11_method_25_code 74 = .ok (.aload_n 0, 1) := by decide +kernel
theorem d_Model_arrive_75 : decode prog_11_method_25_code 75 = .ok (.iload_n 1, 1) := by decide +kernel
theorem d_Model_arrive_76 : decode prog_11_method_25_code 76 = .ok (.iload_n 3, 1) := by decide +kernel
theorem d_Model_arrive_77 : decode prog_11_method_25_code 77 = .ok (.invokevirtual 171, 3) := by decide +kernel
theorem d_Model_arrive_80 : decode prog_11_method_25_code 80 = .ok (.ireturn, 1) := by decide +kernel
theorem d_Model_arrive_81 : decode prog_11_method_25_code 81 = .ok (.aload_n 0, 1) := by decide +kernel
theorem d_Model_arrive_82 : decode prog_11_method_25_code 82 = .ok (.iload_n 1, 1) := by decide +kernel
theorem d_Model_arrive_83 : decode prog_11_method_25_code 83 = .ok (.iload_n 3, 1) := by decide +kernel
theorem d_Model_arrive_84 : decode prog_11_method_25_code 84 = .ok (.invokevirtual 174, 3) := by decide +kernel
theorem d_Model_arrive_87 : decode prog_11_method_25_code 87 = .ok (.ireturn, 1) := by decide +kernel
theorem d_Model_arrive_88 : decode prog_11_method_25_code 88 = .ok (.aload_n 0, 1) := by decide +kernel
theorem d_Model_arrive_89 : decode prog_11_method_25_code 89 = .ok (.iload_n 1, 1) := by decide +kernel
theorem d_Model_arrive_90 : decode prog_11_method_25_code 90 = .ok (.iload_n 3, 1) := by decide +kernel
theorem d_Model_arrive_91 : decode prog_11_method_25_code 91 = .ok (.invokevirtual 177, 3) := by decide +kernel
theorem d_Model_arrive_94 : decode prog_11_method_25_code 94 = .ok (.ireturn, 1) := by decide +kernel
theorem d_Model_arrive_95 : decode prog_11_method_25_code 95 = .ok (.aload_n 0, 1) := by decide +kernel
theorem d_Model_arrive_96 : decode prog_11_method_25_code 96 = .ok (.aload_n 0, 1) := by decide +kernel
theorem d_Model_arrive_97 : decode prog_11_method_25_code 97 = .ok (.getfield 99, 3) := by decide +kernel
theorem d_Model_arrive_100 : decode prog_11_method_25_code 100 = .ok (.iload_n 1, 1) := by decide +kernel
theorem d_Model_arrive_101 : decode prog_11_method_25_code 101 = .ok (.iaload, 1) := by decide +kernel
theorem d_Model_arrive_102 : decode prog_11_method_25_code 102 = .ok (.iload_n 3, 1) := by decide +kernel
theorem d_Model_arrive_103 : decode prog_11_method_25_code 103 = .ok (.invokevirtual 180, 3) := by decide +kernel
theorem d_Model_arrive_106 : decode prog_11_method_25_code 106 = .ok (.ireturn, 1) := by decide +kernel
theorem d_Model_arrive_107 : decode prog_11_method_25_code 107 = .ok (.aload_n 0, 1) := by decide +kernel
theorem d_Model_arrive_108 : decode prog_11_method_25_code 108 = .ok (.getfield 63, 3) := by decide +kernel
theorem d_Model_arrive_111 : decode prog_11_method_25_code 111 = .ok (.iload_n 3, 1) := by decide +kernel
theorem d_Model_arrive_112 : decode prog_11_method_25_code 112 = .ok (.iaload, 1) := by decide +kernel
theorem d_Model_arrive_113 : decode prog_11_method_25_code 113 = .ok (.ifCond .lt 23, 3) := by decide +kernel
theorem d_Model_arrive_116 : decode prog_11_method_25_code 116 = .ok (.aload_n 0, 1) := by decide +kernel
theorem d_Model_arrive_117 : decode prog_11_method_25_code 117 = .ok (.getfield 13, 3) := by decide +kernel
theorem d_Model_arrive_120 : decode prog_11_method_25_code 120 = .ok (.aload_n 0, 1) := by decide +kernel
theorem d_Model_arrive_121 : decode prog_11_method_25_code 121 = .ok (.getfield 63, 3) := by decide +kernel
theorem d_Model_arrive_124 : decode prog_11_method_25_code 124 = .ok (.iload_n 3, 1) := by decide +kernel
theorem d_Model_arrive_125 : decode prog_11_method_25_code 125 = .ok (.iaload, 1) := by decide +kernel
theorem d_Model_arrive_126 : decode prog_11_method_25_code 126 = .ok (.iaload, 1) := by decide +kernel
theorem d_Model_arrive_127 : decode prog_11_method_25_code 127 = .ok (.aload_n 0, 1) := by decide +kernel
theorem d_Model_arrive_128 : decode prog_11_method_25_code 128 = .ok (.getfield 87, 3) := by decide +kernel
theorem d_Model_arrive_131 : decode prog_11_method_25_code 131 = .ok (.iload_n 1, 1) := by decide +kernel
theorem d_Model_arrive_132 : decode prog_11_method_25_code 132 = .ok (.iaload, 1) := by decide +kernel
theorem d_Model_arrive_133 : decode prog_11_method_25_code 133 = .ok (.if_icmp .eq 5, 3) := by decide +kernel
theorem d_Model_arrive_136 : decode prog_11_method_25_code 136 = .ok (.iconst 0, 1) := by decide +kernel
theorem d_Model_arrive_137 : decode prog_11_method_25_code 137 = .ok (.ireturn, 1) := by decide +kernel
theorem d_Model_arrive_138 : decode prog_11_method_25_code 138 = .ok (.aload_n 0, 1) := by decide +kernel
theorem d_Model_arrive_139 : decode prog_11_method_25_code 139 = .ok (.getfield 63, 3) := by decide +kernel
theorem d_Model_arrive_142 : decode prog_11_method_25_code 142 = .ok (.iload_n 3, 1) := by decide +kernel
theorem d_Model_arrive_143 : decode prog_11_method_25_code 143 = .ok (.iconst (-1), 1) := by decide +kernel
theorem d_Model_arrive_144 : decode prog_11_method_25_code 144 = .ok (.iastore, 1) := by decide +kernel
theorem d_Model_arrive_145 : decode prog_11_method_25_code 145 = .ok (.aload_n 0, 1) := by decide +kernel
theorem d_Model_arrive_146 : decode prog_11_method_25_code 146 = .ok (.getfield 69, 3) := by decide +kernel
theorem d_Model_arrive_149 : decode prog_11_method_25_code 149 = .ok (.iload_n 3, 1) := by decide +kernel
theorem d_Model_arrive_150 : decode prog_11_method_25_code 150 = .ok (.dup2, 1) := by decide +kernel
theorem d_Model_arrive_151 : decode prog_11_method_25_code 151 = .ok (.iaload, 1) := by decide +kernel
theorem d_Model_arrive_152 : decode prog_11_method_25_code 152 = .ok (.iconst 1, 1) := by decide +kernel
theorem d_Model_arrive_153 : decode prog_11_method_25_code 153 = .ok (.iadd, 1) := by decide +kernel
theorem d_Model_arrive_154 : decode prog_11_method_25_code 154 = .ok (.iastore, 1) := by decide +kernel
theorem d_Model_arrive_155 : decode prog_11_method_25_code 155 = .ok (.aload_n 0, 1) := by decide +kernel
theorem d_Model_arrive_156 : decode prog_11_method_25_code 156 = .ok (.getfield 72, 3) := by decide +kernel
theorem d_Model_arrive_159 : decode prog_11_method_25_code 159 = .ok (.iload_n 3, 1) := by decide +kernel
theorem d_Model_arrive_160 : decode prog_11_method_25_code 160 = .ok (.aload_n 0, 1) := by decide +kernel
theorem d_Model_arrive_161 : decode prog_11_method_25_code 161 = .ok (.getfield 102, 3) := by decide +kernel
theorem d_Model_arrive_164 : decode prog_11_method_25_code 164 = .ok (.iload_n 1, 1) := by decide +kernel
theorem d_Model_arrive_165 : decode prog_11_method_25_code 165 = .ok (.iaload, 1) := by decide +kernel
theorem d_Model_arrive_166 : decode prog_11_method_25_code 166 = .ok (.iastore, 1) := by decide +kernel
theorem d_Model_arrive_167 : decode prog_11_method_25_code 167 = .ok (.iconst 1, 1) := by decide +kernel
theorem d_Model_arrive_168 : decode prog_11_method_25_code 168 = .ok (.ireturn, 1) := by decide +kernel
def S_Model_arrive (s : S3) (p : Int32) (k : Int32) : S3 := if k = 1 then (S_Model_hear s p (s 29 0 p.toNatClampNeg)) else if k = 2 then (S_Model_see s p (s 29 0 p.toNatClampNeg)) else if k = 3 then (S_Model_fill s p (s 29 0 p.toNatClampNeg)) else if k = 4 then (S_Model_filledBack s p (s 29 0 p.toNatClampNeg)) else if k = 5 then (S_Model_pass s p (s 29 0 p.toNatClampNeg)) else if k = 6 then (S_Model_passed s p (s 29 0 p.toNatClampNeg)) else if k = 7 then (S_Model_ask s (s 34 0 p.toNatClampNeg) (s 29 0 p.toNatClampNeg)) else if (s 21 0 ((s 29 0 p.toNatClampNeg).toNatClampNeg)) < 0 then s else if (s 4 0 ((s 21 0 ((s 29 0 p.toNatClampNeg).toNatClampNeg)).toNatClampNeg)) = (s 30 0 p.toNatClampNeg) then (u3 (u3 (u3 s 21 0 ((s 29 0 p.toNatClampNeg).toNatClampNeg) (-1)) 23 0 ((s 29 0 p.toNatClampNeg).toNatClampNeg) ((s 23 0 ((s 29 0 p.toNatClampNeg).toNatClampNeg)) + 1)) 24 0 ((s 29 0 p.toNatClampNeg).toNatClampNeg) (s 35 0 p.toNatClampNeg)) else s
def v_Model_arrive (s : S3) (p : Int32) (k : Int32) : Int32 := if k = 1 then 1 else if k = 2 then (v_Model_see s p (s 29 0 p.toNatClampNeg)) else if k = 3 then (v_Model_fill s p (s 29 0 p.toNatClampNeg)) else if k = 4 then (v_Model_filledBack s p (s 29 0 p.toNatClampNeg)) else if k = 5 then (v_Model_pass s p (s 29 0 p.toNatClampNeg)) else if k = 6 then (v_Model_passed s p (s 29 0 p.toNatClampNeg)) else if k = 7 then (v_Model_ask s (s 34 0 p.toNatClampNeg) (s 29 0 p.toNatClampNeg)) else if (s 21 0 ((s 29 0 p.toNatClampNeg).toNatClampNeg)) < 0 then 0 else if (s 4 0 ((s 21 0 ((s 29 0 p.toNatClampNeg).toNatClampNeg)).toNatClampNeg)) = (s 30 0 p.toNatClampNeg) then 1 else 0
theorem zbv_Model_arrive {s : S3} {p : Int32} {k : Int32} : zb (v_Model_arrive s p k) := by
  unfold v_Model_arrive
  repeat' split
  all_goals first | with_reducible exact zb_0 | with_reducible exact zb_1 | with_reducible exact zbv_Model_noServer | with_reducible exact zbv_Model_noClient | with_reducible exact zbv_Model_leads | with_reducible exact zbv_Model_fresh | with_reducible exact zbv_Model_skew | with_reducible exact zbv_Model_crash | with_reducible exact zbv_Model_ping | with_reducible exact zbv_Model_push | with_reducible exact zbv_Model_send | with_reducible exact zbv_Model_lose | with_reducible exact zbv_Model_see | with_reducible exact zbv_Model_filledBack | with_reducible exact zbv_Model_pass | with_reducible exact zbv_Model_passed | with_reducible exact zbv_Model_ask | with_reducible exact zbv_Model_fill
set_option maxHeartbeats 4000000 in
set_option maxRecDepth 100000 in
theorem c_Model_arrive {l : Launch} {D : va_G} {K : Nat → ClassId} {ad : Nat → Nat → Nat} {s : S3} {p k : Int32} (hJ : zw_J (rRL) ad) (hW : vp_in (s 0 25 0) 33) (hB : fB s) (hla : ∀ j, vp_in (s 19 0 j) 180) (hd : ∀ j, vp_in (s 20 0 j) 512) (hpe : ∀ j, ¬ s 18 0 j < 0 → vp_in (s 18 0 j) 512) (hcu : ∀ j, ¬ s 21 0 j < 0 → vp_in (s 21 0 j) 512) (hp : vp_in p 34) (har : arOK s p k) : zM l y_Model_arrive ws_Model_arrive ({ frames := 4, cells := 0, slots := 0, locals := 93 }) D zCl (zTys K) (rRL) ad [.ref (ad 0 0), .int p, .int k] (rC K ad s) (some (.int (v_Model_arrive s p k))) (rC K ad (S_Model_arrive s p k)) := by
  refine zM.of (cc := prog_11_method_25_code) (maxL := 4) (ret := (Option.some Jvm.ClassFile.FieldType.boolean)) (by decide) rfl (Nat.le_of_ble_eq_true rfl) ?_
  intro pP eE U mM bL mT cO S hr hlk hK
  have hts := S.2.2.2.2
  have ht := fun w h => hts w (List.mem_cons_of_mem _ h)
  refine z_aload_n S d_Model_arrive_0 rfl 0 rfl 1 rfl ?_
  refine z_get S hK hin_Model rm_0 rC_0 rfl 29 (Nat.le_of_ble_eq_true rfl) (ht _ w_569) (fun _ h => h) d_Model_arrive_1 4 rfl (.ref (ad 29 0)) rfl ?_
  refine z_iload_n S d_Model_arrive_4 rfl 1 rfl 5 rfl ?_
  refine z_iald S hK rm_29 0 rC_29 rfl hp d_Model_arrive_5 6 rfl (s 29 0 p.toNatClampNeg) rfl ?_
  refine z_istore_n S d_Model_arrive_6 rfl (Nat.le_of_ble_eq_true rfl) [(3, .int (s 29 0 p.toNatClampNeg)), (0, .ref (ad 0 0)), (1, .int p), (2, .int k)] rfl 7 rfl ?_
  refine z_iload_n S d_Model_arrive_7 rfl 3 rfl 8 rfl ?_
  by_cases h1 : k = 1
  · refine z_tableIn S d_Model_arrive_8 (by rw [h1]; decide) (by rw [h1]; decide) (by rw [h1]; rfl) 52 (by decide) ?_
    refine z_aload_n S d_Model_arrive_52 rfl 1 rfl 53 rfl ?_
    refine z_iload_n S d_Model_arrive_53 rfl 2 rfl 54 rfl ?_
    refine z_iload_n S d_Model_arrive_54 rfl 0 rfl 55 rfl ?_
    refine z_callV S hK (As := [.int p, .int (s 29 0 p.toNatClampNeg)]) (rest := []) (c_Model_hear (p := p) (x := s 29 0 p.toNatClampNeg) hJ hW hB hp (har.1.1 (by rw [h1]; decide))) (cw_Model_hear hts w_730 rfl rfl ⟨(Nat.le_of_ble_eq_true rfl), (Nat.le_of_ble_eq_true rfl)⟩) rm_0 rC_0 rfl rfl rfl (Nat.le_of_ble_eq_true rfl) d_Model_arrive_55 58 rfl [] rfl ?_
    refine z_iconst S d_Model_arrive_58 1 (by decide) 59 rfl ?_
    exact z_zret S hr (zb_n zb_1) hlk d_Model_arrive_59 (by unfold v_Model_arrive; simp only [if_pos h1] <;> rfl) (rC_eq (by unfold S_Model_arrive; simp only [if_pos h1] <;> rfl))
  by_cases h2 : k = 2
  · refine z_tableIn S d_Model_arrive_8 (by rw [h2]; decide) (by rw [h2]; decide) (by rw [h2]; rfl) 60 (by decide) ?_
    refine z_aload_n S d_Model_arrive_60 rfl 1 rfl 61 rfl ?_
    refine z_iload_n S d_Model_arrive_61 rfl 2 rfl 62 rfl ?_
    refine z_iload_n S d_Model_arrive_62 rfl 0 rfl 63 rfl ?_
    refine z_callV S hK (As := [.int p, .int (s 29 0 p.toNatClampNeg)]) (rest := []) (c_Model_see (p := p) (x := s 29 0 p.toNatClampNeg) hJ hW hB hla hp (har.1.1 (by rw [h2]; decide))) (cw_Model_see hts w_734 rfl rfl ⟨(Nat.le_of_ble_eq_true rfl), (Nat.le_of_ble_eq_true rfl)⟩) rm_0 rC_0 rfl rfl rfl (Nat.le_of_ble_eq_true rfl) d_Model_arrive_63 66 rfl [.int (v_Model_see s p (s 29 0 p.toNatClampNeg))] rfl ?_
    exact z_zret S hr (zb_n zbv_Model_see) hlk d_Model_arrive_66 (by unfold v_Model_arrive; simp only [if_neg h1, if_pos h2] <;> rfl) (rC_eq (by unfold S_Model_arrive; simp only [if_neg h1, if_pos h2] <;> rfl))
  by_cases h3 : k = 3
  · refine z_tableIn S d_Model_arrive_8 (by rw [h3]; decide) (by rw [h3]; decide) (by rw [h3]; rfl) 67 (by decide) ?_
    refine z_aload_n S d_Model_arrive_67 rfl 1 rfl 68 rfl ?_
    refine z_iload_n S d_Model_arrive_68 rfl 2 rfl 69 rfl ?_
    refine z_iload_n S d_Model_arrive_69 rfl 0 rfl 70 rfl ?_
    refine z_callV S hK (As := [.int p, .int (s 29 0 p.toNatClampNeg)]) (rest := []) (c_Model_fill (p := p) (x := s 29 0 p.toNatClampNeg) hJ hW hB hla hp (har.1.1 (by rw [h3]; decide)) ((har.2.2.1 h3).1) ((har.2.2.1 h3).2.1) ((har.2.2.1 h3).2.2.1) ((har.2.2.1 h3).2.2.2)) (cw_Model_fill hts w_742 rfl rfl ⟨(Nat.le_of_ble_eq_true rfl), (Nat.le_of_ble_eq_true rfl)⟩) rm_0 rC_0 rfl rfl rfl (Nat.le_of_ble_eq_true rfl) d_Model_arrive_70 73 rfl [.int (v_Model_fill s p (s 29 0 p.toNatClampNeg))] rfl ?_
    exact z_zret S hr (zb_n zbv_Model_fill) hlk d_Model_arrive_73 (by unfold v_Model_arrive; simp only [if_neg h1, if_neg h2, if_pos h3] <;> rfl) (rC_eq (by unfold S_Model_arrive; simp only [if_neg h1, if_neg h2, if_pos h3] <;> rfl))
  by_cases h4 : k = 4
  · refine z_tableIn S d_Model_arrive_8 (by rw [h4]; decide) (by rw [h4]; decide) (by rw [h4]; rfl) 74 (by decide) ?_
    refine z_aload_n S d_Model_arrive_74 rfl 1 rfl 75 rfl ?_
    refine z_iload_n S d_Model_arrive_75 rfl 2 rfl 76 rfl ?_
    refine z_iload_n S d_Model_arrive_76 rfl 0 rfl 77 rfl ?_
    refine z_callV S hK (As := [.int p, .int (s 29 0 p.toNatClampNeg)]) (rest := []) (c_Model_filledBack (p := p) (x := s 29 0 p.toNatClampNeg) hJ hp (har.1.1 (by rw [h4]; decide))) (cw_Model_filledBack hts w_746 rfl rfl ⟨(Nat.le_of_ble_eq_true rfl), (Nat.le_of_ble_eq_true rfl)⟩) rm_0 rC_0 rfl rfl rfl (Nat.le_of_ble_eq_true rfl) d_Model_arrive_77 80 rfl [.int (v_Model_filledBack s p (s 29 0 p.toNatClampNeg))] rfl ?_
    exact z_zret S hr (zb_n zbv_Model_filledBack) hlk d_Model_arrive_80 (by unfold v_Model_arrive; simp only [if_neg h1, if_neg h2, if_neg h3, if_pos h4] <;> rfl) (rC_eq (by unfold S_Model_arrive; simp only [if_neg h1, if_neg h2, if_neg h3, if_pos h4] <;> rfl))
  by_cases h5 : k = 5
  · refine z_tableIn S d_Model_arrive_8 (by rw [h5]; decide) (by rw [h5]; decide) (by rw [h5]; rfl) 81 (by decide) ?_
    refine z_aload_n S d_Model_arrive_81 rfl 1 rfl 82 rfl ?_
    refine z_iload_n S d_Model_arrive_82 rfl 2 rfl 83 rfl ?_
    refine z_iload_n S d_Model_arrive_83 rfl 0 rfl 84 rfl ?_
    refine z_callV S hK (As := [.int p, .int (s 29 0 p.toNatClampNeg)]) (rest := []) (c_Model_pass (p := p) (x := s 29 0 p.toNatClampNeg) hJ hW hB hla hd (har.2.2.2.1 h5) hp (har.1.1 (by rw [h5]; decide))) (cw_Model_pass hts w_750 rfl rfl ⟨(Nat.le_of_ble_eq_true rfl), (Nat.le_of_ble_eq_true rfl)⟩) rm_0 rC_0 rfl rfl rfl (Nat.le_of_ble_eq_true rfl) d_Model_arrive_84 87 rfl [.int (v_Model_pass s p (s 29 0 p.toNatClampNeg))] rfl ?_
    exact z_zret S hr (zb_n zbv_Model_pass) hlk d_Model_arrive_87 (by unfold v_Model_arrive; simp only [if_neg h1, if_neg h2, if_neg h3, if_neg h4, if_pos h5] <;> rfl) (rC_eq (by unfold S_Model_arrive; simp only [if_neg h1, if_neg h2, if_neg h3, if_neg h4, if_pos h5] <;> rfl))
  by_cases h6 : k = 6
  · refine z_tableIn S d_Model_arrive_8 (by rw [h6]; decide) (by rw [h6]; decide) (by rw [h6]; rfl) 88 (by decide) ?_
    refine z_aload_n S d_Model_arrive_88 rfl 1 rfl 89 rfl ?_
    refine z_iload_n S d_Model_arrive_89 rfl 2 rfl 90 rfl ?_
    refine z_iload_n S d_Model_arrive_90 rfl 0 rfl 91 rfl ?_
    refine z_callV S hK (As := [.int p, .int (s 29 0 p.toNatClampNeg)]) (rest := []) (c_Model_passed (p := p) (x := s 29 0 p.toNatClampNeg) hJ hW hB hla hd (by assumption /- ∀ j, ¬ (s 18 0 j) < 0 → vp_in (s 18 0 j) 512 -/) hp (har.1.1 (by rw [h6]; decide))) (cw_Model_passed hts w_762 rfl rfl ⟨(Nat.le_of_ble_eq_true rfl), (Nat.le_of_ble_eq_true rfl)⟩) rm_0 rC_0 rfl rfl rfl (Nat.le_of_ble_eq_true rfl) d_Model_arrive_91 94 rfl [.int (v_Model_passed s p (s 29 0 p.toNatClampNeg))] rfl ?_
    exact z_zret S hr (zb_n zbv_Model_passed) hlk d_Model_arrive_94 (by unfold v_Model_arrive; simp only [if_neg h1, if_neg h2, if_neg h3, if_neg h4, if_neg h5, if_pos h6] <;> rfl) (rC_eq (by unfold S_Model_arrive; simp only [if_neg h1, if_neg h2, if_neg h3, if_neg h4, if_neg h5, if_pos h6] <;> rfl))
  by_cases h7 : k = 7
  · refine z_tableIn S d_Model_arrive_8 (by rw [h7]; decide) (by rw [h7]; decide) (by rw [h7]; rfl) 95 (by decide) ?_
    refine z_aload_n S d_Model_arrive_95 rfl 1 rfl 96 rfl ?_
    refine z_aload_n S d_Model_arrive_96 rfl 1 rfl 97 rfl ?_
    refine z_get S hK hin_Model rm_0 rC_0 rfl 34 (Nat.le_of_ble_eq_true rfl) (ht _ w_574) (fun _ h => h) d_Model_arrive_97 100 rfl (.ref (ad 34 0)) rfl ?_
    refine z_iload_n S d_Model_arrive_100 rfl 2 rfl 101 rfl ?_
    refine z_iald S hK rm_34 0 rC_34 rfl hp d_Model_arrive_101 102 rfl (s 34 0 p.toNatClampNeg) rfl ?_
    refine z_iload_n S d_Model_arrive_102 rfl 0 rfl 103 rfl ?_
    refine z_callV S hK (As := [.int (s 34 0 p.toNatClampNeg), .int (s 29 0 p.toNatClampNeg)]) (rest := []) (c_Model_ask (o := s 34 0 p.toNatClampNeg) (x := s 29 0 p.toNatClampNeg) hJ hW hB hla hd ((har.2.2.2.2 h7).1) (har.1.1 (by rw [h7]; decide)) ((har.2.2.2.2 h7).2)) (cw_Model_ask hts w_770 rfl rfl ⟨(Nat.le_of_ble_eq_true rfl), (Nat.le_of_ble_eq_true rfl)⟩) rm_0 rC_0 rfl rfl rfl (Nat.le_of_ble_eq_true rfl) d_Model_arrive_103 106 rfl [.int (v_Model_ask s (s 34 0 p.toNatClampNeg) (s 29 0 p.toNatClampNeg))] rfl ?_
    exact z_zret S hr (zb_n zbv_Model_ask) hlk d_Model_arrive_106 (by unfold v_Model_arrive; simp only [if_neg h1, if_neg h2, if_neg h3, if_neg h4, if_neg h5, if_neg h6, if_pos h7] <;> rfl) (rC_eq (by unfold S_Model_arrive; simp only [if_neg h1, if_neg h2, if_neg h3, if_neg h4, if_neg h5, if_neg h6, if_pos h7] <;> rfl))
  refine z_tableOut S d_Model_arrive_8 (z_sw1_7 h1 h2 h3 h4 h5 h6 h7) 107 (by decide) ?_
  refine z_aload_n S d_Model_arrive_107 rfl 1 rfl 108 rfl ?_
  refine z_get S hK hin_Model rm_0 rC_0 rfl 21 (Nat.le_of_ble_eq_true rfl) (ht _ w_561) (fun _ h => h) d_Model_arrive_108 111 rfl (.ref (ad 21 0)) rfl ?_
  refine z_iload_n S d_Model_arrive_111 rfl 0 rfl 112 rfl ?_
  refine z_iald S hK rm_21 0 rC_21 rfl (har.1.2 (har.2.1 h1 h2 h3 h4 h5 h6 h7)) d_Model_arrive_112 113 rfl (s 21 0 ((s 29 0 p.toNatClampNeg).toNatClampNeg)) rfl ?_
  refine z_if_lt S d_Model_arrive_113 136 (by decide) 116 rfl (fun h8 => ?_) (fun h8 => ?_)
  · refine z_iconst S d_Model_arrive_136 0 (by decide) 137 rfl ?_
    exact z_zret S hr (zb_n zb_0) hlk d_Model_arrive_137 (by unfold v_Model_arrive; simp only [if_neg h1, if_neg h2, if_neg h3, if_neg h4, if_neg h5, if_neg h6, if_neg h7, if_pos h8] <;> rfl) (rC_eq (by unfold S_Model_arrive; simp only [if_neg h1, if_neg h2, if_neg h3, if_neg h4, if_neg h5, if_neg h6, if_neg h7, if_pos h8] <;> rfl))
  · refine z_aload_n S d_Model_arrive_116 rfl 1 rfl 117 rfl ?_
    refine z_get S hK hin_Model rm_0 rC_0 rfl 4 (Nat.le_of_ble_eq_true rfl) (ht _ w_544) (fun _ h => h) d_Model_arrive_117 120 rfl (.ref (ad 4 0)) rfl ?_
    refine z_aload_n S d_Model_arrive_120 rfl 1 rfl 121 rfl ?_
    refine z_get S hK hin_Model rm_0 rC_0 rfl 21 (Nat.le_of_ble_eq_true rfl) (ht _ w_561) (fun _ h => h) d_Model_arrive_121 124 rfl (.ref (ad 21 0)) rfl ?_
    refine z_iload_n S d_Model_arrive_124 rfl 0 rfl 125 rfl ?_
    refine z_iald S hK rm_21 0 rC_21 rfl (har.1.2 (har.2.1 h1 h2 h3 h4 h5 h6 h7)) d_Model_arrive_125 126 rfl (s 21 0 ((s 29 0 p.toNatClampNeg).toNatClampNeg)) rfl ?_
    refine z_iald S hK rm_4 0 rC_4 rfl (hcu _ h8) d_Model_arrive_126 127 rfl (s 4 0 ((s 21 0 ((s 29 0 p.toNatClampNeg).toNatClampNeg)).toNatClampNeg)) rfl ?_
    refine z_aload_n S d_Model_arrive_127 rfl 1 rfl 128 rfl ?_
    refine z_get S hK hin_Model rm_0 rC_0 rfl 30 (Nat.le_of_ble_eq_true rfl) (ht _ w_570) (fun _ h => h) d_Model_arrive_128 131 rfl (.ref (ad 30 0)) rfl ?_
    refine z_iload_n S d_Model_arrive_131 rfl 2 rfl 132 rfl ?_
    refine z_iald S hK rm_30 0 rC_30 rfl hp d_Model_arrive_132 133 rfl (s 30 0 p.toNatClampNeg) rfl ?_
    refine z_icmp_eq S d_Model_arrive_133 138 (by decide) 136 rfl (fun h9 => ?_) (fun h9 => ?_)
    · refine z_aload_n S d_Model_arrive_138 rfl 1 rfl 139 rfl ?_
      refine z_get S hK hin_Model rm_0 rC_0 rfl 21 (Nat.le_of_ble_eq_true rfl) (ht _ w_561) (fun _ h => h) d_Model_arrive_139 142 rfl (.ref (ad 21 0)) rfl ?_
      refine z_iload_n S d_Model_arrive_142 rfl 0 rfl 143 rfl ?_
      refine z_iconst S d_Model_arrive_143 (-1) (by decide) 144 rfl ?_
      refine z_iast S hJ hK rm_21 0 rC_21 rfl (har.1.2 (har.2.1 h1 h2 h3 h4 h5 h6 h7)) rfl rupI_21 d_Model_arrive_144 145 rfl ?_
      refine z_aload_n S d_Model_arrive_145 rfl 1 rfl 146 rfl ?_
      refine z_get S hK hin_Model rm_0 rC_0 rfl 23 (Nat.le_of_ble_eq_true rfl) (ht _ w_563) (fun _ h => h) d_Model_arrive_146 149 rfl (.ref (ad 23 0)) rfl ?_
      refine z_iload_n S d_Model_arrive_149 rfl 0 rfl 150 rfl ?_
      refine z_dup2_11 S d_Model_arrive_150 rfl rfl 151 rfl ?_
      refine z_iald S hK rm_23 0 rC_23 rfl (har.1.2 (har.2.1 h1 h2 h3 h4 h5 h6 h7)) d_Model_arrive_151 152 rfl (s 23 0 ((s 29 0 p.toNatClampNeg).toNatClampNeg)) rfl ?_
      refine z_iconst S d_Model_arrive_152 1 (by decide) 153 rfl ?_
      refine z_iadd S d_Model_arrive_153 154 rfl ?_
      refine z_iast S hJ hK rm_23 0 rC_23 rfl (har.1.2 (har.2.1 h1 h2 h3 h4 h5 h6 h7)) rfl rupI_23 d_Model_arrive_154 155 rfl ?_
      refine z_aload_n S d_Model_arrive_155 rfl 1 rfl 156 rfl ?_
      refine z_get S hK hin_Model rm_0 rC_0 rfl 24 (Nat.le_of_ble_eq_true rfl) (ht _ w_564) (fun _ h => h) d_Model_arrive_156 159 rfl (.ref (ad 24 0)) rfl ?_
      refine z_iload_n S d_Model_arrive_159 rfl 0 rfl 160 rfl ?_
      refine z_aload_n S d_Model_arrive_160 rfl 1 rfl 161 rfl ?_
      refine z_get S hK hin_Model rm_0 rC_0 rfl 35 (Nat.le_of_ble_eq_true rfl) (ht _ w_575) (fun _ h => h) d_Model_arrive_161 164 rfl (.ref (ad 35 0)) rfl ?_
      refine z_iload_n S d_Model_arrive_164 rfl 2 rfl 165 rfl ?_
      refine z_iald S hK rm_35 0 rC_35 rfl hp d_Model_arrive_165 166 rfl (s 35 0 p.toNatClampNeg) rfl ?_
      refine z_iast S hJ hK rm_24 0 rC_24 rfl (har.1.2 (har.2.1 h1 h2 h3 h4 h5 h6 h7)) rfl rupI_24 d_Model_arrive_166 167 rfl ?_
      refine z_iconst S d_Model_arrive_167 1 (by decide) 168 rfl ?_
      exact z_zret S hr (zb_n zb_1) hlk d_Model_arrive_168 (by unfold v_Model_arrive; simp only [if_neg h1, if_neg h2, if_neg h3, if_neg h4, if_neg h5, if_neg h6, if_neg h7, if_neg h8, if_pos h9] <;> rfl) (rC_eq (by unfold S_Model_arrive; simp only [if_neg h1, if_neg h2, if_neg h3, if_neg h4, if_neg h5, if_neg h6, if_neg h7, if_neg h8, if_pos h9] <;> rfl))
    · refine z_iconst S d_Model_arrive_136 0 (by decide) 137 rfl ?_
      exact z_zret S hr (zb_n zb_0) hlk d_Model_arrive_137 (by unfold v_Model_arrive; simp only [if_neg h1, if_neg h2, if_neg h3, if_neg h4, if_neg h5, if_neg h6, if_neg h7, if_neg h8, if_neg h9] <;> rfl) (rC_eq (by unfold S_Model_arrive; simp only [if_neg h1, if_neg h2, if_neg h3, if_neg h4, if_neg h5, if_neg h6, if_neg h7, if_neg h8, if_neg h9] <;> rfl))
theorem w_pred {w x : Int32} (hW : vp_in w 33) (hx : vp_in x w.toNatClampNeg) : vp_in (w - 1) 33 := by
  obtain ⟨k, hk, hk2, rfl⟩ := vp_nI hW
  have h1 := vp_lt hx
  rw [nI_clamp hk2] at h1
  obtain ⟨k, rfl⟩ : ∃ k', k = k' + 1 := ⟨k - 1, by omega⟩
  rw [nI_pred]
  exact nI_in (by omega) (by omega)
theorem d_Model_deliver_0 : decode prog_11_method_24_code 0 = .ok (.iload_n 1, 1) := by decide +kernel
theorem d_Model_deliver_1 : decode prog_11_method_24_code 1 = .ok (.ifCond .lt 11, 3) := by decide +kernel
theorem d_Model_deliver_4 : decode prog_11_method_24_code 4 = .ok (.iload_n 1, 1) := by decide +kernel
theorem d_Model_deliver_5 : decode prog_11_method_24_code 5 = .ok (.aload_n 0, 1) := by decide +kernel
theorem d_Model_deliver_6 : decode prog_11_method_24_code 6 = .ok (.getfield 112, 3) := by decide +kernel
theorem d_Model_deliver_9 : decode prog_11_method_24_code 9 = .ok (.if_icmp .lt 5, 3) := by decide +kernel
theorem d_Model_deliver_12 : decode prog_11_method_24_code 12 = .ok (.iconst (-1), 1) := by decide +kernel
theorem d_Model_deliver_13 : decode prog_11_method_24_code 13 = .ok (.ireturn, 1) := by decide +kernel
theorem d_Model_deliver_14 : decode prog_11_method_24_code 14 = .ok (.aload_n 0, 1) := by decide +kernel
theorem d_Model_deliver_15 : decode prog_11_method_24_code 15 = .ok (.iload_n 1, 1) := by decide +kernel
theorem d_Model_deliver_16 : decode prog_11_method_24_code 16 = .ok (.invokevirtual 153, 3) := by decide +kernel
theorem d_Model_deliver_19 : decode prog_11_method_24_code 19 = .ok (.istore_n 2, 1) := by decide +kernel
theorem d_Model_deliver_20 : decode prog_11_method_24_code 20 = .ok (.aload_n 0, 1) := by decide +kernel
theorem d_Model_deliver_21 : decode prog_11_method_24_code 21 = .ok (.getfield 81, 3) := by decide +kernel
theorem d_Model_deliver_24 : decode prog_11_method_24_code 24 = .ok (.iload_n 2, 1) := by decide +kernel
theorem d_Model_deliver_25 : decode prog_11_method_24_code 25 = .ok (.iaload, 1) := by decide +kernel
theorem d_Model_deliver_26 : decode prog_11_method_24_code 26 = .ok (.istore_n 3, 1) := by decide +kernel
theorem d_Model_deliver_27 : decode prog_11_method_24_code 27 = .ok (.iload_n 3, 1) := by decide +kernel
theorem d_Model_deliver_28 : decode prog_11_method_24_code 28 = .ok (.iconst 1, 1) := by decide +kernel
theorem d_Model_deliver_29 : decode prog_11_method_24_code 29 = .ok (.if_icmp .eq 23, 3) := by decide +kernel
theorem d_Model_deliver_32 : decode prog_11_method_24_code 32 = .ok (.iload_n 3, 1) := by decide +kernel
theorem d_Model_deliver_33 : decode prog_11_method_24_code 33 = .ok (.bipush 8, 2) := by decide +kernel
theorem d_Model_deliver_35 : decode prog_11_method_24_code 35 = .ok (.if_icmp .eq 17, 3) := by decide +kernel
theorem d_Model_deliver_38 : decode prog_11_method_24_code 38 = .ok (.aload_n 0, 1) := by decide +kernel
theorem d_Model_deliver_39 : decode prog_11_method_24_code 39 = .ok (.getfield 50, 3) := by decide +kernel
theorem d_Model_deliver_42 : decode prog_11_method_24_code 42 = .ok (.aload_n 0, 1) := by decide +kernel
theorem d_Model_deliver_43 : decode prog_11_method_24_code 43 = .ok (.getfield 84, 3) := by decide +kernel
theorem d_Model_deliver_46 : decode prog_11_method_24_code 46 = .ok (.iload_n 2, 1) := by decide +kernel
theorem d_Model_deliver_47 : decode prog_11_method_24_code 47 = .ok (.iaload, 1) := by decide +kernel
theorem d_Model_deliver_48 : decode prog_11_method_24_code 48 = .ok (.baload, 1) := by decide +kernel
theorem d_Model_deliver_49 : decode prog_11_method_24_code 49 = .ok (.ifCond .ne 7, 3) := by decide +kernel
theorem d_Model_deliver_52 : decode prog_11_method_24_code 52 = .ok (.iconst 1, 1) := by decide +kernel
theorem d_Model_deliver_53 : decode prog_11_method_24_code 53 = .ok (.goto 4, 3) := by decide +kernel
theorem d_Model_deliver_56 : decode prog_11_method_24_code 56 = .ok (.iconst 0, 1) := by decide +kernel
theorem d_Model_deliver_57 : decode prog_11_method_24_code 57 = .ok (.istore 4, 2) := by decide +kernel
theorem d_Model_deliver_59 : decode prog_11_method_24_code 59 = .ok (.iload 4, 2) := by decide +kernel
theorem d_Model_deliver_61 : decode prog_11_method_24_code 61 = .ok (.ifCond .eq 11, 3) := by decide +kernel
theorem d_Model_deliver_64 : decode prog_11_method_24_code 64 = .ok (.aload_n 0, 1) := by decide +kernel
theorem d_Model_deliver_65 : decode prog_11_method_24_code 65 = .ok (.iload_n 2, 1) := by decide +kernel
theorem d_Model_deliver_66 : decode prog_11_method_24_code 66 = .ok (.iload_n 3, 1) := by decide +kernel
theorem d_Model_deliver_67 : decode prog_11_method_24_code 67 = .ok (.invokevirtual 157, 3) := by decide +kernel
theorem d_Model_deliver_70 : decode prog_11_method_24_code 70 = .ok (.istore 4, 2) := by decide +kernel
theorem d_Model_deliver_72 : decode prog_11_method_24_code 72 = .ok (.aload_n 0, 1) := by decide +kernel
theorem d_Model_deliver_73 : decode prog_11_method_24_code 73 = .ok (.getfield 78, 3) := by decide +kernel
theorem d_Model_deliver_76 : decode prog_11_method_24_code 76 = .ok (.iload_n 2, 1) := by decide +kernel
theorem d_Model_deliver_77 : decode prog_11_method_24_code 77 = .ok (.iconst 0, 1) := by decide +kernel
theorem d_Model_deliver_78 : decode prog_11_method_24_code 78 = .ok (.bastore, 1) := by decide +kernel
theorem d_Model_deliver_79 : decode prog_11_method_24_code 79 = .ok (.iload 4, 2) := by decide +kernel
theorem d_Model_deliver_81 : decode prog_11_method_24_code 81 = .ok (.ifCond .eq 7, 3) := by decide +kernel
theorem d_Model_deliver_84 : decode prog_11_method_24_code 84 = .ok (.iload_n 3, 1) := by decide +kernel
theorem d_Model_deliver_85 : decode prog_11_method_24_code 85 = .ok (.goto 7, 3) := by decide +kernel
theorem d_Model_deliver_88 : decode prog_11_method_24_code 88 = .ok (.iload_n 3, 1) := by decide +kernel
theorem d_Model_deliver_89 : decode prog_11_method_24_code 89 = .ok (.bipush 8, 2) := by decide +kernel
theorem d_Model_deliver_91 : decode prog_11_method_24_code 91 = .ok (.iadd, 1) := by decide +kernel
theorem d_Model_deliver_92 : decode prog_11_method_24_code 92 = .ok (.ireturn, 1) := by decide +kernel
def S_Model_deliver (s : S3) (x : Int32) : S3 := if x < 0 then s else if x < (s 0 25 0) then (if (s 28 0 ((s 26 0 x.toNatClampNeg).toNatClampNeg)) = 1 then (if (v_Model_arrive (uA (u3 s 0 25 0 ((s 0 25 0) - 1)) 26 0 (rowR ((s 0 25 0).toNatClampNeg - 1 - x.toNatClampNeg) x.toNatClampNeg (s 26 0))) (s 26 0 x.toNatClampNeg) (s 28 0 ((s 26 0 x.toNatClampNeg).toNatClampNeg))) = 0 then (u3 (S_Model_arrive (uA (u3 s 0 25 0 ((s 0 25 0) - 1)) 26 0 (rowR ((s 0 25 0).toNatClampNeg - 1 - x.toNatClampNeg) x.toNatClampNeg (s 26 0))) (s 26 0 x.toNatClampNeg) (s 28 0 ((s 26 0 x.toNatClampNeg).toNatClampNeg))) 27 0 ((s 26 0 x.toNatClampNeg).toNatClampNeg) 0) else u3 (S_Model_arrive (uA (u3 s 0 25 0 ((s 0 25 0) - 1)) 26 0 (rowR ((s 0 25 0).toNatClampNeg - 1 - x.toNatClampNeg) x.toNatClampNeg (s 26 0))) (s 26 0 x.toNatClampNeg) (s 28 0 ((s 26 0 x.toNatClampNeg).toNatClampNeg))) 27 0 ((s 26 0 x.toNatClampNeg).toNatClampNeg) 0) else if (s 28 0 ((s 26 0 x.toNatClampNeg).toNatClampNeg)) = 8 then (if (v_Model_arrive (uA (u3 s 0 25 0 ((s 0 25 0) - 1)) 26 0 (rowR ((s 0 25 0).toNatClampNeg - 1 - x.toNatClampNeg) x.toNatClampNeg (s 26 0))) (s 26 0 x.toNatClampNeg) (s 28 0 ((s 26 0 x.toNatClampNeg).toNatClampNeg))) = 0 then (u3 (S_Model_arrive (uA (u3 s 0 25 0 ((s 0 25 0) - 1)) 26 0 (rowR ((s 0 25 0).toNatClampNeg - 1 - x.toNatClampNeg) x.toNatClampNeg (s 26 0))) (s 26 0 x.toNatClampNeg) (s 28 0 ((s 26 0 x.toNatClampNeg).toNatClampNeg))) 27 0 ((s 26 0 x.toNatClampNeg).toNatClampNeg) 0) else u3 (S_Model_arrive (uA (u3 s 0 25 0 ((s 0 25 0) - 1)) 26 0 (rowR ((s 0 25 0).toNatClampNeg - 1 - x.toNatClampNeg) x.toNatClampNeg (s 26 0))) (s 26 0 x.toNatClampNeg) (s 28 0 ((s 26 0 x.toNatClampNeg).toNatClampNeg))) 27 0 ((s 26 0 x.toNatClampNeg).toNatClampNeg) 0) else if (s 17 0 ((s 29 0 ((s 26 0 x.toNatClampNeg).toNatClampNeg)).toNatClampNeg)) = 0 then (if (v_Model_arrive (uA (u3 s 0 25 0 ((s 0 25 0) - 1)) 26 0 (rowR ((s 0 25 0).toNatClampNeg - 1 - x.toNatClampNeg) x.toNatClampNeg (s 26 0))) (s 26 0 x.toNatClampNeg) (s 28 0 ((s 26 0 x.toNatClampNeg).toNatClampNeg))) = 0 then (u3 (S_Model_arrive (uA (u3 s 0 25 0 ((s 0 25 0) - 1)) 26 0 (rowR ((s 0 25 0).toNatClampNeg - 1 - x.toNatClampNeg) x.toNatClampNeg (s 26 0))) (s 26 0 x.toNatClampNeg) (s 28 0 ((s 26 0 x.toNatClampNeg).toNatClampNeg))) 27 0 ((s 26 0 x.toNatClampNeg).toNatClampNeg) 0) else u3 (S_Model_arrive (uA (u3 s 0 25 0 ((s 0 25 0) - 1)) 26 0 (rowR ((s 0 25 0).toNatClampNeg - 1 - x.toNatClampNeg) x.toNatClampNeg (s 26 0))) (s 26 0 x.toNatClampNeg) (s 28 0 ((s 26 0 x.toNatClampNeg).toNatClampNeg))) 27 0 ((s 26 0 x.toNatClampNeg).toNatClampNeg) 0) else u3 (uA (u3 s 0 25 0 ((s 0 25 0) - 1)) 26 0 (rowR ((s 0 25 0).toNatClampNeg - 1 - x.toNatClampNeg) x.toNatClampNeg (s 26 0))) 27 0 ((s 26 0 x.toNatClampNeg).toNatClampNeg) 0) else s
def v_Model_deliver (s : S3) (x : Int32) : Int32 := if x < 0 then (-1) else if x < (s 0 25 0) then (if (s 28 0 ((s 26 0 x.toNatClampNeg).toNatClampNeg)) = 1 then (if (v_Model_arrive (uA (u3 s 0 25 0 ((s 0 25 0) - 1)) 26 0 (rowR ((s 0 25 0).toNatClampNeg - 1 - x.toNatClampNeg) x.toNatClampNeg (s 26 0))) (s 26 0 x.toNatClampNeg) (s 28 0 ((s 26 0 x.toNatClampNeg).toNatClampNeg))) = 0 then ((s 28 0 ((s 26 0 x.toNatClampNeg).toNatClampNeg)) + 8) else s 28 0 ((s 26 0 x.toNatClampNeg).toNatClampNeg)) else if (s 28 0 ((s 26 0 x.toNatClampNeg).toNatClampNeg)) = 8 then (if (v_Model_arrive (uA (u3 s 0 25 0 ((s 0 25 0) - 1)) 26 0 (rowR ((s 0 25 0).toNatClampNeg - 1 - x.toNatClampNeg) x.toNatClampNeg (s 26 0))) (s 26 0 x.toNatClampNeg) (s 28 0 ((s 26 0 x.toNatClampNeg).toNatClampNeg))) = 0 then ((s 28 0 ((s 26 0 x.toNatClampNeg).toNatClampNeg)) + 8) else s 28 0 ((s 26 0 x.toNatClampNeg).toNatClampNeg)) else if (s 17 0 ((s 29 0 ((s 26 0 x.toNatClampNeg).toNatClampNeg)).toNatClampNeg)) = 0 then (if (v_Model_arrive (uA (u3 s 0 25 0 ((s 0 25 0) - 1)) 26 0 (rowR ((s 0 25 0).toNatClampNeg - 1 - x.toNatClampNeg) x.toNatClampNeg (s 26 0))) (s 26 0 x.toNatClampNeg) (s 28 0 ((s 26 0 x.toNatClampNeg).toNatClampNeg))) = 0 then ((s 28 0 ((s 26 0 x.toNatClampNeg).toNatClampNeg)) + 8) else s 28 0 ((s 26 0 x.toNatClampNeg).toNatClampNeg)) else (s 28 0 ((s 26 0 x.toNatClampNeg).toNatClampNeg)) + 8) else (-1)
set_option maxHeartbeats 4000000 in
set_option maxRecDepth 100000 in
theorem c_Model_deliver {l : Launch} {D : va_G} {K : Nat → ClassId} {ad : Nat → Nat → Nat} {s : S3} {x : Int32} (hJ : zw_J (rRL) ad) (hW : vp_in (s 0 25 0) 33) (hor : ∀ j, vp_in (s 26 0 j) 34) (hBt : ∃ p, p < 34 ∧ s 27 0 p = 0) (hla : ∀ j, vp_in (s 19 0 j) 180) (hd : ∀ j, vp_in (s 20 0 j) 512) (hpe : ∀ j, ¬ s 18 0 j < 0 → vp_in (s 18 0 j) 512) (hcu : ∀ j, ¬ s 21 0 j < 0 → vp_in (s 21 0 j) 512) (har : ¬ x < 0 → x < s 0 25 0 → arOK (uA (u3 s 0 25 0 ((s 0 25 0) - 1)) 26 0 (rowR ((s 0 25 0).toNatClampNeg - 1 - x.toNatClampNeg) x.toNatClampNeg (s 26 0))) (s 26 0 x.toNatClampNeg) (s 28 0 (s 26 0 x.toNatClampNeg).toNatClampNeg)) : zM l y_Model_deliver ws_Model_deliver ({ frames := 5, cells := 0, slots := 0, locals := 116 }) D zCl (zTys K) (rRL) ad [.ref (ad 0 0), .int x] (rC K ad s) (some (.int (v_Model_deliver s x))) (rC K ad (S_Model_deliver s x)) := by
  refine zM.of (cc := prog_11_method_24_code) (maxL := 5) (ret := (Option.some Jvm.ClassFile.FieldType.int)) (by decide) rfl (Nat.le_of_ble_eq_true rfl) ?_
  intro pP eE U mM bL mT cO S hr hlk hK
  have hts := S.2.2.2.2
  have ht := fun w h => hts w (List.mem_cons_of_mem _ h)
  refine z_iload_n S d_Model_deliver_0 rfl 1 rfl 1 rfl ?_
  refine z_if_lt S d_Model_deliver_1 12 (by decide) 4 rfl (fun h1 => ?_) (fun h1 => ?_)
  · refine z_iconst S d_Model_deliver_12 (-1) (by decide) 13 rfl ?_
    exact z_iret S hr hlk d_Model_deliver_13 (by unfold v_Model_deliver; simp only [if_pos h1] <;> rfl) (rC_eq (by unfold S_Model_deliver; simp only [if_pos h1] <;> rfl))
  · refine z_iload_n S d_Model_deliver_4 rfl 1 rfl 5 rfl ?_
    refine z_aload_n S d_Model_deliver_5 rfl 0 rfl 6 rfl ?_
    refine z_get S hK hin_Model rm_0 rC_0 rfl 25 (Nat.le_of_ble_eq_true rfl) (ht _ w_565) (fun _ h => h) d_Model_deliver_6 9 rfl (.int (s 0 25 0)) rfl ?_
    refine z_icmp_lt S d_Model_deliver_9 14 (by decide) 12 rfl (fun h2 => ?_) (fun h2 => ?_)
    · refine z_aload_n S d_Model_deliver_14 rfl 0 rfl 15 rfl ?_
      refine z_iload_n S d_Model_deliver_15 rfl 1 rfl 16 rfl ?_
      refine z_callV S hK (As := [.int x]) (rest := []) (c_Model_take (x := x) hJ hW (has_in hW h1 h2)) (cw_Model_take hts w_714 rfl rfl ⟨(Nat.le_of_ble_eq_true rfl), (Nat.le_of_ble_eq_true rfl)⟩) rm_0 rC_0 rfl rfl rfl (Nat.le_of_ble_eq_true rfl) d_Model_deliver_16 19 rfl [.int (s 26 0 x.toNatClampNeg)] rfl ?_
      refine z_istore_n S d_Model_deliver_19 rfl (Nat.le_of_ble_eq_true rfl) [(2, .int (s 26 0 x.toNatClampNeg)), (0, .ref (ad 0 0)), (1, .int x)] rfl 20 rfl ?_
      refine z_aload_n S d_Model_deliver_20 rfl 1 rfl 21 rfl ?_
      refine z_get S hK hin_Model rm_0 rC_0 rfl 28 (Nat.le_of_ble_eq_true rfl) (ht _ w_568) (fun _ h => h) d_Model_deliver_21 24 rfl (.ref (ad 28 0)) rfl ?_
      refine z_iload_n S d_Model_deliver_24 rfl 0 rfl 25 rfl ?_
      refine z_iald S hK rm_28 0 rC_28 rfl (hor _) d_Model_deliver_25 26 rfl (s 28 0 ((s 26 0 x.toNatClampNeg).toNatClampNeg)) rfl ?_
      refine z_istore_n S d_Model_deliver_26 rfl (Nat.le_of_ble_eq_true rfl) [(3, .int (s 28 0 ((s 26 0 x.toNatClampNeg).toNatClampNeg))), (2, .int (s 26 0 x.toNatClampNeg)), (0, .ref (ad 0 0)), (1, .int x)] rfl 27 rfl ?_
      refine z_iload_n S d_Model_deliver_27 rfl 0 rfl 28 rfl ?_
      refine z_iconst S d_Model_deliver_28 1 (by decide) 29 rfl ?_
      refine z_icmp_eq S d_Model_deliver_29 52 (by decide) 32 rfl (fun h3 => ?_) (fun h3 => ?_)
      · refine z_iconst S d_Model_deliver_52 1 (by decide) 53 rfl ?_
        refine z_goto S d_Model_deliver_53 57 (by decide) ?_
        refine z_istore S d_Model_deliver_57 (Nat.le_of_ble_eq_true rfl) [(4, .int 1), (3, .int (s 28 0 ((s 26 0 x.toNatClampNeg).toNatClampNeg))), (2, .int (s 26 0 x.toNatClampNeg)), (0, .ref (ad 0 0)), (1, .int x)] rfl 59 rfl ?_
        refine z_iload S d_Model_deliver_59 0 rfl 61 rfl ?_
        refine z_if_eq S d_Model_deliver_61 72 (by decide) 64 rfl (fun h4 => ?_) (fun h4 => ?_)
        · exact absurd h4 (by decide)
        · refine z_aload_n S d_Model_deliver_64 rfl 3 rfl 65 rfl ?_
          refine z_iload_n S d_Model_deliver_65 rfl 2 rfl 66 rfl ?_
          refine z_iload_n S d_Model_deliver_66 rfl 1 rfl 67 rfl ?_
          refine z_callV S hK (As := [.int (s 26 0 x.toNatClampNeg), .int (s 28 0 ((s 26 0 x.toNatClampNeg).toNatClampNeg))]) (rest := []) (c_Model_arrive (p := s 26 0 x.toNatClampNeg) (k := s 28 0 ((s 26 0 x.toNatClampNeg).toNatClampNeg)) hJ (w_pred hW (has_in hW h1 h2)) (fun _ => hBt) hla hd (by assumption /- ∀ j, ¬ (s 18 0 j) < 0 → vp_in (s 18 0 j) 512 -/) (by assumption /- ∀ j, ¬ (s 21 0 j) < 0 → vp_in (s 21 0 j) 512 -/) (hor _) (har h1 h2)) (cw_Model_arrive hts w_726 rfl rfl ⟨(Nat.le_of_ble_eq_true rfl), (Nat.le_of_ble_eq_true rfl)⟩) rm_0 rC_0 rfl rfl rfl (Nat.le_of_ble_eq_true rfl) d_Model_deliver_67 70 rfl [.int (v_Model_arrive (uA (u3 s 0 25 0 ((s 0 25 0) - 1)) 26 0 (rowR ((s 0 25 0).toNatClampNeg - 1 - x.toNatClampNeg) x.toNatClampNeg (s 26 0))) (s 26 0 x.toNatClampNeg) (s 28 0 ((s 26 0 x.toNatClampNeg).toNatClampNeg)))] rfl ?_
          refine z_istore S d_Model_deliver_70 (Nat.le_of_ble_eq_true rfl) [(4, .int (v_Model_arrive (uA (u3 s 0 25 0 ((s 0 25 0) - 1)) 26 0 (rowR ((s 0 25 0).toNatClampNeg - 1 - x.toNatClampNeg) x.toNatClampNeg (s 26 0))) (s 26 0 x.toNatClampNeg) (s 28 0 ((s 26 0 x.toNatClampNeg).toNatClampNeg)))), (3, .int (s 28 0 ((s 26 0 x.toNatClampNeg).toNatClampNeg))), (2, .int (s 26 0 x.toNatClampNeg)), (0, .ref (ad 0 0)), (1, .int x)] rfl 72 rfl ?_
          refine z_aload_n S d_Model_deliver_72 rfl 3 rfl 73 rfl ?_
          refine z_get S hK hin_Model rm_0 rC_0 rfl 27 (Nat.le_of_ble_eq_true rfl) (ht _ w_567) (fun _ h => h) d_Model_deliver_73 76 rfl (.ref (ad 27 0)) rfl ?_
          refine z_iload_n S d_Model_deliver_76 rfl 2 rfl 77 rfl ?_
          refine z_iconst S d_Model_deliver_77 0 (by decide) 78 rfl ?_
          refine z_zast S hJ hK rm_27 1 rC_27 rfl (hor _) (zb_v zb_0) rupI_27 d_Model_deliver_78 79 rfl ?_
          refine z_iload S d_Model_deliver_79 0 rfl 81 rfl ?_
          refine z_if_eq S d_Model_deliver_81 88 (by decide) 84 rfl (fun h5 => ?_) (fun h5 => ?_)
          · refine z_iload_n S d_Model_deliver_88 rfl 1 rfl 89 rfl ?_
            refine z_bipush S d_Model_deliver_89 8 (by decide) 91 rfl ?_
            refine z_iadd S d_Model_deliver_91 92 rfl ?_
            exact z_iret S hr hlk d_Model_deliver_92 (by unfold v_Model_deliver; simp only [if_neg h1, if_pos h2, if_pos h3, if_pos h5] <;> rfl) (rC_eq (by unfold S_Model_deliver; simp only [if_neg h1, if_pos h2, if_pos h3, if_pos h5] <;> rfl))
          · refine z_iload_n S d_Model_deliver_84 rfl 1 rfl 85 rfl ?_
            refine z_goto S d_Model_deliver_85 92 (by decide) ?_
            exact z_iret S hr hlk d_Model_deliver_92 (by unfold v_Model_deliver; simp only [if_neg h1, if_pos h2, if_pos h3, if_neg h5] <;> rfl) (rC_eq (by unfold S_Model_deliver; simp only [if_neg h1, if_pos h2, if_pos h3, if_neg h5] <;> rfl))
      · refine z_iload_n S d_Model_deliver_32 rfl 0 rfl 33 rfl ?_
        refine z_bipush S d_Model_deliver_33 8 (by decide) 35 rfl ?_
        refine z_icmp_eq S d_Model_deliver_35 52 (by decide) 38 rfl (fun h6 => ?_) (fun h6 => ?_)
        · refine z_iconst S d_Model_deliver_52 1 (by decide) 53 rfl ?_
          refine z_goto S d_Model_deliver_53 57 (by decide) ?_
          refine z_istore S d_Model_deliver_57 (Nat.le_of_ble_eq_true rfl) [(4, .int 1), (3, .int (s 28 0 ((s 26 0 x.toNatClampNeg).toNatClampNeg))), (2, .int (s 26 0 x.toNatClampNeg)), (0, .ref (ad 0 0)), (1, .int x)] rfl 59 rfl ?_
          refine z_iload S d_Model_deliver_59 0 rfl 61 rfl ?_
          refine z_if_eq S d_Model_deliver_61 72 (by decide) 64 rfl (fun h7 => ?_) (fun h7 => ?_)
          · exact absurd h7 (by decide)
          · refine z_aload_n S d_Model_deliver_64 rfl 3 rfl 65 rfl ?_
            refine z_iload_n S d_Model_deliver_65 rfl 2 rfl 66 rfl ?_
            refine z_iload_n S d_Model_deliver_66 rfl 1 rfl 67 rfl ?_
            refine z_callV S hK (As := [.int (s 26 0 x.toNatClampNeg), .int (s 28 0 ((s 26 0 x.toNatClampNeg).toNatClampNeg))]) (rest := []) (c_Model_arrive (p := s 26 0 x.toNatClampNeg) (k := s 28 0 ((s 26 0 x.toNatClampNeg).toNatClampNeg)) hJ (w_pred hW (has_in hW h1 h2)) (fun _ => hBt) hla hd (by assumption /- ∀ j, ¬ (s 18 0 j) < 0 → vp_in (s 18 0 j) 512 -/) (by assumption /- ∀ j, ¬ (s 21 0 j) < 0 → vp_in (s 21 0 j) 512 -/) (hor _) (har h1 h2)) (cw_Model_arrive hts w_726 rfl rfl ⟨(Nat.le_of_ble_eq_true rfl), (Nat.le_of_ble_eq_true rfl)⟩) rm_0 rC_0 rfl rfl rfl (Nat.le_of_ble_eq_true rfl) d_Model_deliver_67 70 rfl [.int (v_Model_arrive (uA (u3 s 0 25 0 ((s 0 25 0) - 1)) 26 0 (rowR ((s 0 25 0).toNatClampNeg - 1 - x.toNatClampNeg) x.toNatClampNeg (s 26 0))) (s 26 0 x.toNatClampNeg) (s 28 0 ((s 26 0 x.toNatClampNeg).toNatClampNeg)))] rfl ?_
            refine z_istore S d_Model_deliver_70 (Nat.le_of_ble_eq_true rfl) [(4, .int (v_Model_arrive (uA (u3 s 0 25 0 ((s 0 25 0) - 1)) 26 0 (rowR ((s 0 25 0).toNatClampNeg - 1 - x.toNatClampNeg) x.toNatClampNeg (s 26 0))) (s 26 0 x.toNatClampNeg) (s 28 0 ((s 26 0 x.toNatClampNeg).toNatClampNeg)))), (3, .int (s 28 0 ((s 26 0 x.toNatClampNeg).toNatClampNeg))), (2, .int (s 26 0 x.toNatClampNeg)), (0, .ref (ad 0 0)), (1, .int x)] rfl 72 rfl ?_
            refine z_aload_n S d_Model_deliver_72 rfl 3 rfl 73 rfl ?_
            refine z_get S hK hin_Model rm_0 rC_0 rfl 27 (Nat.le_of_ble_eq_true rfl) (ht _ w_567) (fun _ h => h) d_Model_deliver_73 76 rfl (.ref (ad 27 0)) rfl ?_
            refine z_iload_n S d_Model_deliver_76 rfl 2 rfl 77 rfl ?_
            refine z_iconst S d_Model_deliver_77 0 (by decide) 78 rfl ?_
            refine z_zast S hJ hK rm_27 1 rC_27 rfl (hor _) (zb_v zb_0) rupI_27 d_Model_deliver_78 79 rfl ?_
            refine z_iload S d_Model_deliver_79 0 rfl 81 rfl ?_
            refine z_if_eq S d_Model_deliver_81 88 (by decide) 84 rfl (fun h8 => ?_) (fun h8 => ?_)
            · refine z_iload_n S d_Model_deliver_88 rfl 1 rfl 89 rfl ?_
              refine z_bipush S d_Model_deliver_89 8 (by decide) 91 rfl ?_
              refine z_iadd S d_Model_deliver_91 92 rfl ?_
              exact z_iret S hr hlk d_Model_deliver_92 (by unfold v_Model_deliver; simp only [if_neg h1, if_pos h2, if_neg h3, if_pos h6, if_pos h8] <;> rfl) (rC_eq (by unfold S_Model_deliver; simp only [if_neg h1, if_pos h2, if_neg h3, if_pos h6, if_pos h8] <;> rfl))
            · refine z_iload_n S d_Model_deliver_84 rfl 1 rfl 85 rfl ?_
              refine z_goto S d_Model_deliver_85 92 (by decide) ?_
              exact z_iret S hr hlk d_Model_deliver_92 (by unfold v_Model_deliver; simp only [if_neg h1, if_pos h2, if_neg h3, if_pos h6, if_neg h8] <;> rfl) (rC_eq (by unfold S_Model_deliver; simp only [if_neg h1, if_pos h2, if_neg h3, if_pos h6, if_neg h8] <;> rfl))
        · refine z_aload_n S d_Model_deliver_38 rfl 2 rfl 39 rfl ?_
          refine z_get S hK hin_Model rm_0 rC_0 rfl 17 (Nat.le_of_ble_eq_true rfl) (ht _ w_557) (fun _ h => h) d_Model_deliver_39 42 rfl (.ref (ad 17 0)) rfl ?_
          refine z_aload_n S d_Model_deliver_42 rfl 2 rfl 43 rfl ?_
          refine z_get S hK hin_Model rm_0 rC_0 rfl 29 (Nat.le_of_ble_eq_true rfl) (ht _ w_569) (fun _ h => h) d_Model_deliver_43 46 rfl (.ref (ad 29 0)) rfl ?_
          refine z_iload_n S d_Model_deliver_46 rfl 1 rfl 47 rfl ?_
          refine z_iald S hK rm_29 0 rC_29 rfl (hor _) d_Model_deliver_47 48 rfl (s 29 0 ((s 26 0 x.toNatClampNeg).toNatClampNeg)) rfl ?_
          refine z_zald S hK rm_17 1 rC_17 rfl ((har h1 h2).1.1 h6) d_Model_deliver_48 49 rfl (s 17 0 ((s 29 0 ((s 26 0 x.toNatClampNeg).toNatClampNeg)).toNatClampNeg)) rfl ?_
          refine z_if_ne S d_Model_deliver_49 56 (by decide) 52 rfl (fun h9 => ?_) (fun h9 => ?_)
          · refine z_iconst S d_Model_deliver_56 0 (by decide) 57 rfl ?_
            refine z_istore S d_Model_deliver_57 (Nat.le_of_ble_eq_true rfl) [(4, .int 0), (3, .int (s 28 0 ((s 26 0 x.toNatClampNeg).toNatClampNeg))), (2, .int (s 26 0 x.toNatClampNeg)), (0, .ref (ad 0 0)), (1, .int x)] rfl 59 rfl ?_
            refine z_iload S d_Model_deliver_59 0 rfl 61 rfl ?_
            refine z_if_eq S d_Model_deliver_61 72 (by decide) 64 rfl (fun h10 => ?_) (fun h10 => ?_)
            · refine z_aload_n S d_Model_deliver_72 rfl 3 rfl 73 rfl ?_
              refine z_get S hK hin_Model rm_0 rC_0 rfl 27 (Nat.le_of_ble_eq_true rfl) (ht _ w_567) (fun _ h => h) d_Model_deliver_73 76 rfl (.ref (ad 27 0)) rfl ?_
              refine z_iload_n S d_Model_deliver_76 rfl 2 rfl 77 rfl ?_
              refine z_iconst S d_Model_deliver_77 0 (by decide) 78 rfl ?_
              refine z_zast S hJ hK rm_27 1 rC_27 rfl (hor _) (zb_v zb_0) rupI_27 d_Model_deliver_78 79 rfl ?_
              refine z_iload S d_Model_deliver_79 0 rfl 81 rfl ?_
              refine z_if_eq S d_Model_deliver_81 88 (by decide) 84 rfl (fun h11 => ?_) (fun h11 => ?_)
              · refine z_iload_n S d_Model_deliver_88 rfl 1 rfl 89 rfl ?_
                refine z_bipush S d_Model_deliver_89 8 (by decide) 91 rfl ?_
                refine z_iadd S d_Model_deliver_91 92 rfl ?_
                exact z_iret S hr hlk d_Model_deliver_92 (by unfold v_Model_deliver; simp only [if_neg h1, if_pos h2, if_neg h3, if_neg h6, if_neg h9] <;> rfl) (rC_eq (by unfold S_Model_deliver; simp only [if_neg h1, if_pos h2, if_neg h3, if_neg h6, if_neg h9] <;> rfl))
              · exact absurd (by decide) h11
            · exact absurd (by decide) h10
          · refine z_iconst S d_Model_deliver_52 1 (by decide) 53 rfl ?_
            refine z_goto S d_Model_deliver_53 57 (by decide) ?_
            refine z_istore S d_Model_deliver_57 (Nat.le_of_ble_eq_true rfl) [(4, .int 1), (3, .int (s 28 0 ((s 26 0 x.toNatClampNeg).toNatClampNeg))), (2, .int (s 26 0 x.toNatClampNeg)), (0, .ref (ad 0 0)), (1, .int x)] rfl 59 rfl ?_
            refine z_iload S d_Model_deliver_59 0 rfl 61 rfl ?_
            refine z_if_eq S d_Model_deliver_61 72 (by decide) 64 rfl (fun h12 => ?_) (fun h12 => ?_)
            · exact absurd h12 (by decide)
            · refine z_aload_n S d_Model_deliver_64 rfl 3 rfl 65 rfl ?_
              refine z_iload_n S d_Model_deliver_65 rfl 2 rfl 66 rfl ?_
              refine z_iload_n S d_Model_deliver_66 rfl 1 rfl 67 rfl ?_
              refine z_callV S hK (As := [.int (s 26 0 x.toNatClampNeg), .int (s 28 0 ((s 26 0 x.toNatClampNeg).toNatClampNeg))]) (rest := []) (c_Model_arrive (p := s 26 0 x.toNatClampNeg) (k := s 28 0 ((s 26 0 x.toNatClampNeg).toNatClampNeg)) hJ (w_pred hW (has_in hW h1 h2)) (fun _ => hBt) hla hd (by assumption /- ∀ j, ¬ (s 18 0 j) < 0 → vp_in (s 18 0 j) 512 -/) (by assumption /- ∀ j, ¬ (s 21 0 j) < 0 → vp_in (s 21 0 j) 512 -/) (hor _) (har h1 h2)) (cw_Model_arrive hts w_726 rfl rfl ⟨(Nat.le_of_ble_eq_true rfl), (Nat.le_of_ble_eq_true rfl)⟩) rm_0 rC_0 rfl rfl rfl (Nat.le_of_ble_eq_true rfl) d_Model_deliver_67 70 rfl [.int (v_Model_arrive (uA (u3 s 0 25 0 ((s 0 25 0) - 1)) 26 0 (rowR ((s 0 25 0).toNatClampNeg - 1 - x.toNatClampNeg) x.toNatClampNeg (s 26 0))) (s 26 0 x.toNatClampNeg) (s 28 0 ((s 26 0 x.toNatClampNeg).toNatClampNeg)))] rfl ?_
              refine z_istore S d_Model_deliver_70 (Nat.le_of_ble_eq_true rfl) [(4, .int (v_Model_arrive (uA (u3 s 0 25 0 ((s 0 25 0) - 1)) 26 0 (rowR ((s 0 25 0).toNatClampNeg - 1 - x.toNatClampNeg) x.toNatClampNeg (s 26 0))) (s 26 0 x.toNatClampNeg) (s 28 0 ((s 26 0 x.toNatClampNeg).toNatClampNeg)))), (3, .int (s 28 0 ((s 26 0 x.toNatClampNeg).toNatClampNeg))), (2, .int (s 26 0 x.toNatClampNeg)), (0, .ref (ad 0 0)), (1, .int x)] rfl 72 rfl ?_
              refine z_aload_n S d_Model_deliver_72 rfl 3 rfl 73 rfl ?_
              refine z_get S hK hin_Model rm_0 rC_0 rfl 27 (Nat.le_of_ble_eq_true rfl) (ht _ w_567) (fun _ h => h) d_Model_deliver_73 76 rfl (.ref (ad 27 0)) rfl ?_
              refine z_iload_n S d_Model_deliver_76 rfl 2 rfl 77 rfl ?_
              refine z_iconst S d_Model_deliver_77 0 (by decide) 78 rfl ?_
              refine z_zast S hJ hK rm_27 1 rC_27 rfl (hor _) (zb_v zb_0) rupI_27 d_Model_deliver_78 79 rfl ?_
              refine z_iload S d_Model_deliver_79 0 rfl 81 rfl ?_
              refine z_if_eq S d_Model_deliver_81 88 (by decide) 84 rfl (fun h13 => ?_) (fun h13 => ?_)
              · refine z_iload_n S d_Model_deliver_88 rfl 1 rfl 89 rfl ?_
                refine z_bipush S d_Model_deliver_89 8 (by decide) 91 rfl ?_
                refine z_iadd S d_Model_deliver_91 92 rfl ?_
                exact z_iret S hr hlk d_Model_deliver_92 (by unfold v_Model_deliver; simp only [if_neg h1, if_pos h2, if_neg h3, if_neg h6, if_pos h9, if_pos h13] <;> rfl) (rC_eq (by unfold S_Model_deliver; simp only [if_neg h1, if_pos h2, if_neg h3, if_neg h6, if_pos h9, if_pos h13] <;> rfl))
              · refine z_iload_n S d_Model_deliver_84 rfl 1 rfl 85 rfl ?_
                refine z_goto S d_Model_deliver_85 92 (by decide) ?_
                exact z_iret S hr hlk d_Model_deliver_92 (by unfold v_Model_deliver; simp only [if_neg h1, if_pos h2, if_neg h3, if_neg h6, if_pos h9, if_neg h13] <;> rfl) (rC_eq (by unfold S_Model_deliver; simp only [if_neg h1, if_pos h2, if_neg h3, if_neg h6, if_pos h9, if_neg h13] <;> rfl))
    · refine z_iconst S d_Model_deliver_12 (-1) (by decide) 13 rfl ?_
      exact z_iret S hr hlk d_Model_deliver_13 (by unfold v_Model_deliver; simp only [if_neg h1, if_neg h2] <;> rfl) (rC_eq (by unfold S_Model_deliver; simp only [if_neg h1, if_neg h2] <;> rfl))
