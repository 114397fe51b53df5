/-- the least fresh server that is neither primary nor backup, from the top down -/
def thF (pr bk : Int32) (g : Nat → Int32) (t : Int32) : Nat → Int32 → Int32
  | 0, y => y
  | j + 1, y => thF pr bk g t j (if nI j = pr then y else if nI j = bk then y else if v_Model_fresh (g (nI j).toNatClampNeg) t (nI j) = 0 then y else nI j)
theorem d_Model_check_0 : decode prog_11_method_15_code 0 = .ok (.aload_n 0, 1) := by decide +kernel
theorem d_Model_check_1 : decode prog_11_method_15_code 1 = .ok (.getfield 130, 3) := by decide +kernel
theorem d_Model_check_4 : decode prog_11_method_15_code 4 = .ok (.ifCond .ne 10, 3) := by decide +kernel
theorem d_Model_check_7 : decode prog_11_method_15_code 7 = .ok (.aload_n 0, 1) := by decide +kernel
theorem d_Model_check_8 : decode prog_11_method_15_code 8 = .ok (.getfield 26, 3) := by decide +kernel
theorem d_Model_check_11 : decode prog_11_method_15_code 11 = .ok (.iconst 5, 1) := by decide +kernel
theorem d_Model_check_12 : decode prog_11_method_15_code 12 = .ok (.iaload, 1) := by decide +kernel
theorem d_Model_check_13 : decode prog_11_method_15_code 13 = .ok (.ireturn, 1) := by decide +kernel
theorem d_Model_check_14 : decode prog_11_method_15_code 14 = .ok (.aload_n 0, 1) := by decide +kernel
theorem d_Model_check_15 : decode prog_11_method_15_code 15 = .ok (.getfield 29, 3) := by decide +kernel
theorem d_Model_check_18 : decode prog_11_method_15_code 18 = .ok (.iconst 5, 1) := by decide +kernel
theorem d_Model_check_19 : decode prog_11_method_15_code 19 = .ok (.iaload, 1) := by decide +kernel
theorem d_Model_check_20 : decode prog_11_method_15_code 20 = .ok (.istore_n 1, 1) := by decide +kernel
theorem d_Model_check_21 : decode prog_11_method_15_code 21 = .ok (.aload_n 0, 1) := by decide +kernel
theorem d_Model_check_22 : decode prog_11_method_15_code 22 = .ok (.getfield 32, 3) := by decide +kernel
theorem d_Model_check_25 : decode prog_11_method_15_code 25 = .ok (.iconst 5, 1) := by decide +kernel
theorem d_Model_check_26 : decode prog_11_method_15_code 26 = .ok (.iaload, 1) := by decide +kernel
theorem d_Model_check_27 : decode prog_11_method_15_code 27 = .ok (.istore_n 2, 1) := by decide +kernel
theorem d_Model_check_28 : decode prog_11_method_15_code 28 = .ok (.iconst (-1), 1) := by decide +kernel
theorem d_Model_check_29 : decode prog_11_method_15_code 29 = .ok (.istore_n 3, 1) := by decide +kernel
theorem d_Model_check_30 : decode prog_11_method_15_code 30 = .ok (.aload_n 0, 1) := by decide +kernel
theorem d_Model_check_31 : decode prog_11_method_15_code 31 = .ok (.getfield 108, 3) := by decide +kernel
theorem d_Model_check_34 : decode prog_11_method_15_code 34 = .ok (.iconst 1, 1) := by decide +kernel
theorem d_Model_check_35 : decode prog_11_method_15_code 35 = .ok (.isub, 1) := by decide +kernel
theorem d_Model_check_36 : decode prog_11_method_15_code 36 = .ok (.istore 4, 2) := by decide +kernel
theorem d_Model_check_38 : decode prog_11_method_15_code 38 = .ok (.iload 4, 2) := by decide +kernel
theorem d_Model_check_40 : decode prog_11_method_15_code 40 = .ok (.ifCond .lt 37, 3) := by decide +kernel
theorem d_Model_check_43 : decode prog_11_method_15_code 43 = .ok (.iload 4, 2) := by decide +kernel
theorem d_Model_check_45 : decode prog_11_method_15_code 45 = .ok (.iload_n 1, 1) := by decide +kernel
theorem d_Model_check_46 : decode prog_11_method_15_code 46 = .ok (.if_icmp .eq 23, 3) := by decide +kernel
theorem d_Model_check_49 : decode prog_11_method_15_code 49 = .ok (.iload 4, 2) := by decide +kernel
theorem d_Model_check_51 : decode prog_11_method_15_code 51 = .ok (.iload_n 2, 1) := by decide +kernel
theorem d_Model_check_52 : decode prog_11_method_15_code 52 = .ok (.if_icmp .eq 17, 3) := by decide +kernel
theorem d_Model_check_55 : decode prog_11_method_15_code 55 = .ok (.aload_n 0, 1) := by decide +kernel
theorem d_Model_check_56 : decode prog_11_method_15_code 56 = .ok (.iload 4, 2) := by decide +kernel
theorem d_Model_check_58 : decode prog_11_method_15_code 58 = .ok (.invokevirtual 134, 3) := by decide +kernel
theorem d_Model_check_61 : decode prog_11_method_15_code 61 = .ok (.ifCond .eq 8, 3) := by decide +kernel
theorem d_Model_check_64 : decode prog_11_method_15_code 64 = .ok (.iload 4, 2) := by decide +kernel
theorem d_Model_check_66 : decode prog_11_method_15_code 66 = .ok (.goto 4, 3) := by decide +kernel
theorem d_Model_check_69 : decode prog_11_method_15_code 69 = .ok (.iload_n 3, 1) := by decide +kernel
theorem d_Model_check_70 : decode prog_11_method_15_code 70 = .ok (.istore_n 3, 1) := by decide +kernel
theorem d_Model_check_71 : decode prog_11_method_15_code 71 = .ok (.iinc 4 (-1), 3) := by decide +kernel
theorem d_Model_check_74 : decode prog_11_method_15_code 74 = .ok (.goto (-36), 3) := by decide +kernel
theorem d_Model_check_77 : decode prog_11_method_15_code 77 = .ok (.aload_n 0, 1) := by decide +kernel
theorem d_Model_check_78 : decode prog_11_method_15_code 78 = .ok (.iload_n 1, 1) := by decide +kernel
theorem d_Model_check_79 : decode prog_11_method_15_code 79 = .ok (.invokevirtual 134, 3) := by decide +kernel
theorem d_Model_check_82 : decode prog_11_method_15_code 82 = .ok (.ifCond .ne 19, 3) := by decide +kernel
theorem d_Model_check_85 : decode prog_11_method_15_code 85 = .ok (.iload_n 2, 1) := by decide +kernel
theorem d_Model_check_86 : decode prog_11_method_15_code 86 = .ok (.ifCond .lt 15, 3) := by decide +kernel
theorem d_Model_check_89 : decode prog_11_method_15_code 89 = .ok (.aload_n 0, 1) := by decide +kernel
theorem d_Model_check_90 : decode prog_11_method_15_code 90 = .ok (.iload_n 2, 1) := by decide +kernel
theorem d_Model_check_91 : decode prog_11_method_15_code 91 = .ok (.invokevirtual 134, 3) := by decide +kernel
theorem d_Model_check_94 : decode prog_11_method_15_code 94 = .ok (.ifCond .eq 7, 3) := by decide +kernel
theorem d_Model_check_97 : decode prog_11_method_15_code 97 = .ok (.iconst 1, 1) := by decide +kernel
theorem d_Model_check_98 : decode prog_11_method_15_code 98 = .ok (.goto 4, 3) := by decide +kernel
theorem d_Model_check_101 : decode prog_11_method_15_code 101 = .ok (.iconst 0, 1) := by decide +kernel
theorem d_Model_check_102 : decode prog_11_method_15_code 102 = .ok (.istore 4, 2) := by decide +kernel
theorem d_Model_check_104 : decode prog_11_method_15_code 104 = .ok (.aload_n 0, 1) := by decide +kernel
theorem d_Model_check_105 : decode prog_11_method_15_code 105 = .ok (.iload_n 1, 1) := by decide +kernel
theorem d_Model_check_106 : decode prog_11_method_15_code 106 = .ok (.invokevirtual 134, 3) := by decide +kernel
theorem d_Model_check_109 : decode prog_11_method_15_code 109 = .ok (.ifCond .eq 27, 3) := by decide +kernel
theorem d_Model_check_112 : decode prog_11_method_15_code 112 = .ok (.iload_n 2, 1) := by decide +kernel
theorem d_Model_check_113 : decode prog_11_method_15_code 113 = .ok (.ifCond .lt 11, 3) := by decide +kernel
theorem d_Model_check_116 : decode prog_11_method_15_code 116 = .ok (.aload_n 0, 1) := by decide +kernel
theorem d_Model_check_117 : decode prog_11_method_15_code 117 = .ok (.iload_n 2, 1) := by decide +kernel
theorem d_Model_check_118 : decode prog_11_method_15_code 118 = .ok (.invokevirtual 134, 3) := by decide +kernel
theorem d_Model_check_121 : decode prog_11_method_15_code 121 = .ok (.ifCond .ne 15, 3) := by decide +kernel
theorem d_Model_check_124 : decode prog_11_method_15_code 124 = .ok (.iload_n 2, 1) := by decide +kernel
theorem d_Model_check_125 : decode prog_11_method_15_code 125 = .ok (.ifCond .ge 7, 3) := by decide +kernel
theorem d_Model_check_128 : decode prog_11_method_15_code 128 = .ok (.iload_n 3, 1) := by decide +kernel
theorem d_Model_check_129 : decode prog_11_method_15_code 129 = .ok (.ifCond .lt 7, 3) := by decide +kernel
theorem d_Model_check_132 : decode prog_11_method_15_code 132 = .ok (.iconst 1, 1) := by decide +kernel
theorem d_Model_check_133 : decode prog_11_method_15_code 133 = .ok (.goto 4, 3) := by decide +kernel
theorem d_Model_check_136 : decode prog_11_method_15_code 136 = .ok (.iconst 0, 1) := by decide +kernel
theorem d_Model_check_137 : decode prog_11_method_15_code 137 = .ok (.istore 5, 2) := by decide +kernel
theorem d_Model_check_139 : decode prog_11_method_15_code 139 = .ok (.iload 4, 2) := by decide +kernel
theorem d_Model_check_141 : decode prog_11_method_15_code 141 = .ok (.ifCond .ne 8, 3) := by decide +kernel
theorem d_Model_check_144 : decode prog_11_method_15_code 144 = .ok (.iload 5, 2) := by decide +kernel
theorem d_Model_check_146 : decode prog_11_method_15_code 146 = .ok (.ifCond .eq 41, 3) := by decide +kernel
theorem d_Model_check_149 : decode prog_11_method_15_code 149 = .ok (.aload_n 0, 1) := by decide +kernel
theorem d_Model_check_150 : decode prog_11_method_15_code 150 = .ok (.getfield 26, 3) := by decide +kernel
theorem d_Model_check_153 : decode prog_11_method_15_code 153 = .ok (.iconst 5, 1) := by decide +kernel
theorem d_Model_check_154 : decode prog_11_method_15_code 154 = .ok (.dup2, 1) := by decide +kernel
theorem d_Model_check_155 : decode prog_11_method_15_code 155 = .ok (.iaload, 1) := by decide +kernel
theorem d_Model_check_156 : decode prog_11_method_15_code 156 = .ok (.iconst 1, 1) := by decide +kernel
theorem d_Model_check_157 : decode prog_11_method_15_code 157 = .ok (.iadd, 1) := by decide +kernel
theorem d_Model_check_158 : decode prog_11_method_15_code 158 = .ok (.iastore, 1) := by decide +kernel
theorem d_Model_check_159 : decode prog_11_method_15_code 159 = .ok (.aload_n 0, 1) := by decide +kernel
theorem d_Model_check_160 : decode prog_11_method_15_code 160 = .ok (.getfield 29, 3) := by decide +kernel
theorem d_Model_check_163 : decode prog_11_method_15_code 163 = .ok (.iconst 5, 1) := by decide +kernel
theorem d_Model_check_164 : decode prog_11_method_15_code 164 = .ok (.iload 4, 2) := by decide +kernel
theorem d_Model_check_166 : decode prog_11_method_15_code 166 = .ok (.ifCond .eq 7, 3) := by decide +kernel
theorem d_Model_check_169 : decode prog_11_method_15_code 169 = .ok (.iload_n 2, 1) := by decide +kernel
theorem d_Model_check_170 : decode prog_11_method_15_code 170 = .ok (.goto 4, 3) := by decide +kernel
theorem d_Model_check_173 : decode prog_11_method_15_code 173 = .ok (.iload_n 1, 1) := by decide +kernel
theorem d_Model_check_174 : decode prog_11_method_15_code 174 = .ok (.iastore, 1) := by decide +kernel
theorem d_Model_check_175 : decode prog_11_method_15_code 175 = .ok (.aload_n 0, 1) := by decide +kernel
theorem d_Model_check_176 : decode prog_11_method_15_code 176 = .ok (.getfield 32, 3) := by decide +kernel
theorem d_Model_check_179 : decode prog_11_method_15_code 179 = .ok (.iconst 5, 1) := by decide +kernel
theorem d_Model_check_180 : decode prog_11_method_15_code 180 = .ok (.iload_n 3, 1) := by decide +kernel
theorem d_Model_check_181 : decode prog_11_method_15_code 181 = .ok (.iastore, 1) := by decide +kernel
theorem d_Model_check_182 : decode prog_11_method_15_code 182 = .ok (.aload_n 0, 1) := by decide +kernel
theorem d_Model_check_183 : decode prog_11_method_15_code 183 = .ok (.iconst 0, 1) := by decide +kernel
theorem d_Model_check_184 : decode prog_11_method_15_code 184 = .ok (.putfield 130, 3) := by decide +kernel
theorem d_Model_check_187 : decode prog_11_method_15_code 187 = .ok (.aload_n 0, 1) := by decide +kernel
theorem d_Model_check_188 : decode prog_11_method_15_code 188 = .ok (.getfield 26, 3) := by decide +kernel
theorem d_Model_check_191 : decode prog_11_method_15_code 191 = .ok (.iconst 5, 1) := by decide +kernel
theorem d_Model_check_192 : decode prog_11_method_15_code 192 = .ok (.iaload, 1) := by decide +kernel
theorem d_Model_check_193 : decode prog_11_method_15_code 193 = .ok (.ireturn, 1) := by decide +kernel
def v_Model_checkT (s : S3) (y : Int32) : Int32 := if (v_Model_fresh (s 12 0 ((s 9 0 5).toNatClampNeg)) (s 0 1 0) (s 9 0 5)) = 0 then (if (s 10 0 5) < 0 then (s 8 0 5) else if (v_Model_fresh (s 12 0 ((s 10 0 5).toNatClampNeg)) (s 0 1 0) (s 10 0 5)) = 0 then (s 8 0 5) else (s 8 0 5) + 1) else if (s 10 0 5) < 0 then (if 0 ≤ (s 10 0 5) then ((s 8 0 5) + 1) else if y < 0 then (s 8 0 5) else (s 8 0 5) + 1) else if (v_Model_fresh (s 12 0 ((s 10 0 5).toNatClampNeg)) (s 0 1 0) (s 10 0 5)) = 0 then (if 0 ≤ (s 10 0 5) then ((s 8 0 5) + 1) else if y < 0 then (s 8 0 5) else (s 8 0 5) + 1) else s 8 0 5
def S_Model_checkT (s : S3) (y : Int32) : S3 := if (v_Model_fresh (s 12 0 ((s 9 0 5).toNatClampNeg)) (s 0 1 0) (s 9 0 5)) = 0 then (if (s 10 0 5) < 0 then s else if (v_Model_fresh (s 12 0 ((s 10 0 5).toNatClampNeg)) (s 0 1 0) (s 10 0 5)) = 0 then s else u3 (u3 (u3 (u3 s 8 0 5 ((s 8 0 5) + 1)) 9 0 5 (s 10 0 5)) 10 0 5 y) 0 11 0 0) else if (s 10 0 5) < 0 then (if 0 ≤ (s 10 0 5) then (u3 (u3 (u3 (u3 s 8 0 5 ((s 8 0 5) + 1)) 9 0 5 (s 9 0 5)) 10 0 5 y) 0 11 0 0) else if y < 0 then s else u3 (u3 (u3 (u3 s 8 0 5 ((s 8 0 5) + 1)) 9 0 5 (s 9 0 5)) 10 0 5 y) 0 11 0 0) else if (v_Model_fresh (s 12 0 ((s 10 0 5).toNatClampNeg)) (s 0 1 0) (s 10 0 5)) = 0 then (if 0 ≤ (s 10 0 5) then (u3 (u3 (u3 (u3 s 8 0 5 ((s 8 0 5) + 1)) 9 0 5 (s 9 0 5)) 10 0 5 y) 0 11 0 0) else if y < 0 then s else u3 (u3 (u3 (u3 s 8 0 5 ((s 8 0 5) + 1)) 9 0 5 (s 9 0 5)) 10 0 5 y) 0 11 0 0) else s
def v_Model_check (s : S3) : Int32 := if s 0 11 0 = 0 then s 8 0 5 else v_Model_checkT s (thF (s 9 0 5) (s 10 0 5) (s 12 0) (s 0 1 0) (s 0 0 0).toNatClampNeg (-1))
def S_Model_check (s : S3) : S3 := if s 0 11 0 = 0 then s else S_Model_checkT s (thF (s 9 0 5) (s 10 0 5) (s 12 0) (s 0 1 0) (s 0 0 0).toNatClampNeg (-1))
set_option maxHeartbeats 4000000 in
set_option maxRecDepth 100000 in
theorem c_Model_check {l : Launch} {D : va_G} {K : Nat → ClassId} {ad : Nat → Nat → Nat} {s : S3}  (hJ : zw_J (rRL) ad) (hN : vp_in (s 0 0 0) 6) (hp : vp_in (s 9 0 5) 5) (hb : ¬ (s 10 0 5) < 0 → vp_in (s 10 0 5) 5) : zM l y_Model_check ws_Model_check ({ frames := 1, cells := 0, slots := 0, locals := 21 }) D zCl (zTys K) (rRL) ad [.ref (ad 0 0)] (rC K ad s) (some (.int (v_Model_check s))) (rC K ad (S_Model_check s)) := by
  refine zM.of (cc := prog_11_method_15_code) (maxL := 6) (ret := (Option.some Jvm.ClassFile.FieldType.int)) (by decide) rfl (Nat.le_of_ble_eq_true rfl) ?_
  intro pP eE U mM bL mT cO S hr hlk hK
  have hts := S.2.2.2.2
  have ht := fun w h => hts w (List.mem_cons_of_mem _ h)
  refine z_aload_n S d_Model_check_0 rfl 0 rfl 1 rfl ?_
  refine z_get S hK hin_Model rm_0 rC_0 rfl 11 (Nat.le_of_ble_eq_true rfl) (ht _ w_551) (fun _ h => h) d_Model_check_1 4 rfl (.int (s 0 11 0)) rfl ?_
  refine z_if_ne S d_Model_check_4 14 (by decide) 7 rfl (fun h1 => ?_) (fun h1 => ?_)
  · refine z_aload_n S d_Model_check_14 rfl 0 rfl 15 rfl ?_
    refine z_get S hK hin_Model rm_0 rC_0 rfl 9 (Nat.le_of_ble_eq_true rfl) (ht _ w_549) (fun _ h => h) d_Model_check_15 18 rfl (.ref (ad 9 0)) rfl ?_
    refine z_iconst S d_Model_check_18 5 (by decide) 19 rfl ?_
    refine z_iald S hK rm_9 0 rC_9 rfl (vp_c (c := 5) (N := 6) (by omega) (by omega)) d_Model_check_19 20 rfl (s 9 0 5) rfl ?_
    refine z_istore_n S d_Model_check_20 rfl (Nat.le_of_ble_eq_true rfl) [(1, .int (s 9 0 5)), (0, .ref (ad 0 0))] rfl 21 rfl ?_
    refine z_aload_n S d_Model_check_21 rfl 1 rfl 22 rfl ?_
    refine z_get S hK hin_Model rm_0 rC_0 rfl 10 (Nat.le_of_ble_eq_true rfl) (ht _ w_550) (fun _ h => h) d_Model_check_22 25 rfl (.ref (ad 10 0)) rfl ?_
    refine z_iconst S d_Model_check_25 5 (by decide) 26 rfl ?_
    refine z_iald S hK rm_10 0 rC_10 rfl (vp_c (c := 5) (N := 6) (by omega) (by omega)) d_Model_check_26 27 rfl (s 10 0 5) rfl ?_
    refine z_istore_n S d_Model_check_27 rfl (Nat.le_of_ble_eq_true rfl) [(2, .int (s 10 0 5)), (1, .int (s 9 0 5)), (0, .ref (ad 0 0))] rfl 28 rfl ?_
    refine z_iconst S d_Model_check_28 (-1) (by decide) 29 rfl ?_
    refine z_istore_n S d_Model_check_29 rfl (Nat.le_of_ble_eq_true rfl) [(3, .int (-1)), (2, .int (s 10 0 5)), (1, .int (s 9 0 5)), (0, .ref (ad 0 0))] rfl 30 rfl ?_
    refine z_aload_n S d_Model_check_30 rfl 3 rfl 31 rfl ?_
    refine z_get S hK hin_Model rm_0 rC_0 rfl 0 (Nat.le_of_ble_eq_true rfl) (ht _ w_540) (fun _ h => h) d_Model_check_31 34 rfl (.int (s 0 0 0)) rfl ?_
    refine z_iconst S d_Model_check_34 1 (by decide) 35 rfl ?_
    refine z_isub S d_Model_check_35 36 rfl ?_
    refine z_istore S d_Model_check_36 (Nat.le_of_ble_eq_true rfl) [(4, .int ((s 0 0 0) - 1)), (3, .int (-1)), (2, .int (s 10 0 5)), (1, .int (s 9 0 5)), (0, .ref (ad 0 0))] rfl 38 rfl ?_
    have loop : ∀ (j : Nat) (z y : Int32), z = nI j - 1 → j ≤ 5 → thF (s 9 0 5) (s 10 0 5) (s 12 0) (s 0 1 0) j y = thF (s 9 0 5) (s 10 0 5) (s 12 0) (s 0 1 0) (s 0 0 0).toNatClampNeg (-1) → zG pP l eE (headSpec ws_Model_check ({ frames := 1, cells := 0, slots := 0, locals := 21 })).room U mM ([.ref (ad 0 0)] : List Value).toArray bL mT cO 6 (MQ bL (zQ D zCl (rRL) ad (some (.int (v_Model_check s))) (rC K ad (S_Model_check s))) ([.ref (ad 0 0)] : List Value).toArray U 0 0 (zw_A (rRL) ad)) (zI D zCl (rRL) ad U.heap (rC K ad s)) 0 0 38 [(4, .int z), (3, .int y), (2, .int (s 10 0 5)), (1, .int (s 9 0 5)), (0, .ref (ad 0 0))] [] := by
      intro j
      induction j with
      | zero =>
        intro z y hz hj hT
        have hT : y = thF (s 9 0 5) (s 10 0 5) (s 12 0) (s 0 1 0) (s 0 0 0).toNatClampNeg (-1) := hT
        refine z_iload S d_Model_check_38 0 rfl 40 rfl ?_
        refine z_if_lt S d_Model_check_40 77 (by decide) 43 rfl (fun h2 => ?_) (fun h2 => ?_)
        · refine z_aload_n S d_Model_check_77 rfl 4 rfl 78 rfl ?_
          refine z_iload_n S d_Model_check_78 rfl 3 rfl 79 rfl ?_
          refine z_callV S hK (As := [.int (s 9 0 5)]) (rest := []) (c_Model_fresh (x := s 9 0 5) hJ (fun _ => hp)) (cw_Model_fresh hts w_658 rfl rfl ⟨(Nat.le_of_ble_eq_true rfl), (Nat.le_of_ble_eq_true rfl)⟩) rm_0 rC_0 rfl rfl rfl (Nat.le_of_ble_eq_true rfl) d_Model_check_79 82 rfl [.int (v_Model_fresh (s 12 0 ((s 9 0 5).toNatClampNeg)) (s 0 1 0) (s 9 0 5))] rfl ?_
          refine z_if_ne S d_Model_check_82 101 (by decide) 85 rfl (fun h3 => ?_) (fun h3 => ?_)
          · refine z_iconst S d_Model_check_101 0 (by decide) 102 rfl ?_
            refine z_istore S d_Model_check_102 (Nat.le_of_ble_eq_true rfl) [(4, .int 0), (3, .int y), (2, .int (s 10 0 5)), (1, .int (s 9 0 5)), (0, .ref (ad 0 0))] rfl 104 rfl ?_
            refine z_aload_n S d_Model_check_104 rfl 4 rfl 105 rfl ?_
            refine z_iload_n S d_Model_check_105 rfl 3 rfl 106 rfl ?_
            refine z_callV S hK (As := [.int (s 9 0 5)]) (rest := []) (c_Model_fresh (x := s 9 0 5) hJ (fun _ => hp)) (cw_Model_fresh hts w_658 rfl rfl ⟨(Nat.le_of_ble_eq_true rfl), (Nat.le_of_ble_eq_true rfl)⟩) rm_0 rC_0 rfl rfl rfl (Nat.le_of_ble_eq_true rfl) d_Model_check_106 109 rfl [.int (v_Model_fresh (s 12 0 ((s 9 0 5).toNatClampNeg)) (s 0 1 0) (s 9 0 5))] rfl ?_
            refine z_if_eq S d_Model_check_109 136 (by decide) 112 rfl (fun h4 => ?_) (fun h4 => ?_)
            · exact absurd h4 h3
            · refine z_iload_n S d_Model_check_112 rfl 2 rfl 113 rfl ?_
              refine z_if_lt S d_Model_check_113 124 (by decide) 116 rfl (fun h5 => ?_) (fun h5 => ?_)
              · refine z_iload_n S d_Model_check_124 rfl 2 rfl 125 rfl ?_
                refine z_if_ge S d_Model_check_125 132 (by decide) 128 rfl (fun h6 => ?_) (fun h6 => ?_)
                · refine z_iconst S d_Model_check_132 1 (by decide) 133 rfl ?_
                  refine z_goto S d_Model_check_133 137 (by decide) ?_
                  refine z_istore S d_Model_check_137 (Nat.le_of_ble_eq_true rfl) [(5, .int 1), (4, .int 0), (3, .int y), (2, .int (s 10 0 5)), (1, .int (s 9 0 5)), (0, .ref (ad 0 0))] rfl 139 rfl ?_
                  refine z_iload S d_Model_check_139 1 rfl 141 rfl ?_
                  refine z_if_ne S d_Model_check_141 149 (by decide) 144 rfl (fun h7 => ?_) (fun h7 => ?_)
                  · exact absurd (by decide) h7
                  · refine z_iload S d_Model_check_144 0 rfl 146 rfl ?_
                    refine z_if_eq S d_Model_check_146 187 (by decide) 149 rfl (fun h8 => ?_) (fun h8 => ?_)
                    · exact absurd h8 (by decide)
                    · refine z_aload_n S d_Model_check_149 rfl 5 rfl 150 rfl ?_
                      refine z_get S hK hin_Model rm_0 rC_0 rfl 8 (Nat.le_of_ble_eq_true rfl) (ht _ w_548) (fun _ h => h) d_Model_check_150 153 rfl (.ref (ad 8 0)) rfl ?_
                      refine z_iconst S d_Model_check_153 5 (by decide) 154 rfl ?_
                      refine z_dup2_11 S d_Model_check_154 rfl rfl 155 rfl ?_
                      refine z_iald S hK rm_8 0 rC_8 rfl (vp_c (c := 5) (N := 6) (by omega) (by omega)) d_Model_check_155 156 rfl (s 8 0 5) rfl ?_
                      refine z_iconst S d_Model_check_156 1 (by decide) 157 rfl ?_
                      refine z_iadd S d_Model_check_157 158 rfl ?_
                      refine z_iast S hJ hK rm_8 0 rC_8 rfl (vp_c (c := 5) (N := 6) (by omega) (by omega)) rfl rupI_8 d_Model_check_158 159 rfl ?_
                      refine z_aload_n S d_Model_check_159 rfl 5 rfl 160 rfl ?_
                      refine z_get S hK hin_Model rm_0 rC_0 rfl 9 (Nat.le_of_ble_eq_true rfl) (ht _ w_549) (fun _ h => h) d_Model_check_160 163 rfl (.ref (ad 9 0)) rfl ?_
                      refine z_iconst S d_Model_check_163 5 (by decide) 164 rfl ?_
                      refine z_iload S d_Model_check_164 1 rfl 166 rfl ?_
                      refine z_if_eq S d_Model_check_166 173 (by decide) 169 rfl (fun h9 => ?_) (fun h9 => ?_)
                      · refine z_iload_n S d_Model_check_173 rfl 4 rfl 174 rfl ?_
                        refine z_iast S hJ hK rm_9 0 rC_9 rfl (vp_c (c := 5) (N := 6) (by omega) (by omega)) rfl rupI_9 d_Model_check_174 175 rfl ?_
                        refine z_aload_n S d_Model_check_175 rfl 5 rfl 176 rfl ?_
                        refine z_get S hK hin_Model rm_0 rC_0 rfl 10 (Nat.le_of_ble_eq_true rfl) (ht _ w_550) (fun _ h => h) d_Model_check_176 179 rfl (.ref (ad 10 0)) rfl ?_
                        refine z_iconst S d_Model_check_179 5 (by decide) 180 rfl ?_
                        refine z_iload_n S d_Model_check_180 rfl 2 rfl 181 rfl ?_
                        refine z_iast S hJ hK rm_10 0 rC_10 rfl (vp_c (c := 5) (N := 6) (by omega) (by omega)) rfl rupI_10 d_Model_check_181 182 rfl ?_
                        refine z_aload_n S d_Model_check_182 rfl 5 rfl 183 rfl ?_
                        refine z_iconst S d_Model_check_183 0 (by decide) 184 rfl ?_
                        refine z_put S hJ hK hin_Model t_Model ok_Model nm_Model rm_0 rC_0 rfl 11 (Nat.le_of_ble_eq_true rfl) (ht _ w_551) (fun _ h => h) rfl (zb_n zb_0) (zb_f zb_0) (Nat.le_of_ble_eq_true rfl) rup_11 d_Model_check_184 187 rfl ?_
                        refine z_aload_n S d_Model_check_187 rfl 5 rfl 188 rfl ?_
                        refine z_get S hK hin_Model rm_0 rC_0 rfl 8 (Nat.le_of_ble_eq_true rfl) (ht _ w_548) (fun _ h => h) d_Model_check_188 191 rfl (.ref (ad 8 0)) rfl ?_
                        refine z_iconst S d_Model_check_191 5 (by decide) 192 rfl ?_
                        refine z_iald S hK rm_8 0 rC_8 rfl (vp_c (c := 5) (N := 6) (by omega) (by omega)) d_Model_check_192 193 rfl ((s 8 0 5) + 1) rfl ?_
                        exact z_iret S hr hlk d_Model_check_193 (by rw [v_Model_check, if_neg h1, ← hT]; simp only [v_Model_checkT, if_pos h2, if_neg h3, if_pos h5, if_pos h6] <;> rfl) (rC_eq (by rw [S_Model_check, if_neg h1, ← hT]; simp only [S_Model_checkT, if_pos h2, if_neg h3, if_pos h5, if_pos h6] <;> rfl))
                      · exact absurd (by decide) h9
                · refine z_iload_n S d_Model_check_128 rfl 1 rfl 129 rfl ?_
                  refine z_if_lt S d_Model_check_129 136 (by decide) 132 rfl (fun h10 => ?_) (fun h10 => ?_)
                  · refine z_iconst S d_Model_check_136 0 (by decide) 137 rfl ?_
                    refine z_istore S d_Model_check_137 (Nat.le_of_ble_eq_true rfl) [(5, .int 0), (4, .int 0), (3, .int y), (2, .int (s 10 0 5)), (1, .int (s 9 0 5)), (0, .ref (ad 0 0))] rfl 139 rfl ?_
                    refine z_iload S d_Model_check_139 1 rfl 141 rfl ?_
                    refine z_if_ne S d_Model_check_141 149 (by decide) 144 rfl (fun h11 => ?_) (fun h11 => ?_)
                    · exact absurd (by decide) h11
                    · refine z_iload S d_Model_check_144 0 rfl 146 rfl ?_
                      refine z_if_eq S d_Model_check_146 187 (by decide) 149 rfl (fun h12 => ?_) (fun h12 => ?_)
                      · refine z_aload_n S d_Model_check_187 rfl 5 rfl 188 rfl ?_
                        refine z_get S hK hin_Model rm_0 rC_0 rfl 8 (Nat.le_of_ble_eq_true rfl) (ht _ w_548) (fun _ h => h) d_Model_check_188 191 rfl (.ref (ad 8 0)) rfl ?_
                        refine z_iconst S d_Model_check_191 5 (by decide) 192 rfl ?_
                        refine z_iald S hK rm_8 0 rC_8 rfl (vp_c (c := 5) (N := 6) (by omega) (by omega)) d_Model_check_192 193 rfl (s 8 0 5) rfl ?_
                        exact z_iret S hr hlk d_Model_check_193 (by rw [v_Model_check, if_neg h1, ← hT]; simp only [v_Model_checkT, if_pos h2, if_neg h3, if_pos h5, if_neg h6, if_pos h10] <;> rfl) (rC_eq (by rw [S_Model_check, if_neg h1, ← hT]; simp only [S_Model_checkT, if_pos h2, if_neg h3, if_pos h5, if_neg h6, if_pos h10] <;> rfl))
                      · exact absurd (by decide) h12
                  · refine z_iconst S d_Model_check_132 1 (by decide) 133 rfl ?_
                    refine z_goto S d_Model_check_133 137 (by decide) ?_
                    refine z_istore S d_Model_check_137 (Nat.le_of_ble_eq_true rfl) [(5, .int 1), (4, .int 0), (3, .int y), (2, .int (s 10 0 5)), (1, .int (s 9 0 5)), (0, .ref (ad 0 0))] rfl 139 rfl ?_
                    refine z_iload S d_Model_check_139 1 rfl 141 rfl ?_
                    refine z_if_ne S d_Model_check_141 149 (by decide) 144 rfl (fun h13 => ?_) (fun h13 => ?_)
                    · exact absurd (by decide) h13
                    · refine z_iload S d_Model_check_144 0 rfl 146 rfl ?_
                      refine z_if_eq S d_Model_check_146 187 (by decide) 149 rfl (fun h14 => ?_) (fun h14 => ?_)
                      · exact absurd h14 (by decide)
                      · refine z_aload_n S d_Model_check_149 rfl 5 rfl 150 rfl ?_
                        refine z_get S hK hin_Model rm_0 rC_0 rfl 8 (Nat.le_of_ble_eq_true rfl) (ht _ w_548) (fun _ h => h) d_Model_check_150 153 rfl (.ref (ad 8 0)) rfl ?_
                        refine z_iconst S d_Model_check_153 5 (by decide) 154 rfl ?_
                        refine z_dup2_11 S d_Model_check_154 rfl rfl 155 rfl ?_
                        refine z_iald S hK rm_8 0 rC_8 rfl (vp_c (c := 5) (N := 6) (by omega) (by omega)) d_Model_check_155 156 rfl (s 8 0 5) rfl ?_
                        refine z_iconst S d_Model_check_156 1 (by decide) 157 rfl ?_
                        refine z_iadd S d_Model_check_157 158 rfl ?_
                        refine z_iast S hJ hK rm_8 0 rC_8 rfl (vp_c (c := 5) (N := 6) (by omega) (by omega)) rfl rupI_8 d_Model_check_158 159 rfl ?_
                        refine z_aload_n S d_Model_check_159 rfl 5 rfl 160 rfl ?_
                        refine z_get S hK hin_Model rm_0 rC_0 rfl 9 (Nat.le_of_ble_eq_true rfl) (ht _ w_549) (fun _ h => h) d_Model_check_160 163 rfl (.ref (ad 9 0)) rfl ?_
                        refine z_iconst S d_Model_check_163 5 (by decide) 164 rfl ?_
                        refine z_iload S d_Model_check_164 1 rfl 166 rfl ?_
                        refine z_if_eq S d_Model_check_166 173 (by decide) 169 rfl (fun h15 => ?_) (fun h15 => ?_)
                        · refine z_iload_n S d_Model_check_173 rfl 4 rfl 174 rfl ?_
                          refine z_iast S hJ hK rm_9 0 rC_9 rfl (vp_c (c := 5) (N := 6) (by omega) (by omega)) rfl rupI_9 d_Model_check_174 175 rfl ?_
                          refine z_aload_n S d_Model_check_175 rfl 5 rfl 176 rfl ?_
                          refine z_get S hK hin_Model rm_0 rC_0 rfl 10 (Nat.le_of_ble_eq_true rfl) (ht _ w_550) (fun _ h => h) d_Model_check_176 179 rfl (.ref (ad 10 0)) rfl ?_
                          refine z_iconst S d_Model_check_179 5 (by decide) 180 rfl ?_
                          refine z_iload_n S d_Model_check_180 rfl 2 rfl 181 rfl ?_
                          refine z_iast S hJ hK rm_10 0 rC_10 rfl (vp_c (c := 5) (N := 6) (by omega) (by omega)) rfl rupI_10 d_Model_check_181 182 rfl ?_
                          refine z_aload_n S d_Model_check_182 rfl 5 rfl 183 rfl ?_
                          refine z_iconst S d_Model_check_183 0 (by decide) 184 rfl ?_
                          refine z_put S hJ hK hin_Model t_Model ok_Model nm_Model rm_0 rC_0 rfl 11 (Nat.le_of_ble_eq_true rfl) (ht _ w_551) (fun _ h => h) rfl (zb_n zb_0) (zb_f zb_0) (Nat.le_of_ble_eq_true rfl) rup_11 d_Model_check_184 187 rfl ?_
                          refine z_aload_n S d_Model_check_187 rfl 5 rfl 188 rfl ?_
                          refine z_get S hK hin_Model rm_0 rC_0 rfl 8 (Nat.le_of_ble_eq_true rfl) (ht _ w_548) (fun _ h => h) d_Model_check_188 191 rfl (.ref (ad 8 0)) rfl ?_
                          refine z_iconst S d_Model_check_191 5 (by decide) 192 rfl ?_
                          refine z_iald S hK rm_8 0 rC_8 rfl (vp_c (c := 5) (N := 6) (by omega) (by omega)) d_Model_check_192 193 rfl ((s 8 0 5) + 1) rfl ?_
                          exact z_iret S hr hlk d_Model_check_193 (by rw [v_Model_check, if_neg h1, ← hT]; simp only [v_Model_checkT, if_pos h2, if_neg h3, if_pos h5, if_neg h6, if_neg h10] <;> rfl) (rC_eq (by rw [S_Model_check, if_neg h1, ← hT]; simp only [S_Model_checkT, if_pos h2, if_neg h3, if_pos h5, if_neg h6, if_neg h10] <;> rfl))
                        · exact absurd (by decide) h15
              · refine z_aload_n S d_Model_check_116 rfl 4 rfl 117 rfl ?_
                refine z_iload_n S d_Model_check_117 rfl 2 rfl 118 rfl ?_
                refine z_callV S hK (As := [.int (s 10 0 5)]) (rest := []) (c_Model_fresh (x := s 10 0 5) hJ hb) (cw_Model_fresh hts w_658 rfl rfl ⟨(Nat.le_of_ble_eq_true rfl), (Nat.le_of_ble_eq_true rfl)⟩) rm_0 rC_0 rfl rfl rfl (Nat.le_of_ble_eq_true rfl) d_Model_check_118 121 rfl [.int (v_Model_fresh (s 12 0 ((s 10 0 5).toNatClampNeg)) (s 0 1 0) (s 10 0 5))] rfl ?_
                refine z_if_ne S d_Model_check_121 136 (by decide) 124 rfl (fun h16 => ?_) (fun h16 => ?_)
                · refine z_iconst S d_Model_check_136 0 (by decide) 137 rfl ?_
                  refine z_istore S d_Model_check_137 (Nat.le_of_ble_eq_true rfl) [(5, .int 0), (4, .int 0), (3, .int y), (2, .int (s 10 0 5)), (1, .int (s 9 0 5)), (0, .ref (ad 0 0))] rfl 139 rfl ?_
                  refine z_iload S d_Model_check_139 1 rfl 141 rfl ?_
                  refine z_if_ne S d_Model_check_141 149 (by decide) 144 rfl (fun h17 => ?_) (fun h17 => ?_)
                  · exact absurd (by decide) h17
                  · refine z_iload S d_Model_check_144 0 rfl 146 rfl ?_
                    refine z_if_eq S d_Model_check_146 187 (by decide) 149 rfl (fun h18 => ?_) (fun h18 => ?_)
                    · refine z_aload_n S d_Model_check_187 rfl 5 rfl 188 rfl ?_
                      refine z_get S hK hin_Model rm_0 rC_0 rfl 8 (Nat.le_of_ble_eq_true rfl) (ht _ w_548) (fun _ h => h) d_Model_check_188 191 rfl (.ref (ad 8 0)) rfl ?_
                      refine z_iconst S d_Model_check_191 5 (by decide) 192 rfl ?_
                      refine z_iald S hK rm_8 0 rC_8 rfl (vp_c (c := 5) (N := 6) (by omega) (by omega)) d_Model_check_192 193 rfl (s 8 0 5) rfl ?_
                      exact z_iret S hr hlk d_Model_check_193 (by rw [v_Model_check, if_neg h1, ← hT]; simp only [v_Model_checkT, if_pos h2, if_neg h3, if_neg h5, if_neg h16] <;> rfl) (rC_eq (by rw [S_Model_check, if_neg h1, ← hT]; simp only [S_Model_checkT, if_pos h2, if_neg h3, if_neg h5, if_neg h16] <;> rfl))
                    · exact absurd (by decide) h18
                · refine z_iload_n S d_Model_check_124 rfl 2 rfl 125 rfl ?_
                  refine z_if_ge S d_Model_check_125 132 (by decide) 128 rfl (fun h19 => ?_) (fun h19 => ?_)
                  · refine z_iconst S d_Model_check_132 1 (by decide) 133 rfl ?_
                    refine z_goto S d_Model_check_133 137 (by decide) ?_
                    refine z_istore S d_Model_check_137 (Nat.le_of_ble_eq_true rfl) [(5, .int 1), (4, .int 0), (3, .int y), (2, .int (s 10 0 5)), (1, .int (s 9 0 5)), (0, .ref (ad 0 0))] rfl 139 rfl ?_
                    refine z_iload S d_Model_check_139 1 rfl 141 rfl ?_
                    refine z_if_ne S d_Model_check_141 149 (by decide) 144 rfl (fun h20 => ?_) (fun h20 => ?_)
                    · exact absurd (by decide) h20
                    · refine z_iload S d_Model_check_144 0 rfl 146 rfl ?_
                      refine z_if_eq S d_Model_check_146 187 (by decide) 149 rfl (fun h21 => ?_) (fun h21 => ?_)
                      · exact absurd h21 (by decide)
                      · refine z_aload_n S d_Model_check_149 rfl 5 rfl 150 rfl ?_
                        refine z_get S hK hin_Model rm_0 rC_0 rfl 8 (Nat.le_of_ble_eq_true rfl) (ht _ w_548) (fun _ h => h) d_Model_check_150 153 rfl (.ref (ad 8 0)) rfl ?_
                        refine z_iconst S d_Model_check_153 5 (by decide) 154 rfl ?_
                        refine z_dup2_11 S d_Model_check_154 rfl rfl 155 rfl ?_
                        refine z_iald S hK rm_8 0 rC_8 rfl (vp_c (c := 5) (N := 6) (by omega) (by omega)) d_Model_check_155 156 rfl (s 8 0 5) rfl ?_
                        refine z_iconst S d_Model_check_156 1 (by decide) 157 rfl ?_
                        refine z_iadd S d_Model_check_157 158 rfl ?_
                        refine z_iast S hJ hK rm_8 0 rC_8 rfl (vp_c (c := 5) (N := 6) (by omega) (by omega)) rfl rupI_8 d_Model_check_158 159 rfl ?_
                        refine z_aload_n S d_Model_check_159 rfl 5 rfl 160 rfl ?_
                        refine z_get S hK hin_Model rm_0 rC_0 rfl 9 (Nat.le_of_ble_eq_true rfl) (ht _ w_549) (fun _ h => h) d_Model_check_160 163 rfl (.ref (ad 9 0)) rfl ?_
                        refine z_iconst S d_Model_check_163 5 (by decide) 164 rfl ?_
                        refine z_iload S d_Model_check_164 1 rfl 166 rfl ?_
                        refine z_if_eq S d_Model_check_166 173 (by decide) 169 rfl (fun h22 => ?_) (fun h22 => ?_)
                        · refine z_iload_n S d_Model_check_173 rfl 4 rfl 174 rfl ?_
                          refine z_iast S hJ hK rm_9 0 rC_9 rfl (vp_c (c := 5) (N := 6) (by omega) (by omega)) rfl rupI_9 d_Model_check_174 175 rfl ?_
                          refine z_aload_n S d_Model_check_175 rfl 5 rfl 176 rfl ?_
                          refine z_get S hK hin_Model rm_0 rC_0 rfl 10 (Nat.le_of_ble_eq_true rfl) (ht _ w_550) (fun _ h => h) d_Model_check_176 179 rfl (.ref (ad 10 0)) rfl ?_
                          refine z_iconst S d_Model_check_179 5 (by decide) 180 rfl ?_
                          refine z_iload_n S d_Model_check_180 rfl 2 rfl 181 rfl ?_
                          refine z_iast S hJ hK rm_10 0 rC_10 rfl (vp_c (c := 5) (N := 6) (by omega) (by omega)) rfl rupI_10 d_Model_check_181 182 rfl ?_
                          refine z_aload_n S d_Model_check_182 rfl 5 rfl 183 rfl ?_
                          refine z_iconst S d_Model_check_183 0 (by decide) 184 rfl ?_
                          refine z_put S hJ hK hin_Model t_Model ok_Model nm_Model rm_0 rC_0 rfl 11 (Nat.le_of_ble_eq_true rfl) (ht _ w_551) (fun _ h => h) rfl (zb_n zb_0) (zb_f zb_0) (Nat.le_of_ble_eq_true rfl) rup_11 d_Model_check_184 187 rfl ?_
                          refine z_aload_n S d_Model_check_187 rfl 5 rfl 188 rfl ?_
                          refine z_get S hK hin_Model rm_0 rC_0 rfl 8 (Nat.le_of_ble_eq_true rfl) (ht _ w_548) (fun _ h => h) d_Model_check_188 191 rfl (.ref (ad 8 0)) rfl ?_
                          refine z_iconst S d_Model_check_191 5 (by decide) 192 rfl ?_
                          refine z_iald S hK rm_8 0 rC_8 rfl (vp_c (c := 5) (N := 6) (by omega) (by omega)) d_Model_check_192 193 rfl ((s 8 0 5) + 1) rfl ?_
                          exact z_iret S hr hlk d_Model_check_193 (by rw [v_Model_check, if_neg h1, ← hT]; simp only [v_Model_checkT, if_pos h2, if_neg h3, if_neg h5, if_pos h16, if_pos h19] <;> rfl) (rC_eq (by rw [S_Model_check, if_neg h1, ← hT]; simp only [S_Model_checkT, if_pos h2, if_neg h3, if_neg h5, if_pos h16, if_pos h19] <;> rfl))
                        · exact absurd (by decide) h22
                  · refine z_iload_n S d_Model_check_128 rfl 1 rfl 129 rfl ?_
                    refine z_if_lt S d_Model_check_129 136 (by decide) 132 rfl (fun h23 => ?_) (fun h23 => ?_)
                    · refine z_iconst S d_Model_check_136 0 (by decide) 137 rfl ?_
                      refine z_istore S d_Model_check_137 (Nat.le_of_ble_eq_true rfl) [(5, .int 0), (4, .int 0), (3, .int y), (2, .int (s 10 0 5)), (1, .int (s 9 0 5)), (0, .ref (ad 0 0))] rfl 139 rfl ?_
                      refine z_iload S d_Model_check_139 1 rfl 141 rfl ?_
                      refine z_if_ne S d_Model_check_141 149 (by decide) 144 rfl (fun h24 => ?_) (fun h24 => ?_)
                      · exact absurd (by decide) h24
                      · refine z_iload S d_Model_check_144 0 rfl 146 rfl ?_
                        refine z_if_eq S d_Model_check_146 187 (by decide) 149 rfl (fun h25 => ?_) (fun h25 => ?_)
                        · refine z_aload_n S d_Model_check_187 rfl 5 rfl 188 rfl ?_
                          refine z_get S hK hin_Model rm_0 rC_0 rfl 8 (Nat.le_of_ble_eq_true rfl) (ht _ w_548) (fun _ h => h) d_Model_check_188 191 rfl (.ref (ad 8 0)) rfl ?_
                          refine z_iconst S d_Model_check_191 5 (by decide) 192 rfl ?_
                          refine z_iald S hK rm_8 0 rC_8 rfl (vp_c (c := 5) (N := 6) (by omega) (by omega)) d_Model_check_192 193 rfl (s 8 0 5) rfl ?_
                          exact z_iret S hr hlk d_Model_check_193 (by rw [v_Model_check, if_neg h1, ← hT]; simp only [v_Model_checkT, if_pos h2, if_neg h3, if_neg h5, if_pos h16, if_neg h19, if_pos h23] <;> rfl) (rC_eq (by rw [S_Model_check, if_neg h1, ← hT]; simp only [S_Model_checkT, if_pos h2, if_neg h3, if_neg h5, if_pos h16, if_neg h19, if_pos h23] <;> rfl))
                        · exact absurd (by decide) h25
                    · refine z_iconst S d_Model_check_132 1 (by decide) 133 rfl ?_
                      refine z_goto S d_Model_check_133 137 (by decide) ?_
                      refine z_istore S d_Model_check_137 (Nat.le_of_ble_eq_true rfl) [(5, .int 1), (4, .int 0), (3, .int y), (2, .int (s 10 0 5)), (1, .int (s 9 0 5)), (0, .ref (ad 0 0))] rfl 139 rfl ?_
                      refine z_iload S d_Model_check_139 1 rfl 141 rfl ?_
                      refine z_if_ne S d_Model_check_141 149 (by decide) 144 rfl (fun h26 => ?_) (fun h26 => ?_)
                      · exact absurd (by decide) h26
                      · refine z_iload S d_Model_check_144 0 rfl 146 rfl ?_
                        refine z_if_eq S d_Model_check_146 187 (by decide) 149 rfl (fun h27 => ?_) (fun h27 => ?_)
                        · exact absurd h27 (by decide)
                        · refine z_aload_n S d_Model_check_149 rfl 5 rfl 150 rfl ?_
                          refine z_get S hK hin_Model rm_0 rC_0 rfl 8 (Nat.le_of_ble_eq_true rfl) (ht _ w_548) (fun _ h => h) d_Model_check_150 153 rfl (.ref (ad 8 0)) rfl ?_
                          refine z_iconst S d_Model_check_153 5 (by decide) 154 rfl ?_
                          refine z_dup2_11 S d_Model_check_154 rfl rfl 155 rfl ?_
                          refine z_iald S hK rm_8 0 rC_8 rfl (vp_c (c := 5) (N := 6) (by omega) (by omega)) d_Model_check_155 156 rfl (s 8 0 5) rfl ?_
                          refine z_iconst S d_Model_check_156 1 (by decide) 157 rfl ?_
                          refine z_iadd S d_Model_check_157 158 rfl ?_
                          refine z_iast S hJ hK rm_8 0 rC_8 rfl (vp_c (c := 5) (N := 6) (by omega) (by omega)) rfl rupI_8 d_Model_check_158 159 rfl ?_
                          refine z_aload_n S d_Model_check_159 rfl 5 rfl 160 rfl ?_
                          refine z_get S hK hin_Model rm_0 rC_0 rfl 9 (Nat.le_of_ble_eq_true rfl) (ht _ w_549) (fun _ h => h) d_Model_check_160 163 rfl (.ref (ad 9 0)) rfl ?_
                          refine z_iconst S d_Model_check_163 5 (by decide) 164 rfl ?_
                          refine z_iload S d_Model_check_164 1 rfl 166 rfl ?_
                          refine z_if_eq S d_Model_check_166 173 (by decide) 169 rfl (fun h28 => ?_) (fun h28 => ?_)
                          · refine z_iload_n S d_Model_check_173 rfl 4 rfl 174 rfl ?_
                            refine z_iast S hJ hK rm_9 0 rC_9 rfl (vp_c (c := 5) (N := 6) (by omega) (by omega)) rfl rupI_9 d_Model_check_174 175 rfl ?_
                            refine z_aload_n S d_Model_check_175 rfl 5 rfl 176 rfl ?_
                            refine z_get S hK hin_Model rm_0 rC_0 rfl 10 (Nat.le_of_ble_eq_true rfl) (ht _ w_550) (fun _ h => h) d_Model_check_176 179 rfl (.ref (ad 10 0)) rfl ?_
                            refine z_iconst S d_Model_check_179 5 (by decide) 180 rfl ?_
                            refine z_iload_n S d_Model_check_180 rfl 2 rfl 181 rfl ?_
                            refine z_iast S hJ hK rm_10 0 rC_10 rfl (vp_c (c := 5) (N := 6) (by omega) (by omega)) rfl rupI_10 d_Model_check_181 182 rfl ?_
                            refine z_aload_n S d_Model_check_182 rfl 5 rfl 183 rfl ?_
                            refine z_iconst S d_Model_check_183 0 (by decide) 184 rfl ?_
                            refine z_put S hJ hK hin_Model t_Model ok_Model nm_Model rm_0 rC_0 rfl 11 (Nat.le_of_ble_eq_true rfl) (ht _ w_551) (fun _ h => h) rfl (zb_n zb_0) (zb_f zb_0) (Nat.le_of_ble_eq_true rfl) rup_11 d_Model_check_184 187 rfl ?_
                            refine z_aload_n S d_Model_check_187 rfl 5 rfl 188 rfl ?_
                            refine z_get S hK hin_Model rm_0 rC_0 rfl 8 (Nat.le_of_ble_eq_true rfl) (ht _ w_548) (fun _ h => h) d_Model_check_188 191 rfl (.ref (ad 8 0)) rfl ?_
                            refine z_iconst S d_Model_check_191 5 (by decide) 192 rfl ?_
                            refine z_iald S hK rm_8 0 rC_8 rfl (vp_c (c := 5) (N := 6) (by omega) (by omega)) d_Model_check_192 193 rfl ((s 8 0 5) + 1) rfl ?_
                            exact z_iret S hr hlk d_Model_check_193 (by rw [v_Model_check, if_neg h1, ← hT]; simp only [v_Model_checkT, if_pos h2, if_neg h3, if_neg h5, if_pos h16, if_neg h19, if_neg h23] <;> rfl) (rC_eq (by rw [S_Model_check, if_neg h1, ← hT]; simp only [S_Model_checkT, if_pos h2, if_neg h3, if_neg h5, if_pos h16, if_neg h19, if_neg h23] <;> rfl))
                          · exact absurd (by decide) h28
          · refine z_iload_n S d_Model_check_85 rfl 2 rfl 86 rfl ?_
            refine z_if_lt S d_Model_check_86 101 (by decide) 89 rfl (fun h29 => ?_) (fun h29 => ?_)
            · refine z_iconst S d_Model_check_101 0 (by decide) 102 rfl ?_
              refine z_istore S d_Model_check_102 (Nat.le_of_ble_eq_true rfl) [(4, .int 0), (3, .int y), (2, .int (s 10 0 5)), (1, .int (s 9 0 5)), (0, .ref (ad 0 0))] rfl 104 rfl ?_
              refine z_aload_n S d_Model_check_104 rfl 4 rfl 105 rfl ?_
              refine z_iload_n S d_Model_check_105 rfl 3 rfl 106 rfl ?_
              refine z_callV S hK (As := [.int (s 9 0 5)]) (rest := []) (c_Model_fresh (x := s 9 0 5) hJ (fun _ => hp)) (cw_Model_fresh hts w_658 rfl rfl ⟨(Nat.le_of_ble_eq_true rfl), (Nat.le_of_ble_eq_true rfl)⟩) rm_0 rC_0 rfl rfl rfl (Nat.le_of_ble_eq_true rfl) d_Model_check_106 109 rfl [.int (v_Model_fresh (s 12 0 ((s 9 0 5).toNatClampNeg)) (s 0 1 0) (s 9 0 5))] rfl ?_
              refine z_if_eq S d_Model_check_109 136 (by decide) 112 rfl (fun h30 => ?_) (fun h30 => ?_)
              · refine z_iconst S d_Model_check_136 0 (by decide) 137 rfl ?_
                refine z_istore S d_Model_check_137 (Nat.le_of_ble_eq_true rfl) [(5, .int 0), (4, .int 0), (3, .int y), (2, .int (s 10 0 5)), (1, .int (s 9 0 5)), (0, .ref (ad 0 0))] rfl 139 rfl ?_
                refine z_iload S d_Model_check_139 1 rfl 141 rfl ?_
                refine z_if_ne S d_Model_check_141 149 (by decide) 144 rfl (fun h31 => ?_) (fun h31 => ?_)
                · exact absurd (by decide) h31
                · refine z_iload S d_Model_check_144 0 rfl 146 rfl ?_
                  refine z_if_eq S d_Model_check_146 187 (by decide) 149 rfl (fun h32 => ?_) (fun h32 => ?_)
                  · refine z_aload_n S d_Model_check_187 rfl 5 rfl 188 rfl ?_
                    refine z_get S hK hin_Model rm_0 rC_0 rfl 8 (Nat.le_of_ble_eq_true rfl) (ht _ w_548) (fun _ h => h) d_Model_check_188 191 rfl (.ref (ad 8 0)) rfl ?_
                    refine z_iconst S d_Model_check_191 5 (by decide) 192 rfl ?_
                    refine z_iald S hK rm_8 0 rC_8 rfl (vp_c (c := 5) (N := 6) (by omega) (by omega)) d_Model_check_192 193 rfl (s 8 0 5) rfl ?_
                    exact z_iret S hr hlk d_Model_check_193 (by rw [v_Model_check, if_neg h1, ← hT]; simp only [v_Model_checkT, if_pos h2, if_pos h3, if_pos h29] <;> rfl) (rC_eq (by rw [S_Model_check, if_neg h1, ← hT]; simp only [S_Model_checkT, if_pos h2, if_pos h3, if_pos h29] <;> rfl))
                  · exact absurd (by decide) h32
              · exact absurd h3 h30
            · refine z_aload_n S d_Model_check_89 rfl 4 rfl 90 rfl ?_
              refine z_iload_n S d_Model_check_90 rfl 2 rfl 91 rfl ?_
              refine z_callV S hK (As := [.int (s 10 0 5)]) (rest := []) (c_Model_fresh (x := s 10 0 5) hJ hb) (cw_Model_fresh hts w_658 rfl rfl ⟨(Nat.le_of_ble_eq_true rfl), (Nat.le_of_ble_eq_true rfl)⟩) rm_0 rC_0 rfl rfl rfl (Nat.le_of_ble_eq_true rfl) d_Model_check_91 94 rfl [.int (v_Model_fresh (s 12 0 ((s 10 0 5).toNatClampNeg)) (s 0 1 0) (s 10 0 5))] rfl ?_
              refine z_if_eq S d_Model_check_94 101 (by decide) 97 rfl (fun h33 => ?_) (fun h33 => ?_)
              · refine z_iconst S d_Model_check_101 0 (by decide) 102 rfl ?_
                refine z_istore S d_Model_check_102 (Nat.le_of_ble_eq_true rfl) [(4, .int 0), (3, .int y), (2, .int (s 10 0 5)), (1, .int (s 9 0 5)), (0, .ref (ad 0 0))] rfl 104 rfl ?_
                refine z_aload_n S d_Model_check_104 rfl 4 rfl 105 rfl ?_
                refine z_iload_n S d_Model_check_105 rfl 3 rfl 106 rfl ?_
                refine z_callV S hK (As := [.int (s 9 0 5)]) (rest := []) (c_Model_fresh (x := s 9 0 5) hJ (fun _ => hp)) (cw_Model_fresh hts w_658 rfl rfl ⟨(Nat.le_of_ble_eq_true rfl), (Nat.le_of_ble_eq_true rfl)⟩) rm_0 rC_0 rfl rfl rfl (Nat.le_of_ble_eq_true rfl) d_Model_check_106 109 rfl [.int (v_Model_fresh (s 12 0 ((s 9 0 5).toNatClampNeg)) (s 0 1 0) (s 9 0 5))] rfl ?_
                refine z_if_eq S d_Model_check_109 136 (by decide) 112 rfl (fun h34 => ?_) (fun h34 => ?_)
                · refine z_iconst S d_Model_check_136 0 (by decide) 137 rfl ?_
                  refine z_istore S d_Model_check_137 (Nat.le_of_ble_eq_true rfl) [(5, .int 0), (4, .int 0), (3, .int y), (2, .int (s 10 0 5)), (1, .int (s 9 0 5)), (0, .ref (ad 0 0))] rfl 139 rfl ?_
                  refine z_iload S d_Model_check_139 1 rfl 141 rfl ?_
                  refine z_if_ne S d_Model_check_141 149 (by decide) 144 rfl (fun h35 => ?_) (fun h35 => ?_)
                  · exact absurd (by decide) h35
                  · refine z_iload S d_Model_check_144 0 rfl 146 rfl ?_
                    refine z_if_eq S d_Model_check_146 187 (by decide) 149 rfl (fun h36 => ?_) (fun h36 => ?_)
                    · refine z_aload_n S d_Model_check_187 rfl 5 rfl 188 rfl ?_
                      refine z_get S hK hin_Model rm_0 rC_0 rfl 8 (Nat.le_of_ble_eq_true rfl) (ht _ w_548) (fun _ h => h) d_Model_check_188 191 rfl (.ref (ad 8 0)) rfl ?_
                      refine z_iconst S d_Model_check_191 5 (by decide) 192 rfl ?_
                      refine z_iald S hK rm_8 0 rC_8 rfl (vp_c (c := 5) (N := 6) (by omega) (by omega)) d_Model_check_192 193 rfl (s 8 0 5) rfl ?_
                      exact z_iret S hr hlk d_Model_check_193 (by rw [v_Model_check, if_neg h1, ← hT]; simp only [v_Model_checkT, if_pos h2, if_pos h3, if_neg h29, if_pos h33] <;> rfl) (rC_eq (by rw [S_Model_check, if_neg h1, ← hT]; simp only [S_Model_checkT, if_pos h2, if_pos h3, if_neg h29, if_pos h33] <;> rfl))
                    · exact absurd (by decide) h36
                · exact absurd h3 h34
              · refine z_iconst S d_Model_check_97 1 (by decide) 98 rfl ?_
                refine z_goto S d_Model_check_98 102 (by decide) ?_
                refine z_istore S d_Model_check_102 (Nat.le_of_ble_eq_true rfl) [(4, .int 1), (3, .int y), (2, .int (s 10 0 5)), (1, .int (s 9 0 5)), (0, .ref (ad 0 0))] rfl 104 rfl ?_
                refine z_aload_n S d_Model_check_104 rfl 4 rfl 105 rfl ?_
                refine z_iload_n S d_Model_check_105 rfl 3 rfl 106 rfl ?_
                refine z_callV S hK (As := [.int (s 9 0 5)]) (rest := []) (c_Model_fresh (x := s 9 0 5) hJ (fun _ => hp)) (cw_Model_fresh hts w_658 rfl rfl ⟨(Nat.le_of_ble_eq_true rfl), (Nat.le_of_ble_eq_true rfl)⟩) rm_0 rC_0 rfl rfl rfl (Nat.le_of_ble_eq_true rfl) d_Model_check_106 109 rfl [.int (v_Model_fresh (s 12 0 ((s 9 0 5).toNatClampNeg)) (s 0 1 0) (s 9 0 5))] rfl ?_
                refine z_if_eq S d_Model_check_109 136 (by decide) 112 rfl (fun h37 => ?_) (fun h37 => ?_)
                · refine z_iconst S d_Model_check_136 0 (by decide) 137 rfl ?_
                  refine z_istore S d_Model_check_137 (Nat.le_of_ble_eq_true rfl) [(5, .int 0), (4, .int 1), (3, .int y), (2, .int (s 10 0 5)), (1, .int (s 9 0 5)), (0, .ref (ad 0 0))] rfl 139 rfl ?_
                  refine z_iload S d_Model_check_139 1 rfl 141 rfl ?_
                  refine z_if_ne S d_Model_check_141 149 (by decide) 144 rfl (fun h38 => ?_) (fun h38 => ?_)
                  · refine z_aload_n S d_Model_check_149 rfl 5 rfl 150 rfl ?_
                    refine z_get S hK hin_Model rm_0 rC_0 rfl 8 (Nat.le_of_ble_eq_true rfl) (ht _ w_548) (fun _ h => h) d_Model_check_150 153 rfl (.ref (ad 8 0)) rfl ?_
                    refine z_iconst S d_Model_check_153 5 (by decide) 154 rfl ?_
                    refine z_dup2_11 S d_Model_check_154 rfl rfl 155 rfl ?_
                    refine z_iald S hK rm_8 0 rC_8 rfl (vp_c (c := 5) (N := 6) (by omega) (by omega)) d_Model_check_155 156 rfl (s 8 0 5) rfl ?_
                    refine z_iconst S d_Model_check_156 1 (by decide) 157 rfl ?_
                    refine z_iadd S d_Model_check_157 158 rfl ?_
                    refine z_iast S hJ hK rm_8 0 rC_8 rfl (vp_c (c := 5) (N := 6) (by omega) (by omega)) rfl rupI_8 d_Model_check_158 159 rfl ?_
                    refine z_aload_n S d_Model_check_159 rfl 5 rfl 160 rfl ?_
                    refine z_get S hK hin_Model rm_0 rC_0 rfl 9 (Nat.le_of_ble_eq_true rfl) (ht _ w_549) (fun _ h => h) d_Model_check_160 163 rfl (.ref (ad 9 0)) rfl ?_
                    refine z_iconst S d_Model_check_163 5 (by decide) 164 rfl ?_
                    refine z_iload S d_Model_check_164 1 rfl 166 rfl ?_
                    refine z_if_eq S d_Model_check_166 173 (by decide) 169 rfl (fun h39 => ?_) (fun h39 => ?_)
                    · exact absurd h39 (by decide)
                    · refine z_iload_n S d_Model_check_169 rfl 3 rfl 170 rfl ?_
                      refine z_goto S d_Model_check_170 174 (by decide) ?_
                      refine z_iast S hJ hK rm_9 0 rC_9 rfl (vp_c (c := 5) (N := 6) (by omega) (by omega)) rfl rupI_9 d_Model_check_174 175 rfl ?_
                      refine z_aload_n S d_Model_check_175 rfl 5 rfl 176 rfl ?_
                      refine z_get S hK hin_Model rm_0 rC_0 rfl 10 (Nat.le_of_ble_eq_true rfl) (ht _ w_550) (fun _ h => h) d_Model_check_176 179 rfl (.ref (ad 10 0)) rfl ?_
                      refine z_iconst S d_Model_check_179 5 (by decide) 180 rfl ?_
                      refine z_iload_n S d_Model_check_180 rfl 2 rfl 181 rfl ?_
                      refine z_iast S hJ hK rm_10 0 rC_10 rfl (vp_c (c := 5) (N := 6) (by omega) (by omega)) rfl rupI_10 d_Model_check_181 182 rfl ?_
                      refine z_aload_n S d_Model_check_182 rfl 5 rfl 183 rfl ?_
                      refine z_iconst S d_Model_check_183 0 (by decide) 184 rfl ?_
                      refine z_put S hJ hK hin_Model t_Model ok_Model nm_Model rm_0 rC_0 rfl 11 (Nat.le_of_ble_eq_true rfl) (ht _ w_551) (fun _ h => h) rfl (zb_n zb_0) (zb_f zb_0) (Nat.le_of_ble_eq_true rfl) rup_11 d_Model_check_184 187 rfl ?_
                      refine z_aload_n S d_Model_check_187 rfl 5 rfl 188 rfl ?_
                      refine z_get S hK hin_Model rm_0 rC_0 rfl 8 (Nat.le_of_ble_eq_true rfl) (ht _ w_548) (fun _ h => h) d_Model_check_188 191 rfl (.ref (ad 8 0)) rfl ?_
                      refine z_iconst S d_Model_check_191 5 (by decide) 192 rfl ?_
                      refine z_iald S hK rm_8 0 rC_8 rfl (vp_c (c := 5) (N := 6) (by omega) (by omega)) d_Model_check_192 193 rfl ((s 8 0 5) + 1) rfl ?_
                      exact z_iret S hr hlk d_Model_check_193 (by rw [v_Model_check, if_neg h1, ← hT]; simp only [v_Model_checkT, if_pos h2, if_pos h3, if_neg h29, if_neg h33] <;> rfl) (rC_eq (by rw [S_Model_check, if_neg h1, ← hT]; simp only [S_Model_checkT, if_pos h2, if_pos h3, if_neg h29, if_neg h33] <;> rfl))
                  · exact absurd h38 (by decide)
                · exact absurd h3 h37
        · exact absurd (by rw [hz]; decide) h2
      | succ j ih =>
        intro z y hz hj hT
        rw [nI_pred] at hz
        subst hz
        refine z_iload S d_Model_check_38 0 rfl 40 rfl ?_
        refine z_if_lt S d_Model_check_40 77 (by decide) 43 rfl (fun h40 => ?_) (fun h40 => ?_)
        · exact absurd h40 (nI_pos (by omega))
        · refine z_iload S d_Model_check_43 0 rfl 45 rfl ?_
          refine z_iload_n S d_Model_check_45 rfl 3 rfl 46 rfl ?_
          refine z_icmp_eq S d_Model_check_46 69 (by decide) 49 rfl (fun h41 => ?_) (fun h41 => ?_)
          · refine z_iload_n S d_Model_check_69 rfl 1 rfl 70 rfl ?_
            refine z_istore_n S d_Model_check_70 rfl (Nat.le_of_ble_eq_true rfl) [(3, .int y), (4, .int (nI j)), (2, .int (s 10 0 5)), (1, .int (s 9 0 5)), (0, .ref (ad 0 0))] rfl 71 rfl ?_
            refine z_iinc S d_Model_check_71 1 rfl rfl (Nat.le_of_ble_eq_true rfl) [(4, .int ((nI j) + Int32.ofInt (-1))), (3, .int y), (2, .int (s 10 0 5)), (1, .int (s 9 0 5)), (0, .ref (ad 0 0))] rfl 74 rfl ?_
            refine z_goto S d_Model_check_74 38 (by decide) ?_
            exact ih _ _ (i32_m1 _) (by omega) (by rw [← hT]; simp only [thF, if_neg h40, if_pos h41])
          · refine z_iload S d_Model_check_49 0 rfl 51 rfl ?_
            refine z_iload_n S d_Model_check_51 rfl 2 rfl 52 rfl ?_
            refine z_icmp_eq S d_Model_check_52 69 (by decide) 55 rfl (fun h42 => ?_) (fun h42 => ?_)
            · refine z_iload_n S d_Model_check_69 rfl 1 rfl 70 rfl ?_
              refine z_istore_n S d_Model_check_70 rfl (Nat.le_of_ble_eq_true rfl) [(3, .int y), (4, .int (nI j)), (2, .int (s 10 0 5)), (1, .int (s 9 0 5)), (0, .ref (ad 0 0))] rfl 71 rfl ?_
              refine z_iinc S d_Model_check_71 1 rfl rfl (Nat.le_of_ble_eq_true rfl) [(4, .int ((nI j) + Int32.ofInt (-1))), (3, .int y), (2, .int (s 10 0 5)), (1, .int (s 9 0 5)), (0, .ref (ad 0 0))] rfl 74 rfl ?_
              refine z_goto S d_Model_check_74 38 (by decide) ?_
              exact ih _ _ (i32_m1 _) (by omega) (by rw [← hT]; simp only [thF, if_neg h40, if_neg h41, if_pos h42])
            · refine z_aload_n S d_Model_check_55 rfl 4 rfl 56 rfl ?_
              refine z_iload S d_Model_check_56 0 rfl 58 rfl ?_
              refine z_callV S hK (As := [.int (nI j)]) (rest := []) (c_Model_fresh (x := nI j) hJ (fun _ => nI_in (by omega) (by omega))) (cw_Model_fresh hts w_658 rfl rfl ⟨(Nat.le_of_ble_eq_true rfl), (Nat.le_of_ble_eq_true rfl)⟩) rm_0 rC_0 rfl rfl rfl (Nat.le_of_ble_eq_true rfl) d_Model_check_58 61 rfl [.int (v_Model_fresh (s 12 0 ((nI j).toNatClampNeg)) (s 0 1 0) (nI j))] rfl ?_
              refine z_if_eq S d_Model_check_61 69 (by decide) 64 rfl (fun h43 => ?_) (fun h43 => ?_)
              · refine z_iload_n S d_Model_check_69 rfl 1 rfl 70 rfl ?_
                refine z_istore_n S d_Model_check_70 rfl (Nat.le_of_ble_eq_true rfl) [(3, .int y), (4, .int (nI j)), (2, .int (s 10 0 5)), (1, .int (s 9 0 5)), (0, .ref (ad 0 0))] rfl 71 rfl ?_
                refine z_iinc S d_Model_check_71 1 rfl rfl (Nat.le_of_ble_eq_true rfl) [(4, .int ((nI j) + Int32.ofInt (-1))), (3, .int y), (2, .int (s 10 0 5)), (1, .int (s 9 0 5)), (0, .ref (ad 0 0))] rfl 74 rfl ?_
                refine z_goto S d_Model_check_74 38 (by decide) ?_
                exact ih _ _ (i32_m1 _) (by omega) (by rw [← hT]; simp only [thF, if_neg h40, if_neg h41, if_neg h42, if_pos h43])
              · refine z_iload S d_Model_check_64 0 rfl 66 rfl ?_
                refine z_goto S d_Model_check_66 70 (by decide) ?_
                refine z_istore_n S d_Model_check_70 rfl (Nat.le_of_ble_eq_true rfl) [(3, .int (nI j)), (4, .int (nI j)), (2, .int (s 10 0 5)), (1, .int (s 9 0 5)), (0, .ref (ad 0 0))] rfl 71 rfl ?_
                refine z_iinc S d_Model_check_71 1 rfl rfl (Nat.le_of_ble_eq_true rfl) [(4, .int ((nI j) + Int32.ofInt (-1))), (3, .int (nI j)), (2, .int (s 10 0 5)), (1, .int (s 9 0 5)), (0, .ref (ad 0 0))] rfl 74 rfl ?_
                refine z_goto S d_Model_check_74 38 (by decide) ?_
                exact ih _ _ (i32_m1 _) (by omega) (by rw [← hT]; simp only [thF, if_neg h40, if_neg h41, if_neg h42, if_neg h43])
    exact loop (s 0 0 0).toNatClampNeg _ _ (by rw [← vp_eq hN]) (by have := vp_lt hN; omega) rfl
  · refine z_aload_n S d_Model_check_7 rfl 0 rfl 8 rfl ?_
    refine z_get S hK hin_Model rm_0 rC_0 rfl 8 (Nat.le_of_ble_eq_true rfl) (ht _ w_548) (fun _ h => h) d_Model_check_8 11 rfl (.ref (ad 8 0)) rfl ?_
    refine z_iconst S d_Model_check_11 5 (by decide) 12 rfl ?_
    refine z_iald S hK rm_8 0 rC_8 rfl (vp_c (c := 5) (N := 6) (by omega) (by omega)) d_Model_check_12 13 rfl (s 8 0 5) rfl ?_
    exact z_iret S hr hlk d_Model_check_13 (by rw [v_Model_check, if_pos h1]) (rC_eq (by rw [S_Model_check, if_pos h1]))
theorem d_Model_fill_0 : decode prog_11_method_28_code 0 = .ok (.aload_n 0, 1) := by decide +kernel
theorem d_Model_fill_1 : decode prog_11_method_28_code 1 = .ok (.getfield 87, 3) := by decide +kernel
theorem d_Model_fill_4 : decode prog_11_method_28_code 4 = .ok (.iload_n 1, 1) := by decide +kernel
theorem d_Model_fill_5 : decode prog_11_method_28_code 5 = .ok (.iaload, 1) := by decide +kernel
theorem d_Model_fill_6 : decode prog_11_method_28_code 6 = .ok (.aload_n 0, 1) := by decide +kernel
theorem d_Model_fill_7 : decode prog_11_method_28_code 7 = .ok (.getfield 26, 3) := by decide +kernel
theorem d_Model_fill_10 : decode prog_11_method_28_code 10 = .ok (.iload_n 2, 1) := by decide +kernel
theorem d_Model_fill_11 : decode prog_11_method_28_code 11 = .ok (.iaload, 1) := by decide +kernel
theorem d_Model_fill_12 : decode prog_11_method_28_code 12 = .ok (.if_icmp .ge 5, 3) := by decide +kernel
theorem d_Model_fill_15 : decode prog_11_method_28_code 15 = .ok (.iconst 0, 1) := by decide +kernel
theorem d_Model_fill_16 : decode prog_11_method_28_code 16 = .ok (.ireturn, 1) := by decide +kernel
theorem d_Model_fill_17 : decode prog_11_method_28_code 17 = .ok (.aload_n 0, 1) := by decide +kernel
theorem d_Model_fill_18 : decode prog_11_method_28_code 18 = .ok (.getfield 87, 3) := by decide +kernel
theorem d_Model_fill_21 : decode prog_11_method_28_code 21 = .ok (.iload_n 1, 1) := by decide +kernel
theorem d_Model_fill_22 : decode prog_11_method_28_code 22 = .ok (.iaload, 1) := by decide +kernel
theorem d_Model_fill_23 : decode prog_11_method_28_code 23 = .ok (.aload_n 0, 1) := by decide +kernel
theorem d_Model_fill_24 : decode prog_11_method_28_code 24 = .ok (.getfield 26, 3) := by decide +kernel
theorem d_Model_fill_27 : decode prog_11_method_28_code 27 = .ok (.iload_n 2, 1) := by decide +kernel
theorem d_Model_fill_28 : decode prog_11_method_28_code 28 = .ok (.iaload, 1) := by decide +kernel
theorem d_Model_fill_29 : decode prog_11_method_28_code 29 = .ok (.if_icmp .le 26, 3) := by decide +kernel
theorem d_Model_fill_32 : decode prog_11_method_28_code 32 = .ok (.aload_n 0, 1) := by decide +kernel
theorem d_Model_fill_33 : decode prog_11_method_28_code 33 = .ok (.iload_n 2, 1) := by decide +kernel
theorem d_Model_fill_34 : decode prog_11_method_28_code 34 = .ok (.aload_n 0, 1) := by decide +kernel
theorem d_Model_fill_35 : decode prog_11_method_28_code 35 = .ok (.getfield 87, 3) := by decide +kernel
theorem d_Model_fill_38 : decode prog_11_method_28_code 38 = .ok (.iload_n 1, 1) := by decide +kernel
theorem d_Model_fill_39 : decode prog_11_method_28_code 39 = .ok (.iaload, 1) := by decide +kernel
theorem d_Model_fill_40 : decode prog_11_method_28_code 40 = .ok (.aload_n 0, 1) := by decide +kernel
theorem d_Model_fill_41 : decode prog_11_method_28_code 41 = .ok (.getfield 90, 3) := by decide +kernel
theorem d_Model_fill_44 : decode prog_11_method_28_code 44 = .ok (.iload_n 1, 1) := by decide +kernel
theorem d_Model_fill_45 : decode prog_11_method_28_code 45 = .ok (.iaload, 1) := by decide +kernel
theorem d_Model_fill_46 : decode prog_11_method_28_code 46 = .ok (.aload_n 0, 1) := by decide +kernel
theorem d_Model_fill_47 : decode prog_11_method_28_code 47 = .ok (.getfield 93, 3) := by decide +kernel
theorem d_Model_fill_50 : decode prog_11_method_28_code 50 = .ok (.iload_n 1, 1) := by decide +kernel
theorem d_Model_fill_51 : decode prog_11_method_28_code 51 = .ok (.iaload, 1) := by decide +kernel
theorem d_Model_fill_52 : decode prog_11_method_28_code 52 = .ok (.invokevirtual 183, 3) := by decide +kernel
theorem d_Model_fill_55 : decode prog_11_method_28_code 55 = .ok (.aload_n 0, 1) := by decide +kernel
theorem d_Model_fill_56 : decode prog_11_method_28_code 56 = .ok (.getfield 47, 3) := by decide +kernel
theorem d_Model_fill_59 : decode prog_11_method_28_code 59 = .ok (.iload_n 2, 1) := by decide +kernel
theorem d_Model_fill_60 : decode prog_11_method_28_code 60 = .ok (.baload, 1) := by decide +kernel
theorem d_Model_fill_61 : decode prog_11_method_28_code 61 = .ok (.ifCond .ne 64, 3) := by decide +kernel
theorem d_Model_fill_64 : decode prog_11_method_28_code 64 = .ok (.aload_n 0, 1) := by decide +kernel
theorem d_Model_fill_65 : decode prog_11_method_28_code 65 = .ok (.getfield 56, 3) := by decide +kernel
theorem d_Model_fill_68 : decode prog_11_method_28_code 68 = .ok (.iload_n 2, 1) := by decide +kernel
theorem d_Model_fill_69 : decode prog_11_method_28_code 69 = .ok (.aload_n 0, 1) := by decide +kernel
theorem d_Model_fill_70 : decode prog_11_method_28_code 70 = .ok (.getfield 99, 3) := by decide +kernel
theorem d_Model_fill_73 : decode prog_11_method_28_code 73 = .ok (.iload_n 1, 1) := by decide +kernel
theorem d_Model_fill_74 : decode prog_11_method_28_code 74 = .ok (.iaload, 1) := by decide +kernel
theorem d_Model_fill_75 : decode prog_11_method_28_code 75 = .ok (.iastore, 1) := by decide +kernel
theorem d_Model_fill_76 : decode prog_11_method_28_code 76 = .ok (.iconst 0, 1) := by decide +kernel
theorem d_Model_fill_77 : decode prog_11_method_28_code 77 = .ok (.istore_n 3, 1) := by decide +kernel
theorem d_Model_fill_78 : decode prog_11_method_28_code 78 = .ok (.iload_n 3, 1) := by decide +kernel
theorem d_Model_fill_79 : decode prog_11_method_28_code 79 = .ok (.aload_n 0, 1) := by decide +kernel
theorem d_Model_fill_80 : decode prog_11_method_28_code 80 = .ok (.getfield 56, 3) := by decide +kernel
theorem d_Model_fill_83 : decode prog_11_method_28_code 83 = .ok (.iload_n 2, 1) := by decide +kernel
theorem d_Model_fill_84 : decode prog_11_method_28_code 84 = .ok (.iaload, 1) := by decide +kernel
theorem d_Model_fill_85 : decode prog_11_method_28_code 85 = .ok (.if_icmp .ge 33, 3) := by decide +kernel
theorem d_Model_fill_88 : decode prog_11_method_28_code 88 = .ok (.aload_n 0, 1) := by decide +kernel
theorem d_Model_fill_89 : decode prog_11_method_28_code 89 = .ok (.getfield 59, 3) := by decide +kernel
theorem d_Model_fill_92 : decode prog_11_method_28_code 92 = .ok (.sipush 180, 3) := by decide +kernel
theorem d_Model_fill_95 : decode prog_11_method_28_code 95 = .ok (.iload_n 2, 1) := by decide +kernel
theorem d_Model_fill_96 : decode prog_11_method_28_code 96 = .ok (.imul, 1) := by decide +kernel
theorem d_Model_fill_97 : decode prog_11_method_28_code 97 = .ok (.iload_n 3, 1) := by decide +kernel
theorem d_Model_fill_98 : decode prog_11_method_28_code 98 = .ok (.iadd, 1) := by decide +kernel
theorem d_Model_fill_99 : decode prog_11_method_28_code 99 = .ok (.aload_n 0, 1) := by decide +kernel
theorem d_Model_fill_100 : decode prog_11_method_28_code 100 = .ok (.getfield 105, 3) := by decide +kernel
theorem d_Model_fill_103 : decode prog_11_method_28_code 103 = .ok (.sipush 180, 3) := by decide +kernel
theorem d_Model_fill_106 : decode prog_11_method_28_code 106 = .ok (.iload_n 1, 1) := by decide +kernel
theorem d_Model_fill_107 : decode prog_11_method_28_code 107 = .ok (.imul, 1) := by decide +kernel
theorem d_Model_fill_108 : decode prog_11_method_28_code 108 = .ok (.iload_n 3, 1) := by decide +kernel
theorem d_Model_fill_109 : decode prog_11_method_28_code 109 = .ok (.iadd, 1) := by decide +kernel
theorem d_Model_fill_110 : decode prog_11_method_28_code 110 = .ok (.saload, 1) := by decide +kernel
theorem d_Model_fill_111 : decode prog_11_method_28_code 111 = .ok (.sastore, 1) := by decide +kernel
theorem d_Model_fill_112 : decode prog_11_method_28_code 112 = .ok (.iinc 3 1, 3) := by decide +kernel
theorem d_Model_fill_115 : decode prog_11_method_28_code 115 = .ok (.goto (-37), 3) := by decide +kernel
theorem d_Model_fill_118 : decode prog_11_method_28_code 118 = .ok (.aload_n 0, 1) := by decide +kernel
theorem d_Model_fill_119 : decode prog_11_method_28_code 119 = .ok (.getfield 47, 3) := by decide +kernel
theorem d_Model_fill_122 : decode prog_11_method_28_code 122 = .ok (.iload_n 2, 1) := by decide +kernel
theorem d_Model_fill_123 : decode prog_11_method_28_code 123 = .ok (.iconst 1, 1) := by decide +kernel
theorem d_Model_fill_124 : decode prog_11_method_28_code 124 = .ok (.bastore, 1) := by decide +kernel
theorem d_Model_fill_125 : decode prog_11_method_28_code 125 = .ok (.aload_n 0, 1) := by decide +kernel
theorem d_Model_fill_126 : decode prog_11_method_28_code 126 = .ok (.iconst 4, 1) := by decide +kernel
theorem d_Model_fill_127 : decode prog_11_method_28_code 127 = .ok (.aload_n 0, 1) := by decide +kernel
theorem d_Model_fill_128 : decode prog_11_method_28_code 128 = .ok (.getfield 90, 3) := by decide +kernel
theorem d_Model_fill_131 : decode prog_11_method_28_code 131 = .ok (.iload_n 1, 1) := by decide +kernel
theorem d_Model_fill_132 : decode prog_11_method_28_code 132 = .ok (.iaload, 1) := by decide +kernel
theorem d_Model_fill_133 : decode prog_11_method_28_code 133 = .ok (.invokevirtual 115, 3) := by decide +kernel
theorem d_Model_fill_136 : decode prog_11_method_28_code 136 = .ok (.istore_n 3, 1) := by decide +kernel
theorem d_Model_fill_137 : decode prog_11_method_28_code 137 = .ok (.aload_n 0, 1) := by decide +kernel
theorem d_Model_fill_138 : decode prog_11_method_28_code 138 = .ok (.getfield 87, 3) := by decide +kernel
theorem d_Model_fill_141 : decode prog_11_method_28_code 141 = .ok (.iload_n 3, 1) := by decide +kernel
theorem d_Model_fill_142 : decode prog_11_method_28_code 142 = .ok (.aload_n 0, 1) := by decide +kernel
theorem d_Model_fill_143 : decode prog_11_method_28_code 143 = .ok (.getfield 87, 3) := by decide +kernel
theorem d_Model_fill_146 : decode prog_11_method_28_code 146 = .ok (.iload_n 1, 1) := by decide +kernel
theorem d_Model_fill_147 : decode prog_11_method_28_code 147 = .ok (.iaload, 1) := by decide +kernel
theorem d_Model_fill_148 : decode prog_11_method_28_code 148 = .ok (.iastore, 1) := by decide +kernel
theorem d_Model_fill_149 : decode prog_11_method_28_code 149 = .ok (.iconst 1, 1) := by decide +kernel
theorem d_Model_fill_150 : decode prog_11_method_28_code 150 = .ok (.ireturn, 1) := by decide +kernel
def S_Model_fill (s : S3) (p x : Int32) : S3 := if (s 8 0 x.toNatClampNeg) ≤ (s 30 0 p.toNatClampNeg) then (if (s 30 0 p.toNatClampNeg) ≤ (s 8 0 x.toNatClampNeg) then (if (s 16 0 x.toNatClampNeg) = 0 then (u3 (S_Model_post (u3 (uA (u3 s 19 0 x.toNatClampNeg (s 34 0 p.toNatClampNeg)) 20 0 (cpR (s 36 0) p x (s 34 0 p.toNatClampNeg).toNatClampNeg 0 (s 20 0))) 16 0 x.toNatClampNeg 1) 4 (s 31 0 p.toNatClampNeg)) 30 0 ((ppF (s 0 25 0) (s 27 0)).toNatClampNeg) (s 30 0 p.toNatClampNeg)) else u3 (S_Model_post s 4 (s 31 0 p.toNatClampNeg)) 30 0 ((ppF (s 0 25 0) (s 27 0)).toNatClampNeg) (s 30 0 p.toNatClampNeg)) else if ((S_Model_enter s x (s 30 0 p.toNatClampNeg) (s 31 0 p.toNatClampNeg) (s 32 0 p.toNatClampNeg)) 16 0 x.toNatClampNeg) = 0 then (u3 (S_Model_post (u3 (uA (u3 (S_Model_enter s x (s 30 0 p.toNatClampNeg) (s 31 0 p.toNatClampNeg) (s 32 0 p.toNatClampNeg)) 19 0 x.toNatClampNeg ((S_Model_enter s x (s 30 0 p.toNatClampNeg) (s 31 0 p.toNatClampNeg) (s 32 0 p.toNatClampNeg)) 34 0 p.toNatClampNeg)) 20 0 (cpR ((S_Model_enter s x (s 30 0 p.toNatClampNeg) (s 31 0 p.toNatClampNeg) (s 32 0 p.toNatClampNeg)) 36 0) p x ((S_Model_enter s x (s 30 0 p.toNatClampNeg) (s 31 0 p.toNatClampNeg) (s 32 0 p.toNatClampNeg)) 34 0 p.toNatClampNeg).toNatClampNeg 0 ((S_Model_enter s x (s 30 0 p.toNatClampNeg) (s 31 0 p.toNatClampNeg) (s 32 0 p.toNatClampNeg)) 20 0))) 16 0 x.toNatClampNeg 1) 4 ((S_Model_enter s x (s 30 0 p.toNatClampNeg) (s 31 0 p.toNatClampNeg) (s 32 0 p.toNatClampNeg)) 31 0 p.toNatClampNeg)) 30 0 ((ppF ((S_Model_enter s x (s 30 0 p.toNatClampNeg) (s 31 0 p.toNatClampNeg) (s 32 0 p.toNatClampNeg)) 0 25 0) ((S_Model_enter s x (s 30 0 p.toNatClampNeg) (s 31 0 p.toNatClampNeg) (s 32 0 p.toNatClampNeg)) 27 0)).toNatClampNeg) ((S_Model_enter s x (s 30 0 p.toNatClampNeg) (s 31 0 p.toNatClampNeg) (s 32 0 p.toNatClampNeg)) 30 0 p.toNatClampNeg)) else u3 (S_Model_post (S_Model_enter s x (s 30 0 p.toNatClampNeg) (s 31 0 p.toNatClampNeg) (s 32 0 p.toNatClampNeg)) 4 ((S_Model_enter s x (s 30 0 p.toNatClampNeg) (s 31 0 p.toNatClampNeg) (s 32 0 p.toNatClampNeg)) 31 0 p.toNatClampNeg)) 30 0 ((ppF ((S_Model_enter s x (s 30 0 p.toNatClampNeg) (s 31 0 p.toNatClampNeg) (s 32 0 p.toNatClampNeg)) 0 25 0) ((S_Model_enter s x (s 30 0 p.toNatClampNeg) (s 31 0 p.toNatClampNeg) (s 32 0 p.toNatClampNeg)) 27 0)).toNatClampNeg) ((S_Model_enter s x (s 30 0 p.toNatClampNeg) (s 31 0 p.toNatClampNeg) (s 32 0 p.toNatClampNeg)) 30 0 p.toNatClampNeg)) else s
def v_Model_fill (s : S3) (p x : Int32) : Int32 := if (s 8 0 x.toNatClampNeg) ≤ (s 30 0 p.toNatClampNeg) then (if (s 30 0 p.toNatClampNeg) ≤ (s 8 0 x.toNatClampNeg) then (if (s 16 0 x.toNatClampNeg) = 0 then 1 else 1) else if ((S_Model_enter s x (s 30 0 p.toNatClampNeg) (s 31 0 p.toNatClampNeg) (s 32 0 p.toNatClampNeg)) 16 0 x.toNatClampNeg) = 0 then 1 else 1) else 0
theorem zbv_Model_fill {s : S3} {p x : Int32} : zb (v_Model_fill s p x) := by
  unfold v_Model_fill
  repeat' split
  all_goals first | with_reducible exact zb_0 | with_reducible exact zb_1
set_option maxHeartbeats 4000000 in
set_option maxRecDepth 100000 in
theorem c_Model_fill {l : Launch} {D : va_G} {K : Nat → ClassId} {ad : Nat → Nat → Nat} {s : S3} {p x : Int32}  (hJ : zw_J (rRL) ad) (hW : vp_in (s 0 25 0) 33) (hB : fB s) (hla : ∀ j, vp_in (s 19 0 j) 180) (hp : vp_in p 34) (hx : vp_in x 5) (hwl : vp_in (s 34 0 p.toNatClampNeg) 180) (hW2 : vp_in ((S_Model_enter s x (s 30 0 p.toNatClampNeg) (s 31 0 p.toNatClampNeg) (s 32 0 p.toNatClampNeg)) 0 25 0) 33) (hB2 : fB (S_Model_enter s x (s 30 0 p.toNatClampNeg) (s 31 0 p.toNatClampNeg) (s 32 0 p.toNatClampNeg))) (hwl2 : vp_in ((S_Model_enter s x (s 30 0 p.toNatClampNeg) (s 31 0 p.toNatClampNeg) (s 32 0 p.toNatClampNeg)) 34 0 p.toNatClampNeg) 180) : zM l y_Model_fill ws_Model_fill ({ frames := 3, cells := 0, slots := 0, locals := 70 }) D zCl (zTys K) (rRL) ad [.ref (ad 0 0), .int p, .int x] (rC K ad s) (some (.int (v_Model_fill s p x))) (rC K ad (S_Model_fill s p x)) := by
  refine zM.of (cc := prog_11_method_28_code) (maxL := 4) (ret := (Option.some Jvm.ClassFile.FieldType.boolean)) (by decide) rfl (Nat.le_of_ble_eq_true rfl) ?_
  intro pP eE U mM bL mT cO S hr hlk hK
  have hts := S.2.2.2.2
  have ht := fun w h => hts w (List.mem_cons_of_mem _ h)
  refine z_aload_n S d_Model_fill_0 rfl 0 rfl 1 rfl ?_
  refine z_get S hK hin_Model rm_0 rC_0 rfl 30 (Nat.le_of_ble_eq_true rfl) (ht _ w_570) (fun _ h => h) d_Model_fill_1 4 rfl (.ref (ad 30 0)) rfl ?_
  refine z_iload_n S d_Model_fill_4 rfl 1 rfl 5 rfl ?_
  refine z_iald S hK rm_30 0 rC_30 rfl hp d_Model_fill_5 6 rfl (s 30 0 p.toNatClampNeg) rfl ?_
  refine z_aload_n S d_Model_fill_6 rfl 0 rfl 7 rfl ?_
  refine z_get S hK hin_Model rm_0 rC_0 rfl 8 (Nat.le_of_ble_eq_true rfl) (ht _ w_548) (fun _ h => h) d_Model_fill_7 10 rfl (.ref (ad 8 0)) rfl ?_
  refine z_iload_n S d_Model_fill_10 rfl 2 rfl 11 rfl ?_
  refine z_iald S hK rm_8 0 rC_8 rfl (vp_mono hx (by omega)) d_Model_fill_11 12 rfl (s 8 0 x.toNatClampNeg) rfl ?_
  refine z_icmp_ge S d_Model_fill_12 17 (by decide) 15 rfl (fun h1 => ?_) (fun h1 => ?_)
  · refine z_aload_n S d_Model_fill_17 rfl 0 rfl 18 rfl ?_
    refine z_get S hK hin_Model rm_0 rC_0 rfl 30 (Nat.le_of_ble_eq_true rfl) (ht _ w_570) (fun _ h => h) d_Model_fill_18 21 rfl (.ref (ad 30 0)) rfl ?_
    refine z_iload_n S d_Model_fill_21 rfl 1 rfl 22 rfl ?_
    refine z_iald S hK rm_30 0 rC_30 rfl hp d_Model_fill_22 23 rfl (s 30 0 p.toNatClampNeg) rfl ?_
    refine z_aload_n S d_Model_fill_23 rfl 0 rfl 24 rfl ?_
    refine z_get S hK hin_Model rm_0 rC_0 rfl 8 (Nat.le_of_ble_eq_true rfl) (ht _ w_548) (fun _ h => h) d_Model_fill_24 27 rfl (.ref (ad 8 0)) rfl ?_
    refine z_iload_n S d_Model_fill_27 rfl 2 rfl 28 rfl ?_
    refine z_iald S hK rm_8 0 rC_8 rfl (vp_mono hx (by omega)) d_Model_fill_28 29 rfl (s 8 0 x.toNatClampNeg) rfl ?_
    refine z_icmp_le S d_Model_fill_29 55 (by decide) 32 rfl (fun h2 => ?_) (fun h2 => ?_)
    · refine z_aload_n S d_Model_fill_55 rfl 0 rfl 56 rfl ?_
      refine z_get S hK hin_Model rm_0 rC_0 rfl 16 (Nat.le_of_ble_eq_true rfl) (ht _ w_556) (fun _ h => h) d_Model_fill_56 59 rfl (.ref (ad 16 0)) rfl ?_
      refine z_iload_n S d_Model_fill_59 rfl 2 rfl 60 rfl ?_
      refine z_zald S hK rm_16 1 rC_16 rfl hx d_Model_fill_60 61 rfl (s 16 0 x.toNatClampNeg) rfl ?_
      refine z_if_ne S d_Model_fill_61 125 (by decide) 64 rfl (fun h3 => ?_) (fun h3 => ?_)
      · refine z_aload_n S d_Model_fill_125 rfl 0 rfl 126 rfl ?_
        refine z_iconst S d_Model_fill_126 4 (by decide) 127 rfl ?_
        refine z_aload_n S d_Model_fill_127 rfl 0 rfl 128 rfl ?_
        refine z_get S hK hin_Model rm_0 rC_0 rfl 31 (Nat.le_of_ble_eq_true rfl) (ht _ w_571) (fun _ h => h) d_Model_fill_128 131 rfl (.ref (ad 31 0)) rfl ?_
        refine z_iload_n S d_Model_fill_131 rfl 1 rfl 132 rfl ?_
        refine z_iald S hK rm_31 0 rC_31 rfl hp d_Model_fill_132 133 rfl (s 31 0 p.toNatClampNeg) rfl ?_
        refine z_callV S hK (As := [.int 4, .int (s 31 0 p.toNatClampNeg)]) (rest := []) (c_Model_post (k := 4) (a := s 31 0 p.toNatClampNeg) hJ hW hB) (cw_Model_post hts w_678 rfl rfl ⟨(Nat.le_of_ble_eq_true rfl), (Nat.le_of_ble_eq_true rfl)⟩) rm_0 rC_0 rfl rfl rfl (Nat.le_of_ble_eq_true rfl) d_Model_fill_133 136 rfl [.int (ppF (s 0 25 0) (s 27 0))] rfl ?_
        refine z_istore_n S d_Model_fill_136 rfl (Nat.le_of_ble_eq_true rfl) [(3, .int (ppF (s 0 25 0) (s 27 0))), (0, .ref (ad 0 0)), (1, .int p), (2, .int x)] rfl 137 rfl ?_
        refine z_aload_n S d_Model_fill_137 rfl 1 rfl 138 rfl ?_
        refine z_get S hK hin_Model rm_0 rC_0 rfl 30 (Nat.le_of_ble_eq_true rfl) (ht _ w_570) (fun _ h => h) d_Model_fill_138 141 rfl (.ref (ad 30 0)) rfl ?_
        refine z_iload_n S d_Model_fill_141 rfl 0 rfl 142 rfl ?_
        refine z_aload_n S d_Model_fill_142 rfl 1 rfl 143 rfl ?_
        refine z_get S hK hin_Model rm_0 rC_0 rfl 30 (Nat.le_of_ble_eq_true rfl) (ht _ w_570) (fun _ h => h) d_Model_fill_143 146 rfl (.ref (ad 30 0)) rfl ?_
        refine z_iload_n S d_Model_fill_146 rfl 2 rfl 147 rfl ?_
        refine z_iald S hK rm_30 0 rC_30 rfl hp d_Model_fill_147 148 rfl (s 30 0 p.toNatClampNeg) rfl ?_
        refine z_iast S hJ hK rm_30 0 rC_30 rfl (pp_in hB) rfl rupI_30 d_Model_fill_148 149 rfl ?_
        refine z_iconst S d_Model_fill_149 1 (by decide) 150 rfl ?_
        exact z_zret S hr (zb_n zb_1) hlk d_Model_fill_150 (by unfold v_Model_fill; simp only [if_pos h1, if_pos h2, if_neg h3] <;> rfl) (rC_eq (by unfold S_Model_fill; simp only [if_pos h1, if_pos h2, if_neg h3] <;> rfl))
      · refine z_aload_n S d_Model_fill_64 rfl 0 rfl 65 rfl ?_
        refine z_get S hK hin_Model rm_0 rC_0 rfl 19 (Nat.le_of_ble_eq_true rfl) (ht _ w_559) (fun _ h => h) d_Model_fill_65 68 rfl (.ref (ad 19 0)) rfl ?_
        refine z_iload_n S d_Model_fill_68 rfl 2 rfl 69 rfl ?_
        refine z_aload_n S d_Model_fill_69 rfl 0 rfl 70 rfl ?_
        refine z_get S hK hin_Model rm_0 rC_0 rfl 34 (Nat.le_of_ble_eq_true rfl) (ht _ w_574) (fun _ h => h) d_Model_fill_70 73 rfl (.ref (ad 34 0)) rfl ?_
        refine z_iload_n S d_Model_fill_73 rfl 1 rfl 74 rfl ?_
        refine z_iald S hK rm_34 0 rC_34 rfl hp d_Model_fill_74 75 rfl (s 34 0 p.toNatClampNeg) rfl ?_
        refine z_iast S hJ hK rm_19 0 rC_19 rfl hx rfl rupI_19 d_Model_fill_75 76 rfl ?_
        refine z_iconst S d_Model_fill_76 0 (by decide) 77 rfl ?_
        refine z_istore_n S d_Model_fill_77 rfl (Nat.le_of_ble_eq_true rfl) [(3, .int 0), (0, .ref (ad 0 0)), (1, .int p), (2, .int x)] rfl 78 rfl ?_
        have hlt := vp_lt hwl
        have loop : ∀ (k j : Nat) (g : Nat → Int32), j + k = (s 34 0 p.toNatClampNeg).toNatClampNeg → cpR (s 36 0) p x k j g = cpR (s 36 0) p x (s 34 0 p.toNatClampNeg).toNatClampNeg 0 (s 20 0) → zG pP l eE (headSpec ws_Model_fill ({ frames := 3, cells := 0, slots := 0, locals := 70 })).room U mM ([.ref (ad 0 0), .int p, .int x] : List Value).toArray bL mT cO 4 (MQ bL (zQ D zCl (rRL) ad (some (.int (v_Model_fill s p x))) (rC K ad (S_Model_fill s p x))) ([.ref (ad 0 0), .int p, .int x] : List Value).toArray U 0 0 (zw_A (rRL) ad)) (zI D zCl (rRL) ad U.heap (rC K ad (uA (u3 s 19 0 x.toNatClampNeg (s 34 0 p.toNatClampNeg)) 20 0 g))) 0 0 78 [(3, .int (nI j)), (0, .ref (ad 0 0)), (1, .int p), (2, .int x)] [] := by
          intro k
          induction k with
          | zero =>
            intro j g hj hT
            refine z_iload_n S d_Model_fill_78 rfl 0 rfl 79 rfl ?_
            refine z_aload_n S d_Model_fill_79 rfl 1 rfl 80 rfl ?_
            refine z_get S hK hin_Model rm_0 rC_0 rfl 19 (Nat.le_of_ble_eq_true rfl) (ht _ w_559) (fun _ h => h) d_Model_fill_80 83 rfl (.ref (ad 19 0)) rfl ?_
            refine z_iload_n S d_Model_fill_83 rfl 3 rfl 84 rfl ?_
            refine z_iald S hK rm_19 0 rC_19 rfl hx d_Model_fill_84 85 rfl (s 34 0 p.toNatClampNeg) (by simp [u3, uA, upd]) ?_
            refine z_icmp_ge S d_Model_fill_85 118 (by decide) 88 rfl (fun h4 => ?_) (fun h4 => ?_)
            · refine z_aload_n S d_Model_fill_118 rfl 1 rfl 119 rfl ?_
              refine z_get S hK hin_Model rm_0 rC_0 rfl 16 (Nat.le_of_ble_eq_true rfl) (ht _ w_556) (fun _ h => h) d_Model_fill_119 122 rfl (.ref (ad 16 0)) rfl ?_
              refine z_iload_n S d_Model_fill_122 rfl 3 rfl 123 rfl ?_
              refine z_iconst S d_Model_fill_123 1 (by decide) 124 rfl ?_
              refine z_zast S hJ hK rm_16 1 rC_16 rfl hx (zb_v zb_1) rupI_16 d_Model_fill_124 125 rfl ?_
              refine z_aload_n S d_Model_fill_125 rfl 1 rfl 126 rfl ?_
              refine z_iconst S d_Model_fill_126 4 (by decide) 127 rfl ?_
              refine z_aload_n S d_Model_fill_127 rfl 1 rfl 128 rfl ?_
              refine z_get S hK hin_Model rm_0 rC_0 rfl 31 (Nat.le_of_ble_eq_true rfl) (ht _ w_571) (fun _ h => h) d_Model_fill_128 131 rfl (.ref (ad 31 0)) rfl ?_
              refine z_iload_n S d_Model_fill_131 rfl 2 rfl 132 rfl ?_
              refine z_iald S hK rm_31 0 rC_31 rfl hp d_Model_fill_132 133 rfl (s 31 0 p.toNatClampNeg) rfl ?_
              refine z_callV S hK (As := [.int 4, .int (s 31 0 p.toNatClampNeg)]) (rest := []) (c_Model_post (k := 4) (a := s 31 0 p.toNatClampNeg) hJ hW hB) (cw_Model_post hts w_678 rfl rfl ⟨(Nat.le_of_ble_eq_true rfl), (Nat.le_of_ble_eq_true rfl)⟩) rm_0 rC_0 rfl rfl rfl (Nat.le_of_ble_eq_true rfl) d_Model_fill_133 136 rfl [.int (ppF (s 0 25 0) (s 27 0))] rfl ?_
              refine z_istore_n S d_Model_fill_136 rfl (Nat.le_of_ble_eq_true rfl) [(3, .int (ppF (s 0 25 0) (s 27 0))), (0, .ref (ad 0 0)), (1, .int p), (2, .int x)] rfl 137 rfl ?_
              refine z_aload_n S d_Model_fill_137 rfl 1 rfl 138 rfl ?_
              refine z_get S hK hin_Model rm_0 rC_0 rfl 30 (Nat.le_of_ble_eq_true rfl) (ht _ w_570) (fun _ h => h) d_Model_fill_138 141 rfl (.ref (ad 30 0)) rfl ?_
              refine z_iload_n S d_Model_fill_141 rfl 0 rfl 142 rfl ?_
              refine z_aload_n S d_Model_fill_142 rfl 1 rfl 143 rfl ?_
              refine z_get S hK hin_Model rm_0 rC_0 rfl 30 (Nat.le_of_ble_eq_true rfl) (ht _ w_570) (fun _ h => h) d_Model_fill_143 146 rfl (.ref (ad 30 0)) rfl ?_
              refine z_iload_n S d_Model_fill_146 rfl 2 rfl 147 rfl ?_
              refine z_iald S hK rm_30 0 rC_30 rfl hp d_Model_fill_147 148 rfl (s 30 0 p.toNatClampNeg) rfl ?_
              refine z_iast S hJ hK rm_30 0 rC_30 rfl (pp_in hB) rfl rupI_30 d_Model_fill_148 149 rfl ?_
              refine z_iconst S d_Model_fill_149 1 (by decide) 150 rfl ?_
              exact z_zret S hr (zb_n zb_1) hlk d_Model_fill_150 (by unfold v_Model_fill; simp only [if_pos h1, if_pos h2, if_pos h3, if_pos h4]) (rC_eq (by unfold S_Model_fill; simp only [if_pos h1, if_pos h2, if_pos h3, if_pos h4]; rw [← hT]; rfl))
            · exact absurd (by rw [vp_eq hwl]; exact nI_le (by omega) (by omega)) h4
          | succ k ih =>
            intro j g hj hT
            refine z_iload_n S d_Model_fill_78 rfl 0 rfl 79 rfl ?_
            refine z_aload_n S d_Model_fill_79 rfl 1 rfl 80 rfl ?_
            refine z_get S hK hin_Model rm_0 rC_0 rfl 19 (Nat.le_of_ble_eq_true rfl) (ht _ w_559) (fun _ h => h) d_Model_fill_80 83 rfl (.ref (ad 19 0)) rfl ?_
            refine z_iload_n S d_Model_fill_83 rfl 3 rfl 84 rfl ?_
            refine z_iald S hK rm_19 0 rC_19 rfl hx d_Model_fill_84 85 rfl (s 34 0 p.toNatClampNeg) (by simp [u3, uA, upd]) ?_
            refine z_icmp_ge S d_Model_fill_85 118 (by decide) 88 rfl (fun h5 => ?_) (fun h5 => ?_)
            · exact absurd h5 (by rw [vp_eq hwl]; exact nI_ge (by omega) (by omega))
            · refine z_aload_n S d_Model_fill_88 rfl 1 rfl 89 rfl ?_
              refine z_get S hK hin_Model rm_0 rC_0 rfl 20 (Nat.le_of_ble_eq_true rfl) (ht _ w_560) (fun _ h => h) d_Model_fill_89 92 rfl (.ref (ad 20 0)) rfl ?_
              refine z_sipush S d_Model_fill_92 180 (by decide) 95 rfl ?_
              refine z_iload_n S d_Model_fill_95 rfl 3 rfl 96 rfl ?_
              refine z_imul S d_Model_fill_96 97 rfl ?_
              refine z_iload_n S d_Model_fill_97 rfl 0 rfl 98 rfl ?_
              refine z_iadd S d_Model_fill_98 99 rfl ?_
              refine z_aload_n S d_Model_fill_99 rfl 1 rfl 100 rfl ?_
              refine z_get S hK hin_Model rm_0 rC_0 rfl 36 (Nat.le_of_ble_eq_true rfl) (ht _ w_576) (fun _ h => h) d_Model_fill_100 103 rfl (.ref (ad 36 0)) rfl ?_
              refine z_sipush S d_Model_fill_103 180 (by decide) 106 rfl ?_
              refine z_iload_n S d_Model_fill_106 rfl 2 rfl 107 rfl ?_
              refine z_imul S d_Model_fill_107 108 rfl ?_
              refine z_iload_n S d_Model_fill_108 rfl 0 rfl 109 rfl ?_
              refine z_iadd S d_Model_fill_109 110 rfl ?_
              refine z_sald S hK rm_36 2 rC_36 rfl (vp_180 (a := 34) hp (nI_in (by omega) (by omega)) (by omega)) d_Model_fill_110 111 rfl (s 36 0 (((180 * p) + (nI j)).toNatClampNeg)) rfl ?_
              refine z_sast S hJ hK rm_20 2 rC_20 rfl (vp_180 (a := 5) hx (nI_in (by omega) (by omega)) (by omega)) rfl rupI_20 d_Model_fill_111 112 rfl ?_
              refine z_iinc S d_Model_fill_112 0 rfl (nI_i1 _) (Nat.le_of_ble_eq_true rfl) [(3, .int (nI (j + 1))), (0, .ref (ad 0 0)), (1, .int p), (2, .int x)] rfl 115 rfl ?_
              refine z_goto S d_Model_fill_115 78 (by decide) ?_
              refine z_to (rC_eq u3_uA) ?_
              exact ih (j + 1) _ (by omega) hT
        refine z_to (C2 := rC K ad (uA (u3 s 19 0 x.toNatClampNeg (s 34 0 p.toNatClampNeg)) 20 0 (s 20 0))) (rC_eq (uA_id (u3 s 19 0 x.toNatClampNeg (s 34 0 p.toNatClampNeg)) 20 0).symm) ?_
        exact loop _ 0 _ (by omega) rfl
    · refine z_aload_n S d_Model_fill_32 rfl 0 rfl 33 rfl ?_
      refine z_iload_n S d_Model_fill_33 rfl 2 rfl 34 rfl ?_
      refine z_aload_n S d_Model_fill_34 rfl 0 rfl 35 rfl ?_
      refine z_get S hK hin_Model rm_0 rC_0 rfl 30 (Nat.le_of_ble_eq_true rfl) (ht _ w_570) (fun _ h => h) d_Model_fill_35 38 rfl (.ref (ad 30 0)) rfl ?_
      refine z_iload_n S d_Model_fill_38 rfl 1 rfl 39 rfl ?_
      refine z_iald S hK rm_30 0 rC_30 rfl hp d_Model_fill_39 40 rfl (s 30 0 p.toNatClampNeg) rfl ?_
      refine z_aload_n S d_Model_fill_40 rfl 0 rfl 41 rfl ?_
      refine z_get S hK hin_Model rm_0 rC_0 rfl 31 (Nat.le_of_ble_eq_true rfl) (ht _ w_571) (fun _ h => h) d_Model_fill_41 44 rfl (.ref (ad 31 0)) rfl ?_
      refine z_iload_n S d_Model_fill_44 rfl 1 rfl 45 rfl ?_
      refine z_iald S hK rm_31 0 rC_31 rfl hp d_Model_fill_45 46 rfl (s 31 0 p.toNatClampNeg) rfl ?_
      refine z_aload_n S d_Model_fill_46 rfl 0 rfl 47 rfl ?_
      refine z_get S hK hin_Model rm_0 rC_0 rfl 32 (Nat.le_of_ble_eq_true rfl) (ht _ w_572) (fun _ h => h) d_Model_fill_47 50 rfl (.ref (ad 32 0)) rfl ?_
      refine z_iload_n S d_Model_fill_50 rfl 1 rfl 51 rfl ?_
      refine z_iald S hK rm_32 0 rC_32 rfl hp d_Model_fill_51 52 rfl (s 32 0 p.toNatClampNeg) rfl ?_
      refine z_callV S hK (As := [.int x, .int (s 30 0 p.toNatClampNeg), .int (s 31 0 p.toNatClampNeg), .int (s 32 0 p.toNatClampNeg)]) (rest := []) (c_Model_enter (x := x) (v := s 30 0 p.toNatClampNeg) (p := s 31 0 p.toNatClampNeg) (b := s 32 0 p.toNatClampNeg) hJ hW hB hx (vp_mono (hla _) (by omega))) (cw_Model_enter hts w_738 rfl rfl ⟨(Nat.le_of_ble_eq_true rfl), (Nat.le_of_ble_eq_true rfl)⟩) rm_0 rC_0 rfl rfl rfl (Nat.le_of_ble_eq_true rfl) d_Model_fill_52 55 rfl [] rfl ?_
      refine z_aload_n S d_Model_fill_55 rfl 0 rfl 56 rfl ?_
      refine z_get S hK hin_Model rm_0 rC_0 rfl 16 (Nat.le_of_ble_eq_true rfl) (ht _ w_556) (fun _ h => h) d_Model_fill_56 59 rfl (.ref (ad 16 0)) rfl ?_
      refine z_iload_n S d_Model_fill_59 rfl 2 rfl 60 rfl ?_
      refine z_zald S hK rm_16 1 rC_16 rfl hx d_Model_fill_60 61 rfl ((S_Model_enter s x (s 30 0 p.toNatClampNeg) (s 31 0 p.toNatClampNeg) (s 32 0 p.toNatClampNeg)) 16 0 x.toNatClampNeg) rfl ?_
      refine z_if_ne S d_Model_fill_61 125 (by decide) 64 rfl (fun h6 => ?_) (fun h6 => ?_)
      · refine z_aload_n S d_Model_fill_125 rfl 0 rfl 126 rfl ?_
        refine z_iconst S d_Model_fill_126 4 (by decide) 127 rfl ?_
        refine z_aload_n S d_Model_fill_127 rfl 0 rfl 128 rfl ?_
        refine z_get S hK hin_Model rm_0 rC_0 rfl 31 (Nat.le_of_ble_eq_true rfl) (ht _ w_571) (fun _ h => h) d_Model_fill_128 131 rfl (.ref (ad 31 0)) rfl ?_
        refine z_iload_n S d_Model_fill_131 rfl 1 rfl 132 rfl ?_
        refine z_iald S hK rm_31 0 rC_31 rfl hp d_Model_fill_132 133 rfl ((S_Model_enter s x (s 30 0 p.toNatClampNeg) (s 31 0 p.toNatClampNeg) (s 32 0 p.toNatClampNeg)) 31 0 p.toNatClampNeg) rfl ?_
        refine z_callV S hK (As := [.int 4, .int ((S_Model_enter s x (s 30 0 p.toNatClampNeg) (s 31 0 p.toNatClampNeg) (s 32 0 p.toNatClampNeg)) 31 0 p.toNatClampNeg)]) (rest := []) (c_Model_post (k := 4) (a := (S_Model_enter s x (s 30 0 p.toNatClampNeg) (s 31 0 p.toNatClampNeg) (s 32 0 p.toNatClampNeg)) 31 0 p.toNatClampNeg) hJ hW2 hB2) (cw_Model_post hts w_678 rfl rfl ⟨(Nat.le_of_ble_eq_true rfl), (Nat.le_of_ble_eq_true rfl)⟩) rm_0 rC_0 rfl rfl rfl (Nat.le_of_ble_eq_true rfl) d_Model_fill_133 136 rfl [.int (ppF ((S_Model_enter s x (s 30 0 p.toNatClampNeg) (s 31 0 p.toNatClampNeg) (s 32 0 p.toNatClampNeg)) 0 25 0) ((S_Model_enter s x (s 30 0 p.toNatClampNeg) (s 31 0 p.toNatClampNeg) (s 32 0 p.toNatClampNeg)) 27 0))] rfl ?_
        refine z_istore_n S d_Model_fill_136 rfl (Nat.le_of_ble_eq_true rfl) [(3, .int (ppF ((S_Model_enter s x (s 30 0 p.toNatClampNeg) (s 31 0 p.toNatClampNeg) (s 32 0 p.toNatClampNeg)) 0 25 0) ((S_Model_enter s x (s 30 0 p.toNatClampNeg) (s 31 0 p.toNatClampNeg) (s 32 0 p.toNatClampNeg)) 27 0))), (0, .ref (ad 0 0)), (1, .int p), (2, .int x)] rfl 137 rfl ?_
        refine z_aload_n S d_Model_fill_137 rfl 1 rfl 138 rfl ?_
        refine z_get S hK hin_Model rm_0 rC_0 rfl 30 (Nat.le_of_ble_eq_true rfl) (ht _ w_570) (fun _ h => h) d_Model_fill_138 141 rfl (.ref (ad 30 0)) rfl ?_
        refine z_iload_n S d_Model_fill_141 rfl 0 rfl 142 rfl ?_
        refine z_aload_n S d_Model_fill_142 rfl 1 rfl 143 rfl ?_
        refine z_get S hK hin_Model rm_0 rC_0 rfl 30 (Nat.le_of_ble_eq_true rfl) (ht _ w_570) (fun _ h => h) d_Model_fill_143 146 rfl (.ref (ad 30 0)) rfl ?_
        refine z_iload_n S d_Model_fill_146 rfl 2 rfl 147 rfl ?_
        refine z_iald S hK rm_30 0 rC_30 rfl hp d_Model_fill_147 148 rfl ((S_Model_enter s x (s 30 0 p.toNatClampNeg) (s 31 0 p.toNatClampNeg) (s 32 0 p.toNatClampNeg)) 30 0 p.toNatClampNeg) rfl ?_
        refine z_iast S hJ hK rm_30 0 rC_30 rfl (pp_in hB2) rfl rupI_30 d_Model_fill_148 149 rfl ?_
        refine z_iconst S d_Model_fill_149 1 (by decide) 150 rfl ?_
        exact z_zret S hr (zb_n zb_1) hlk d_Model_fill_150 (by unfold v_Model_fill; simp only [if_pos h1, if_neg h2, if_neg h6] <;> rfl) (rC_eq (by unfold S_Model_fill; simp only [if_pos h1, if_neg h2, if_neg h6] <;> rfl))
      · refine z_aload_n S d_Model_fill_64 rfl 0 rfl 65 rfl ?_
        refine z_get S hK hin_Model rm_0 rC_0 rfl 19 (Nat.le_of_ble_eq_true rfl) (ht _ w_559) (fun _ h => h) d_Model_fill_65 68 rfl (.ref (ad 19 0)) rfl ?_
        refine z_iload_n S d_Model_fill_68 rfl 2 rfl 69 rfl ?_
        refine z_aload_n S d_Model_fill_69 rfl 0 rfl 70 rfl ?_
        refine z_get S hK hin_Model rm_0 rC_0 rfl 34 (Nat.le_of_ble_eq_true rfl) (ht _ w_574) (fun _ h => h) d_Model_fill_70 73 rfl (.ref (ad 34 0)) rfl ?_
        refine z_iload_n S d_Model_fill_73 rfl 1 rfl 74 rfl ?_
        refine z_iald S hK rm_34 0 rC_34 rfl hp d_Model_fill_74 75 rfl ((S_Model_enter s x (s 30 0 p.toNatClampNeg) (s 31 0 p.toNatClampNeg) (s 32 0 p.toNatClampNeg)) 34 0 p.toNatClampNeg) rfl ?_
        refine z_iast S hJ hK rm_19 0 rC_19 rfl hx rfl rupI_19 d_Model_fill_75 76 rfl ?_
        refine z_iconst S d_Model_fill_76 0 (by decide) 77 rfl ?_
        refine z_istore_n S d_Model_fill_77 rfl (Nat.le_of_ble_eq_true rfl) [(3, .int 0), (0, .ref (ad 0 0)), (1, .int p), (2, .int x)] rfl 78 rfl ?_
        have hlt := vp_lt hwl2
        have loop : ∀ (k j : Nat) (g : Nat → Int32), j + k = ((S_Model_enter s x (s 30 0 p.toNatClampNeg) (s 31 0 p.toNatClampNeg) (s 32 0 p.toNatClampNeg)) 34 0 p.toNatClampNeg).toNatClampNeg → cpR ((S_Model_enter s x (s 30 0 p.toNatClampNeg) (s 31 0 p.toNatClampNeg) (s 32 0 p.toNatClampNeg)) 36 0) p x k j g = cpR ((S_Model_enter s x (s 30 0 p.toNatClampNeg) (s 31 0 p.toNatClampNeg) (s 32 0 p.toNatClampNeg)) 36 0) p x ((S_Model_enter s x (s 30 0 p.toNatClampNeg) (s 31 0 p.toNatClampNeg) (s 32 0 p.toNatClampNeg)) 34 0 p.toNatClampNeg).toNatClampNeg 0 ((S_Model_enter s x (s 30 0 p.toNatClampNeg) (s 31 0 p.toNatClampNeg) (s 32 0 p.toNatClampNeg)) 20 0) → zG pP l eE (headSpec ws_Model_fill ({ frames := 3, cells := 0, slots := 0, locals := 70 })).room U mM ([.ref (ad 0 0), .int p, .int x] : List Value).toArray bL mT cO 4 (MQ bL (zQ D zCl (rRL) ad (some (.int (v_Model_fill s p x))) (rC K ad (S_Model_fill s p x))) ([.ref (ad 0 0), .int p, .int x] : List Value).toArray U 0 0 (zw_A (rRL) ad)) (zI D zCl (rRL) ad U.heap (rC K ad (uA (u3 (S_Model_enter s x (s 30 0 p.toNatClampNeg) (s 31 0 p.toNatClampNeg) (s 32 0 p.toNatClampNeg)) 19 0 x.toNatClampNeg ((S_Model_enter s x (s 30 0 p.toNatClampNeg) (s 31 0 p.toNatClampNeg) (s 32 0 p.toNatClampNeg)) 34 0 p.toNatClampNeg)) 20 0 g))) 0 0 78 [(3, .int (nI j)), (0, .ref (ad 0 0)), (1, .int p), (2, .int x)] [] := by
          intro k
          induction k with
          | zero =>
            intro j g hj hT
            refine z_iload_n S d_Model_fill_78 rfl 0 rfl 79 rfl ?_
            refine z_aload_n S d_Model_fill_79 rfl 1 rfl 80 rfl ?_
            refine z_get S hK hin_Model rm_0 rC_0 rfl 19 (Nat.le_of_ble_eq_true rfl) (ht _ w_559) (fun _ h => h) d_Model_fill_80 83 rfl (.ref (ad 19 0)) rfl ?_
            refine z_iload_n S d_Model_fill_83 rfl 3 rfl 84 rfl ?_
            refine z_iald S hK rm_19 0 rC_19 rfl hx d_Model_fill_84 85 rfl ((S_Model_enter s x (s 30 0 p.toNatClampNeg) (s 31 0 p.toNatClampNeg) (s 32 0 p.toNatClampNeg)) 34 0 p.toNatClampNeg) (by simp [u3, uA, upd]) ?_
            refine z_icmp_ge S d_Model_fill_85 118 (by decide) 88 rfl (fun h7 => ?_) (fun h7 => ?_)
            · refine z_aload_n S d_Model_fill_118 rfl 1 rfl 119 rfl ?_
              refine z_get S hK hin_Model rm_0 rC_0 rfl 16 (Nat.le_of_ble_eq_true rfl) (ht _ w_556) (fun _ h => h) d_Model_fill_119 122 rfl (.ref (ad 16 0)) rfl ?_
              refine z_iload_n S d_Model_fill_122 rfl 3 rfl 123 rfl ?_
              refine z_iconst S d_Model_fill_123 1 (by decide) 124 rfl ?_
              refine z_zast S hJ hK rm_16 1 rC_16 rfl hx (zb_v zb_1) rupI_16 d_Model_fill_124 125 rfl ?_
              refine z_aload_n S d_Model_fill_125 rfl 1 rfl 126 rfl ?_
              refine z_iconst S d_Model_fill_126 4 (by decide) 127 rfl ?_
              refine z_aload_n S d_Model_fill_127 rfl 1 rfl 128 rfl ?_
              refine z_get S hK hin_Model rm_0 rC_0 rfl 31 (Nat.le_of_ble_eq_true rfl) (ht _ w_571) (fun _ h => h) d_Model_fill_128 131 rfl (.ref (ad 31 0)) rfl ?_
              refine z_iload_n S d_Model_fill_131 rfl 2 rfl 132 rfl ?_
              refine z_iald S hK rm_31 0 rC_31 rfl hp d_Model_fill_132 133 rfl ((S_Model_enter s x (s 30 0 p.toNatClampNeg) (s 31 0 p.toNatClampNeg) (s 32 0 p.toNatClampNeg)) 31 0 p.toNatClampNeg) rfl ?_
              refine z_callV S hK (As := [.int 4, .int ((S_Model_enter s x (s 30 0 p.toNatClampNeg) (s 31 0 p.toNatClampNeg) (s 32 0 p.toNatClampNeg)) 31 0 p.toNatClampNeg)]) (rest := []) (c_Model_post (k := 4) (a := (S_Model_enter s x (s 30 0 p.toNatClampNeg) (s 31 0 p.toNatClampNeg) (s 32 0 p.toNatClampNeg)) 31 0 p.toNatClampNeg) hJ hW2 hB2) (cw_Model_post hts w_678 rfl rfl ⟨(Nat.le_of_ble_eq_true rfl), (Nat.le_of_ble_eq_true rfl)⟩) rm_0 rC_0 rfl rfl rfl (Nat.le_of_ble_eq_true rfl) d_Model_fill_133 136 rfl [.int (ppF ((S_Model_enter s x (s 30 0 p.toNatClampNeg) (s 31 0 p.toNatClampNeg) (s 32 0 p.toNatClampNeg)) 0 25 0) ((S_Model_enter s x (s 30 0 p.toNatClampNeg) (s 31 0 p.toNatClampNeg) (s 32 0 p.toNatClampNeg)) 27 0))] rfl ?_
              refine z_istore_n S d_Model_fill_136 rfl (Nat.le_of_ble_eq_true rfl) [(3, .int (ppF ((S_Model_enter s x (s 30 0 p.toNatClampNeg) (s 31 0 p.toNatClampNeg) (s 32 0 p.toNatClampNeg)) 0 25 0) ((S_Model_enter s x (s 30 0 p.toNatClampNeg) (s 31 0 p.toNatClampNeg) (s 32 0 p.toNatClampNeg)) 27 0))), (0, .ref (ad 0 0)), (1, .int p), (2, .int x)] rfl 137 rfl ?_
              refine z_aload_n S d_Model_fill_137 rfl 1 rfl 138 rfl ?_
              refine z_get S hK hin_Model rm_0 rC_0 rfl 30 (Nat.le_of_ble_eq_true rfl) (ht _ w_570) (fun _ h => h) d_Model_fill_138 141 rfl (.ref (ad 30 0)) rfl ?_
              refine z_iload_n S d_Model_fill_141 rfl 0 rfl 142 rfl ?_
              refine z_aload_n S d_Model_fill_142 rfl 1 rfl 143 rfl ?_
              refine z_get S hK hin_Model rm_0 rC_0 rfl 30 (Nat.le_of_ble_eq_true rfl) (ht _ w_570) (fun _ h => h) d_Model_fill_143 146 rfl (.ref (ad 30 0)) rfl ?_
              refine z_iload_n S d_Model_fill_146 rfl 2 rfl 147 rfl ?_
              refine z_iald S hK rm_30 0 rC_30 rfl hp d_Model_fill_147 148 rfl ((S_Model_enter s x (s 30 0 p.toNatClampNeg) (s 31 0 p.toNatClampNeg) (s 32 0 p.toNatClampNeg)) 30 0 p.toNatClampNeg) rfl ?_
              refine z_iast S hJ hK rm_30 0 rC_30 rfl (pp_in hB2) rfl rupI_30 d_Model_fill_148 149 rfl ?_
              refine z_iconst S d_Model_fill_149 1 (by decide) 150 rfl ?_
              exact z_zret S hr (zb_n zb_1) hlk d_Model_fill_150 (by unfold v_Model_fill; simp only [if_pos h1, if_neg h2, if_pos h6, if_pos h7]) (rC_eq (by unfold S_Model_fill; simp only [if_pos h1, if_neg h2, if_pos h6, if_pos h7]; rw [← hT]; rfl))
            · exact absurd (by rw [vp_eq hwl2]; exact nI_le (by omega) (by omega)) h7
          | succ k ih =>
            intro j g hj hT
            refine z_iload_n S d_Model_fill_78 rfl 0 rfl 79 rfl ?_
            refine z_aload_n S d_Model_fill_79 rfl 1 rfl 80 rfl ?_
            refine z_get S hK hin_Model rm_0 rC_0 rfl 19 (Nat.le_of_ble_eq_true rfl) (ht _ w_559) (fun _ h => h) d_Model_fill_80 83 rfl (.ref (ad 19 0)) rfl ?_
            refine z_iload_n S d_Model_fill_83 rfl 3 rfl 84 rfl ?_
            refine z_iald S hK rm_19 0 rC_19 rfl hx d_Model_fill_84 85 rfl ((S_Model_enter s x (s 30 0 p.toNatClampNeg) (s 31 0 p.toNatClampNeg) (s 32 0 p.toNatClampNeg)) 34 0 p.toNatClampNeg) (by simp [u3, uA, upd]) ?_
            refine z_icmp_ge S d_Model_fill_85 118 (by decide) 88 rfl (fun h8 => ?_) (fun h8 => ?_)
            · exact absurd h8 (by rw [vp_eq hwl2]; exact nI_ge (by omega) (by omega))
            · refine z_aload_n S d_Model_fill_88 rfl 1 rfl 89 rfl ?_
              refine z_get S hK hin_Model rm_0 rC_0 rfl 20 (Nat.le_of_ble_eq_true rfl) (ht _ w_560) (fun _ h => h) d_Model_fill_89 92 rfl (.ref (ad 20 0)) rfl ?_
              refine z_sipush S d_Model_fill_92 180 (by decide) 95 rfl ?_
              refine z_iload_n S d_Model_fill_95 rfl 3 rfl 96 rfl ?_
              refine z_imul S d_Model_fill_96 97 rfl ?_
              refine z_iload_n S d_Model_fill_97 rfl 0 rfl 98 rfl ?_
              refine z_iadd S d_Model_fill_98 99 rfl ?_
              refine z_aload_n S d_Model_fill_99 rfl 1 rfl 100 rfl ?_
              refine z_get S hK hin_Model rm_0 rC_0 rfl 36 (Nat.le_of_ble_eq_true rfl) (ht _ w_576) (fun _ h => h) d_Model_fill_100 103 rfl (.ref (ad 36 0)) rfl ?_
              refine z_sipush S d_Model_fill_103 180 (by decide) 106 rfl ?_
              refine z_iload_n S d_Model_fill_106 rfl 2 rfl 107 rfl ?_
              refine z_imul S d_Model_fill_107 108 rfl ?_
              refine z_iload_n S d_Model_fill_108 rfl 0 rfl 109 rfl ?_
              refine z_iadd S d_Model_fill_109 110 rfl ?_
              refine z_sald S hK rm_36 2 rC_36 rfl (vp_180 (a := 34) hp (nI_in (by omega) (by omega)) (by omega)) d_Model_fill_110 111 rfl ((S_Model_enter s x (s 30 0 p.toNatClampNeg) (s 31 0 p.toNatClampNeg) (s 32 0 p.toNatClampNeg)) 36 0 (((180 * p) + (nI j)).toNatClampNeg)) rfl ?_
              refine z_sast S hJ hK rm_20 2 rC_20 rfl (vp_180 (a := 5) hx (nI_in (by omega) (by omega)) (by omega)) rfl rupI_20 d_Model_fill_111 112 rfl ?_
              refine z_iinc S d_Model_fill_112 0 rfl (nI_i1 _) (Nat.le_of_ble_eq_true rfl) [(3, .int (nI (j + 1))), (0, .ref (ad 0 0)), (1, .int p), (2, .int x)] rfl 115 rfl ?_
              refine z_goto S d_Model_fill_115 78 (by decide) ?_
              refine z_to (rC_eq u3_uA) ?_
              exact ih (j + 1) _ (by omega) hT
        refine z_to (C2 := rC K ad (uA (u3 (S_Model_enter s x (s 30 0 p.toNatClampNeg) (s 31 0 p.toNatClampNeg) (s 32 0 p.toNatClampNeg)) 19 0 x.toNatClampNeg ((S_Model_enter s x (s 30 0 p.toNatClampNeg) (s 31 0 p.toNatClampNeg) (s 32 0 p.toNatClampNeg)) 34 0 p.toNatClampNeg)) 20 0 ((S_Model_enter s x (s 30 0 p.toNatClampNeg) (s 31 0 p.toNatClampNeg) (s 32 0 p.toNatClampNeg)) 20 0))) (rC_eq (uA_id (u3 (S_Model_enter s x (s 30 0 p.toNatClampNeg) (s 31 0 p.toNatClampNeg) (s 32 0 p.toNatClampNeg)) 19 0 x.toNatClampNeg ((S_Model_enter s x (s 30 0 p.toNatClampNeg) (s 31 0 p.toNatClampNeg) (s 32 0 p.toNatClampNeg)) 34 0 p.toNatClampNeg)) 20 0).symm) ?_
        exact loop _ 0 _ (by omega) rfl
  · refine z_iconst S d_Model_fill_15 0 (by decide) 16 rfl ?_
    exact z_zret S hr (zb_n zb_0) hlk d_Model_fill_16 (by unfold v_Model_fill; simp only [if_neg h1] <;> rfl) (rC_eq (by unfold S_Model_fill; simp only [if_neg h1] <;> rfl))
