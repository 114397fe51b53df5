theorem z_lv {p : Program} {l : Launch} {e : Env} {R : Room} {s : State} {m : MethodId} {args : Array Value} {below : List Frame} {meth : Method} {c : Code} {nL : Nat} {Q : State → Prop} {I : Heap → List Loc → Prop} {cells slots pc : Nat} {lv lv' : List (Nat × Value)} {st : List Value} (ks : List Nat) (h : ks.filterMap (fun k => lv[k]?) = lv') (k : zG p l e R s m args below meth c nL Q I cells slots pc lv' st) : zG p l e R s m args below meth c nL Q I cells slots pc lv st :=
  fun H locs ls hI hl => k H locs ls hI (lv_sub hl ks h)
theorem uA_id (s : S3) (a b : Nat) : uA s a b (s a b) = s := by
  funext x y
  by_cases hx : x = a
  · subst hx
    by_cases hy : y = b
    · subst hy; simp [uA]
    · simp [uA, hy]
  · simp [uA, hx]
theorem u3_uA {s : S3} {a b c : Nat} {g : Nat → Int32} {x : Int32} : u3 (uA s a b g) a b c x = uA s a b (upd g c x) := by
  funext q y
  by_cases hx : q = a
  · subst hx
    by_cases hy : y = b
    · subst hy; simp [u3, uA]
    · simp [u3, uA, hy]
  · simp [u3, uA, hx]
theorem i32_m1 (x : Int32) : x + Int32.ofInt (-1) = x - 1 := by
  rw [Int32.sub_eq_add_neg]
  rfl
/-- the first place from p on that isn't busy -/
def fbF (g : Nat → Int32) : Nat → Nat → Nat
  | 0, p => p
  | k + 1, p => if g (nI p).toNatClampNeg = 0 then p else fbF g k (p + 1)
def ppF (w : Int32) (g : Nat → Int32) : Int32 := if 32 ≤ w then 33 else nI (fbF g 34 0)
def fB (s : S3) : Prop := ¬ 32 ≤ s 0 25 0 → ∃ p, p < 34 ∧ s 27 0 p = 0
theorem fbF_lt {g : Nat → Int32} {k p : Nat} (h : ∃ q, p ≤ q ∧ q < 34 ∧ g q = 0) (hk : p + k = 34) : fbF g k p < 34 ∧ g (fbF g k p) = 0 := by
  induction k generalizing p with
  | zero =>
    obtain ⟨q, h1, h2, -⟩ := h
    omega
  | succ k ih =>
    unfold fbF
    rw [nI_clamp (by omega)]
    by_cases hg : g p = 0
    · rw [if_pos hg]; exact ⟨by omega, hg⟩
    · rw [if_neg hg]
      obtain ⟨q, h1, h2, h3⟩ := h
      exact ih ⟨q, by rcases Nat.eq_or_lt_of_le h1 with e | e; exact absurd (e ▸ h3) hg; exact e, h2, h3⟩ (by omega)
theorem pp_in {s : S3} (hB : fB s) : vp_in (ppF (s 0 25 0) (s 27 0)) 34 := by
  unfold ppF
  by_cases h : 32 ≤ s 0 25 0
  · rw [if_pos h]; exact vp_c (c := 33) (by omega) (by omega)
  · rw [if_neg h]
    obtain ⟨q, h1, h2⟩ := hB h
    exact vp_c (fbF_lt ⟨q, by omega, h1, h2⟩ (by omega)).1 (by omega)
theorem w_lt {w : Int32} (hW : vp_in w 33) (h : ¬ 32 ≤ w) : vp_in w 32 := by
  obtain ⟨j, hj, hj2, rfl⟩ := vp_nI hW
  rw [show (32 : Int32) = nI 32 from rfl, nI_leI (by omega) hj2] at h
  exact nI_in (by omega) (by omega)
/-- the row of order from place j on moves up by one, k places -/
def rowR : Nat → Nat → (Nat → Int32) → Nat → Int32
  | 0, _, g => g
  | k + 1, j, g => rowR k (j + 1) (upd g j (g (j + 1)))
/-- k entries from i on are copied from the rows of x to the rows of p -/
def cpR (d : Nat → Int32) (x p : Int32) : Nat → Nat → (Nat → Int32) → Nat → Int32
  | 0, _, g => g
  | k + 1, i, g => cpR d x p k (i + 1) (upd g ((180 * p) + (nI i)).toNatClampNeg (vp_nar .short (d ((180 * x) + (nI i)).toNatClampNeg)))
/-- what cell k holds behind the first m writes of x's row -/
def hdF (oc ov d : Nat → Int32) (x k : Int32) : Nat → Int32
  | 0 => 0
  | m + 1 => if oc (d ((180 * x) + (nI m)).toNatClampNeg).toNatClampNeg = k then ov (d ((180 * x) + (nI m)).toNatClampNeg).toNatClampNeg else hdF oc ov d x k m
/-- the place of the latest write of client c among the first m of x's row -/
def laF (oc d : Nat → Int32) (x c : Int32) : Nat → Int32
  | 0 => -1
  | m + 1 => if oc (d ((180 * x) + (nI m)).toNatClampNeg).toNatClampNeg = c then nI m else laF oc d x c m
theorem d_Model_noServer_0 : decode prog_11_method_2_code 0 = .ok (.iload_n 1, 1) := by decide +kernel
theorem d_Model_noServer_1 : decode prog_11_method_2_code 1 = .ok (.ifCond .lt 11, 3) := by decide +kernel
theorem d_Model_noServer_4 : decode prog_11_method_2_code 4 = .ok (.iload_n 1, 1) := by decide +kernel
theorem d_Model_noServer_5 : decode prog_11_method_2_code 5 = .ok (.aload_n 0, 1) := by decide +kernel
theorem d_Model_noServer_6 : decode prog_11_method_2_code 6 = .ok (.getfield 108, 3) := by decide +kernel
theorem d_Model_noServer_9 : decode prog_11_method_2_code 9 = .ok (.if_icmp .lt 7, 3) := by decide +kernel
theorem d_Model_noServer_12 : decode prog_11_method_2_code 12 = .ok (.iconst 1, 1) := by decide +kernel
theorem d_Model_noServer_13 : decode prog_11_method_2_code 13 = .ok (.goto 4, 3) := by decide +kernel
theorem d_Model_noServer_16 : decode prog_11_method_2_code 16 = .ok (.iconst 0, 1) := by decide +kernel
theorem d_Model_noServer_17 : decode prog_11_method_2_code 17 = .ok (.ireturn, 1) := by decide +kernel
def v_Model_noServer (x0 : Int32) (x : Int32) : Int32 := if x < 0 then 1 else if x < (x0) then 0 else 1
theorem zbv_Model_noServer {x0 : Int32} {x : Int32} : zb (v_Model_noServer x0 x) := by
  unfold v_Model_noServer zb
  repeat' split
  all_goals simp
set_option maxHeartbeats 4000000 in
set_option maxRecDepth 100000 in
theorem c_Model_noServer {l : Launch} {D : va_G} {K : Nat → ClassId} {ad : Nat → Nat → Nat} {s : S3} {x : Int32} (hJ : zw_J (rRL) ad) : zM l y_Model_noServer ws_Model_noServer ({ frames := 0, cells := 0, slots := 0, locals := 0 }) D zCl (zTys K) (rRL) ad [.ref (ad 0 0), .int x] (rC K ad s) (some (.int (v_Model_noServer (s 0 0 0) x))) (rC K ad s) := by
  refine zM.of (cc := prog_11_method_2_code) (maxL := 2) (ret := (Option.some Jvm.ClassFile.FieldType.boolean)) (by decide) rfl (Nat.le_of_ble_eq_true rfl) ?_
  intro pP eE U mM bL mT cO S hr hlk hK
  have hts := S.2.2.2.2
  have ht := fun w h => hts w (List.mem_cons_of_mem _ h)
  refine z_iload_n S d_Model_noServer_0 rfl 1 rfl 1 rfl ?_
  refine z_if_lt S d_Model_noServer_1 12 (by decide) 4 rfl (fun h1 => ?_) (fun h1 => ?_)
  · refine z_iconst S d_Model_noServer_12 1 (by decide) 13 rfl ?_
    refine z_goto S d_Model_noServer_13 17 (by decide) ?_
    exact z_zret S hr (zb_n zb_1) hlk d_Model_noServer_17 (by unfold v_Model_noServer; simp only [if_pos h1]) rfl
  · refine z_iload_n S d_Model_noServer_4 rfl 1 rfl 5 rfl ?_
    refine z_aload_n S d_Model_noServer_5 rfl 0 rfl 6 rfl ?_
    refine z_get S hK hin_Model rm_0 rC_0 rfl 0 (Nat.le_of_ble_eq_true rfl) (ht _ w_540) (fun _ h => h) d_Model_noServer_6 9 rfl (.int (s 0 0 0)) rfl ?_
    refine z_icmp_lt S d_Model_noServer_9 16 (by decide) 12 rfl (fun h2 => ?_) (fun h2 => ?_)
    · refine z_iconst S d_Model_noServer_16 0 (by decide) 17 rfl ?_
      exact z_zret S hr (zb_n zb_0) hlk d_Model_noServer_17 (by unfold v_Model_noServer; simp only [if_neg h1, if_pos h2]) rfl
    · refine z_iconst S d_Model_noServer_12 1 (by decide) 13 rfl ?_
      refine z_goto S d_Model_noServer_13 17 (by decide) ?_
      exact z_zret S hr (zb_n zb_1) hlk d_Model_noServer_17 (by unfold v_Model_noServer; simp only [if_neg h1, if_neg h2]) rfl
theorem d_Model_noClient_0 : decode prog_11_method_3_code 0 = .ok (.iload_n 1, 1) := by decide +kernel
theorem d_Model_noClient_1 : decode prog_11_method_3_code 1 = .ok (.ifCond .lt 8, 3) := by decide +kernel
theorem d_Model_noClient_4 : decode prog_11_method_3_code 4 = .ok (.iload_n 1, 1) := by decide +kernel
theorem d_Model_noClient_5 : decode prog_11_method_3_code 5 = .ok (.iconst 2, 1) := by decide +kernel
theorem d_Model_noClient_6 : decode prog_11_method_3_code 6 = .ok (.if_icmp .le 7, 3) := by decide +kernel
theorem d_Model_noClient_9 : decode prog_11_method_3_code 9 = .ok (.iconst 1, 1) := by decide +kernel
theorem d_Model_noClient_10 : decode prog_11_method_3_code 10 = .ok (.goto 4, 3) := by decide +kernel
theorem d_Model_noClient_13 : decode prog_11_method_3_code 13 = .ok (.iconst 0, 1) := by decide +kernel
theorem d_Model_noClient_14 : decode prog_11_method_3_code 14 = .ok (.ireturn, 1) := by decide +kernel
def v_Model_noClient (x : Int32) : Int32 := if x < 0 then 1 else if x ≤ 2 then 0 else 1
theorem zbv_Model_noClient {x : Int32} : zb (v_Model_noClient  x) := by
  unfold v_Model_noClient zb
  repeat' split
  all_goals simp
set_option maxHeartbeats 4000000 in
set_option maxRecDepth 100000 in
theorem c_Model_noClient {l : Launch} {D : va_G} {K : Nat → ClassId} {ad : Nat → Nat → Nat} {s : S3} {x : Int32} (hJ : zw_J (rRL) ad) : zM l y_Model_noClient ws_Model_noClient ({ frames := 0, cells := 0, slots := 0, locals := 0 }) D zCl (zTys K) (rRL) ad [.ref (ad 0 0), .int x] (rC K ad s) (some (.int (v_Model_noClient  x))) (rC K ad s) := by
  refine zM.of (cc := prog_11_method_3_code) (maxL := 2) (ret := (Option.some Jvm.ClassFile.FieldType.boolean)) (by decide) rfl (Nat.le_of_ble_eq_true rfl) ?_
  intro pP eE U mM bL mT cO S hr hlk hK
  have hts := S.2.2.2.2
  have ht := fun w h => hts w (List.mem_cons_of_mem _ h)
  refine z_iload_n S d_Model_noClient_0 rfl 1 rfl 1 rfl ?_
  refine z_if_lt S d_Model_noClient_1 9 (by decide) 4 rfl (fun h1 => ?_) (fun h1 => ?_)
  · refine z_iconst S d_Model_noClient_9 1 (by decide) 10 rfl ?_
    refine z_goto S d_Model_noClient_10 14 (by decide) ?_
    exact z_zret S hr (zb_n zb_1) hlk d_Model_noClient_14 (by unfold v_Model_noClient; simp only [if_pos h1]) rfl
  · refine z_iload_n S d_Model_noClient_4 rfl 1 rfl 5 rfl ?_
    refine z_iconst S d_Model_noClient_5 2 (by decide) 6 rfl ?_
    refine z_icmp_le S d_Model_noClient_6 13 (by decide) 9 rfl (fun h2 => ?_) (fun h2 => ?_)
    · refine z_iconst S d_Model_noClient_13 0 (by decide) 14 rfl ?_
      exact z_zret S hr (zb_n zb_0) hlk d_Model_noClient_14 (by unfold v_Model_noClient; simp only [if_neg h1, if_pos h2]) rfl
    · refine z_iconst S d_Model_noClient_9 1 (by decide) 10 rfl ?_
      refine z_goto S d_Model_noClient_10 14 (by decide) ?_
      exact z_zret S hr (zb_n zb_1) hlk d_Model_noClient_14 (by unfold v_Model_noClient; simp only [if_neg h1, if_neg h2]) rfl
theorem d_Model_leads_0 : decode prog_11_method_12_code 0 = .ok (.aload_n 0, 1) := by decide +kernel
theorem d_Model_leads_1 : decode prog_11_method_12_code 1 = .ok (.getfield 26, 3) := by decide +kernel
theorem d_Model_leads_4 : decode prog_11_method_12_code 4 = .ok (.iload_n 1, 1) := by decide +kernel
theorem d_Model_leads_5 : decode prog_11_method_12_code 5 = .ok (.iaload, 1) := by decide +kernel
theorem d_Model_leads_6 : decode prog_11_method_12_code 6 = .ok (.ifCond .le 17, 3) := by decide +kernel
theorem d_Model_leads_9 : decode prog_11_method_12_code 9 = .ok (.aload_n 0, 1) := by decide +kernel
theorem d_Model_leads_10 : decode prog_11_method_12_code 10 = .ok (.getfield 29, 3) := by decide +kernel
theorem d_Model_leads_13 : decode prog_11_method_12_code 13 = .ok (.iload_n 1, 1) := by decide +kernel
theorem d_Model_leads_14 : decode prog_11_method_12_code 14 = .ok (.iaload, 1) := by decide +kernel
theorem d_Model_leads_15 : decode prog_11_method_12_code 15 = .ok (.iload_n 1, 1) := by decide +kernel
theorem d_Model_leads_16 : decode prog_11_method_12_code 16 = .ok (.if_icmp .ne 7, 3) := by decide +kernel
theorem d_Model_leads_19 : decode prog_11_method_12_code 19 = .ok (.iconst 1, 1) := by decide +kernel
theorem d_Model_leads_20 : decode prog_11_method_12_code 20 = .ok (.goto 4, 3) := by decide +kernel
theorem d_Model_leads_23 : decode prog_11_method_12_code 23 = .ok (.iconst 0, 1) := by decide +kernel
theorem d_Model_leads_24 : decode prog_11_method_12_code 24 = .ok (.ireturn, 1) := by decide +kernel
def v_Model_leads (x0 : Int32) (x1 : Int32) (x : Int32) : Int32 := if (x0) ≤ 0 then 0 else if (x1) = x then 1 else 0
theorem zbv_Model_leads {x0 : Int32} {x1 : Int32} {x : Int32} : zb (v_Model_leads x0 x1 x) := by
  unfold v_Model_leads zb
  repeat' split
  all_goals simp
set_option maxHeartbeats 4000000 in
set_option maxRecDepth 100000 in
theorem c_Model_leads {l : Launch} {D : va_G} {K : Nat → ClassId} {ad : Nat → Nat → Nat} {s : S3} {x : Int32} (hJ : zw_J (rRL) ad) (hx : vp_in x 5) : zM l y_Model_leads ws_Model_leads ({ frames := 0, cells := 0, slots := 0, locals := 0 }) D zCl (zTys K) (rRL) ad [.ref (ad 0 0), .int x] (rC K ad s) (some (.int (v_Model_leads (s 8 0 x.toNatClampNeg) (s 9 0 x.toNatClampNeg) x))) (rC K ad s) := by
  refine zM.of (cc := prog_11_method_12_code) (maxL := 2) (ret := (Option.some Jvm.ClassFile.FieldType.boolean)) (by decide) rfl (Nat.le_of_ble_eq_true rfl) ?_
  intro pP eE U mM bL mT cO S hr hlk hK
  have hts := S.2.2.2.2
  have ht := fun w h => hts w (List.mem_cons_of_mem _ h)
  refine z_aload_n S d_Model_leads_0 rfl 0 rfl 1 rfl ?_
  refine z_get S hK hin_Model rm_0 rC_0 rfl 8 (Nat.le_of_ble_eq_true rfl) (ht _ w_548) (fun _ h => h) d_Model_leads_1 4 rfl (.ref (ad 8 0)) rfl ?_
  refine z_iload_n S d_Model_leads_4 rfl 1 rfl 5 rfl ?_
  refine z_iald S hK rm_8 0 rC_8 rfl (vp_mono hx (by omega)) d_Model_leads_5 6 rfl (s 8 0 x.toNatClampNeg) rfl ?_
  refine z_if_le S d_Model_leads_6 23 (by decide) 9 rfl (fun h1 => ?_) (fun h1 => ?_)
  · refine z_iconst S d_Model_leads_23 0 (by decide) 24 rfl ?_
    exact z_zret S hr (zb_n zb_0) hlk d_Model_leads_24 (by unfold v_Model_leads; simp only [if_pos h1]) rfl
  · refine z_aload_n S d_Model_leads_9 rfl 0 rfl 10 rfl ?_
    refine z_get S hK hin_Model rm_0 rC_0 rfl 9 (Nat.le_of_ble_eq_true rfl) (ht _ w_549) (fun _ h => h) d_Model_leads_10 13 rfl (.ref (ad 9 0)) rfl ?_
    refine z_iload_n S d_Model_leads_13 rfl 1 rfl 14 rfl ?_
    refine z_iald S hK rm_9 0 rC_9 rfl (vp_mono hx (by omega)) d_Model_leads_14 15 rfl (s 9 0 x.toNatClampNeg) rfl ?_
    refine z_iload_n S d_Model_leads_15 rfl 1 rfl 16 rfl ?_
    refine z_icmp_ne S d_Model_leads_16 23 (by decide) 19 rfl (fun h2 => ?_) (fun h2 => ?_)
    · refine z_iconst S d_Model_leads_23 0 (by decide) 24 rfl ?_
      exact z_zret S hr (zb_n zb_0) hlk d_Model_leads_24 (by unfold v_Model_leads; simp only [if_neg h1, if_neg h2]) rfl
    · refine z_iconst S d_Model_leads_19 1 (by decide) 20 rfl ?_
      refine z_goto S d_Model_leads_20 24 (by decide) ?_
      exact z_zret S hr (zb_n zb_1) hlk d_Model_leads_24 (by unfold v_Model_leads; simp only [if_neg h1, if_pos h2]) rfl
theorem d_Model_fresh_0 : decode prog_11_method_14_code 0 = .ok (.iload_n 1, 1) := by decide +kernel
theorem d_Model_fresh_1 : decode prog_11_method_14_code 1 = .ok (.ifCond .lt 33, 3) := by decide +kernel
theorem d_Model_fresh_4 : decode prog_11_method_14_code 4 = .ok (.aload_n 0, 1) := by decide +kernel
theorem d_Model_fresh_5 : decode prog_11_method_14_code 5 = .ok (.getfield 35, 3) := by decide +kernel
theorem d_Model_fresh_8 : decode prog_11_method_14_code 8 = .ok (.iload_n 1, 1) := by decide +kernel
theorem d_Model_fresh_9 : decode prog_11_method_14_code 9 = .ok (.iaload, 1) := by decide +kernel
theorem d_Model_fresh_10 : decode prog_11_method_14_code 10 = .ok (.ifCond .lt 24, 3) := by decide +kernel
theorem d_Model_fresh_13 : decode prog_11_method_14_code 13 = .ok (.aload_n 0, 1) := by decide +kernel
theorem d_Model_fresh_14 : decode prog_11_method_14_code 14 = .ok (.getfield 127, 3) := by decide +kernel
theorem d_Model_fresh_17 : decode prog_11_method_14_code 17 = .ok (.aload_n 0, 1) := by decide +kernel
theorem d_Model_fresh_18 : decode prog_11_method_14_code 18 = .ok (.getfield 35, 3) := by decide +kernel
theorem d_Model_fresh_21 : decode prog_11_method_14_code 21 = .ok (.iload_n 1, 1) := by decide +kernel
theorem d_Model_fresh_22 : decode prog_11_method_14_code 22 = .ok (.iaload, 1) := by decide +kernel
theorem d_Model_fresh_23 : decode prog_11_method_14_code 23 = .ok (.isub, 1) := by decide +kernel
theorem d_Model_fresh_24 : decode prog_11_method_14_code 24 = .ok (.sipush 130, 3) := by decide +kernel
theorem d_Model_fresh_27 : decode prog_11_method_14_code 27 = .ok (.if_icmp .ge 7, 3) := by decide +kernel
theorem d_Model_fresh_30 : decode prog_11_method_14_code 30 = .ok (.iconst 1, 1) := by decide +kernel
theorem d_Model_fresh_31 : decode prog_11_method_14_code 31 = .ok (.goto 4, 3) := by decide +kernel
theorem d_Model_fresh_34 : decode prog_11_method_14_code 34 = .ok (.iconst 0, 1) := by decide +kernel
theorem d_Model_fresh_35 : decode prog_11_method_14_code 35 = .ok (.ireturn, 1) := by decide +kernel
def v_Model_fresh (x0 : Int32) (x1 : Int32) (x : Int32) : Int32 := if x < 0 then 0 else if (x0) < 0 then 0 else if 130 ≤ ((x1) - (x0)) then 0 else 1
theorem zbv_Model_fresh {x0 : Int32} {x1 : Int32} {x : Int32} : zb (v_Model_fresh x0 x1 x) := by
  unfold v_Model_fresh zb
  repeat' split
  all_goals simp
set_option maxHeartbeats 4000000 in
set_option maxRecDepth 100000 in
theorem c_Model_fresh {l : Launch} {D : va_G} {K : Nat → ClassId} {ad : Nat → Nat → Nat} {s : S3} {x : Int32} (hJ : zw_J (rRL) ad) (hx : ¬ x < 0 → vp_in x 5) : zM l y_Model_fresh ws_Model_fresh ({ frames := 0, cells := 0, slots := 0, locals := 0 }) D zCl (zTys K) (rRL) ad [.ref (ad 0 0), .int x] (rC K ad s) (some (.int (v_Model_fresh (s 12 0 x.toNatClampNeg) (s 0 1 0) x))) (rC K ad s) := by
  refine zM.of (cc := prog_11_method_14_code) (maxL := 2) (ret := (Option.some Jvm.ClassFile.FieldType.boolean)) (by decide) rfl (Nat.le_of_ble_eq_true rfl) ?_
  intro pP eE U mM bL mT cO S hr hlk hK
  have hts := S.2.2.2.2
  have ht := fun w h => hts w (List.mem_cons_of_mem _ h)
  refine z_iload_n S d_Model_fresh_0 rfl 1 rfl 1 rfl ?_
  refine z_if_lt S d_Model_fresh_1 34 (by decide) 4 rfl (fun h1 => ?_) (fun h1 => ?_)
  · refine z_iconst S d_Model_fresh_34 0 (by decide) 35 rfl ?_
    exact z_zret S hr (zb_n zb_0) hlk d_Model_fresh_35 (by unfold v_Model_fresh; simp only [if_pos h1]) rfl
  · refine z_aload_n S d_Model_fresh_4 rfl 0 rfl 5 rfl ?_
    refine z_get S hK hin_Model rm_0 rC_0 rfl 12 (Nat.le_of_ble_eq_true rfl) (ht _ w_552) (fun _ h => h) d_Model_fresh_5 8 rfl (.ref (ad 12 0)) rfl ?_
    refine z_iload_n S d_Model_fresh_8 rfl 1 rfl 9 rfl ?_
    refine z_iald S hK rm_12 0 rC_12 rfl (hx h1) d_Model_fresh_9 10 rfl (s 12 0 x.toNatClampNeg) rfl ?_
    refine z_if_lt S d_Model_fresh_10 34 (by decide) 13 rfl (fun h2 => ?_) (fun h2 => ?_)
    · refine z_iconst S d_Model_fresh_34 0 (by decide) 35 rfl ?_
      exact z_zret S hr (zb_n zb_0) hlk d_Model_fresh_35 (by unfold v_Model_fresh; simp only [if_neg h1, if_pos h2]) rfl
    · refine z_aload_n S d_Model_fresh_13 rfl 0 rfl 14 rfl ?_
      refine z_get S hK hin_Model rm_0 rC_0 rfl 1 (Nat.le_of_ble_eq_true rfl) (ht _ w_541) (fun _ h => h) d_Model_fresh_14 17 rfl (.int (s 0 1 0)) rfl ?_
      refine z_aload_n S d_Model_fresh_17 rfl 0 rfl 18 rfl ?_
      refine z_get S hK hin_Model rm_0 rC_0 rfl 12 (Nat.le_of_ble_eq_true rfl) (ht _ w_552) (fun _ h => h) d_Model_fresh_18 21 rfl (.ref (ad 12 0)) rfl ?_
      refine z_iload_n S d_Model_fresh_21 rfl 1 rfl 22 rfl ?_
      refine z_iald S hK rm_12 0 rC_12 rfl (hx h1) d_Model_fresh_22 23 rfl (s 12 0 x.toNatClampNeg) rfl ?_
      refine z_isub S d_Model_fresh_23 24 rfl ?_
      refine z_sipush S d_Model_fresh_24 130 (by decide) 27 rfl ?_
      refine z_icmp_ge S d_Model_fresh_27 34 (by decide) 30 rfl (fun h3 => ?_) (fun h3 => ?_)
      · refine z_iconst S d_Model_fresh_34 0 (by decide) 35 rfl ?_
        exact z_zret S hr (zb_n zb_0) hlk d_Model_fresh_35 (by unfold v_Model_fresh; simp only [if_neg h1, if_neg h2, if_pos h3]) rfl
      · refine z_iconst S d_Model_fresh_30 1 (by decide) 31 rfl ?_
        refine z_goto S d_Model_fresh_31 35 (by decide) ?_
        exact z_zret S hr (zb_n zb_1) hlk d_Model_fresh_35 (by unfold v_Model_fresh; simp only [if_neg h1, if_neg h2, if_neg h3]) rfl
theorem d_Model_post_0 : decode prog_11_method_4_code 0 = .ok (.bipush 33, 2) := by decide +kernel
theorem d_Model_post_2 : decode prog_11_method_4_code 2 = .ok (.istore_n 3, 1) := by decide +kernel
theorem d_Model_post_3 : decode prog_11_method_4_code 3 = .ok (.aload_n 0, 1) := by decide +kernel
theorem d_Model_post_4 : decode prog_11_method_4_code 4 = .ok (.getfield 112, 3) := by decide +kernel
theorem d_Model_post_7 : decode prog_11_method_4_code 7 = .ok (.bipush 32, 2) := by decide +kernel
theorem d_Model_post_9 : decode prog_11_method_4_code 9 = .ok (.if_icmp .ge 47, 3) := by decide +kernel
theorem d_Model_post_12 : decode prog_11_method_4_code 12 = .ok (.iconst 0, 1) := by decide +kernel
theorem d_Model_post_13 : decode prog_11_method_4_code 13 = .ok (.istore_n 3, 1) := by decide +kernel
theorem d_Model_post_14 : decode prog_11_method_4_code 14 = .ok (.aload_n 0, 1) := by decide +kernel
theorem d_Model_post_15 : decode prog_11_method_4_code 15 = .ok (.getfield 78, 3) := by decide +kernel
theorem d_Model_post_18 : decode prog_11_method_4_code 18 = .ok (.iload_n 3, 1) := by decide +kernel
theorem d_Model_post_19 : decode prog_11_method_4_code 19 = .ok (.baload, 1) := by decide +kernel
theorem d_Model_post_20 : decode prog_11_method_4_code 20 = .ok (.ifCond .eq 9, 3) := by decide +kernel
theorem d_Model_post_23 : decode prog_11_method_4_code 23 = .ok (.iinc 3 1, 3) := by decide +kernel
theorem d_Model_post_26 : decode prog_11_method_4_code 26 = .ok (.goto (-12), 3) := by decide +kernel
theorem d_Model_post_29 : decode prog_11_method_4_code 29 = .ok (.aload_n 0, 1) := by decide +kernel
theorem d_Model_post_30 : decode prog_11_method_4_code 30 = .ok (.getfield 78, 3) := by decide +kernel
theorem d_Model_post_33 : decode prog_11_method_4_code 33 = .ok (.iload_n 3, 1) := by decide +kernel
theorem d_Model_post_34 : decode prog_11_method_4_code 34 = .ok (.iconst 1, 1) := by decide +kernel
theorem d_Model_post_35 : decode prog_11_method_4_code 35 = .ok (.bastore, 1) := by decide +kernel
theorem d_Model_post_36 : decode prog_11_method_4_code 36 = .ok (.aload_n 0, 1) := by decide +kernel
theorem d_Model_post_37 : decode prog_11_method_4_code 37 = .ok (.getfield 75, 3) := by decide +kernel
theorem d_Model_post_40 : decode prog_11_method_4_code 40 = .ok (.aload_n 0, 1) := by decide +kernel
theorem d_Model_post_41 : decode prog_11_method_4_code 41 = .ok (.getfield 112, 3) := by decide +kernel
theorem d_Model_post_44 : decode prog_11_method_4_code 44 = .ok (.iload_n 3, 1) := by decide +kernel
theorem d_Model_post_45 : decode prog_11_method_4_code 45 = .ok (.iastore, 1) := by decide +kernel
theorem d_Model_post_46 : decode prog_11_method_4_code 46 = .ok (.aload_n 0, 1) := by decide +kernel
theorem d_Model_post_47 : decode prog_11_method_4_code 47 = .ok (.dup, 1) := by decide +kernel
theorem d_Model_post_48 : decode prog_11_method_4_code 48 = .ok (.getfield 112, 3) := by decide +kernel
theorem d_Model_post_51 : decode prog_11_method_4_code 51 = .ok (.iconst 1, 1) := by decide +kernel
theorem d_Model_post_52 : decode prog_11_method_4_code 52 = .ok (.iadd, 1) := by decide +kernel
theorem d_Model_post_53 : decode prog_11_method_4_code 53 = .ok (.putfield 112, 3) := by decide +kernel
theorem d_Model_post_56 : decode prog_11_method_4_code 56 = .ok (.aload_n 0, 1) := by decide +kernel
theorem d_Model_post_57 : decode prog_11_method_4_code 57 = .ok (.getfield 81, 3) := by decide +kernel
theorem d_Model_post_60 : decode prog_11_method_4_code 60 = .ok (.iload_n 3, 1) := by decide +kernel
theorem d_Model_post_61 : decode prog_11_method_4_code 61 = .ok (.iload_n 1, 1) := by decide +kernel
theorem d_Model_post_62 : decode prog_11_method_4_code 62 = .ok (.iastore, 1) := by decide +kernel
theorem d_Model_post_63 : decode prog_11_method_4_code 63 = .ok (.aload_n 0, 1) := by decide +kernel
theorem d_Model_post_64 : decode prog_11_method_4_code 64 = .ok (.getfield 84, 3) := by decide +kernel
theorem d_Model_post_67 : decode prog_11_method_4_code 67 = .ok (.iload_n 3, 1) := by decide +kernel
theorem d_Model_post_68 : decode prog_11_method_4_code 68 = .ok (.iload_n 2, 1) := by decide +kernel
theorem d_Model_post_69 : decode prog_11_method_4_code 69 = .ok (.iastore, 1) := by decide +kernel
theorem d_Model_post_70 : decode prog_11_method_4_code 70 = .ok (.iload_n 3, 1) := by decide +kernel
theorem d_Model_post_71 : decode prog_11_method_4_code 71 = .ok (.ireturn, 1) := by decide +kernel
def S_Model_post (s : S3) (k a : Int32) : S3 := u3 (u3 (u3 (u3 (u3 s 27 0 (ppF (s 0 25 0) (s 27 0)).toNatClampNeg (if 32 ≤ s 0 25 0 then s 27 0 (ppF (s 0 25 0) (s 27 0)).toNatClampNeg else 1)) 26 0 (s 0 25 0).toNatClampNeg (if 32 ≤ s 0 25 0 then s 26 0 (s 0 25 0).toNatClampNeg else ppF (s 0 25 0) (s 27 0))) 0 25 0 (nxW (s 0 25 0))) 28 0 (ppF (s 0 25 0) (s 27 0)).toNatClampNeg k) 29 0 (ppF (s 0 25 0) (s 27 0)).toNatClampNeg a
set_option maxHeartbeats 4000000 in
set_option maxRecDepth 100000 in
theorem c_Model_post {l : Launch} {D : va_G} {K : Nat → ClassId} {ad : Nat → Nat → Nat} {s : S3} {k a : Int32}  (hJ : zw_J (rRL) ad) (hW : vp_in (s 0 25 0) 33) (hB : fB s) : zM l y_Model_post ws_Model_post ({ frames := 0, cells := 0, slots := 0, locals := 0 }) D zCl (zTys K) (rRL) ad [.ref (ad 0 0), .int k, .int a] (rC K ad s) (some (.int (ppF (s 0 25 0) (s 27 0)))) (rC K ad (S_Model_post s k a)) := by
  refine zM.of (cc := prog_11_method_4_code) (maxL := 4) (ret := (Option.some Jvm.ClassFile.FieldType.int)) (by decide) rfl (Nat.le_of_ble_eq_true rfl) ?_
  intro pP eE U mM bL mT cO S hr hlk hK
  have hts := S.2.2.2.2
  have ht := fun w h => hts w (List.mem_cons_of_mem _ h)
  refine z_bipush S d_Model_post_0 33 (by decide) 2 rfl ?_
  refine z_istore_n S d_Model_post_2 rfl (Nat.le_of_ble_eq_true rfl) [(3, .int 33), (0, .ref (ad 0 0)), (1, .int k), (2, .int a)] rfl 3 rfl ?_
  refine z_aload_n S d_Model_post_3 rfl 1 rfl 4 rfl ?_
  refine z_get S hK hin_Model rm_0 rC_0 rfl 25 (Nat.le_of_ble_eq_true rfl) (ht _ w_565) (fun _ h => h) d_Model_post_4 7 rfl (.int (s 0 25 0)) rfl ?_
  refine z_bipush S d_Model_post_7 32 (by decide) 9 rfl ?_
  refine z_icmp_ge S d_Model_post_9 56 (by decide) 12 rfl (fun h1 => ?_) (fun h1 => ?_)
  · refine z_aload_n S d_Model_post_56 rfl 1 rfl 57 rfl ?_
    refine z_get S hK hin_Model rm_0 rC_0 rfl 28 (Nat.le_of_ble_eq_true rfl) (ht _ w_568) (fun _ h => h) d_Model_post_57 60 rfl (.ref (ad 28 0)) rfl ?_
    refine z_iload_n S d_Model_post_60 rfl 0 rfl 61 rfl ?_
    refine z_iload_n S d_Model_post_61 rfl 2 rfl 62 rfl ?_
    refine z_iast S hJ hK rm_28 0 rC_28 rfl (vp_c (c := 33) (N := 34) (by omega) (by omega)) rfl rupI_28 d_Model_post_62 63 rfl ?_
    refine z_aload_n S d_Model_post_63 rfl 1 rfl 64 rfl ?_
    refine z_get S hK hin_Model rm_0 rC_0 rfl 29 (Nat.le_of_ble_eq_true rfl) (ht _ w_569) (fun _ h => h) d_Model_post_64 67 rfl (.ref (ad 29 0)) rfl ?_
    refine z_iload_n S d_Model_post_67 rfl 0 rfl 68 rfl ?_
    refine z_iload_n S d_Model_post_68 rfl 3 rfl 69 rfl ?_
    refine z_iast S hJ hK rm_29 0 rC_29 rfl (vp_c (c := 33) (N := 34) (by omega) (by omega)) rfl rupI_29 d_Model_post_69 70 rfl ?_
    refine z_iload_n S d_Model_post_70 rfl 0 rfl 71 rfl ?_
    exact z_iret S hr hlk d_Model_post_71 (by rw [ppF, if_pos h1]) (rC_eq (by simp only [S_Model_post, ppF, nxW, if_pos h1, u3_id]))
  · refine z_iconst S d_Model_post_12 0 (by decide) 13 rfl ?_
    refine z_istore_n S d_Model_post_13 rfl (Nat.le_of_ble_eq_true rfl) [(3, .int 0), (0, .ref (ad 0 0)), (1, .int k), (2, .int a)] rfl 14 rfl ?_
    obtain ⟨q0, hq0, hq1⟩ := hB h1
    have loop : ∀ (j q : Nat), q + j = 34 → q ≤ q0 → fbF (s 27 0) j q = fbF (s 27 0) 34 0 → zG pP l eE (headSpec ws_Model_post ({ frames := 0, cells := 0, slots := 0, locals := 0 })).room U mM ([.ref (ad 0 0), .int k, .int a] : List Value).toArray bL mT cO 4 (MQ bL (zQ D zCl (rRL) ad (some (.int (ppF (s 0 25 0) (s 27 0)))) (rC K ad (S_Model_post s k a))) ([.ref (ad 0 0), .int k, .int a] : List Value).toArray U 0 0 (zw_A (rRL) ad)) (zI D zCl (rRL) ad U.heap (rC K ad s)) 0 0 14 [(3, .int (nI q)), (0, .ref (ad 0 0)), (1, .int k), (2, .int a)] [] := by
      intro j
      induction j with
      | zero => intro q hj hq hv; exact absurd hq (by omega)
      | succ j ih =>
        intro q hj hq hv
        refine z_aload_n S d_Model_post_14 rfl 1 rfl 15 rfl ?_
        refine z_get S hK hin_Model rm_0 rC_0 rfl 27 (Nat.le_of_ble_eq_true rfl) (ht _ w_567) (fun _ h => h) d_Model_post_15 18 rfl (.ref (ad 27 0)) rfl ?_
        refine z_iload_n S d_Model_post_18 rfl 0 rfl 19 rfl ?_
        refine z_zald S hK rm_27 1 rC_27 rfl (nI_in (by omega) (by omega)) d_Model_post_19 20 rfl (s 27 0 ((nI q).toNatClampNeg)) rfl ?_
        refine z_if_eq S d_Model_post_20 29 (by decide) 23 rfl (fun h2 => ?_) (fun h2 => ?_)
        · have hP : q = fbF (s 27 0) 34 0 := by rw [← hv, fbF, if_pos h2]
          refine z_aload_n S d_Model_post_29 rfl 1 rfl 30 rfl ?_
          refine z_get S hK hin_Model rm_0 rC_0 rfl 27 (Nat.le_of_ble_eq_true rfl) (ht _ w_567) (fun _ h => h) d_Model_post_30 33 rfl (.ref (ad 27 0)) rfl ?_
          refine z_iload_n S d_Model_post_33 rfl 0 rfl 34 rfl ?_
          refine z_iconst S d_Model_post_34 1 (by decide) 35 rfl ?_
          refine z_zast S hJ hK rm_27 1 rC_27 rfl (nI_in (by omega) (by omega)) (zb_v zb_1) rupI_27 d_Model_post_35 36 rfl ?_
          refine z_aload_n S d_Model_post_36 rfl 1 rfl 37 rfl ?_
          refine z_get S hK hin_Model rm_0 rC_0 rfl 26 (Nat.le_of_ble_eq_true rfl) (ht _ w_566) (fun _ h => h) d_Model_post_37 40 rfl (.ref (ad 26 0)) rfl ?_
          refine z_aload_n S d_Model_post_40 rfl 1 rfl 41 rfl ?_
          refine z_get S hK hin_Model rm_0 rC_0 rfl 25 (Nat.le_of_ble_eq_true rfl) (ht _ w_565) (fun _ h => h) d_Model_post_41 44 rfl (.int (s 0 25 0)) rfl ?_
          refine z_iload_n S d_Model_post_44 rfl 0 rfl 45 rfl ?_
          refine z_iast S hJ hK rm_26 0 rC_26 rfl (w_lt hW h1) rfl rupI_26 d_Model_post_45 46 rfl ?_
          refine z_aload_n S d_Model_post_46 rfl 1 rfl 47 rfl ?_
          refine z_dup S d_Model_post_47 rfl 48 rfl ?_
          refine z_get S hK hin_Model rm_0 rC_0 rfl 25 (Nat.le_of_ble_eq_true rfl) (ht _ w_565) (fun _ h => h) d_Model_post_48 51 rfl (.int (s 0 25 0)) rfl ?_
          refine z_iconst S d_Model_post_51 1 (by decide) 52 rfl ?_
          refine z_iadd S d_Model_post_52 53 rfl ?_
          refine z_put S hJ hK hin_Model t_Model ok_Model nm_Model rm_0 rC_0 rfl 25 (Nat.le_of_ble_eq_true rfl) (ht _ w_565) (fun _ h => h) rfl rfl rfl (Nat.le_of_ble_eq_true rfl) rup_25 d_Model_post_53 56 rfl ?_
          refine z_aload_n S d_Model_post_56 rfl 1 rfl 57 rfl ?_
          refine z_get S hK hin_Model rm_0 rC_0 rfl 28 (Nat.le_of_ble_eq_true rfl) (ht _ w_568) (fun _ h => h) d_Model_post_57 60 rfl (.ref (ad 28 0)) rfl ?_
          refine z_iload_n S d_Model_post_60 rfl 0 rfl 61 rfl ?_
          refine z_iload_n S d_Model_post_61 rfl 2 rfl 62 rfl ?_
          refine z_iast S hJ hK rm_28 0 rC_28 rfl (nI_in (by omega) (by omega)) rfl rupI_28 d_Model_post_62 63 rfl ?_
          refine z_aload_n S d_Model_post_63 rfl 1 rfl 64 rfl ?_
          refine z_get S hK hin_Model rm_0 rC_0 rfl 29 (Nat.le_of_ble_eq_true rfl) (ht _ w_569) (fun _ h => h) d_Model_post_64 67 rfl (.ref (ad 29 0)) rfl ?_
          refine z_iload_n S d_Model_post_67 rfl 0 rfl 68 rfl ?_
          refine z_iload_n S d_Model_post_68 rfl 3 rfl 69 rfl ?_
          refine z_iast S hJ hK rm_29 0 rC_29 rfl (nI_in (by omega) (by omega)) rfl rupI_29 d_Model_post_69 70 rfl ?_
          refine z_iload_n S d_Model_post_70 rfl 0 rfl 71 rfl ?_
          exact z_iret S hr hlk d_Model_post_71 (by rw [ppF, if_neg h1, ← hP]) (rC_eq (by simp only [S_Model_post, ppF, nxW, if_neg h1, ← hP]))
        · refine z_iinc S d_Model_post_23 0 rfl (nI_i1 _) (Nat.le_of_ble_eq_true rfl) [(3, .int (nI (q + 1))), (0, .ref (ad 0 0)), (1, .int k), (2, .int a)] rfl 26 rfl ?_
          refine z_goto S d_Model_post_26 14 (by decide) ?_
          exact ih (q + 1) (by omega) (by rcases Nat.eq_or_lt_of_le hq with e | e; exact absurd (by rw [nI_clamp (by omega), e]; exact hq1) h2; exact e) (by rw [← hv, fbF, if_neg h2])
    exact loop 34 0 (by omega) (by omega) rfl
theorem d_Model_take_0 : decode prog_11_method_5_code 0 = .ok (.aload_n 0, 1) := by decide +kernel
theorem d_Model_take_1 : decode prog_11_method_5_code 1 = .ok (.getfield 75, 3) := by decide +kernel
theorem d_Model_take_4 : decode prog_11_method_5_code 4 = .ok (.iload_n 1, 1) := by decide +kernel
theorem d_Model_take_5 : decode prog_11_method_5_code 5 = .ok (.iaload, 1) := by decide +kernel
theorem d_Model_take_6 : decode prog_11_method_5_code 6 = .ok (.istore_n 2, 1) := by decide +kernel
theorem d_Model_take_7 : decode prog_11_method_5_code 7 = .ok (.aload_n 0, 1) := by decide +kernel
theorem d_Model_take_8 : decode prog_11_method_5_code 8 = .ok (.dup, 1) := by decide +kernel
theorem d_Model_take_9 : decode prog_11_method_5_code 9 = .ok (.getfield 112, 3) := by decide +kernel
theorem d_Model_take_12 : decode prog_11_method_5_code 12 = .ok (.iconst 1, 1) := by decide +kernel
theorem d_Model_take_13 : decode prog_11_method_5_code 13 = .ok (.isub, 1) := by decide +kernel
theorem d_Model_take_14 : decode prog_11_method_5_code 14 = .ok (.putfield 112, 3) := by decide +kernel
theorem d_Model_take_17 : decode prog_11_method_5_code 17 = .ok (.iload_n 1, 1) := by decide +kernel
theorem d_Model_take_18 : decode prog_11_method_5_code 18 = .ok (.istore_n 3, 1) := by decide +kernel
theorem d_Model_take_19 : decode prog_11_method_5_code 19 = .ok (.iload_n 3, 1) := by decide +kernel
theorem d_Model_take_20 : decode prog_11_method_5_code 20 = .ok (.aload_n 0, 1) := by decide +kernel
theorem d_Model_take_21 : decode prog_11_method_5_code 21 = .ok (.getfield 112, 3) := by decide +kernel
theorem d_Model_take_24 : decode prog_11_method_5_code 24 = .ok (.if_icmp .ge 23, 3) := by decide +kernel
theorem d_Model_take_27 : decode prog_11_method_5_code 27 = .ok (.aload_n 0, 1) := by decide +kernel
theorem d_Model_take_28 : decode prog_11_method_5_code 28 = .ok (.getfield 75, 3) := by decide +kernel
theorem d_Model_take_31 : decode prog_11_method_5_code 31 = .ok (.iload_n 3, 1) := by decide +kernel
theorem d_Model_take_32 : decode prog_11_method_5_code 32 = .ok (.aload_n 0, 1) := by decide +kernel
theorem d_Model_take_33 : decode prog_11_method_5_code 33 = .ok (.getfield 75, 3) := by decide +kernel
theorem d_Model_take_36 : decode prog_11_method_5_code 36 = .ok (.iload_n 3, 1) := by decide +kernel
theorem d_Model_take_37 : decode prog_11_method_5_code 37 = .ok (.iconst 1, 1) := by decide +kernel
theorem d_Model_take_38 : decode prog_11_method_5_code 38 = .ok (.iadd, 1) := by decide +kernel
theorem d_Model_take_39 : decode prog_11_method_5_code 39 = .ok (.iaload, 1) := by decide +kernel
theorem d_Model_take_40 : decode prog_11_method_5_code 40 = .ok (.iastore, 1) := by decide +kernel
theorem d_Model_take_41 : decode prog_11_method_5_code 41 = .ok (.iinc 3 1, 3) := by decide +kernel
theorem d_Model_take_44 : decode prog_11_method_5_code 44 = .ok (.goto (-25), 3) := by decide +kernel
theorem d_Model_take_47 : decode prog_11_method_5_code 47 = .ok (.iload_n 2, 1) := by decide +kernel
theorem d_Model_take_48 : decode prog_11_method_5_code 48 = .ok (.ireturn, 1) := by decide +kernel
set_option maxHeartbeats 4000000 in
set_option maxRecDepth 100000 in
theorem c_Model_take {l : Launch} {D : va_G} {K : Nat → ClassId} {ad : Nat → Nat → Nat} {s : S3} {x : Int32}  (hJ : zw_J (rRL) ad) (hW : vp_in (s 0 25 0) 33) (hx : vp_in x (s 0 25 0).toNatClampNeg) : zM l y_Model_take ws_Model_take ({ frames := 0, cells := 0, slots := 0, locals := 0 }) D zCl (zTys K) (rRL) ad [.ref (ad 0 0), .int x] (rC K ad s) (some (.int (s 26 0 x.toNatClampNeg))) (rC K ad (uA (u3 s 0 25 0 ((s 0 25 0) - 1)) 26 0 (rowR ((s 0 25 0).toNatClampNeg - 1 - x.toNatClampNeg) x.toNatClampNeg (s 26 0)))) := by
  refine zM.of (cc := prog_11_method_5_code) (maxL := 4) (ret := (Option.some Jvm.ClassFile.FieldType.int)) (by decide) rfl (Nat.le_of_ble_eq_true rfl) ?_
  intro pP eE U mM bL mT cO S hr hlk hK
  have hts := S.2.2.2.2
  have ht := fun w h => hts w (List.mem_cons_of_mem _ h)
  refine z_aload_n S d_Model_take_0 rfl 0 rfl 1 rfl ?_
  refine z_get S hK hin_Model rm_0 rC_0 rfl 26 (Nat.le_of_ble_eq_true rfl) (ht _ w_566) (fun _ h => h) d_Model_take_1 4 rfl (.ref (ad 26 0)) rfl ?_
  refine z_iload_n S d_Model_take_4 rfl 1 rfl 5 rfl ?_
  refine z_iald S hK rm_26 0 rC_26 rfl (vp_mono hx (by have := vp_lt hW; omega)) d_Model_take_5 6 rfl (s 26 0 x.toNatClampNeg) rfl ?_
  refine z_istore_n S d_Model_take_6 rfl (Nat.le_of_ble_eq_true rfl) [(2, .int (s 26 0 x.toNatClampNeg)), (0, .ref (ad 0 0)), (1, .int x)] rfl 7 rfl ?_
  refine z_aload_n S d_Model_take_7 rfl 1 rfl 8 rfl ?_
  refine z_dup S d_Model_take_8 rfl 9 rfl ?_
  refine z_get S hK hin_Model rm_0 rC_0 rfl 25 (Nat.le_of_ble_eq_true rfl) (ht _ w_565) (fun _ h => h) d_Model_take_9 12 rfl (.int (s 0 25 0)) rfl ?_
  refine z_iconst S d_Model_take_12 1 (by decide) 13 rfl ?_
  refine z_isub S d_Model_take_13 14 rfl ?_
  refine z_put S hJ hK hin_Model t_Model ok_Model nm_Model rm_0 rC_0 rfl 25 (Nat.le_of_ble_eq_true rfl) (ht _ w_565) (fun _ h => h) rfl rfl rfl (Nat.le_of_ble_eq_true rfl) rup_25 d_Model_take_14 17 rfl ?_
  refine z_iload_n S d_Model_take_17 rfl 2 rfl 18 rfl ?_
  refine z_istore_n S d_Model_take_18 rfl (Nat.le_of_ble_eq_true rfl) [(3, .int x), (2, .int (s 26 0 x.toNatClampNeg)), (0, .ref (ad 0 0)), (1, .int x)] rfl 19 rfl ?_
  have hw1 : (s 0 25 0) - 1 = nI ((s 0 25 0).toNatClampNeg - 1) := by
    have h1 := vp_lt hx
    have h2 := vp_eq hW
    obtain ⟨k, hk⟩ : ∃ k, (s 0 25 0).toNatClampNeg = k + 1 := ⟨_, (Nat.sub_add_cancel (by omega : 1 ≤ (s 0 25 0).toNatClampNeg)).symm⟩
    rw [h2, nI_clamp (by have := vp_lt hW; omega), hk, nI_pred]
    rfl
  have hw2 := vp_lt hW
  have loop : ∀ (k j : Nat) (z : Int32) (g : Nat → Int32), z = nI j → j + k = (s 0 25 0).toNatClampNeg - 1 → rowR k j g = rowR ((s 0 25 0).toNatClampNeg - 1 - x.toNatClampNeg) x.toNatClampNeg (s 26 0) → zG pP l eE (headSpec ws_Model_take ({ frames := 0, cells := 0, slots := 0, locals := 0 })).room U mM ([.ref (ad 0 0), .int x] : List Value).toArray bL mT cO 4 (MQ bL (zQ D zCl (rRL) ad (some (.int (s 26 0 x.toNatClampNeg))) (rC K ad (uA (u3 s 0 25 0 ((s 0 25 0) - 1)) 26 0 (rowR ((s 0 25 0).toNatClampNeg - 1 - x.toNatClampNeg) x.toNatClampNeg (s 26 0))))) ([.ref (ad 0 0), .int x] : List Value).toArray U 0 0 (zw_A (rRL) ad)) (zI D zCl (rRL) ad U.heap (rC K ad (uA (u3 s 0 25 0 ((s 0 25 0) - 1)) 26 0 g))) 0 0 19 [(3, .int z), (2, .int (s 26 0 x.toNatClampNeg)), (0, .ref (ad 0 0)), (1, .int x)] [] := by
    intro k
    induction k with
    | zero =>
      intro j z g hz hj hT
      subst hz
      refine z_iload_n S d_Model_take_19 rfl 0 rfl 20 rfl ?_
      refine z_aload_n S d_Model_take_20 rfl 2 rfl 21 rfl ?_
      refine z_get S hK hin_Model rm_0 rC_0 rfl 25 (Nat.le_of_ble_eq_true rfl) (ht _ w_565) (fun _ h => h) d_Model_take_21 24 rfl (.int ((s 0 25 0) - 1)) rfl ?_
      refine z_icmp_ge S d_Model_take_24 47 (by decide) 27 rfl (fun h1 => ?_) (fun h1 => ?_)
      · refine z_iload_n S d_Model_take_47 rfl 1 rfl 48 rfl ?_
        exact z_iret S hr hlk d_Model_take_48 rfl (rC_eq (by rw [← hT]; rfl))
      · exact absurd (by rw [hw1]; exact nI_le (by omega) (by omega)) h1
    | succ k ih =>
      intro j z g hz hj hT
      subst hz
      refine z_iload_n S d_Model_take_19 rfl 0 rfl 20 rfl ?_
      refine z_aload_n S d_Model_take_20 rfl 2 rfl 21 rfl ?_
      refine z_get S hK hin_Model rm_0 rC_0 rfl 25 (Nat.le_of_ble_eq_true rfl) (ht _ w_565) (fun _ h => h) d_Model_take_21 24 rfl (.int ((s 0 25 0) - 1)) rfl ?_
      refine z_icmp_ge S d_Model_take_24 47 (by decide) 27 rfl (fun h2 => ?_) (fun h2 => ?_)
      · exact absurd h2 (by rw [hw1]; exact nI_ge (by omega) (by omega))
      · refine z_aload_n S d_Model_take_27 rfl 2 rfl 28 rfl ?_
        refine z_get S hK hin_Model rm_0 rC_0 rfl 26 (Nat.le_of_ble_eq_true rfl) (ht _ w_566) (fun _ h => h) d_Model_take_28 31 rfl (.ref (ad 26 0)) rfl ?_
        refine z_iload_n S d_Model_take_31 rfl 0 rfl 32 rfl ?_
        refine z_aload_n S d_Model_take_32 rfl 2 rfl 33 rfl ?_
        refine z_get S hK hin_Model rm_0 rC_0 rfl 26 (Nat.le_of_ble_eq_true rfl) (ht _ w_566) (fun _ h => h) d_Model_take_33 36 rfl (.ref (ad 26 0)) rfl ?_
        refine z_iload_n S d_Model_take_36 rfl 0 rfl 37 rfl ?_
        refine z_iconst S d_Model_take_37 1 (by decide) 38 rfl ?_
        refine z_iadd S d_Model_take_38 39 rfl ?_
        refine z_iald S hK rm_26 0 rC_26 rfl (by rw [nI_1]; exact nI_in (by omega) (by omega)) d_Model_take_39 40 rfl ((uA (u3 s 0 25 0 ((s 0 25 0) - 1)) 26 0 g) 26 0 (((nI j) + 1).toNatClampNeg)) rfl ?_
        refine z_iast S hJ hK rm_26 0 rC_26 rfl (nI_in (by omega) (by omega)) rfl rupI_26 d_Model_take_40 41 rfl ?_
        refine z_iinc S d_Model_take_41 0 rfl (nI_i1 _) (Nat.le_of_ble_eq_true rfl) [(3, .int (nI (j + 1))), (2, .int (s 26 0 x.toNatClampNeg)), (0, .ref (ad 0 0)), (1, .int x)] rfl 44 rfl ?_
        refine z_goto S d_Model_take_44 19 (by decide) ?_
        have e1 : (nI j).toNatClampNeg = j := nI_clamp (by omega)
        have e2 : (nI j + 1).toNatClampNeg = j + 1 := by rw [nI_1]; exact nI_clamp (by omega)
        refine z_to (C2 := rC K ad (uA (u3 s 0 25 0 ((s 0 25 0) - 1)) 26 0 (upd g j (g (j + 1))))) (rC_eq (by rw [e1, e2]; exact u3_uA)) ?_
        exact ih (j + 1) _ _ rfl (by omega) hT
  refine z_to (C2 := rC K ad (uA (u3 s 0 25 0 ((s 0 25 0) - 1)) 26 0 (s 26 0))) (rC_eq (uA_id (u3 s 0 25 0 ((s 0 25 0) - 1)) 26 0).symm) ?_
  exact loop _ _ x _ (vp_eq hx) (by have := vp_lt hx; omega) rfl
theorem d_Model_answer_0 : decode prog_11_method_6_code 0 = .ok (.aload_n 0, 1) := by decide +kernel
theorem d_Model_answer_1 : decode prog_11_method_6_code 1 = .ok (.bipush 8, 2) := by decide +kernel
theorem d_Model_answer_3 : decode prog_11_method_6_code 3 = .ok (.aload_n 0, 1) := by decide +kernel
theorem d_Model_answer_4 : decode prog_11_method_6_code 4 = .ok (.getfield 7, 3) := by decide +kernel
theorem d_Model_answer_7 : decode prog_11_method_6_code 7 = .ok (.iload_n 1, 1) := by decide +kernel
theorem d_Model_answer_8 : decode prog_11_method_6_code 8 = .ok (.iaload, 1) := by decide +kernel
theorem d_Model_answer_9 : decode prog_11_method_6_code 9 = .ok (.invokevirtual 115, 3) := by decide +kernel
theorem d_Model_answer_12 : decode prog_11_method_6_code 12 = .ok (.istore_n 3, 1) := by decide +kernel
theorem d_Model_answer_13 : decode prog_11_method_6_code 13 = .ok (.aload_n 0, 1) := by decide +kernel
theorem d_Model_answer_14 : decode prog_11_method_6_code 14 = .ok (.getfield 87, 3) := by decide +kernel
theorem d_Model_answer_17 : decode prog_11_method_6_code 17 = .ok (.iload_n 3, 1) := by decide +kernel
theorem d_Model_answer_18 : decode prog_11_method_6_code 18 = .ok (.aload_n 0, 1) := by decide +kernel
theorem d_Model_answer_19 : decode prog_11_method_6_code 19 = .ok (.getfield 13, 3) := by decide +kernel
theorem d_Model_answer_22 : decode prog_11_method_6_code 22 = .ok (.iload_n 1, 1) := by decide +kernel
theorem d_Model_answer_23 : decode prog_11_method_6_code 23 = .ok (.iaload, 1) := by decide +kernel
theorem d_Model_answer_24 : decode prog_11_method_6_code 24 = .ok (.iastore, 1) := by decide +kernel
theorem d_Model_answer_25 : decode prog_11_method_6_code 25 = .ok (.aload_n 0, 1) := by decide +kernel
theorem d_Model_answer_26 : decode prog_11_method_6_code 26 = .ok (.getfield 102, 3) := by decide +kernel
theorem d_Model_answer_29 : decode prog_11_method_6_code 29 = .ok (.iload_n 3, 1) := by decide +kernel
theorem d_Model_answer_30 : decode prog_11_method_6_code 30 = .ok (.iload_n 2, 1) := by decide +kernel
theorem d_Model_answer_31 : decode prog_11_method_6_code 31 = .ok (.iastore, 1) := by decide +kernel
theorem d_Model_answer_32 : decode prog_11_method_6_code 32 = .ok (.return_, 1) := by decide +kernel
def S_Model_answer (s : S3) (o : Int32) (r : Int32) : S3 := u3 (u3 (S_Model_post s 8 (s 3 0 o.toNatClampNeg)) 30 0 ((ppF (s 0 25 0) (s 27 0)).toNatClampNeg) (s 4 0 o.toNatClampNeg)) 35 0 ((ppF (s 0 25 0) (s 27 0)).toNatClampNeg) r
set_option maxHeartbeats 4000000 in
set_option maxRecDepth 100000 in
theorem c_Model_answer {l : Launch} {D : va_G} {K : Nat → ClassId} {ad : Nat → Nat → Nat} {s : S3} {o r : Int32} (hJ : zw_J (rRL) ad) (hW : vp_in (s 0 25 0) 33) (hB : fB s) (ho : vp_in o 512) : zM l y_Model_answer ws_Model_answer ({ frames := 1, cells := 0, slots := 0, locals := 23 }) D zCl (zTys K) (rRL) ad [.ref (ad 0 0), .int o, .int r] (rC K ad s) (none) (rC K ad (S_Model_answer s o r)) := by
  refine zM.of (cc := prog_11_method_6_code) (maxL := 4) (ret := (Option.none : Option Jvm.ClassFile.FieldType)) (by decide) rfl (Nat.le_of_ble_eq_true rfl) ?_
  intro pP eE U mM bL mT cO S hr hlk hK
  have hts := S.2.2.2.2
  have ht := fun w h => hts w (List.mem_cons_of_mem _ h)
  refine z_aload_n S d_Model_answer_0 rfl 0 rfl 1 rfl ?_
  refine z_bipush S d_Model_answer_1 8 (by decide) 3 rfl ?_
  refine z_aload_n S d_Model_answer_3 rfl 0 rfl 4 rfl ?_
  refine z_get S hK hin_Model rm_0 rC_0 rfl 3 (Nat.le_of_ble_eq_true rfl) (ht _ w_543) (fun _ h => h) d_Model_answer_4 7 rfl (.ref (ad 3 0)) rfl ?_
  refine z_iload_n S d_Model_answer_7 rfl 1 rfl 8 rfl ?_
  refine z_iald S hK rm_3 0 rC_3 rfl ho d_Model_answer_8 9 rfl (s 3 0 o.toNatClampNeg) rfl ?_
  refine z_callV S hK (As := [.int 8, .int (s 3 0 o.toNatClampNeg)]) (rest := []) (c_Model_post (k := 8) (a := s 3 0 o.toNatClampNeg) hJ hW hB) (cw_Model_post hts w_678 rfl rfl ⟨(Nat.le_of_ble_eq_true rfl), (Nat.le_of_ble_eq_true rfl)⟩) rm_0 rC_0 rfl rfl rfl (Nat.le_of_ble_eq_true rfl) d_Model_answer_9 12 rfl [.int (ppF (s 0 25 0) (s 27 0))] rfl ?_
  refine z_istore_n S d_Model_answer_12 rfl (Nat.le_of_ble_eq_true rfl) [(3, .int (ppF (s 0 25 0) (s 27 0))), (0, .ref (ad 0 0)), (1, .int o), (2, .int r)] rfl 13 rfl ?_
  refine z_aload_n S d_Model_answer_13 rfl 1 rfl 14 rfl ?_
  refine z_get S hK hin_Model rm_0 rC_0 rfl 30 (Nat.le_of_ble_eq_true rfl) (ht _ w_570) (fun _ h => h) d_Model_answer_14 17 rfl (.ref (ad 30 0)) rfl ?_
  refine z_iload_n S d_Model_answer_17 rfl 0 rfl 18 rfl ?_
  refine z_aload_n S d_Model_answer_18 rfl 1 rfl 19 rfl ?_
  refine z_get S hK hin_Model rm_0 rC_0 rfl 4 (Nat.le_of_ble_eq_true rfl) (ht _ w_544) (fun _ h => h) d_Model_answer_19 22 rfl (.ref (ad 4 0)) rfl ?_
  refine z_iload_n S d_Model_answer_22 rfl 2 rfl 23 rfl ?_
  refine z_iald S hK rm_4 0 rC_4 rfl ho d_Model_answer_23 24 rfl (s 4 0 o.toNatClampNeg) rfl ?_
  refine z_iast S hJ hK rm_30 0 rC_30 rfl (pp_in hB) rfl rupI_30 d_Model_answer_24 25 rfl ?_
  refine z_aload_n S d_Model_answer_25 rfl 1 rfl 26 rfl ?_
  refine z_get S hK hin_Model rm_0 rC_0 rfl 35 (Nat.le_of_ble_eq_true rfl) (ht _ w_575) (fun _ h => h) d_Model_answer_26 29 rfl (.ref (ad 35 0)) rfl ?_
  refine z_iload_n S d_Model_answer_29 rfl 0 rfl 30 rfl ?_
  refine z_iload_n S d_Model_answer_30 rfl 3 rfl 31 rfl ?_
  refine z_iast S hJ hK rm_35 0 rC_35 rfl (pp_in hB) rfl rupI_35 d_Model_answer_31 32 rfl ?_
  exact z_vret S hr hlk d_Model_answer_32 (rC_eq rfl)
theorem d_Model_sendPass_0 : decode prog_11_method_8_code 0 = .ok (.aload_n 0, 1) := by decide +kernel
theorem d_Model_sendPass_1 : decode prog_11_method_8_code 1 = .ok (.iconst 5, 1) := by decide +kernel
theorem d_Model_sendPass_2 : decode prog_11_method_8_code 2 = .ok (.aload_n 0, 1) := by decide +kernel
theorem d_Model_sendPass_3 : decode prog_11_method_8_code 3 = .ok (.getfield 32, 3) := by decide +kernel
theorem d_Model_sendPass_6 : decode prog_11_method_8_code 6 = .ok (.iload_n 1, 1) := by decide +kernel
theorem d_Model_sendPass_7 : decode prog_11_method_8_code 7 = .ok (.iaload, 1) := by decide +kernel
theorem d_Model_sendPass_8 : decode prog_11_method_8_code 8 = .ok (.invokevirtual 115, 3) := by decide +kernel
theorem d_Model_sendPass_11 : decode prog_11_method_8_code 11 = .ok (.istore_n 2, 1) := by decide +kernel
theorem d_Model_sendPass_12 : decode prog_11_method_8_code 12 = .ok (.aload_n 0, 1) := by decide +kernel
theorem d_Model_sendPass_13 : decode prog_11_method_8_code 13 = .ok (.getfield 87, 3) := by decide +kernel
theorem d_Model_sendPass_16 : decode prog_11_method_8_code 16 = .ok (.iload_n 2, 1) := by decide +kernel
theorem d_Model_sendPass_17 : decode prog_11_method_8_code 17 = .ok (.aload_n 0, 1) := by decide +kernel
theorem d_Model_sendPass_18 : decode prog_11_method_8_code 18 = .ok (.getfield 26, 3) := by decide +kernel
theorem d_Model_sendPass_21 : decode prog_11_method_8_code 21 = .ok (.iload_n 1, 1) := by decide +kernel
theorem d_Model_sendPass_22 : decode prog_11_method_8_code 22 = .ok (.iaload, 1) := by decide +kernel
theorem d_Model_sendPass_23 : decode prog_11_method_8_code 23 = .ok (.iastore, 1) := by decide +kernel
theorem d_Model_sendPass_24 : decode prog_11_method_8_code 24 = .ok (.aload_n 0, 1) := by decide +kernel
theorem d_Model_sendPass_25 : decode prog_11_method_8_code 25 = .ok (.getfield 96, 3) := by decide +kernel
theorem d_Model_sendPass_28 : decode prog_11_method_8_code 28 = .ok (.iload_n 2, 1) := by decide +kernel
theorem d_Model_sendPass_29 : decode prog_11_method_8_code 29 = .ok (.aload_n 0, 1) := by decide +kernel
theorem d_Model_sendPass_30 : decode prog_11_method_8_code 30 = .ok (.getfield 56, 3) := by decide +kernel
theorem d_Model_sendPass_33 : decode prog_11_method_8_code 33 = .ok (.iload_n 1, 1) := by decide +kernel
theorem d_Model_sendPass_34 : decode prog_11_method_8_code 34 = .ok (.iaload, 1) := by decide +kernel
theorem d_Model_sendPass_35 : decode prog_11_method_8_code 35 = .ok (.iastore, 1) := by decide +kernel
theorem d_Model_sendPass_36 : decode prog_11_method_8_code 36 = .ok (.aload_n 0, 1) := by decide +kernel
theorem d_Model_sendPass_37 : decode prog_11_method_8_code 37 = .ok (.getfield 99, 3) := by decide +kernel
theorem d_Model_sendPass_40 : decode prog_11_method_8_code 40 = .ok (.iload_n 2, 1) := by decide +kernel
theorem d_Model_sendPass_41 : decode prog_11_method_8_code 41 = .ok (.aload_n 0, 1) := by decide +kernel
theorem d_Model_sendPass_42 : decode prog_11_method_8_code 42 = .ok (.getfield 53, 3) := by decide +kernel
theorem d_Model_sendPass_45 : decode prog_11_method_8_code 45 = .ok (.iload_n 1, 1) := by decide +kernel
theorem d_Model_sendPass_46 : decode prog_11_method_8_code 46 = .ok (.iaload, 1) := by decide +kernel
theorem d_Model_sendPass_47 : decode prog_11_method_8_code 47 = .ok (.iastore, 1) := by decide +kernel
theorem d_Model_sendPass_48 : decode prog_11_method_8_code 48 = .ok (.return_, 1) := by decide +kernel
def S_Model_sendPass (s : S3) (x : Int32) : S3 := u3 (u3 (u3 (S_Model_post s 5 (s 10 0 x.toNatClampNeg)) 30 0 ((ppF (s 0 25 0) (s 27 0)).toNatClampNeg) (s 8 0 x.toNatClampNeg)) 33 0 ((ppF (s 0 25 0) (s 27 0)).toNatClampNeg) (s 19 0 x.toNatClampNeg)) 34 0 ((ppF (s 0 25 0) (s 27 0)).toNatClampNeg) (s 18 0 x.toNatClampNeg)
set_option maxHeartbeats 4000000 in
set_option maxRecDepth 100000 in
theorem c_Model_sendPass {l : Launch} {D : va_G} {K : Nat → ClassId} {ad : Nat → Nat → Nat} {s : S3} {x : Int32} (hJ : zw_J (rRL) ad) (hW : vp_in (s 0 25 0) 33) (hB : fB s) (hx : vp_in x 5) : zM l y_Model_sendPass ws_Model_sendPass ({ frames := 1, cells := 0, slots := 0, locals := 23 }) D zCl (zTys K) (rRL) ad [.ref (ad 0 0), .int x] (rC K ad s) (none) (rC K ad (S_Model_sendPass s x)) := by
  refine zM.of (cc := prog_11_method_8_code) (maxL := 3) (ret := (Option.none : Option Jvm.ClassFile.FieldType)) (by decide) rfl (Nat.le_of_ble_eq_true rfl) ?_
  intro pP eE U mM bL mT cO S hr hlk hK
  have hts := S.2.2.2.2
  have ht := fun w h => hts w (List.mem_cons_of_mem _ h)
  refine z_aload_n S d_Model_sendPass_0 rfl 0 rfl 1 rfl ?_
  refine z_iconst S d_Model_sendPass_1 5 (by decide) 2 rfl ?_
  refine z_aload_n S d_Model_sendPass_2 rfl 0 rfl 3 rfl ?_
  refine z_get S hK hin_Model rm_0 rC_0 rfl 10 (Nat.le_of_ble_eq_true rfl) (ht _ w_550) (fun _ h => h) d_Model_sendPass_3 6 rfl (.ref (ad 10 0)) rfl ?_
  refine z_iload_n S d_Model_sendPass_6 rfl 1 rfl 7 rfl ?_
  refine z_iald S hK rm_10 0 rC_10 rfl (vp_mono hx (by omega)) d_Model_sendPass_7 8 rfl (s 10 0 x.toNatClampNeg) rfl ?_
  refine z_callV S hK (As := [.int 5, .int (s 10 0 x.toNatClampNeg)]) (rest := []) (c_Model_post (k := 5) (a := s 10 0 x.toNatClampNeg) hJ hW hB) (cw_Model_post hts w_678 rfl rfl ⟨(Nat.le_of_ble_eq_true rfl), (Nat.le_of_ble_eq_true rfl)⟩) rm_0 rC_0 rfl rfl rfl (Nat.le_of_ble_eq_true rfl) d_Model_sendPass_8 11 rfl [.int (ppF (s 0 25 0) (s 27 0))] rfl ?_
  refine z_istore_n S d_Model_sendPass_11 rfl (Nat.le_of_ble_eq_true rfl) [(2, .int (ppF (s 0 25 0) (s 27 0))), (0, .ref (ad 0 0)), (1, .int x)] rfl 12 rfl ?_
  refine z_aload_n S d_Model_sendPass_12 rfl 1 rfl 13 rfl ?_
  refine z_get S hK hin_Model rm_0 rC_0 rfl 30 (Nat.le_of_ble_eq_true rfl) (ht _ w_570) (fun _ h => h) d_Model_sendPass_13 16 rfl (.ref (ad 30 0)) rfl ?_
  refine z_iload_n S d_Model_sendPass_16 rfl 0 rfl 17 rfl ?_
  refine z_aload_n S d_Model_sendPass_17 rfl 1 rfl 18 rfl ?_
  refine z_get S hK hin_Model rm_0 rC_0 rfl 8 (Nat.le_of_ble_eq_true rfl) (ht _ w_548) (fun _ h => h) d_Model_sendPass_18 21 rfl (.ref (ad 8 0)) rfl ?_
  refine z_iload_n S d_Model_sendPass_21 rfl 2 rfl 22 rfl ?_
  refine z_iald S hK rm_8 0 rC_8 rfl (vp_mono hx (by omega)) d_Model_sendPass_22 23 rfl (s 8 0 x.toNatClampNeg) rfl ?_
  refine z_iast S hJ hK rm_30 0 rC_30 rfl (pp_in hB) rfl rupI_30 d_Model_sendPass_23 24 rfl ?_
  refine z_aload_n S d_Model_sendPass_24 rfl 1 rfl 25 rfl ?_
  refine z_get S hK hin_Model rm_0 rC_0 rfl 33 (Nat.le_of_ble_eq_true rfl) (ht _ w_573) (fun _ h => h) d_Model_sendPass_25 28 rfl (.ref (ad 33 0)) rfl ?_
  refine z_iload_n S d_Model_sendPass_28 rfl 0 rfl 29 rfl ?_
  refine z_aload_n S d_Model_sendPass_29 rfl 1 rfl 30 rfl ?_
  refine z_get S hK hin_Model rm_0 rC_0 rfl 19 (Nat.le_of_ble_eq_true rfl) (ht _ w_559) (fun _ h => h) d_Model_sendPass_30 33 rfl (.ref (ad 19 0)) rfl ?_
  refine z_iload_n S d_Model_sendPass_33 rfl 2 rfl 34 rfl ?_
  refine z_iald S hK rm_19 0 rC_19 rfl hx d_Model_sendPass_34 35 rfl (s 19 0 x.toNatClampNeg) rfl ?_
  refine z_iast S hJ hK rm_33 0 rC_33 rfl (pp_in hB) rfl rupI_33 d_Model_sendPass_35 36 rfl ?_
  refine z_aload_n S d_Model_sendPass_36 rfl 1 rfl 37 rfl ?_
  refine z_get S hK hin_Model rm_0 rC_0 rfl 34 (Nat.le_of_ble_eq_true rfl) (ht _ w_574) (fun _ h => h) d_Model_sendPass_37 40 rfl (.ref (ad 34 0)) rfl ?_
  refine z_iload_n S d_Model_sendPass_40 rfl 0 rfl 41 rfl ?_
  refine z_aload_n S d_Model_sendPass_41 rfl 1 rfl 42 rfl ?_
  refine z_get S hK hin_Model rm_0 rC_0 rfl 18 (Nat.le_of_ble_eq_true rfl) (ht _ w_558) (fun _ h => h) d_Model_sendPass_42 45 rfl (.ref (ad 18 0)) rfl ?_
  refine z_iload_n S d_Model_sendPass_45 rfl 2 rfl 46 rfl ?_
  refine z_iald S hK rm_18 0 rC_18 rfl hx d_Model_sendPass_46 47 rfl (s 18 0 x.toNatClampNeg) rfl ?_
  refine z_iast S hJ hK rm_34 0 rC_34 rfl (pp_in hB) rfl rupI_34 d_Model_sendPass_47 48 rfl ?_
  exact z_vret S hr hlk d_Model_sendPass_48 (rC_eq rfl)
