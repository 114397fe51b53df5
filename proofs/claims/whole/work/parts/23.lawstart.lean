set_option maxHeartbeats 4000000 in
set_option maxRecDepth 100000 in
/-- the law from its entry, given what is kept from call to call -/
theorem law_open (hp : ∀ n : Nat, 2 ≤ n → n ≤ 5 → ∃ J : Nat → S3 → (Nat → Nat) → S3 → Prop, opsOK n J ∧ J 0 cS0 cP0 (rS0 n)) {p : Program} {e : Env} {s : State} {m : MethodId} {below : List Frame} {meth : Method} {c : Code} (l : Launch) {b L : Nat} {xs : Nat → Int32} (hL : L ≤ 2561) (C0 : lw_At p s m meth c b L xs) : W p l e room_1 s m #[Value.ref b] below meth c s.heap [] 0 0 (lw_Z below #[Value.ref b] s) (entryFrame m ([Value.ref b] : List Value).toArray 4) := by
  obtain ⟨hx, hb, hret, hml, hown, hts0, hX, hbl, hlk, -⟩ := C0
  have hz : ∀ w ∈ zWs, w.before #[Value.ref b] s = true := fun w h => hts0 w (List.mem_filter.mp h).1
  have S : CallFix p m c code 4 s #[Value.ref b] (Cond.initialized "LeasedViewStoreLaw" :: zWs) "LeasedViewStoreLaw" := ⟨hx, hb, hml, hown, fun w h => (List.mem_cons.mp h).elim (fun e => by rw [e]; exact hz _ w_0) (hz w)⟩
  have hnX := l_nX hts0
  obtain ⟨D, K, hK⟩ := l_K hz hnX
  obtain ⟨hsz, hn2, hn5⟩ := szF_ok (cvF L xs)
  obtain ⟨J, hops, hJ0⟩ := hp (nOf (cvF L xs)) hn2 hn5
  have hA : ∀ q : Nat, s.heap.size ≤ q → (fun q => s.heap.size ≤ q) q := fun q h => h
  have hl := lv_entry ([.ref b]) (n := 4) (Nat.le_of_ble_eq_true rfl)
  rw [lg_entry_eq]
  have key : zG p l e room_1 s m #[Value.ref b] below meth c 4 (lw_Z below #[Value.ref b] s) (cI D (fun q => s.heap.size ≤ q) s.heap []) 0 0 0 [(0, .ref b)] [] := by
    refine n_new S hK hA hin_Store t_Store ok_Store (hz _ w_13) (hz _ w_14) (hz _ w_1) (ci := 0) rfl [.null, .null, .null, .null, .int 0] (by decide) d_law_0 3 rfl 1 5 rfl rfl (Nat.le_of_ble_eq_true rfl) (Nat.le_of_ble_eq_true rfl) (fun q1 => ?_)
    refine z_dup S d_law_3 rfl 4 rfl ?_
    refine z_aload_n S d_law_4 rfl 0 rfl 5 rfl ?_
    refine z_iconst S d_law_5 0 (by decide) 6 rfl ?_
    refine l_cell S hX hbl (Nat.not_le.mpr hbl) hL (Nat.le_of_ble_eq_true rfl) (Nat.le_of_ble_eq_true rfl) (Nat.le_of_ble_eq_true rfl) (Nat.le_of_ble_eq_true rfl) (Nat.le_of_ble_eq_true rfl) d_law_6 9 rfl ?_
    refine n_init S hK hnX hA (As := [.int (cvF L xs)]) (rest := [.ref q1]) [] rfl n_Store (n_cw (n := 1) S.2.2.2.2 w_15 w_16 w_1 w_17 rfl (by decide) rfl rfl ⟨(Nat.le_of_ble_eq_true rfl), (Nat.le_of_ble_eq_true rfl)⟩) rfl rfl (Nat.le_of_ble_eq_true rfl) d_law_9 12 rfl 287 1301 rfl rfl (Nat.le_of_ble_eq_true rfl) (Nat.le_of_ble_eq_true rfl) (fun f hf => ?_)
    subst hf
    refine z_astore_n S d_law_12 rfl (Nat.le_of_ble_eq_true rfl) [(1, .ref (f 0)), (0, .ref b)] rfl 13 rfl ?_
    refine n_new S hK hA hin_Model t_Model ok_Model (hz _ w_534) (hz _ w_535) (hz _ w_11) (ci := 9) rfl [.int 0, .int 0, .int 0, .null, .null, .null, .null, .null, .null, .null, .null, .int 0, .null, .null, .null, .null, .null, .null, .null, .null, .null, .null, .null, .null, .null, .int 0, .null, .null, .null, .null, .null, .null, .null, .null, .null, .null, .null] (by decide) d_law_13 16 rfl 288 1338 rfl rfl (Nat.le_of_ble_eq_true rfl) (Nat.le_of_ble_eq_true rfl) (fun q2 => ?_)
    refine z_dup S d_law_16 rfl 17 rfl ?_
    refine z_aload_n S d_law_17 rfl 1 rfl 18 rfl ?_
    refine z_iconst S d_law_18 0 (by decide) 19 rfl ?_
    refine l_cell S hX hbl (Nat.not_le.mpr hbl) hL (Nat.le_of_ble_eq_true rfl) (Nat.le_of_ble_eq_true rfl) (Nat.le_of_ble_eq_true rfl) (Nat.le_of_ble_eq_true rfl) (Nat.le_of_ble_eq_true rfl) d_law_19 22 rfl ?_
    refine n_init S hK hnX hA (As := [.int (cvF L xs)]) (rest := [.ref q2]) ([] ++ wStore K (nOf (cvF L xs)) f) rfl n_Model (n_cw (n := 1) S.2.2.2.2 w_536 w_537 w_11 w_538 rfl (by decide) rfl rfl ⟨(Nat.le_of_ble_eq_true rfl), (Nat.le_of_ble_eq_true rfl)⟩) rfl rfl (Nat.le_of_ble_eq_true rfl) d_law_22 25 rfl 320 11326 rfl rfl (Nat.le_of_ble_eq_true rfl) (Nat.le_of_ble_eq_true rfl) (fun g hg => ?_)
    subst hg
    refine z_astore_n S d_law_25 rfl (Nat.le_of_ble_eq_true rfl) [(2, .ref (g 0)), (1, .ref (f 0)), (0, .ref b)] rfl 26 rfl ?_
    refine z_iconst S d_law_26 1 (by decide) 27 rfl ?_
    refine z_istore_n S d_law_27 rfl (Nat.le_of_ble_eq_true rfl) [(3, .int 1), (2, .ref (g 0)), (1, .ref (f 0)), (0, .ref b)] rfl 28 rfl ?_
    generalize nOf (cvF L xs) = n at *
    intro H locs ls ⟨hP, hD, hS⟩ hl
    rw [List.nil_append] at hP hD
    have hP1 : va_P D zCl (wStore K n f) H := n_mem.mpr (fun q hq => n_mem.mp hP q (List.mem_append_left _ hq))
    have hP2 : va_P D zCl (wModel K n g) H := n_mem.mpr (fun q hq => n_mem.mp hP q (List.mem_append_right _ hq))
    have hnd := n_nd.mp hD.1
    rw [List.map_append, List.nodup_append] at hnd
    have hD1 : va_D (fun q => q ∈ (wStore K n f).map Prod.fst) (wStore K n f) := ⟨n_nd.mpr hnd.1, fun k q hq => List.mem_map_of_mem (List.mem_of_getElem? hq)⟩
    have hD2 : va_D (fun q => q ∈ (wModel K n g).map Prod.fst) (wModel K n g) := ⟨n_nd.mpr hnd.2.1, fun k q hq => List.mem_map_of_mem (List.mem_of_getElem? hq)⟩
    have hAll : ∀ q, q ∈ (wStore K n f ++ wModel K n g).map Prod.fst → s.heap.size ≤ q := fun q hq => by
      obtain ⟨x, hx, rfl⟩ := List.mem_map.mp hq
      obtain ⟨k, hk⟩ := List.getElem?_of_mem hx
      exact hD.2 k x hk
    have m1 : ∀ q, zw_A (cRL n) (cad n f) q → q ∈ (wStore K n f).map Prod.fst := fun q hq => cad_A hn2 hn5 hD1 q hq
    have m2 : ∀ q, zw_A rRL (rad g) q → q ∈ (wModel K n g).map Prod.fst := fun q hq => rad_A hD2 q hq
    have loop := law_loop (l := l) (e := e) (below := below) S hK hX hbl hL hn5 (cad_J hn2 hn5 hD1) (rad_J hD2) (fun q hq => hAll q (by rw [List.map_append]; exact List.mem_append_left _ (m1 q hq))) (fun q hq => hAll q (by rw [List.map_append]; exact List.mem_append_right _ (m2 q hq))) (fun q h2 h1 => hnd.2.2 q (m1 q h1) q (m2 q h2) rfl) hret hlk hops 512 0 cS0 cP0 (rS0 n) (by omega) (by omega) hJ0
    exact loop H locs ls ⟨cad_P hn5 hP1, by rw [rad_W]; exact hP2, hS⟩ hl
  exact key s.heap [] _ ⟨fun k q hk => by simp at hk, ⟨fun i j x y hi hj _ => by simp at hi, fun k q hk => by simp at hk⟩, va_S.rf⟩ hl
