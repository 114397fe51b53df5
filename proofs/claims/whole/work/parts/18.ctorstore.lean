def szF (x : Int32) : Int32 := if 2 < (if x < 5 then x else 5) then (if x < 5 then x else 5) else 2
def nOf (x : Int32) : Nat := (szF x).toNatClampNeg
theorem szF_ok (x : Int32) : szF x = nI (nOf x) ∧ 2 ≤ nOf x ∧ nOf x ≤ 5 := by
  have key : ∃ j : Nat, 2 ≤ j ∧ j ≤ 5 ∧ szF x = nI j := by
    unfold szF
    by_cases h5 : x < 5
    · rw [if_pos h5]
      by_cases h2 : 2 < x
      · rw [if_pos h2]
        have h0 : ¬ x < 0 := fun h => by
          have := Int32.lt_iff_toInt_lt.mp h
          have := Int32.lt_iff_toInt_lt.mp h2
          simp at *
          omega
        obtain ⟨j, hj, rfl⟩ := nI_of h0
        rw [show (5 : Int32) = nI 5 from rfl, nI_ltI hj (by omega)] at h5
        rw [show (2 : Int32) = nI 2 from rfl, nI_ltI (by omega) hj] at h2
        exact ⟨j, by omega, by omega, rfl⟩
      · rw [if_neg h2]
        exact ⟨2, by omega, by omega, rfl⟩
    · rw [if_neg h5, if_pos (by decide)]
      exact ⟨5, by omega, by omega, rfl⟩
  obtain ⟨j, h1, h2, h3⟩ := key
  have e : nOf x = j := by unfold nOf; rw [h3]; exact nI_clamp (by omega)
  rw [e]
  exact ⟨h3, h1, h2⟩
def srvF (j : Nat) (F : Nat → Nat) : Nat → Option Nat := fun x => if x < j then some (F (2 + 7 * x)) else none
def cliF (j : Nat) (G : Nat → Nat) : Nat → Option Nat := fun x => if x < j then some (G (1 + 2 * x)) else none
def wSrv (K : Nat → ClassId) (j : Nat) (F : Nat → Nat) : va_W := (List.range j).flatMap (fun i => wServer K (nI i) (fun k => F (2 + 7 * i + k)))
def wCli (j : Nat) (G : Nat → Nat) : va_W := (List.range j).flatMap (fun i => wClient (nI i) (fun k => G (1 + 2 * i + k)))
def wStA (K : Nat → ClassId) (N j : Nat) (F : Nat → Nat) : va_W := (F 0, .inr (0, [.ref (F 1), .null, .null, .null, .int 0])) :: (F 1, .inl (K 3, N, .inr (.inr (.inr (.inr (srvF j F)))))) :: wSrv K j F
def wStB (K : Nat → ClassId) (a b : Nat) (X : va_W) (j : Nat) (G : Nat → Nat) : va_W := (a, .inr (0, [.ref b, .ref (G 0), .null, .null, .int 0])) :: (G 0, .inl (K 4, 3, .inr (.inr (.inr (.inr (cliF j G)))))) :: (X ++ wCli j G)
theorem wStA_step {K : Nat → ClassId} {N j : Nat} {F g : Nat → Nat} : (F 0, .inr (0, [.ref (F 1), .null, .null, .null, .int 0])) :: (F 1, .inl (K 3, N, .inr (.inr (.inr (.inr (va_up (srvF j F) j (some (g 0)))))))) :: (wSrv K j F ++ wServer K (nI j) g) = wStA K N (j + 1) (fun k => if k < 2 + 7 * j then F k else g (k - (2 + 7 * j))) := by
  have e0 : ∀ k, k < 2 + 7 * j → (fun k => if k < 2 + 7 * j then F k else g (k - (2 + 7 * j))) k = F k := fun k hk => if_pos hk
  have e1 : ∀ k, (fun k => if k < 2 + 7 * j then F k else g (k - (2 + 7 * j))) (2 + 7 * j + k) = g k := fun k => by
    show (if 2 + 7 * j + k < 2 + 7 * j then _ else _) = _
    rw [if_neg (by omega), Nat.add_sub_cancel_left]
  unfold wStA wSrv
  generalize (fun k => if k < 2 + 7 * j then F k else g (k - (2 + 7 * j))) = F' at e0 e1
  have hr : va_up (srvF j F) j (some (g 0)) = srvF (j + 1) F' := by
    funext x
    unfold va_up srvF
    by_cases hx : x = j
    · subst hx
      rw [if_pos rfl, if_pos (by omega)]
      have := e1 0
      rw [Nat.add_zero] at this
      rw [this]
    · rw [if_neg hx]
      by_cases h2 : x < j
      · rw [if_pos h2, if_pos (by omega), e0 _ (by omega)]
      · rw [if_neg h2, if_neg (by omega)]
  rw [hr, e0 0 (by omega), e0 1 (by omega), fm_succ,
    fm_congr (f := fun i => wServer K (nI i) (fun k => F (2 + 7 * i + k))) (g := fun i => wServer K (nI i) (fun k => F' (2 + 7 * i + k))) (fun x hx => wServer_congr (fun k hk => (e0 _ (by have := List.mem_range.mp hx; omega)).symm)),
    wServer_congr (f := g) (g := fun k => F' (2 + 7 * j + k)) (fun k hk => (e1 k).symm)]
theorem wStB_step {K : Nat → ClassId} {a b j : Nat} {X : va_W} {G g : Nat → Nat} : (a, .inr (0, [.ref b, .ref (G 0), .null, .null, .int 0])) :: (G 0, .inl (K 4, 3, .inr (.inr (.inr (.inr (va_up (cliF j G) j (some (g 0)))))))) :: ((X ++ wCli j G) ++ wClient (nI j) g) = wStB K a b X (j + 1) (fun k => if k < 1 + 2 * j then G k else g (k - (1 + 2 * j))) := by
  have e0 : ∀ k, k < 1 + 2 * j → (fun k => if k < 1 + 2 * j then G k else g (k - (1 + 2 * j))) k = G k := fun k hk => if_pos hk
  have e1 : ∀ k, (fun k => if k < 1 + 2 * j then G k else g (k - (1 + 2 * j))) (1 + 2 * j + k) = g k := fun k => by
    show (if 1 + 2 * j + k < 1 + 2 * j then _ else _) = _
    rw [if_neg (by omega), Nat.add_sub_cancel_left]
  unfold wStB wCli
  generalize (fun k => if k < 1 + 2 * j then G k else g (k - (1 + 2 * j))) = G' at e0 e1
  have hr : va_up (cliF j G) j (some (g 0)) = cliF (j + 1) G' := by
    funext x
    unfold va_up cliF
    by_cases hx : x = j
    · subst hx
      rw [if_pos rfl, if_pos (by omega)]
      have := e1 0
      rw [Nat.add_zero] at this
      rw [this]
    · rw [if_neg hx]
      by_cases h2 : x < j
      · rw [if_pos h2, if_pos (by omega), e0 _ (by omega)]
      · rw [if_neg h2, if_neg (by omega)]
  rw [hr, e0 0 (by omega), fm_succ,
    fm_congr (f := fun i => wClient (nI i) (fun k => G (1 + 2 * i + k))) (g := fun i => wClient (nI i) (fun k => G' (1 + 2 * i + k))) (fun x hx => wClient_congr (fun k hk => (e0 _ (by have := List.mem_range.mp hx; omega)).symm)),
    wClient_congr (f := g) (g := fun k => G' (1 + 2 * j + k)) (fun k hk => (e1 k).symm), List.append_assoc]
theorem wService_congr {K : Nat → ClassId} {n : Nat} {f g : Nat → Nat} (h : ∀ k, k < 3 → f k = g k) : wService K n f = wService K n g := by
  unfold wService
  rw [h 0 (by omega), h 1 (by omega), h 2 (by omega)]
/-- a new store of N servers -/
def wStore (K : Nat → ClassId) (N : Nat) (f : Nat → Nat) : va_W := (f 0, .inr (0, [.ref (f 1), .ref (f (2 + 7 * N)), .ref (f (9 + 7 * N)), .ref (f (12 + 7 * N)), .int 0])) :: (f (2 + 7 * N), .inl (K 4, 3, .inr (.inr (.inr (.inr (cliF 3 (fun k => f (2 + 7 * N + k)))))))) :: (((f 1, .inl (K 3, N, .inr (.inr (.inr (.inr (srvF N f)))))) :: wSrv K N f) ++ wCli 3 (fun k => f (2 + 7 * N + k))) ++ wService K N (fun k => f (9 + 7 * N + k)) ++ wPostJ K 33 (fun k => f (12 + 7 * N + k))
theorem wStore_of {K : Nat → ClassId} {N : Nat} {F G f3 f4 : Nat → Nat} : (F 0, .inr (0, [.ref (F 1), .ref (G 0), .ref (f3 0), .ref (f4 0), .int 0])) :: (G 0, .inl (K 4, 3, .inr (.inr (.inr (.inr (cliF 3 G)))))) :: (((F 1, .inl (K 3, N, .inr (.inr (.inr (.inr (srvF N F)))))) :: wSrv K N F) ++ wCli 3 G) ++ wService K N f3 ++ wPostJ K 33 f4 =
    wStore K N (fun k => if k < 2 + 7 * N then F k else if k < 9 + 7 * N then G (k - (2 + 7 * N)) else if k < 12 + 7 * N then f3 (k - (9 + 7 * N)) else f4 (k - (12 + 7 * N))) := by
  have e0 : ∀ k, k < 2 + 7 * N → (fun k => if k < 2 + 7 * N then F k else if k < 9 + 7 * N then G (k - (2 + 7 * N)) else if k < 12 + 7 * N then f3 (k - (9 + 7 * N)) else f4 (k - (12 + 7 * N))) k = F k := fun k hk => if_pos hk
  have e1 : ∀ k, k < 7 → (fun k => if k < 2 + 7 * N then F k else if k < 9 + 7 * N then G (k - (2 + 7 * N)) else if k < 12 + 7 * N then f3 (k - (9 + 7 * N)) else f4 (k - (12 + 7 * N))) (2 + 7 * N + k) = G k := fun k hk => by
    show (if 2 + 7 * N + k < 2 + 7 * N then _ else if 2 + 7 * N + k < 9 + 7 * N then _ else _) = _
    rw [if_neg (by omega), if_pos (by omega), Nat.add_sub_cancel_left]
  have e2 : ∀ k, k < 3 → (fun k => if k < 2 + 7 * N then F k else if k < 9 + 7 * N then G (k - (2 + 7 * N)) else if k < 12 + 7 * N then f3 (k - (9 + 7 * N)) else f4 (k - (12 + 7 * N))) (9 + 7 * N + k) = f3 k := fun k hk => by
    show (if 9 + 7 * N + k < 2 + 7 * N then _ else if 9 + 7 * N + k < 9 + 7 * N then _ else if 9 + 7 * N + k < 12 + 7 * N then _ else _) = _
    rw [if_neg (by omega), if_neg (by omega), if_pos (by omega), Nat.add_sub_cancel_left]
  have e3 : (fun k => (fun k => if k < 2 + 7 * N then F k else if k < 9 + 7 * N then G (k - (2 + 7 * N)) else if k < 12 + 7 * N then f3 (k - (9 + 7 * N)) else f4 (k - (12 + 7 * N))) (12 + 7 * N + k)) = f4 := by
    funext k
    show (if 12 + 7 * N + k < 2 + 7 * N then _ else if 12 + 7 * N + k < 9 + 7 * N then _ else if 12 + 7 * N + k < 12 + 7 * N then _ else _) = _
    rw [if_neg (by omega), if_neg (by omega), if_neg (by omega), Nat.add_sub_cancel_left]
  unfold wStore
  generalize (fun k => if k < 2 + 7 * N then F k else if k < 9 + 7 * N then G (k - (2 + 7 * N)) else if k < 12 + 7 * N then f3 (k - (9 + 7 * N)) else f4 (k - (12 + 7 * N))) = f at e0 e1 e2 e3
  have h3 : f (12 + 7 * N) = f4 0 := congrFun e3 0
  have hs : srvF N f = srvF N F := by
    funext x
    unfold srvF
    by_cases h : x < N
    · rw [if_pos h, if_pos h, e0 _ (by omega)]
    · rw [if_neg h, if_neg h]
  have hc : cliF 3 (fun k => f (2 + 7 * N + k)) = cliF 3 G := by
    funext x
    unfold cliF
    by_cases h : x < 3
    · rw [if_pos h, if_pos h]
      exact congrArg some (e1 _ (by omega))
    · rw [if_neg h, if_neg h]
  have hw : wSrv K N f = wSrv K N F := fm_congr (fun x hx => wServer_congr (fun k hk => e0 _ (by have := List.mem_range.mp hx; omega)))
  have hv : wCli 3 (fun k => f (2 + 7 * N + k)) = wCli 3 G := fm_congr (fun x hx => wClient_congr (fun k hk => e1 _ (by have := List.mem_range.mp hx; omega)))
  have a1 := e1 0 (by omega)
  have a2 := e2 0 (by omega)
  rw [Nat.add_zero] at a1 a2
  rw [e3, h3, hs, hc, hw, hv, e0 0 (by omega), e0 1 (by omega), a1, a2, wService_congr (f := fun k => f (9 + 7 * N + k)) (g := f3) (fun k hk => e2 k hk)]
theorem d_Store_init_0 : decode prog_1_method_1_code 0 = .ok (.aload_n 0, 1) := by decide +kernel
theorem d_Store_init_1 : decode prog_1_method_1_code 1 = .ok (.invokespecial 1, 3) := by decide +kernel
theorem d_Store_init_4 : decode prog_1_method_1_code 4 = .ok (.iconst 2, 1) := by decide +kernel
theorem d_Store_init_5 : decode prog_1_method_1_code 5 = .ok (.iconst 5, 1) := by decide +kernel
theorem d_Store_init_6 : decode prog_1_method_1_code 6 = .ok (.iload_n 1, 1) := by decide +kernel
theorem d_Store_init_7 : decode prog_1_method_1_code 7 = .ok (.invokestatic 9, 3) := by decide +kernel
theorem d_Store_init_10 : decode prog_1_method_1_code 10 = .ok (.invokestatic 15, 3) := by decide +kernel
theorem d_Store_init_13 : decode prog_1_method_1_code 13 = .ok (.istore_n 2, 1) := by decide +kernel
theorem d_Store_init_14 : decode prog_1_method_1_code 14 = .ok (.aload_n 0, 1) := by decide +kernel
theorem d_Store_init_15 : decode prog_1_method_1_code 15 = .ok (.iload_n 2, 1) := by decide +kernel
theorem d_Store_init_16 : decode prog_1_method_1_code 16 = .ok (.anewarray 18, 3) := by decide +kernel
theorem d_Store_init_19 : decode prog_1_method_1_code 19 = .ok (.putfield 20, 3) := by decide +kernel
theorem d_Store_init_22 : decode prog_1_method_1_code 22 = .ok (.iconst 0, 1) := by decide +kernel
theorem d_Store_init_23 : decode prog_1_method_1_code 23 = .ok (.istore_n 3, 1) := by decide +kernel
theorem d_Store_init_24 : decode prog_1_method_1_code 24 = .ok (.iload_n 3, 1) := by decide +kernel
theorem d_Store_init_25 : decode prog_1_method_1_code 25 = .ok (.iload_n 2, 1) := by decide +kernel
theorem d_Store_init_26 : decode prog_1_method_1_code 26 = .ok (.if_icmp .ge 23, 3) := by decide +kernel
theorem d_Store_init_29 : decode prog_1_method_1_code 29 = .ok (.aload_n 0, 1) := by decide +kernel
theorem d_Store_init_30 : decode prog_1_method_1_code 30 = .ok (.getfield 20, 3) := by decide +kernel
theorem d_Store_init_33 : decode prog_1_method_1_code 33 = .ok (.iload_n 3, 1) := by decide +kernel
theorem d_Store_init_34 : decode prog_1_method_1_code 34 = .ok (.new 18, 3) := by decide +kernel
theorem d_Store_init_37 : decode prog_1_method_1_code 37 = .ok (.dup, 1) := by decide +kernel
theorem d_Store_init_38 : decode prog_1_method_1_code 38 = .ok (.iload_n 3, 1) := by decide +kernel
theorem d_Store_init_39 : decode prog_1_method_1_code 39 = .ok (.invokespecial 24, 3) := by decide +kernel
theorem d_Store_init_42 : decode prog_1_method_1_code 42 = .ok (.aastore, 1) := by decide +kernel
theorem d_Store_init_43 : decode prog_1_method_1_code 43 = .ok (.iinc 3 1, 3) := by decide +kernel
theorem d_Store_init_46 : decode prog_1_method_1_code 46 = .ok (.goto (-22), 3) := by decide +kernel
theorem d_Store_init_49 : decode prog_1_method_1_code 49 = .ok (.aload_n 0, 1) := by decide +kernel
theorem d_Store_init_50 : decode prog_1_method_1_code 50 = .ok (.iconst 3, 1) := by decide +kernel
theorem d_Store_init_51 : decode prog_1_method_1_code 51 = .ok (.anewarray 27, 3) := by decide +kernel
theorem d_Store_init_54 : decode prog_1_method_1_code 54 = .ok (.putfield 29, 3) := by decide +kernel
theorem d_Store_init_57 : decode prog_1_method_1_code 57 = .ok (.iconst 0, 1) := by decide +kernel
theorem d_Store_init_58 : decode prog_1_method_1_code 58 = .ok (.istore_n 3, 1) := by decide +kernel
theorem d_Store_init_59 : decode prog_1_method_1_code 59 = .ok (.iload_n 3, 1) := by decide +kernel
theorem d_Store_init_60 : decode prog_1_method_1_code 60 = .ok (.iconst 3, 1) := by decide +kernel
theorem d_Store_init_61 : decode prog_1_method_1_code 61 = .ok (.if_icmp .ge 23, 3) := by decide +kernel
theorem d_Store_init_64 : decode prog_1_method_1_code 64 = .ok (.aload_n 0, 1) := by decide +kernel
theorem d_Store_init_65 : decode prog_1_method_1_code 65 = .ok (.getfield 29, 3) := by decide +kernel
theorem d_Store_init_68 : decode prog_1_method_1_code 68 = .ok (.iload_n 3, 1) := by decide +kernel
theorem d_Store_init_69 : decode prog_1_method_1_code 69 = .ok (.new 27, 3) := by decide +kernel
theorem d_Store_init_72 : decode prog_1_method_1_code 72 = .ok (.dup, 1) := by decide +kernel
theorem d_Store_init_73 : decode prog_1_method_1_code 73 = .ok (.iload_n 3, 1) := by decide +kernel
theorem d_Store_init_74 : decode prog_1_method_1_code 74 = .ok (.invokespecial 33, 3) := by decide +kernel
theorem d_Store_init_77 : decode prog_1_method_1_code 77 = .ok (.aastore, 1) := by decide +kernel
theorem d_Store_init_78 : decode prog_1_method_1_code 78 = .ok (.iinc 3 1, 3) := by decide +kernel
theorem d_Store_init_81 : decode prog_1_method_1_code 81 = .ok (.goto (-22), 3) := by decide +kernel
theorem d_Store_init_84 : decode prog_1_method_1_code 84 = .ok (.aload_n 0, 1) := by decide +kernel
theorem d_Store_init_85 : decode prog_1_method_1_code 85 = .ok (.new 34, 3) := by decide +kernel
theorem d_Store_init_88 : decode prog_1_method_1_code 88 = .ok (.dup, 1) := by decide +kernel
theorem d_Store_init_89 : decode prog_1_method_1_code 89 = .ok (.iload_n 2, 1) := by decide +kernel
theorem d_Store_init_90 : decode prog_1_method_1_code 90 = .ok (.invokespecial 36, 3) := by decide +kernel
theorem d_Store_init_93 : decode prog_1_method_1_code 93 = .ok (.putfield 37, 3) := by decide +kernel
theorem d_Store_init_96 : decode prog_1_method_1_code 96 = .ok (.aload_n 0, 1) := by decide +kernel
theorem d_Store_init_97 : decode prog_1_method_1_code 97 = .ok (.new 41, 3) := by decide +kernel
theorem d_Store_init_100 : decode prog_1_method_1_code 100 = .ok (.dup, 1) := by decide +kernel
theorem d_Store_init_101 : decode prog_1_method_1_code 101 = .ok (.invokespecial 43, 3) := by decide +kernel
theorem d_Store_init_104 : decode prog_1_method_1_code 104 = .ok (.putfield 44, 3) := by decide +kernel
theorem d_Store_init_107 : decode prog_1_method_1_code 107 = .ok (.aload_n 0, 1) := by decide +kernel
theorem d_Store_init_108 : decode prog_1_method_1_code 108 = .ok (.iconst 0, 1) := by decide +kernel
theorem d_Store_init_109 : decode prog_1_method_1_code 109 = .ok (.putfield 48, 3) := by decide +kernel
theorem d_Store_init_112 : decode prog_1_method_1_code 112 = .ok (.return_, 1) := by decide +kernel
set_option maxHeartbeats 4000000 in
set_option maxRecDepth 100000 in
theorem n_Store {l : Launch} {D : va_G} {K : Nat → ClassId} {h0 : Nat} {x : Int32} : zN l y_Store_init ws_Store_init ({ frames := 4, cells := 286, slots := 1296, locals := 81 }) D (zTys K) [.ref h0, .int x] h0 (.inr (0, [.null, .null, .null, .null, .int 0])) (wStore K (nOf x)) 286 1296 := by
  refine zN.of (cc := prog_1_method_1_code) (maxL := 4) (by decide) rfl rfl (Nat.le_of_ble_eq_true rfl) ?_
  intro pP eE U mM bL mT cO A S hr hlk hnm0 hK hX hA
  have hts := S.2.2.2.2
  have ht := fun w h => hts w (List.mem_cons_of_mem _ h)
  obtain ⟨hsz, hN2, hN5⟩ := szF_ok x
  refine z_aload_n S d_Store_init_0 rfl 0 rfl 1 rfl ?_
  refine n_obj S (ht _ w_18) (ht _ w_19) (ht _ w_20) (Nat.le_of_ble_eq_true rfl) (Nat.le_of_ble_eq_true rfl) d_Store_init_1 4 rfl ?_
  refine z_iconst S d_Store_init_4 2 (by decide) 5 rfl ?_
  refine z_iconst S d_Store_init_5 5 (by decide) 6 rfl ?_
  refine z_iload_n S d_Store_init_6 rfl 1 rfl 7 rfl ?_
  refine n_mmin S (ht _ w_21) (ht _ w_22) (ht _ w_2) (ht _ w_23) (Nat.le_of_ble_eq_true rfl) (Nat.le_of_ble_eq_true rfl) (Nat.le_of_ble_eq_true rfl) (Nat.le_of_ble_eq_true rfl) d_Store_init_7 10 rfl ?_
  refine n_mmax S (ht _ w_24) (ht _ w_25) (ht _ w_2) (ht _ w_26) (Nat.le_of_ble_eq_true rfl) (Nat.le_of_ble_eq_true rfl) (Nat.le_of_ble_eq_true rfl) (Nat.le_of_ble_eq_true rfl) d_Store_init_10 13 rfl ?_
  rw [show (if 2 < (if x < 5 then x else 5) then (if x < 5 then x else 5) else 2) = nI (nOf x) from hsz]
  generalize hNe : nOf x = N at *
  refine z_istore_n S d_Store_init_13 rfl (Nat.le_of_ble_eq_true rfl) [(2, .int (nI N)), (0, .ref h0), (1, .int x)] rfl 14 rfl ?_
  refine z_aload_n S d_Store_init_14 rfl 1 rfl 15 rfl ?_
  refine z_iload_n S d_Store_init_15 rfl 0 rfl 16 rfl ?_
  refine n_newq S hK hA (ht _ w_27) hX.2.2.2.2.2.2.2.2.2.1 3 rfl N (nI_pos (by omega)) (nI_clamp (by omega)) (by omega) d_Store_init_16 19 rfl 1 N rfl (by omega) (by show 1 ≤ 286; omega) (by show N ≤ 1296; omega) (fun q1 => ?_)
  refine n_putF S hK hnm0 hin_Store t_Store ok_Store nm_Store 0 rfl rfl 0 (Nat.le_of_ble_eq_true rfl) (ht _ w_278) (fun _ h => h) rfl rfl rfl rfl (Nat.le_of_ble_eq_true rfl) d_Store_init_19 22 rfl _ rfl ?_
  refine z_iconst S d_Store_init_22 0 (by decide) 23 rfl ?_
  refine z_istore_n S d_Store_init_23 rfl (Nat.le_of_ble_eq_true rfl) [(3, .int 0), (2, .int (nI N)), (0, .ref h0), (1, .int x)] rfl 24 rfl ?_
  have loop2 : ∀ (F : Nat → Nat) (k j : Nat) (G : Nat → Nat), F 0 = h0 → j + k = 3 → zG pP l eE (headSpec ws_Store_init ({ frames := 4, cells := 286, slots := 1296, locals := 81 })).room U mM ([.ref h0, .int x] : List Value).toArray bL mT cO 4 (MQ bL (zNQ D h0 (wStore K N) A) ([.ref h0, .int x] : List Value).toArray U 286 1296 A) (cI D A U.heap (wStB K (F 0) (F 1) ((F 1, .inl (K 3, N, .inr (.inr (.inr (.inr (srvF N F)))))) :: wSrv K N F) j G)) (37 + 2 * j) (168 + 9 * j) 59 [(3, .int (nI j)), (2, .int (nI N)), (0, .ref (F 0)), (1, .int x)] [] := by
    intro F k
    induction k with
    | zero =>
      intro j G hF hj
      refine z_iload_n S d_Store_init_59 rfl 0 rfl 60 rfl ?_
      refine z_iconst S d_Store_init_60 3 (by decide) 61 rfl ?_
      refine z_icmp_ge S d_Store_init_61 84 (by decide) 64 rfl (fun h1 => ?_) (fun h1 => ?_)
      · obtain rfl : j = 3 := by omega
        refine z_aload_n S d_Store_init_84 rfl 2 rfl 85 rfl ?_
        refine n_new S hK hA hin_Service t_Service ok_Service (ht _ w_184) (ht _ w_185) (ht _ w_8) (ci := 3) rfl [.null, .null, .int 0] (by decide) d_Store_init_85 88 rfl 44 198 rfl rfl (Nat.le_of_ble_eq_true rfl) (Nat.le_of_ble_eq_true rfl) (fun q3 => ?_)
        refine z_dup S d_Store_init_88 rfl 89 rfl ?_
        refine z_iload_n S d_Store_init_89 rfl 1 rfl 90 rfl ?_
        refine n_init S hK hX hA (As := [.int (nI N)]) (rest := [.ref q3, .ref (F 0)]) _ rfl (n_Service hN5) (n_cw (n := 1) hts w_186 w_187 w_8 w_188 rfl (by decide) rfl rfl ⟨(Nat.le_of_ble_eq_true rfl), (Nat.le_of_ble_eq_true rfl)⟩) rfl rfl (Nat.le_of_ble_eq_true rfl) d_Store_init_90 93 rfl 46 206 rfl rfl (Nat.le_of_ble_eq_true rfl) (Nat.le_of_ble_eq_true rfl) (fun f3 hf3 => ?_)
        subst hf3
        refine n_putF S hK hnm0 hin_Store t_Store ok_Store nm_Store 0 rfl rfl 2 (Nat.le_of_ble_eq_true rfl) (ht _ w_280) (fun _ h => h) rfl rfl rfl rfl (Nat.le_of_ble_eq_true rfl) d_Store_init_93 96 rfl _ rfl ?_
        refine z_aload_n S d_Store_init_96 rfl 2 rfl 97 rfl ?_
        refine n_new S hK hA hin_Post t_Post ok_Post (ht _ w_204) (ht _ w_205) (ht _ w_9) (ci := 4) rfl [.null, .null, .int 0] (by decide) d_Store_init_97 100 rfl 47 209 rfl rfl (Nat.le_of_ble_eq_true rfl) (Nat.le_of_ble_eq_true rfl) (fun q4 => ?_)
        refine z_dup S d_Store_init_100 rfl 101 rfl ?_
        refine n_init S hK hX hA (As := []) (rest := [.ref q4, .ref (F 0)]) _ rfl n_Post (n_cw (n := 0) hts w_206 w_207 w_9 w_208 rfl (by decide) rfl rfl ⟨(Nat.le_of_ble_eq_true rfl), (Nat.le_of_ble_eq_true rfl)⟩) rfl rfl (Nat.le_of_ble_eq_true rfl) d_Store_init_101 104 rfl 286 1296 rfl rfl (Nat.le_of_ble_eq_true rfl) (Nat.le_of_ble_eq_true rfl) (fun f4 hf4 => ?_)
        subst hf4
        refine n_putF S hK hnm0 hin_Store t_Store ok_Store nm_Store 0 rfl rfl 3 (Nat.le_of_ble_eq_true rfl) (ht _ w_281) (fun _ h => h) rfl rfl rfl rfl (Nat.le_of_ble_eq_true rfl) d_Store_init_104 107 rfl _ rfl ?_
        refine z_aload_n S d_Store_init_107 rfl 2 rfl 108 rfl ?_
        refine z_iconst S d_Store_init_108 0 (by decide) 109 rfl ?_
        refine n_put S hK hin_Store t_Store ok_Store nm_Store 0 rfl rfl 4 (Nat.le_of_ble_eq_true rfl) (ht _ w_282) (fun _ h => h) rfl rfl rfl (Nat.le_of_ble_eq_true rfl) d_Store_init_109 112 rfl _ rfl ?_
        exact n_vret S hr hlk d_Store_init_112 (fun k => if k < 2 + 7 * N then F k else if k < 9 + 7 * N then G (k - (2 + 7 * N)) else if k < 12 + 7 * N then f3 (k - (9 + 7 * N)) else f4 (k - (12 + 7 * N))) ((if_pos (show 0 < 2 + 7 * N by omega)).trans hF) (wStore_of (K := K) (N := N) (F := F) (G := G) (f3 := f3) (f4 := f4))
      · exact absurd (nI_le (a := 3) (by omega) (by omega)) h1
    | succ k ih =>
      intro j G hF hj
      refine z_iload_n S d_Store_init_59 rfl 0 rfl 60 rfl ?_
      refine z_iconst S d_Store_init_60 3 (by decide) 61 rfl ?_
      refine z_icmp_ge S d_Store_init_61 84 (by decide) 64 rfl (fun h1 => ?_) (fun h1 => ?_)
      · exact absurd h1 (nI_ge (b := 3) (by omega) (by omega))
      · refine z_aload_n S d_Store_init_64 rfl 2 rfl 65 rfl ?_
        refine n_get S hK hin_Store 0 rfl rfl 1 (Nat.le_of_ble_eq_true rfl) (ht _ w_279) (fun _ h => h) d_Store_init_65 68 rfl (.ref (G 0)) rfl ?_
        refine z_iload_n S d_Store_init_68 rfl 0 rfl 69 rfl ?_
        refine n_new S hK hA hin_Client t_Client ok_Client (ht _ w_158) (ht _ w_160) (ht _ w_7) (ci := 2) rfl [.null, .int 0, .int 0, .int 0] (by decide) d_Store_init_69 72 rfl (38 + 2 * j) (172 + 9 * j) (by omega) (by omega) (by show 38 + 2 * j ≤ 286; omega) (by show 172 + 9 * j ≤ 1296; omega) (fun qn => ?_)
        refine z_dup S d_Store_init_72 rfl 73 rfl ?_
        refine z_iload_n S d_Store_init_73 rfl 0 rfl 74 rfl ?_
        refine n_init S hK hX hA (As := [.int (nI j)]) (rest := [.ref qn, .int (nI j), .ref (G 0)]) _ rfl n_Client (n_cw (n := 1) hts w_161 w_162 w_7 w_163 rfl (by decide) rfl rfl ⟨(Nat.le_of_ble_eq_true rfl), (Nat.le_of_ble_eq_true rfl)⟩) rfl rfl (Nat.le_of_ble_eq_true rfl) d_Store_init_74 77 rfl (37 + 2 * (j + 1)) (168 + 9 * (j + 1)) (by omega) (by omega) (by show 37 + 2 * (j + 1) ≤ 286; omega) (by show 168 + 9 * (j + 1) ≤ 1296; omega) (fun g hg => ?_)
        subst hg
        refine n_aast S hK 1 4 2 rfl rfl (List.mem_append_right _ List.mem_cons_self) rfl (nI_in (by omega) (by omega)) d_Store_init_77 78 rfl _ rfl ?_
        refine z_iinc S d_Store_init_78 0 rfl (nI_i1 _) (Nat.le_of_ble_eq_true rfl) [(3, .int (nI (j + 1))), (2, .int (nI N)), (0, .ref (F 0)), (1, .int x)] rfl 81 rfl ?_
        refine z_goto S d_Store_init_81 59 (by decide) ?_
        rw [nI_clamp (show j < 2 ^ 31 by omega)]
        refine n_w (W2 := wStB K (F 0) (F 1) ((F 1, .inl (K 3, N, .inr (.inr (.inr (.inr (srvF N F)))))) :: wSrv K N F) (j + 1) (fun k => if k < 1 + 2 * j then G k else g (k - (1 + 2 * j)))) wStB_step ?_
        exact ih (j + 1) _ hF (by omega)
  have loop1 : ∀ (k j : Nat) (F : Nat → Nat), j + k = N → F 0 = h0 → zG pP l eE (headSpec ws_Store_init ({ frames := 4, cells := 286, slots := 1296, locals := 81 })).room U mM ([.ref h0, .int x] : List Value).toArray bL mT cO 4 (MQ bL (zNQ D h0 (wStore K N) A) ([.ref h0, .int x] : List Value).toArray U 286 1296 A) (cI D A U.heap (wStA K N j F)) (1 + 7 * j) (N + 32 * j) 24 [(3, .int (nI j)), (2, .int (nI N)), (0, .ref (F 0)), (1, .int x)] [] := by
    intro k
    induction k with
    | zero =>
      intro j F hj hF
      refine z_iload_n S d_Store_init_24 rfl 0 rfl 25 rfl ?_
      refine z_iload_n S d_Store_init_25 rfl 1 rfl 26 rfl ?_
      refine z_icmp_ge S d_Store_init_26 49 (by decide) 29 rfl (fun h1 => ?_) (fun h1 => ?_)
      · obtain rfl : j = N := by omega
        refine n_widen (c2 := 36) (s2 := 165) (by omega) (by omega) ?_
        refine z_aload_n S d_Store_init_49 rfl 2 rfl 50 rfl ?_
        refine z_iconst S d_Store_init_50 3 (by decide) 51 rfl ?_
        refine n_newq S hK hA (ht _ w_158) hX.2.2.2.2.2.2.2.2.2.2.1 4 rfl 3 (by decide) rfl (by decide) d_Store_init_51 54 rfl 37 168 rfl rfl (Nat.le_of_ble_eq_true rfl) (Nat.le_of_ble_eq_true rfl) (fun q2 => ?_)
        refine n_putF S hK hnm0 hin_Store t_Store ok_Store nm_Store 0 rfl rfl 1 (Nat.le_of_ble_eq_true rfl) (ht _ w_279) (fun _ h => h) rfl rfl rfl rfl (Nat.le_of_ble_eq_true rfl) d_Store_init_54 57 rfl _ rfl ?_
        have hp : List.Perm (α := Nat × va_E) (((F 1, .inl (K 3, j, .inr (.inr (.inr (.inr (srvF j F)))))) :: wSrv K j F) ++ [(q2, .inl (K 4, 3, .inr (.inr (.inr (.inr (fun _ => none))))))]) ((q2, .inl (K 4, 3, .inr (.inr (.inr (.inr (fun _ => none)))))) :: (((F 1, .inl (K 3, j, .inr (.inr (.inr (.inr (srvF j F)))))) :: wSrv K j F) ++ [])) := by
          rw [List.append_nil]
          exact List.perm_append_singleton _ _
        refine n_perm (W2 := wStB K (F 0) (F 1) ((F 1, .inl (K 3, j, .inr (.inr (.inr (.inr (srvF j F)))))) :: wSrv K j F) 0 (fun _ => q2)) (List.Perm.cons _ hp) ?_
        refine z_iconst S d_Store_init_57 0 (by decide) 58 rfl ?_
        refine z_istore_n S d_Store_init_58 rfl (Nat.le_of_ble_eq_true rfl) [(3, .int 0), (2, .int (nI j)), (0, .ref (F 0)), (1, .int x)] rfl 59 rfl ?_
        exact loop2 F 3 0 (fun _ => q2) hF (by omega)
      · exact absurd (nI_le (by omega) (by omega)) h1
    | succ k ih =>
      intro j F hj hF
      refine z_iload_n S d_Store_init_24 rfl 0 rfl 25 rfl ?_
      refine z_iload_n S d_Store_init_25 rfl 1 rfl 26 rfl ?_
      refine z_icmp_ge S d_Store_init_26 49 (by decide) 29 rfl (fun h1 => ?_) (fun h1 => ?_)
      · exact absurd h1 (nI_ge (by omega) (by omega))
      · refine z_aload_n S d_Store_init_29 rfl 2 rfl 30 rfl ?_
        refine n_get S hK hin_Store 0 rfl rfl 0 (Nat.le_of_ble_eq_true rfl) (ht _ w_278) (fun _ h => h) d_Store_init_30 33 rfl (.ref (F 1)) rfl ?_
        refine z_iload_n S d_Store_init_33 rfl 0 rfl 34 rfl ?_
        refine n_new S hK hA hin_Server t_Server ok_Server (ht _ w_27) (ht _ w_29) (ht _ w_3) (ci := 1) rfl [.int 0, .null, .null, .null, .int 0, .int 0, .int 0, .int 0, .int 0, .int 0] (by decide) d_Store_init_34 37 rfl (2 + 7 * j) (N + 10 + 32 * j) (by omega) (by omega) (by show 2 + 7 * j ≤ 286; omega) (by show N + 10 + 32 * j ≤ 1296; omega) (fun qn => ?_)
        refine z_dup S d_Store_init_37 rfl 38 rfl ?_
        refine z_iload_n S d_Store_init_38 rfl 0 rfl 39 rfl ?_
        refine n_init S hK hX hA (As := [.int (nI j)]) (rest := [.ref qn, .int (nI j), .ref (F 1)]) _ rfl n_Server (n_cw (n := 1) hts w_30 w_31 w_3 w_32 rfl (by decide) rfl rfl ⟨(Nat.le_of_ble_eq_true rfl), (Nat.le_of_ble_eq_true rfl)⟩) rfl rfl (Nat.le_of_ble_eq_true rfl) d_Store_init_39 42 rfl (1 + 7 * (j + 1)) (N + 32 * (j + 1)) (by omega) (by omega) (by show 1 + 7 * (j + 1) ≤ 286; omega) (by show N + 32 * (j + 1) ≤ 1296; omega) (fun g hg => ?_)
        subst hg
        refine n_aast S hK 1 3 1 rfl rfl (List.mem_append_right _ List.mem_cons_self) rfl (nI_in (by omega) (by omega)) d_Store_init_42 43 rfl _ rfl ?_
        refine z_iinc S d_Store_init_43 0 rfl (nI_i1 _) (Nat.le_of_ble_eq_true rfl) [(3, .int (nI (j + 1))), (2, .int (nI N)), (0, .ref (F 0)), (1, .int x)] rfl 46 rfl ?_
        refine z_goto S d_Store_init_46 24 (by decide) ?_
        rw [nI_clamp (show j < 2 ^ 31 by omega)]
        refine n_w (W2 := wStA K N (j + 1) (fun k => if k < 2 + 7 * j then F k else g (k - (2 + 7 * j)))) wStA_step ?_
        have h00 : (fun k => if k < 2 + 7 * j then F k else g (k - (2 + 7 * j))) 0 = F 0 := if_pos (by omega)
        rw [← h00]
        exact ih (j + 1) (fun k => if k < 2 + 7 * j then F k else g (k - (2 + 7 * j))) (by omega) (h00.trans hF)
  exact loop1 N 0 (fun k => if k = 0 then h0 else q1) (by omega) rfl
