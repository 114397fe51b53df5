/-! VIEW, FILLED, PASSED, ANSWER are sent -/
section PL
variable {n t : Nat} {tk : Option Nat} {s : S3} {π : Nat → Nat} {r : S3} {vp vb : Nat → Int32} {T : Nat → Nat} {Q : Nat → Nat → Int32}
/-- the new letter doesn't lie where the one lies that is being delivered -/
theorem pp_ne {p : Nat} (hB : cBx r (some p)) : (ppF (r 0 25 0) (r 27 0)).toNatClampNeg ≠ p := by
  by_cases h : xw r < 32
  · obtain ⟨q, h1, h2, h3⟩ := post_place hB h
    rw [h3, nI_clamp (by omega)]
    intro e
    have := (hB.2.2.2.2.2.1 p).mpr (Or.inr rfl)
    rw [← e, h2] at this
    exact absurd this (by decide)
  · have hp := (hB.2.2.2.2.2.2 p rfl).1
    have h33 : ppF (r 0 25 0) (r 27 0) = nI 33 := by
      unfold ppF
      rw [if_pos]
      · rfl
      · have := hB.2.1
        rw [hB.1, show (32 : Int32) = nI 32 from rfl, nI_leI (by omega) (by omega)]; omega
    rw [h33, nI_clamp (by omega)]
    omega
theorem answer_inv {w o : Nat} {x : Int32} (ht : t ≤ 512) (hn5 : n ≤ 5) (h : INV n t tk s π r vp vb T Q) (ho : o < xb r) (hOR : OR s r w (nI o)) : INV n (t + 1) tk (S_Store_sendAnswer π s w x) π (u3 (u3 (S_Model_post r 8 (r 3 0 (nI o).toNatClampNeg)) 30 0 (ppF (r 0 25 0) (r 27 0)).toNatClampNeg (r 4 0 (nI o).toNatClampNeg)) 35 0 (ppF (r 0 25 0) (r 27 0)).toNatClampNeg x) vp vb T Q := by
  have hA := h
  obtain ⟨gA, gV, gO, gC, gS, gU, gB, gL, kG, kS, kC, kP, kL⟩ := h
  have hrB : rBut r (u3 (u3 (S_Model_post r 8 (r 3 0 (nI o).toNatClampNeg)) 30 0 (ppF (r 0 25 0) (r 27 0)).toNatClampNeg (r 4 0 (nI o).toNatClampNeg)) 35 0 (ppF (r 0 25 0) (r 27 0)).toNatClampNeg x) (ppF (r 0 25 0) (r 27 0)).toNatClampNeg := rBut_u (rBut_u (rBut_post _ _) 30 _ (by omega) (by omega)) 35 _ (by omega) (by omega)
  have k28 : (u3 (u3 (S_Model_post r 8 (r 3 0 (nI o).toNatClampNeg)) 30 0 (ppF (r 0 25 0) (r 27 0)).toNatClampNeg (r 4 0 (nI o).toNatClampNeg)) 35 0 (ppF (r 0 25 0) (r 27 0)).toNatClampNeg x) 28 0 (ppF (r 0 25 0) (r 27 0)).toNatClampNeg = 8 := by rw [u3_k (by omega), u3_k (by omega)]; exact post_28
  have k29 : (u3 (u3 (S_Model_post r 8 (r 3 0 (nI o).toNatClampNeg)) 30 0 (ppF (r 0 25 0) (r 27 0)).toNatClampNeg (r 4 0 (nI o).toNatClampNeg)) 35 0 (ppF (r 0 25 0) (r 27 0)).toNatClampNeg x) 29 0 (ppF (r 0 25 0) (r 27 0)).toNatClampNeg = (r 3 0 (nI o).toNatClampNeg) := by rw [u3_k (by omega), u3_k (by omega)]; exact post_29
  have k30 : (u3 (u3 (S_Model_post r 8 (r 3 0 (nI o).toNatClampNeg)) 30 0 (ppF (r 0 25 0) (r 27 0)).toNatClampNeg (r 4 0 (nI o).toNatClampNeg)) 35 0 (ppF (r 0 25 0) (r 27 0)).toNatClampNeg x) 30 0 (ppF (r 0 25 0) (r 27 0)).toNatClampNeg = (r 4 0 (nI o).toNatClampNeg) := by rw [u3_k (by omega)]; exact u3_at
  have k35 : (u3 (u3 (S_Model_post r 8 (r 3 0 (nI o).toNatClampNeg)) 30 0 (ppF (r 0 25 0) (r 27 0)).toNatClampNeg (r 4 0 (nI o).toNatClampNeg)) 35 0 (ppF (r 0 25 0) (r 27 0)).toNatClampNeg x) 35 0 (ppF (r 0 25 0) (r 27 0)).toNatClampNeg = x := by exact u3_at
  have hkk : ∀ k, k < 28 → (u3 (u3 (S_Model_post r 8 (r 3 0 (nI o).toNatClampNeg)) 30 0 (ppF (r 0 25 0) (r 27 0)).toNatClampNeg (r 4 0 (nI o).toNatClampNeg)) 35 0 (ppF (r 0 25 0) (r 27 0)).toNatClampNeg x) k = S_Model_post r 8 (r 3 0 (nI o).toNatClampNeg) k := fun k hk => by rw [u3_k (by omega), u3_k (by omega)]
  have hu36 : ∀ j, vp_in ((u3 (u3 (S_Model_post r 8 (r 3 0 (nI o).toNatClampNeg)) 30 0 (ppF (r 0 25 0) (r 27 0)).toNatClampNeg (r 4 0 (nI o).toNatClampNeg)) 35 0 (ppF (r 0 25 0) (r 27 0)).toNatClampNeg x) 36 0 j) 512 := by rw [u3_k (by omega), u3_k (by omega), post_36]; exact gU.2.1
  generalize (u3 (u3 (S_Model_post r 8 (r 3 0 (nI o).toNatClampNeg)) 30 0 (ppF (r 0 25 0) (r 27 0)).toNatClampNeg (r 4 0 (nI o).toNatClampNeg)) 35 0 (ppF (r 0 25 0) (r 27 0)).toNatClampNeg x) = r' at hrB k28 k29 k30 k35 hkk hu36 ⊢
  unfold S_Store_sendAnswer
  refine post_inv2 (k0 := 8) (a0 := (r 3 0 (nI o).toNatClampNeg)) (L := nxL (s 4 2 0) π) (p := (ppF (r 0 25 0) (r 27 0)).toNatClampNeg) ht hn5 hA (by rw [kP.1]) rfl (sBut_5 (sBut_op (sBut_next _ _) _) _ _) hrB rfl hkk hu36 (opOK_bec (π := π) kP.2.2.2.2) ?_ ?_
  · obtain ⟨c, hc, e, -⟩ := (gO.2.1 o ho).1
    refine Or.inr (Or.inr (Or.inr (Or.inr (Or.inr (Or.inr (Or.inr ⟨k28, c, hc, ?_⟩))))))
    rw [k29, nI_clamp (by have : xb r < 2 ^ 31 := Int32.toNatClampNeg_lt _; omega)]; exact e
  · unfold LR
    rw [k28, k29, k30, k35]
    refine ⟨next_3 (a := s 7 0 w), (next_4 (k := 8)).trans hOR.1, fun h => absurd h (by decide), fun h => absurd h (by decide), fun h => absurd h (by decide), fun h => absurd h (by decide), fun h => absurd h (by decide), fun h => absurd h (by decide), fun h => absurd h (by decide), fun _ => ⟨?_, u3_at⟩⟩
    exact (bo_1 (π := π) (s := S_Post_next π s 8 (s 7 0 w)) (a := 8 + nxL (s 4 2 0) π) (b := w)).trans hOR.2.1
theorem view_inv {i : Nat} {x : Int32} (ht : t ≤ 512) (hn5 : n ≤ 5) (h : INV n t tk s π r vp vb T Q) (hi : i < n) (hv : xv r 5 ≠ 0) : INV n (t + 1) tk (u3 (S_View_become π (S_Post_next π s 2 (nI i)) (8 + (nxL (s 4 2 0) π)) 7) 5 6 (nxL (s 4 2 0) π) x) π (u3 (u3 (u3 (u3 (S_Model_post r 2 (nI i)) 30 0 (ppF (r 0 25 0) (r 27 0)).toNatClampNeg (r 8 0 5)) 31 0 (ppF (r 0 25 0) (r 27 0)).toNatClampNeg (r 9 0 5)) 32 0 (ppF (r 0 25 0) (r 27 0)).toNatClampNeg (r 10 0 5)) 33 0 (ppF (r 0 25 0) (r 27 0)).toNatClampNeg x) vp vb T Q := by
  have hA := h
  obtain ⟨gA, gV, gO, gC, gS, gU, gB, gL, kG, kS, kC, kP, kL⟩ := h
  have hrB : rBut r (u3 (u3 (u3 (u3 (S_Model_post r 2 (nI i)) 30 0 (ppF (r 0 25 0) (r 27 0)).toNatClampNeg (r 8 0 5)) 31 0 (ppF (r 0 25 0) (r 27 0)).toNatClampNeg (r 9 0 5)) 32 0 (ppF (r 0 25 0) (r 27 0)).toNatClampNeg (r 10 0 5)) 33 0 (ppF (r 0 25 0) (r 27 0)).toNatClampNeg x) (ppF (r 0 25 0) (r 27 0)).toNatClampNeg := rBut_u (rBut_u (rBut_u (rBut_u (rBut_post _ _) 30 _ (by omega) (by omega)) 31 _ (by omega) (by omega)) 32 _ (by omega) (by omega)) 33 _ (by omega) (by omega)
  have k28 : (u3 (u3 (u3 (u3 (S_Model_post r 2 (nI i)) 30 0 (ppF (r 0 25 0) (r 27 0)).toNatClampNeg (r 8 0 5)) 31 0 (ppF (r 0 25 0) (r 27 0)).toNatClampNeg (r 9 0 5)) 32 0 (ppF (r 0 25 0) (r 27 0)).toNatClampNeg (r 10 0 5)) 33 0 (ppF (r 0 25 0) (r 27 0)).toNatClampNeg x) 28 0 (ppF (r 0 25 0) (r 27 0)).toNatClampNeg = 2 := by rw [u3_k (by omega), u3_k (by omega), u3_k (by omega), u3_k (by omega)]; exact post_28
  have k29 : (u3 (u3 (u3 (u3 (S_Model_post r 2 (nI i)) 30 0 (ppF (r 0 25 0) (r 27 0)).toNatClampNeg (r 8 0 5)) 31 0 (ppF (r 0 25 0) (r 27 0)).toNatClampNeg (r 9 0 5)) 32 0 (ppF (r 0 25 0) (r 27 0)).toNatClampNeg (r 10 0 5)) 33 0 (ppF (r 0 25 0) (r 27 0)).toNatClampNeg x) 29 0 (ppF (r 0 25 0) (r 27 0)).toNatClampNeg = (nI i) := by rw [u3_k (by omega), u3_k (by omega), u3_k (by omega), u3_k (by omega)]; exact post_29
  have k30 : (u3 (u3 (u3 (u3 (S_Model_post r 2 (nI i)) 30 0 (ppF (r 0 25 0) (r 27 0)).toNatClampNeg (r 8 0 5)) 31 0 (ppF (r 0 25 0) (r 27 0)).toNatClampNeg (r 9 0 5)) 32 0 (ppF (r 0 25 0) (r 27 0)).toNatClampNeg (r 10 0 5)) 33 0 (ppF (r 0 25 0) (r 27 0)).toNatClampNeg x) 30 0 (ppF (r 0 25 0) (r 27 0)).toNatClampNeg = (r 8 0 5) := by rw [u3_k (by omega), u3_k (by omega), u3_k (by omega)]; exact u3_at
  have k31 : (u3 (u3 (u3 (u3 (S_Model_post r 2 (nI i)) 30 0 (ppF (r 0 25 0) (r 27 0)).toNatClampNeg (r 8 0 5)) 31 0 (ppF (r 0 25 0) (r 27 0)).toNatClampNeg (r 9 0 5)) 32 0 (ppF (r 0 25 0) (r 27 0)).toNatClampNeg (r 10 0 5)) 33 0 (ppF (r 0 25 0) (r 27 0)).toNatClampNeg x) 31 0 (ppF (r 0 25 0) (r 27 0)).toNatClampNeg = (r 9 0 5) := by rw [u3_k (by omega), u3_k (by omega)]; exact u3_at
  have k32 : (u3 (u3 (u3 (u3 (S_Model_post r 2 (nI i)) 30 0 (ppF (r 0 25 0) (r 27 0)).toNatClampNeg (r 8 0 5)) 31 0 (ppF (r 0 25 0) (r 27 0)).toNatClampNeg (r 9 0 5)) 32 0 (ppF (r 0 25 0) (r 27 0)).toNatClampNeg (r 10 0 5)) 33 0 (ppF (r 0 25 0) (r 27 0)).toNatClampNeg x) 32 0 (ppF (r 0 25 0) (r 27 0)).toNatClampNeg = (r 10 0 5) := by rw [u3_k (by omega)]; exact u3_at
  have k33 : (u3 (u3 (u3 (u3 (S_Model_post r 2 (nI i)) 30 0 (ppF (r 0 25 0) (r 27 0)).toNatClampNeg (r 8 0 5)) 31 0 (ppF (r 0 25 0) (r 27 0)).toNatClampNeg (r 9 0 5)) 32 0 (ppF (r 0 25 0) (r 27 0)).toNatClampNeg (r 10 0 5)) 33 0 (ppF (r 0 25 0) (r 27 0)).toNatClampNeg x) 33 0 (ppF (r 0 25 0) (r 27 0)).toNatClampNeg = x := by exact u3_at
  have hkk : ∀ k, k < 28 → (u3 (u3 (u3 (u3 (S_Model_post r 2 (nI i)) 30 0 (ppF (r 0 25 0) (r 27 0)).toNatClampNeg (r 8 0 5)) 31 0 (ppF (r 0 25 0) (r 27 0)).toNatClampNeg (r 9 0 5)) 32 0 (ppF (r 0 25 0) (r 27 0)).toNatClampNeg (r 10 0 5)) 33 0 (ppF (r 0 25 0) (r 27 0)).toNatClampNeg x) k = S_Model_post r 2 (nI i) k := fun k hk => by rw [u3_k (by omega), u3_k (by omega), u3_k (by omega), u3_k (by omega)]
  have hu36 : ∀ j, vp_in ((u3 (u3 (u3 (u3 (S_Model_post r 2 (nI i)) 30 0 (ppF (r 0 25 0) (r 27 0)).toNatClampNeg (r 8 0 5)) 31 0 (ppF (r 0 25 0) (r 27 0)).toNatClampNeg (r 9 0 5)) 32 0 (ppF (r 0 25 0) (r 27 0)).toNatClampNeg (r 10 0 5)) 33 0 (ppF (r 0 25 0) (r 27 0)).toNatClampNeg x) 36 0 j) 512 := by rw [u3_k (by omega), u3_k (by omega), u3_k (by omega), u3_k (by omega), post_36]; exact gU.2.1
  generalize (u3 (u3 (u3 (u3 (S_Model_post r 2 (nI i)) 30 0 (ppF (r 0 25 0) (r 27 0)).toNatClampNeg (r 8 0 5)) 31 0 (ppF (r 0 25 0) (r 27 0)).toNatClampNeg (r 9 0 5)) 32 0 (ppF (r 0 25 0) (r 27 0)).toNatClampNeg (r 10 0 5)) 33 0 (ppF (r 0 25 0) (r 27 0)).toNatClampNeg x) = r' at hrB k28 k29 k30 k31 k32 k33 hkk hu36 ⊢
  have ev : xv r' 5 = xv r 5 := by unfold xv; rw [hrB.1 8 (by omega) (by omega)]
  refine post_inv2 (k0 := 2) (a0 := (nI i)) (L := nxL (s 4 2 0) π) (p := (ppF (r 0 25 0) (r 27 0)).toNatClampNeg) ht hn5 hA (by rw [kP.1]) rfl (sBut_5 (sBut_view (sBut_next _ _) _) _ _) hrB rfl hkk hu36 (kP.2.2.2.2) ?_ ?_
  · refine Or.inr (Or.inl ⟨k28, ⟨i, hi, k29⟩, xv r 5, by omega, by rw [ev]; exact Nat.le_refl _, k30.trans gV.1, ?_, ?_⟩)
    · rw [k31]; exact (gV.2.2.1 hv).1
    · rw [k32]; exact (gV.2.2.1 hv).2
  · have z : r 8 0 5 ≠ 0 := by rw [gV.1]; exact nI_ne0 (by omega) (Int32.toNatClampNeg_lt _)
    unfold LR
    rw [k28, k29, k30, k31, k32, k33]
    refine ⟨next_3 (a := nI i), next_4 (k := 2), fun h => absurd h (by decide), fun _ => ⟨?_, ?_, ?_, u3_at⟩, fun h => absurd h (by decide), fun h => absurd h (by decide), fun h => absurd h (by decide), fun h => absurd h (by decide), fun h => absurd h (by decide), fun h => absurd h (by decide)⟩
    · exact (bv_0 (π := π) (s := S_Post_next π s 2 (nI i)) (a := 8 + nxL (s 4 2 0) π) (b := 7)).trans kG.2.2.1
    · exact (bv_1 (π := π) (s := S_Post_next π s 2 (nI i)) (a := 8 + nxL (s 4 2 0) π) (b := 7)).trans (kG.2.2.2.1 z).1
    · have e : (u3 (S_View_become π (S_Post_next π s 2 (nI i)) (8 + (nxL (s 4 2 0) π)) 7) 5 6 (nxL (s 4 2 0) π) x) 6 2 (8 + nxL (s 4 2 0) π) = s 6 2 7 := bv_2 (π := π) (s := S_Post_next π s 2 (nI i)) (a := 8 + nxL (s 4 2 0) π) (b := 7)
      rw [e]; exact (kG.2.2.2.1 z).2
theorem filled_inv {i a : Nat} {x y N : Int32} (ht : t ≤ 512) (hn5 : n ≤ 5) (h : INV n t tk s π r vp vb T Q) (ha : a < n) (hx : x = nI a) (hy : y = nI a) (hN : s 6 0 i = N) : INV n (t + 1) tk (S_View_become π (S_Post_next π s 4 x) (8 + (nxL (s 4 2 0) π)) i) π (u3 (S_Model_post r 4 y) 30 0 (ppF (r 0 25 0) (r 27 0)).toNatClampNeg N) vp vb T Q := by
  have hA := h
  obtain ⟨gA, gV, gO, gC, gS, gU, gB, gL, kG, kS, kC, kP, kL⟩ := h
  have hrB : rBut r (u3 (S_Model_post r 4 y) 30 0 (ppF (r 0 25 0) (r 27 0)).toNatClampNeg N) (ppF (r 0 25 0) (r 27 0)).toNatClampNeg := rBut_u (rBut_post _ _) 30 _ (by omega) (by omega)
  have k28 : (u3 (S_Model_post r 4 y) 30 0 (ppF (r 0 25 0) (r 27 0)).toNatClampNeg N) 28 0 (ppF (r 0 25 0) (r 27 0)).toNatClampNeg = 4 := by rw [u3_k (by omega)]; exact post_28
  have k29 : (u3 (S_Model_post r 4 y) 30 0 (ppF (r 0 25 0) (r 27 0)).toNatClampNeg N) 29 0 (ppF (r 0 25 0) (r 27 0)).toNatClampNeg = y := by rw [u3_k (by omega)]; exact post_29
  have k30 : (u3 (S_Model_post r 4 y) 30 0 (ppF (r 0 25 0) (r 27 0)).toNatClampNeg N) 30 0 (ppF (r 0 25 0) (r 27 0)).toNatClampNeg = N := by exact u3_at
  have hkk : ∀ k, k < 28 → (u3 (S_Model_post r 4 y) 30 0 (ppF (r 0 25 0) (r 27 0)).toNatClampNeg N) k = S_Model_post r 4 y k := fun k hk => by rw [u3_k (by omega)]
  have hu36 : ∀ j, vp_in ((u3 (S_Model_post r 4 y) 30 0 (ppF (r 0 25 0) (r 27 0)).toNatClampNeg N) 36 0 j) 512 := by rw [u3_k (by omega), post_36]; exact gU.2.1
  generalize (u3 (S_Model_post r 4 y) 30 0 (ppF (r 0 25 0) (r 27 0)).toNatClampNeg N) = r' at hrB k28 k29 k30 hkk hu36 ⊢
  refine post_inv2 (k0 := 4) (a0 := y) (L := nxL (s 4 2 0) π) (p := (ppF (r 0 25 0) (r 27 0)).toNatClampNeg) ht hn5 hA (by rw [kP.1]) rfl (sBut_view (sBut_next _ _) _) hrB rfl hkk hu36 (kP.2.2.2.2) ?_ ?_
  · exact Or.inr (Or.inr (Or.inr (Or.inl ⟨k28, a, ha, k29.trans hy⟩)))
  · unfold LR
    rw [k28, k29, k30]
    refine ⟨next_3 (a := x), (next_4 (k := 4)).trans (hx.trans hy.symm), fun h => absurd h (by decide), fun h => absurd h (by decide), fun h => absurd h (by decide), fun _ => ?_, fun h => absurd h (by decide), fun h => absurd h (by decide), fun h => absurd h (by decide), fun h => absurd h (by decide)⟩
    exact (bv_0 (π := π) (s := S_Post_next π s 4 x) (a := 8 + nxL (s 4 2 0) π) (b := i)).trans hN
theorem passed_inv {i a : Nat} {x y N c d : Int32} (ht : t ≤ 512) (hn5 : n ≤ 5) (h : INV n t tk s π r vp vb T Q) (ha : a < n) (hx : x = nI a) (hy : y = nI a) (hN : s 6 0 i = N) (hc : c = d) : INV n (t + 1) tk (u3 (S_View_become π (S_Post_next π s 6 x) (8 + (nxL (s 4 2 0) π)) i) 5 7 (nxL (s 4 2 0) π) c) π (u3 (u3 (S_Model_post r 6 y) 30 0 (ppF (r 0 25 0) (r 27 0)).toNatClampNeg N) 33 0 (ppF (r 0 25 0) (r 27 0)).toNatClampNeg d) vp vb T Q := by
  have hA := h
  obtain ⟨gA, gV, gO, gC, gS, gU, gB, gL, kG, kS, kC, kP, kL⟩ := h
  have hrB : rBut r (u3 (u3 (S_Model_post r 6 y) 30 0 (ppF (r 0 25 0) (r 27 0)).toNatClampNeg N) 33 0 (ppF (r 0 25 0) (r 27 0)).toNatClampNeg d) (ppF (r 0 25 0) (r 27 0)).toNatClampNeg := rBut_u (rBut_u (rBut_post _ _) 30 _ (by omega) (by omega)) 33 _ (by omega) (by omega)
  have k28 : (u3 (u3 (S_Model_post r 6 y) 30 0 (ppF (r 0 25 0) (r 27 0)).toNatClampNeg N) 33 0 (ppF (r 0 25 0) (r 27 0)).toNatClampNeg d) 28 0 (ppF (r 0 25 0) (r 27 0)).toNatClampNeg = 6 := by rw [u3_k (by omega), u3_k (by omega)]; exact post_28
  have k29 : (u3 (u3 (S_Model_post r 6 y) 30 0 (ppF (r 0 25 0) (r 27 0)).toNatClampNeg N) 33 0 (ppF (r 0 25 0) (r 27 0)).toNatClampNeg d) 29 0 (ppF (r 0 25 0) (r 27 0)).toNatClampNeg = y := by rw [u3_k (by omega), u3_k (by omega)]; exact post_29
  have k30 : (u3 (u3 (S_Model_post r 6 y) 30 0 (ppF (r 0 25 0) (r 27 0)).toNatClampNeg N) 33 0 (ppF (r 0 25 0) (r 27 0)).toNatClampNeg d) 30 0 (ppF (r 0 25 0) (r 27 0)).toNatClampNeg = N := by rw [u3_k (by omega)]; exact u3_at
  have k33 : (u3 (u3 (S_Model_post r 6 y) 30 0 (ppF (r 0 25 0) (r 27 0)).toNatClampNeg N) 33 0 (ppF (r 0 25 0) (r 27 0)).toNatClampNeg d) 33 0 (ppF (r 0 25 0) (r 27 0)).toNatClampNeg = d := by exact u3_at
  have hkk : ∀ k, k < 28 → (u3 (u3 (S_Model_post r 6 y) 30 0 (ppF (r 0 25 0) (r 27 0)).toNatClampNeg N) 33 0 (ppF (r 0 25 0) (r 27 0)).toNatClampNeg d) k = S_Model_post r 6 y k := fun k hk => by rw [u3_k (by omega), u3_k (by omega)]
  have hu36 : ∀ j, vp_in ((u3 (u3 (S_Model_post r 6 y) 30 0 (ppF (r 0 25 0) (r 27 0)).toNatClampNeg N) 33 0 (ppF (r 0 25 0) (r 27 0)).toNatClampNeg d) 36 0 j) 512 := by rw [u3_k (by omega), u3_k (by omega), post_36]; exact gU.2.1
  generalize (u3 (u3 (S_Model_post r 6 y) 30 0 (ppF (r 0 25 0) (r 27 0)).toNatClampNeg N) 33 0 (ppF (r 0 25 0) (r 27 0)).toNatClampNeg d) = r' at hrB k28 k29 k30 k33 hkk hu36 ⊢
  refine post_inv2 (k0 := 6) (a0 := y) (L := nxL (s 4 2 0) π) (p := (ppF (r 0 25 0) (r 27 0)).toNatClampNeg) ht hn5 hA (by rw [kP.1]) rfl (sBut_5 (sBut_view (sBut_next _ _) _) _ _) hrB rfl hkk hu36 (kP.2.2.2.2) ?_ ?_
  · exact Or.inr (Or.inr (Or.inr (Or.inr (Or.inr (Or.inl ⟨k28, a, ha, k29.trans hy⟩)))))
  · unfold LR
    rw [k28, k29, k30, k33]
    refine ⟨next_3 (a := x), (next_4 (k := 6)).trans (hx.trans hy.symm), fun h => absurd h (by decide), fun h => absurd h (by decide), fun h => absurd h (by decide), fun h => absurd h (by decide), fun h => absurd h (by decide), fun _ => ⟨?_, u3_at.trans hc⟩, fun h => absurd h (by decide), fun h => absurd h (by decide)⟩
    exact (bv_0 (π := π) (s := S_Post_next π s 6 x) (a := 8 + nxL (s 4 2 0) π) (b := i)).trans hN
end PL
