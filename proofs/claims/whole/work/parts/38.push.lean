/-! FILL and PASS are sent; push -/
section CP
variable {d g : Nat → Int32} {x p : Nat}
theorem cpR_out {k i j : Nat} (hx : x < 34) (hp : p < 34) (hk : i + k ≤ 180) : ∀ g : Nat → Int32, (j < 180 * p + i ∨ 180 * p + i + k ≤ j) → cpR d (nI x) (nI p) k i g j = g j := by
  induction k generalizing i with
  | zero => intro g _; rfl
  | succ k ih =>
    intro g h
    unfold cpR
    rw [ih (by omega) _ (by omega), clamp_180 hp (show i < 180 by omega) rfl]
    unfold upd
    rw [if_neg (by omega)]
theorem nar_short {v : Int32} (h : vp_in v 512) : vp_nar .short v = v := by
  obtain ⟨j, hj, -, rfl⟩ := vp_nI h
  have key : ∀ j : Nat, j < 512 → vp_nar .short (nI j) = nI j := by decide +kernel
  exact key j hj
theorem cpR_in {k i m : Nat} (hx : x < 34) (hp : p < 34) (hk : i + k ≤ 180) (hd : ∀ j, vp_in (d j) 512) : ∀ g : Nat → Int32, i ≤ m → m < i + k → cpR d (nI x) (nI p) k i g (180 * p + m) = d (180 * x + m) := by
  induction k generalizing i with
  | zero => intro g h1 h2; omega
  | succ k ih =>
    intro g h1 h2
    unfold cpR
    by_cases e : m = i
    · subst e
      rw [cpR_out hx hp (by omega) _ (by omega), clamp_180 hp (show m < 180 by omega) rfl, clamp_180 hx (show m < 180 by omega) rfl]
      unfold upd
      rw [if_pos rfl, nar_short (hd _)]
    · exact ih (by omega) _ (by omega) (by omega)
theorem cpR_vp {k i : Nat} (hx : x < 34) (hp : p < 34) (hk : i + k ≤ 180) (hd : ∀ j, vp_in (d j) 512) (hg : ∀ j, vp_in (g j) 512) (j : Nat) : vp_in (cpR d (nI x) (nI p) k i g j) 512 := by
  by_cases h : j < 180 * p + i ∨ 180 * p + i + k ≤ j
  · rw [cpR_out hx hp hk g h]; exact hg j
  · obtain ⟨m, rfl⟩ : ∃ m, j = 180 * p + m := ⟨j - 180 * p, by omega⟩
    rw [cpR_in hx hp hk hd g (by omega) (by omega)]; exact hd _
end CP
section PU
variable {n t : Nat} {tk : Option Nat} {s : S3} {π : Nat → Nat} {r : S3} {vp vb : Nat → Int32} {T : Nat → Nat} {Q : Nat → Nat → Int32}
theorem pp_lt (hB : cBx r tk) : ∃ q, q < 34 ∧ ppF (r 0 25 0) (r 27 0) = nI q := by
  by_cases h : xw r < 32
  · obtain ⟨q, h1, -, h2⟩ := post_place hB h
    exact ⟨q, by omega, h2⟩
  · refine ⟨33, by omega, ?_⟩
    unfold ppF
    rw [if_pos]
    · rfl
    · have := hB.2.1
      rw [hB.1, show (32 : Int32) = nI 32 from rfl, nI_leI (by omega) (by omega)]; omega
/-- the backup of a leader, if it has one -/
theorem bk_eq {i b : Nat} (hn5 : n ≤ 5) (hi : i < n) (h : INV n t tk s π r vp vb T Q) (hv : xv r i ≠ 0) (hb : vb (xv r i) = nI b) (hbn : b < n) : s 6 2 i = nI b ∧ r 10 0 i = nI b := by
  obtain ⟨cA, cV, cO, gC, cS, cU, cB, cL, rG, rS, rC, rP, rL⟩ := h
  have e10 : r 10 0 i = nI b := by rw [((cS.1 i hi).2.2.1 hv).2, hb]
  have z : r 8 0 i ≠ 0 := by rw [(cS.1 i hi).1]; exact nI_ne0 (by omega) (Int32.toNatClampNeg_lt _)
  rcases ((rS i hi).2.2.2.2.2.2.2.2.1 z).2 with ⟨b1, -⟩ | ⟨j, hj, b1, b2⟩
  · rw [e10] at b1; exact absurd b1 (nI_ne_m1 (by omega))
  · exact ⟨by rw [b2, ← b1, e10], e10⟩
theorem sendPass_inv {i b : Nat} (ht : t ≤ 512) (hn5 : n ≤ 5) (hi : i < n) (h : INV n t tk s π r vp vb T Q) (hv : xv r i ≠ 0) (hl : vp (xv r i) = nI i) (hb : vb (xv r i) = nI b) (hbn : b < n) (hpe : r 18 0 i ≠ -1) : INV n (t + 1) tk (S_Store_sendPass π s i) π (S_Model_sendPass r (nI i)) vp vb T Q := by
  have hbk := bk_eq hn5 hi h hv hb hbn
  have hA := h
  obtain ⟨cA, cV, cO, gC, cS, cU, cB, cL, rG, rS, rC, rP, rL⟩ := h
  obtain ⟨s0, s1, s2, s3, s4, s5, s6, s7, s8, s9, -⟩ := cS.1 i hi
  obtain ⟨-, -, -, -, -, q8, q60, -, -, -, q11⟩ := rS i hi
  have hOR : OR s r i (r 18 0 i) := by
    rcases q8 with ⟨-, e⟩ | ⟨-, -, e⟩
    · exact absurd e hpe
    · exact e
  obtain ⟨-, hq⟩ := s9 hv hl
  have hTQ : T (xv r i) = xl r i + 1 ∧ Q (xv r i) (xl r i) = r 18 0 i := by
    rcases hq with ⟨e, -⟩ | ⟨-, e⟩
    · exact absurd e hpe
    · exact e
  unfold S_Store_sendPass S_Model_sendPass
  rw [nI_clamp (show i < 2 ^ 31 by omega)]
  have hrB : rBut r (u3 (u3 (u3 (S_Model_post r 5 (r 10 0 i)) 30 0 (ppF (r 0 25 0) (r 27 0)).toNatClampNeg (r 8 0 i)) 33 0 (ppF (r 0 25 0) (r 27 0)).toNatClampNeg (r 19 0 i)) 34 0 (ppF (r 0 25 0) (r 27 0)).toNatClampNeg (r 18 0 i)) (ppF (r 0 25 0) (r 27 0)).toNatClampNeg := rBut_u (rBut_u (rBut_u (rBut_post _ _) 30 _ (by omega) (by omega)) 33 _ (by omega) (by omega)) 34 _ (by omega) (by omega)
  have k28 : (u3 (u3 (u3 (S_Model_post r 5 (r 10 0 i)) 30 0 (ppF (r 0 25 0) (r 27 0)).toNatClampNeg (r 8 0 i)) 33 0 (ppF (r 0 25 0) (r 27 0)).toNatClampNeg (r 19 0 i)) 34 0 (ppF (r 0 25 0) (r 27 0)).toNatClampNeg (r 18 0 i)) 28 0 (ppF (r 0 25 0) (r 27 0)).toNatClampNeg = 5 := by rw [u3_k (by omega), u3_k (by omega), u3_k (by omega)]; exact post_28
  have k29 : (u3 (u3 (u3 (S_Model_post r 5 (r 10 0 i)) 30 0 (ppF (r 0 25 0) (r 27 0)).toNatClampNeg (r 8 0 i)) 33 0 (ppF (r 0 25 0) (r 27 0)).toNatClampNeg (r 19 0 i)) 34 0 (ppF (r 0 25 0) (r 27 0)).toNatClampNeg (r 18 0 i)) 29 0 (ppF (r 0 25 0) (r 27 0)).toNatClampNeg = r 10 0 i := by rw [u3_k (by omega), u3_k (by omega), u3_k (by omega)]; exact post_29
  have k30 : (u3 (u3 (u3 (S_Model_post r 5 (r 10 0 i)) 30 0 (ppF (r 0 25 0) (r 27 0)).toNatClampNeg (r 8 0 i)) 33 0 (ppF (r 0 25 0) (r 27 0)).toNatClampNeg (r 19 0 i)) 34 0 (ppF (r 0 25 0) (r 27 0)).toNatClampNeg (r 18 0 i)) 30 0 (ppF (r 0 25 0) (r 27 0)).toNatClampNeg = r 8 0 i := by rw [u3_k (by omega), u3_k (by omega)]; exact u3_at
  have k33 : (u3 (u3 (u3 (S_Model_post r 5 (r 10 0 i)) 30 0 (ppF (r 0 25 0) (r 27 0)).toNatClampNeg (r 8 0 i)) 33 0 (ppF (r 0 25 0) (r 27 0)).toNatClampNeg (r 19 0 i)) 34 0 (ppF (r 0 25 0) (r 27 0)).toNatClampNeg (r 18 0 i)) 33 0 (ppF (r 0 25 0) (r 27 0)).toNatClampNeg = r 19 0 i := by rw [u3_k (by omega)]; exact u3_at
  have k34 : (u3 (u3 (u3 (S_Model_post r 5 (r 10 0 i)) 30 0 (ppF (r 0 25 0) (r 27 0)).toNatClampNeg (r 8 0 i)) 33 0 (ppF (r 0 25 0) (r 27 0)).toNatClampNeg (r 19 0 i)) 34 0 (ppF (r 0 25 0) (r 27 0)).toNatClampNeg (r 18 0 i)) 34 0 (ppF (r 0 25 0) (r 27 0)).toNatClampNeg = r 18 0 i := u3_at
  have hkk : ∀ k, k < 28 → (u3 (u3 (u3 (S_Model_post r 5 (r 10 0 i)) 30 0 (ppF (r 0 25 0) (r 27 0)).toNatClampNeg (r 8 0 i)) 33 0 (ppF (r 0 25 0) (r 27 0)).toNatClampNeg (r 19 0 i)) 34 0 (ppF (r 0 25 0) (r 27 0)).toNatClampNeg (r 18 0 i)) k = S_Model_post r 5 (r 10 0 i) k := fun k hk => by rw [u3_k (by omega), u3_k (by omega), u3_k (by omega)]
  have hu36 : ∀ j, vp_in ((u3 (u3 (u3 (S_Model_post r 5 (r 10 0 i)) 30 0 (ppF (r 0 25 0) (r 27 0)).toNatClampNeg (r 8 0 i)) 33 0 (ppF (r 0 25 0) (r 27 0)).toNatClampNeg (r 19 0 i)) 34 0 (ppF (r 0 25 0) (r 27 0)).toNatClampNeg (r 18 0 i)) 36 0 j) 512 := by rw [u3_k (by omega), u3_k (by omega), u3_k (by omega), post_36]; exact cU.2.1
  generalize hr' : (u3 (u3 (u3 (S_Model_post r 5 (r 10 0 i)) 30 0 (ppF (r 0 25 0) (r 27 0)).toNatClampNeg (r 8 0 i)) 33 0 (ppF (r 0 25 0) (r 27 0)).toNatClampNeg (r 19 0 i)) 34 0 (ppF (r 0 25 0) (r 27 0)).toNatClampNeg (r 18 0 i)) = r' at hrB k28 k29 k30 k33 k34 hkk hu36 ⊢
  have e8 := hrB.1 8 (by omega) (by omega)
  have ev : ∀ x, xv r' x = xv r x := fun x => by unfold xv; rw [e8]
  refine post_inv2 (k0 := 5) (a0 := r 10 0 i) (L := nxL (s 4 2 0) π) (p := (ppF (r 0 25 0) (r 27 0)).toNatClampNeg) ht hn5 hA (by rw [rP.1]) rfl (sBut_op (sBut_5 (sBut_view (sBut_next _ _) _) _ _) _) hrB rfl hkk hu36 (opOK_bec rP.2.2.2.2) ?_ ?_
  · refine Or.inr (Or.inr (Or.inr (Or.inr (Or.inl ⟨k28, ⟨b, hbn, k29.trans hbk.2⟩, xv r i, by omega, ?_, ?_, ⟨i, hi, hl, ?_⟩, xl r i, ?_, ?_, ?_⟩))))
    · rw [ev]; exact s1
    · rw [k30]; exact s0
    · rw [ev]; exact Nat.le_refl _
    · omega
    · rw [k33]; exact s3
    · rw [k34]; exact hTQ.2
  · unfold LR
    rw [k28, k29, k30, k33, k34]
    refine ⟨next_3 (a := s 6 2 i), (next_4 (k := 5)).trans (hbk.1.trans hbk.2.symm), fun h => absurd h (by decide), fun h => absurd h (by decide), fun h => absurd h (by decide), fun h => absurd h (by decide), fun _ => ⟨?_, ?_, ?_⟩, fun h => absurd h (by decide), fun h => absurd h (by decide), fun h => absurd h (by decide)⟩
    · exact (bv_0 (π := π) (s := S_Post_next π s 5 (s 6 2 i)) (a := 8 + nxL (s 4 2 0) π) (b := i)).trans q60
    · refine (u3_at (s := S_View_become π (S_Post_next π s 5 (s 6 2 i)) (8 + nxL (s 4 2 0) π) i) (a := 5) (b := 7)).trans ?_
      rw [q11.1, s3]
    · unfold OR
      rw [bo_0, bo_1, bo_2, bo_3, bo_4, hrB.1 3 (by omega) (by omega), hrB.1 4 (by omega) (by omega), hrB.1 5 (by omega) (by omega), hrB.1 6 (by omega) (by omega), hrB.1 7 (by omega) (by omega)]
      exact hOR
end PU
