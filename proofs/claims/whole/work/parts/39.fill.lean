section PF
variable {n t : Nat} {tk : Option Nat} {s : S3} {π : Nat → Nat} {r : S3} {vp vb : Nat → Int32} {T : Nat → Nat} {Q : Nat → Nat → Int32}
theorem uA_at {s : S3} {a b : Nat} {f : Nat → Int32} : uA s a b f a b = f := by simp [uA]
theorem sendFill_inv {i b : Nat} (ht : t ≤ 512) (hn5 : n ≤ 5) (hi : i < n) (h : INV n t tk s π r vp vb T Q) (hv : xv r i ≠ 0) (hl : vp (xv r i) = nI i) (hb : vb (xv r i) = nI b) (hbn : b < n) : INV n (t + 1) tk (S_Store_sendFill π s i) π (S_Model_sendFill r (nI i)) vp vb T Q := by
  have hbk := bk_eq hn5 hi h hv hb hbn
  have hxl := xl_le ht h hi
  have hA := h
  obtain ⟨cA, cV, cO, gC, cS, cU, cB, cL, rG, rS, rC, rP, rL⟩ := h
  obtain ⟨s0, s1, s2, s3, s4, s5, s6, s7, s8, s9, -⟩ := cS.1 i hi
  obtain ⟨-, -, -, -, -, -, q60, -, q6, -, q11⟩ := rS i hi
  have z : r 8 0 i ≠ 0 := by rw [s0]; exact nI_ne0 (by omega) (Int32.toNatClampNeg_lt _)
  obtain ⟨hlog, hq⟩ := s9 hv hl
  have hTl : xl r i ≤ T (xv r i) := by rcases hq with ⟨-, e⟩ | ⟨-, e, -⟩ <;> omega
  obtain ⟨q, hq34, epp⟩ := pp_lt cB
  have eP : (ppF (r 0 25 0) (r 27 0)).toNatClampNeg = q := by rw [epp, nI_clamp (by omega)]
  unfold S_Store_sendFill S_Model_sendFill
  rw [nI_clamp (show i < 2 ^ 31 by omega)]
  have hrB0 : rBut r (u3 (u3 (u3 (u3 (S_Model_post r 3 (r 10 0 i)) 30 0 (ppF (r 0 25 0) (r 27 0)).toNatClampNeg (r 8 0 i)) 31 0 (ppF (r 0 25 0) (r 27 0)).toNatClampNeg (r 9 0 i)) 32 0 (ppF (r 0 25 0) (r 27 0)).toNatClampNeg (r 10 0 i)) 34 0 (ppF (r 0 25 0) (r 27 0)).toNatClampNeg (r 19 0 i)) (ppF (r 0 25 0) (r 27 0)).toNatClampNeg := rBut_u (rBut_u (rBut_u (rBut_u (rBut_post _ _) 30 _ (by omega) (by omega)) 31 _ (by omega) (by omega)) 32 _ (by omega) (by omega)) 34 _ (by omega) (by omega)
  have hrB : rBut r (uA (u3 (u3 (u3 (u3 (S_Model_post r 3 (r 10 0 i)) 30 0 (ppF (r 0 25 0) (r 27 0)).toNatClampNeg (r 8 0 i)) 31 0 (ppF (r 0 25 0) (r 27 0)).toNatClampNeg (r 9 0 i)) 32 0 (ppF (r 0 25 0) (r 27 0)).toNatClampNeg (r 10 0 i)) 34 0 (ppF (r 0 25 0) (r 27 0)).toNatClampNeg (r 19 0 i)) 36 0 (cpR (r 20 0) (nI i) (ppF (r 0 25 0) (r 27 0)) (r 19 0 i).toNatClampNeg 0 (r 36 0))) (ppF (r 0 25 0) (r 27 0)).toNatClampNeg := by
    obtain ⟨a1, a2, a3, a4⟩ := hrB0
    refine ⟨fun k h0 hk => ?_, fun b hb => ?_, fun k q2 h1 h2 hq2 => ?_, fun q2 m hm hq2 => ?_⟩
    · rw [uA_k (by omega)]; exact a1 k h0 hk
    · rw [uA_k (by omega)]; exact a2 b hb
    · rw [uA_k (by omega)]; exact a3 k q2 h1 h2 hq2
    · rw [uA_at, epp]
      rw [eP] at hq2
      exact cpR_out (by omega) hq34 (by show 0 + xl r i ≤ 180; omega) _ (by show 180 * q2 + m < 180 * q + 0 ∨ 180 * q + 0 + xl r i ≤ 180 * q2 + m; omega)
  have k28 : (uA (u3 (u3 (u3 (u3 (S_Model_post r 3 (r 10 0 i)) 30 0 (ppF (r 0 25 0) (r 27 0)).toNatClampNeg (r 8 0 i)) 31 0 (ppF (r 0 25 0) (r 27 0)).toNatClampNeg (r 9 0 i)) 32 0 (ppF (r 0 25 0) (r 27 0)).toNatClampNeg (r 10 0 i)) 34 0 (ppF (r 0 25 0) (r 27 0)).toNatClampNeg (r 19 0 i)) 36 0 (cpR (r 20 0) (nI i) (ppF (r 0 25 0) (r 27 0)) (r 19 0 i).toNatClampNeg 0 (r 36 0))) 28 0 (ppF (r 0 25 0) (r 27 0)).toNatClampNeg = 3 := by rw [uA_k (by omega), u3_k (by omega), u3_k (by omega), u3_k (by omega), u3_k (by omega)]; exact post_28
  have k29 : (uA (u3 (u3 (u3 (u3 (S_Model_post r 3 (r 10 0 i)) 30 0 (ppF (r 0 25 0) (r 27 0)).toNatClampNeg (r 8 0 i)) 31 0 (ppF (r 0 25 0) (r 27 0)).toNatClampNeg (r 9 0 i)) 32 0 (ppF (r 0 25 0) (r 27 0)).toNatClampNeg (r 10 0 i)) 34 0 (ppF (r 0 25 0) (r 27 0)).toNatClampNeg (r 19 0 i)) 36 0 (cpR (r 20 0) (nI i) (ppF (r 0 25 0) (r 27 0)) (r 19 0 i).toNatClampNeg 0 (r 36 0))) 29 0 (ppF (r 0 25 0) (r 27 0)).toNatClampNeg = r 10 0 i := by rw [uA_k (by omega), u3_k (by omega), u3_k (by omega), u3_k (by omega), u3_k (by omega)]; exact post_29
  have k30 : (uA (u3 (u3 (u3 (u3 (S_Model_post r 3 (r 10 0 i)) 30 0 (ppF (r 0 25 0) (r 27 0)).toNatClampNeg (r 8 0 i)) 31 0 (ppF (r 0 25 0) (r 27 0)).toNatClampNeg (r 9 0 i)) 32 0 (ppF (r 0 25 0) (r 27 0)).toNatClampNeg (r 10 0 i)) 34 0 (ppF (r 0 25 0) (r 27 0)).toNatClampNeg (r 19 0 i)) 36 0 (cpR (r 20 0) (nI i) (ppF (r 0 25 0) (r 27 0)) (r 19 0 i).toNatClampNeg 0 (r 36 0))) 30 0 (ppF (r 0 25 0) (r 27 0)).toNatClampNeg = r 8 0 i := by rw [uA_k (by omega), u3_k (by omega), u3_k (by omega), u3_k (by omega)]; exact u3_at
  have k31 : (uA (u3 (u3 (u3 (u3 (S_Model_post r 3 (r 10 0 i)) 30 0 (ppF (r 0 25 0) (r 27 0)).toNatClampNeg (r 8 0 i)) 31 0 (ppF (r 0 25 0) (r 27 0)).toNatClampNeg (r 9 0 i)) 32 0 (ppF (r 0 25 0) (r 27 0)).toNatClampNeg (r 10 0 i)) 34 0 (ppF (r 0 25 0) (r 27 0)).toNatClampNeg (r 19 0 i)) 36 0 (cpR (r 20 0) (nI i) (ppF (r 0 25 0) (r 27 0)) (r 19 0 i).toNatClampNeg 0 (r 36 0))) 31 0 (ppF (r 0 25 0) (r 27 0)).toNatClampNeg = r 9 0 i := by rw [uA_k (by omega), u3_k (by omega), u3_k (by omega)]; exact u3_at
  have k32 : (uA (u3 (u3 (u3 (u3 (S_Model_post r 3 (r 10 0 i)) 30 0 (ppF (r 0 25 0) (r 27 0)).toNatClampNeg (r 8 0 i)) 31 0 (ppF (r 0 25 0) (r 27 0)).toNatClampNeg (r 9 0 i)) 32 0 (ppF (r 0 25 0) (r 27 0)).toNatClampNeg (r 10 0 i)) 34 0 (ppF (r 0 25 0) (r 27 0)).toNatClampNeg (r 19 0 i)) 36 0 (cpR (r 20 0) (nI i) (ppF (r 0 25 0) (r 27 0)) (r 19 0 i).toNatClampNeg 0 (r 36 0))) 32 0 (ppF (r 0 25 0) (r 27 0)).toNatClampNeg = r 10 0 i := by rw [uA_k (by omega), u3_k (by omega)]; exact u3_at
  have k34 : (uA (u3 (u3 (u3 (u3 (S_Model_post r 3 (r 10 0 i)) 30 0 (ppF (r 0 25 0) (r 27 0)).toNatClampNeg (r 8 0 i)) 31 0 (ppF (r 0 25 0) (r 27 0)).toNatClampNeg (r 9 0 i)) 32 0 (ppF (r 0 25 0) (r 27 0)).toNatClampNeg (r 10 0 i)) 34 0 (ppF (r 0 25 0) (r 27 0)).toNatClampNeg (r 19 0 i)) 36 0 (cpR (r 20 0) (nI i) (ppF (r 0 25 0) (r 27 0)) (r 19 0 i).toNatClampNeg 0 (r 36 0))) 34 0 (ppF (r 0 25 0) (r 27 0)).toNatClampNeg = r 19 0 i := by rw [uA_k (by omega)]; exact u3_at
  have hkk : ∀ k, k < 28 → (uA (u3 (u3 (u3 (u3 (S_Model_post r 3 (r 10 0 i)) 30 0 (ppF (r 0 25 0) (r 27 0)).toNatClampNeg (r 8 0 i)) 31 0 (ppF (r 0 25 0) (r 27 0)).toNatClampNeg (r 9 0 i)) 32 0 (ppF (r 0 25 0) (r 27 0)).toNatClampNeg (r 10 0 i)) 34 0 (ppF (r 0 25 0) (r 27 0)).toNatClampNeg (r 19 0 i)) 36 0 (cpR (r 20 0) (nI i) (ppF (r 0 25 0) (r 27 0)) (r 19 0 i).toNatClampNeg 0 (r 36 0))) k = S_Model_post r 3 (r 10 0 i) k := fun k hk => by rw [uA_k (by omega), u3_k (by omega), u3_k (by omega), u3_k (by omega), u3_k (by omega)]
  have hu36 : ∀ j, vp_in ((uA (u3 (u3 (u3 (u3 (S_Model_post r 3 (r 10 0 i)) 30 0 (ppF (r 0 25 0) (r 27 0)).toNatClampNeg (r 8 0 i)) 31 0 (ppF (r 0 25 0) (r 27 0)).toNatClampNeg (r 9 0 i)) 32 0 (ppF (r 0 25 0) (r 27 0)).toNatClampNeg (r 10 0 i)) 34 0 (ppF (r 0 25 0) (r 27 0)).toNatClampNeg (r 19 0 i)) 36 0 (cpR (r 20 0) (nI i) (ppF (r 0 25 0) (r 27 0)) (r 19 0 i).toNatClampNeg 0 (r 36 0))) 36 0 j) 512 := fun j => by
    rw [uA_at, epp]
    exact cpR_vp (by omega) hq34 (by show 0 + xl r i ≤ 180; omega) cU.1 cU.2.1 j
  have hlg : ∀ a, a < xl r i → lgL (uA (u3 (u3 (u3 (u3 (S_Model_post r 3 (r 10 0 i)) 30 0 (ppF (r 0 25 0) (r 27 0)).toNatClampNeg (r 8 0 i)) 31 0 (ppF (r 0 25 0) (r 27 0)).toNatClampNeg (r 9 0 i)) 32 0 (ppF (r 0 25 0) (r 27 0)).toNatClampNeg (r 10 0 i)) 34 0 (ppF (r 0 25 0) (r 27 0)).toNatClampNeg (r 19 0 i)) 36 0 (cpR (r 20 0) (nI i) (ppF (r 0 25 0) (r 27 0)) (r 19 0 i).toNatClampNeg 0 (r 36 0))) (ppF (r 0 25 0) (r 27 0)).toNatClampNeg a = lgS r i a := fun a ha => by
    unfold lgL lgS
    rw [uA_at, epp, nI_clamp (show q < 2 ^ 31 by omega)]
    exact cpR_in (by omega) hq34 (by show 0 + xl r i ≤ 180; omega) cU.1 _ (by omega) (by show a < 0 + xl r i; omega)
  generalize hr' : (uA (u3 (u3 (u3 (u3 (S_Model_post r 3 (r 10 0 i)) 30 0 (ppF (r 0 25 0) (r 27 0)).toNatClampNeg (r 8 0 i)) 31 0 (ppF (r 0 25 0) (r 27 0)).toNatClampNeg (r 9 0 i)) 32 0 (ppF (r 0 25 0) (r 27 0)).toNatClampNeg (r 10 0 i)) 34 0 (ppF (r 0 25 0) (r 27 0)).toNatClampNeg (r 19 0 i)) 36 0 (cpR (r 20 0) (nI i) (ppF (r 0 25 0) (r 27 0)) (r 19 0 i).toNatClampNeg 0 (r 36 0))) = r' at hrB k28 k29 k30 k31 k32 k34 hkk hu36 hlg ⊢
  have e8 := hrB.1 8 (by omega) (by omega)
  have ev : ∀ x, xv r' x = xv r x := fun x => by unfold xv; rw [e8]
  refine post_inv2 (k0 := 3) (a0 := r 10 0 i) (L := nxL (s 4 2 0) π) (p := (ppF (r 0 25 0) (r 27 0)).toNatClampNeg) ht hn5 hA (by rw [rP.1]) rfl (sBut_state (sBut_view (sBut_next _ _) _) _) hrB rfl hkk hu36 rP.2.2.2.2 ?_ ?_
  · refine Or.inr (Or.inr (Or.inl ⟨k28, ⟨b, hbn, k29.trans hbk.2⟩, xv r i, by omega, ?_, ?_, ?_, ?_, ?_, ⟨i, hi, hl, ?_⟩, xl r i, hTl, ?_, ?_⟩))
    · rw [ev]; exact s1
    · rw [k30]; exact s0
    · rw [k31]; exact (s2 hv).1
    · rw [k32]; exact (s2 hv).2
    · rw [k29]; exact (s2 hv).2
    · rw [ev]; exact Nat.le_refl _
    · rw [k34]; exact s3
    · intro a ha
      rw [hlg a ha]; exact hlog a ha
  · unfold LR
    rw [k28, k29, k30, k31, k32, k34]
    refine ⟨next_3 (a := s 6 2 i), (next_4 (k := 3)).trans (hbk.1.trans hbk.2.symm), fun h => absurd h (by decide), fun h => absurd h (by decide), fun _ => ⟨?_, ?_, ?_, ?_⟩, fun h => absurd h (by decide), fun h => absurd h (by decide), fun h => absurd h (by decide), fun h => absurd h (by decide), fun h => absurd h (by decide)⟩
    · exact (bv_0 (π := π) (s := S_Post_next π s 3 (s 6 2 i)) (a := 8 + nxL (s 4 2 0) π) (b := i)).trans q60
    · exact (bv_1 (π := π) (s := S_Post_next π s 3 (s 6 2 i)) (a := 8 + nxL (s 4 2 0) π) (b := i)).trans (q6 z).1
    · have e : S_State_become π (S_View_become π (S_Post_next π s 3 (s 6 2 i)) (8 + nxL (s 4 2 0) π) i) (8 + nxL (s 4 2 0) π) i 6 2 (8 + nxL (s 4 2 0) π) = s 6 2 i := bv_2 (π := π) (s := S_Post_next π s 3 (s 6 2 i)) (a := 8 + nxL (s 4 2 0) π) (b := i)
      rw [e]; exact (q6 z).2
    · refine SR_congr q11 bs_3 (fun k hk => bs_9 hk) (fun k hk => bs_13 hk) (fun k hk => bs_14 hk) (fun a ha => (hlg a ha).symm) (fun a _ => by rw [hrB.1 3 (by omega) (by omega)]) (fun a _ => by rw [hrB.1 4 (by omega) (by omega)]) (fun a _ => by rw [hrB.1 5 (by omega) (by omega)]) (fun a _ => by rw [hrB.1 6 (by omega) (by omega)])
theorem st_push_ok (ht : t < 512) (hn5 : n ≤ 5) (h : INV n t none s π r vp vb T Q) : st_push n (JJ n) t s π r := by
  intro x
  have hi := inv_t h
  have e0 : r 0 0 0 = nI n := h.1.1
  unfold v_Store_push v_Model_push S_Store_push S_Model_push
  rw [e0]
  rcases srv_cases hn5 x with ⟨i, hin, rfl, e1, e2⟩ | ⟨e1, e2⟩
  · rw [nI_clamp (show i < 2 ^ 31 by omega)]
    simp only [e1, e2, one0, eq_self, if_true, if_false]
    have e6 : s 1 6 i = r 17 0 i := (h.2.2.2.2.2.2.2.2.2.1 i hin).2.2.2.1
    rw [e6]
    by_cases h1 : r 17 0 i = 0
    · simp only [if_pos h1]
      rcases lead_eq hn5 hin h with ⟨l1, l2, -⟩ | ⟨l1, l2, l3, l4, l5, l6, l7⟩
      · simp only [l1, l2, eq_self, if_true]
        exact ⟨rfl, vp, vb, T, Q, hi⟩
      · simp only [l1, l2, l3, one0, if_false]
        have hcS := h.2.2.2.2.1.1 i hin
        have hrS := h.2.2.2.2.2.2.2.2.2.1 i hin
        have h10 := (hcS.2.2.1 l4).2
        have hlv : xv r i ≤ xv r 5 := hcS.2.1
        rcases (h.2.1.2.1 (xv r i) (by omega) hlv).2.1 with hb | ⟨b, hbn, hb⟩
        · have b7 : s 6 2 i = 7 := by
            rcases (hrS.2.2.2.2.2.2.2.2.1 l5).2 with ⟨-, e⟩ | ⟨j, hj, e, -⟩
            · exact e
            · rw [h10, hb] at e; exact absurd e.symm (nI_ne_m1 (by omega))
          have v7 : v_View_hasBackup (s 6 2 i) = 0 := by rw [b7]; rfl
          have r10 : r 10 0 i < 0 := by rw [h10, hb]; decide
          simp only [v7, if_pos r10, eq_self, if_true]
          exact ⟨rfl, vp, vb, T, Q, hi⟩
        · have hbk := bk_eq hn5 hin h l4 hb hbn
          have v7 : v_View_hasBackup (s 6 2 i) = 1 := by
            unfold v_View_hasBackup
            rw [hbk.1, if_neg]
            rw [show (7 : Int32) = nI 7 from rfl, nI_eq (by omega) (by omega)]; omega
          have r10 : ¬ r 10 0 i < 0 := by rw [hbk.2]; exact nI_pos (by omega)
          simp only [v7, if_neg r10, one0, if_false]
          by_cases h15 : r 15 0 i = 0
          · simp only [if_pos h15]
            exact ⟨rfl, vp, vb, T, Q, sendFill_inv (by omega) hn5 hin h l4 l6 hb hbn⟩
          · simp only [if_neg h15]
            rcases hrS.2.2.2.2.2.1 with ⟨p1, p2⟩ | ⟨p1, p2, -⟩
            · have n1 : ¬ 0 ≤ r 18 0 i := by rw [p2]; decide
              simp only [p1, if_neg n1, eq_self, if_true]
              exact ⟨rfl, vp, vb, T, Q, hi⟩
            · have n1 : 0 ≤ r 18 0 i ∧ ¬ r 18 0 i < 0 := by
                rcases hcS.2.2.2.2.2.2.2.2.1 with e | ⟨o, ho, e, -⟩
                · exact absurd e p2
                · have hlt : xb r < 2 ^ 31 := Int32.toNatClampNeg_lt _
                  rw [e]; exact ⟨nI_pos' (by omega), nI_pos (by omega)⟩
              simp only [p1, if_pos n1.1, if_neg n1.2, one0, if_false]
              exact ⟨rfl, vp, vb, T, Q, sendPass_inv (by omega) hn5 hin h l4 l6 hb hbn p2⟩
    · simp only [if_neg h1]; exact ⟨rfl, vp, vb, T, Q, hi⟩
  · simp only [e1, e2, one0, eq_self, if_true, if_false]; exact ⟨rfl, vp, vb, T, Q, hi⟩
end PF
