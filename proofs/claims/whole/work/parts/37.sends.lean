/-! ping, send, push -/
theorem post_28 {r : S3} {k a : Int32} : S_Model_post r k a 28 0 (ppF (r 0 25 0) (r 27 0)).toNatClampNeg = k := by
  unfold S_Model_post
  rw [u3_k (show 28 ≠ 29 by decide)]
  exact u3_at
theorem post_29 {r : S3} {k a : Int32} : S_Model_post r k a 29 0 (ppF (r 0 25 0) (r 27 0)).toNatClampNeg = a := by
  unfold S_Model_post
  exact u3_at
theorem post_w2 {r : S3} {k a : Int32} : S_Model_post r k a 0 25 0 = nxW (r 0 25 0) := by
  unfold S_Model_post
  rw [u3_k (show 0 ≠ 29 by decide), u3_k (show 0 ≠ 28 by decide)]
  exact u3_at
theorem u3_row {s : S3} {a b c : Nat} {v : Int32} : u3 s a b c v a b = upd (s a b) c v := by
  unfold u3 uA
  simp
theorem post_w3 {r : S3} {k a : Int32} : S_Model_post r k a 26 0 = upd (r 26 0) (r 0 25 0).toNatClampNeg (if 32 ≤ r 0 25 0 then r 26 0 (r 0 25 0).toNatClampNeg else ppF (r 0 25 0) (r 27 0)) := by
  unfold S_Model_post
  rw [u3_k (show 26 ≠ 29 by decide), u3_k (show 26 ≠ 28 by decide), u3_k (show 26 ≠ 0 by decide), u3_row, u3_k (show 26 ≠ 27 by decide)]
theorem post_w4 {r : S3} {k a : Int32} : S_Model_post r k a 27 0 = upd (r 27 0) (ppF (r 0 25 0) (r 27 0)).toNatClampNeg (if 32 ≤ r 0 25 0 then r 27 0 (ppF (r 0 25 0) (r 27 0)).toNatClampNeg else 1) := by
  unfold S_Model_post
  rw [u3_k (show 27 ≠ 29 by decide), u3_k (show 27 ≠ 28 by decide), u3_k (show 27 ≠ 0 by decide), u3_k (show 27 ≠ 26 by decide), u3_row]
theorem post_36 {r : S3} {k a : Int32} : S_Model_post r k a 36 = r 36 := by
  unfold S_Model_post
  rw [u3_k (show 36 ≠ 29 by decide), u3_k (show 36 ≠ 28 by decide), u3_k (show 36 ≠ 0 by decide), u3_k (show 36 ≠ 26 by decide), u3_k (show 36 ≠ 27 by decide)]
theorem post_inv2 {n t : Nat} {tk : Option Nat} {s s' : S3} {π : Nat → Nat} {r r' : S3} {vp vb : Nat → Int32} {T : Nat → Nat} {Q : Nat → Nat → Int32} {L p : Nat} {k0 a0 : Int32} (ht : t ≤ 512) (hn5 : n ≤ 5) (h : INV n t tk s π r vp vb T Q) (hL : L = nxL (r 0 25 0) π) (hp : p = (ppF (r 0 25 0) (r 27 0)).toNatClampNeg) (hs : sBut s s' L) (hr : rBut r r' p) (w1 : s' 4 2 0 = nxW (s 4 2 0)) (hk : ∀ k, k < 28 → r' k = S_Model_post r k0 a0 k) (hu : ∀ j, vp_in (r' 36 0 j) 512) (hop : opOK s') (hLP : LPx n r' vp vb T Q p) (hLR : LR s' r' L p) : INV n (t + 1) tk s' π r' vp vb T Q := by
  refine post_inv ht hn5 h hL hp hs hr w1 ?_ ?_ ?_ hu hop hLP hLR
  · rw [hk 0 (by omega)]; exact post_w2
  · rw [hk 26 (by omega)]; exact post_w3
  · rw [hk 27 (by omega), hp]; exact post_w4
theorem next_3 {π : Nat → Nat} {s : S3} {k a : Int32} : S_Post_next π s k a 5 3 (nxL (s 4 2 0) π) = k := u3_at (s := u3 s 4 2 0 _) (a := 5) (b := 3)
theorem next_4 {π : Nat → Nat} {s : S3} {k a : Int32} : S_Post_next π s k a 5 4 (nxL (s 4 2 0) π) = a := u3_at
section BE
variable {π : Nat → Nat} {s : S3} {a b : Nat}
theorem bo_0 : S_Operation_become π s a b 7 0 a = s 7 0 b := u3_at (s := s) (a := 7) (b := 0)
theorem bo_1 : S_Operation_become π s a b 7 1 a = s 7 1 b := u3_at (s := u3 s 7 0 a (s 7 0 b)) (a := 7) (b := 1)
theorem bo_2 : S_Operation_become π s a b 7 2 a = s 7 2 b := u3_at (s := u3 (u3 s 7 0 a (s 7 0 b)) 7 1 a (s 7 1 b)) (a := 7) (b := 2)
theorem bo_3 : S_Operation_become π s a b 7 3 a = s 7 3 b := u3_at (s := u3 (u3 (u3 s 7 0 a (s 7 0 b)) 7 1 a (s 7 1 b)) 7 2 a (s 7 2 b)) (a := 7) (b := 3)
theorem bo_4 : S_Operation_become π s a b 7 4 a = s 7 4 b := u3_at
theorem bv_0 : S_View_become π s a b 6 0 a = s 6 0 b := u3_at (s := s) (a := 6) (b := 0)
theorem bv_1 : S_View_become π s a b 6 1 a = s 6 1 b := u3_at (s := u3 s 6 0 a (s 6 0 b)) (a := 6) (b := 1)
theorem bv_2 : S_View_become π s a b 6 2 a = s 6 2 b := u3_at
theorem cpy0 {f g : Nat → Int32} {n k : Nat} (h : k < n) : va_cpy f g 0 0 n k = f k := by
  unfold va_cpy
  rw [if_pos (by omega)]
  congr 1
  omega
theorem bs_3 : S_State_become π s a b 8 3 a = s 8 3 b := u3_at
theorem bs_9 {k : Nat} (hk : k < 4) : S_State_become π s a b 9 a k = s 9 b k := by
  show uA _ 9 a (va_cpy (s 9 b) (s 9 a) 0 0 4) 9 a k = _
  simp only [uA, if_true]
  exact cpy0 hk
theorem bs_13 {k : Nat} (hk : k < 3) : S_State_become π s a b 13 a k = s 13 b k := by
  show uA _ 13 a (va_cpy (s 13 b) (s 13 a) 0 0 3) 13 a k = _
  simp only [uA, if_true]
  exact cpy0 hk
theorem bs_14 {k : Nat} (hk : k < 3) : S_State_become π s a b 14 a k = s 14 b k := by
  show uA _ 14 a (va_cpy (s 14 b) (s 14 a) 0 0 3) 14 a k = _
  simp only [uA, if_true]
  exact cpy0 hk
end BE
section LE
variable {n t : Nat} {tk : Option Nat} {s : S3} {π : Nat → Nat} {r : S3} {vp vb : Nat → Int32} {T : Nat → Nat} {Q : Nat → Nat → Int32}
/-- both sides know alike who leads -/
theorem lead_eq {i : Nat} (hn5 : n ≤ 5) (hi : i < n) (h : INV n t tk s π r vp vb T Q) : (v_Server_isPrimary (s 6 1 i) (s 1 0 i) = 0 ∧ v_Model_leads (r 8 0 i) (r 9 0 i) (nI i) = 0 ∧ ¬ (xv r i ≠ 0 ∧ vp (xv r i) = nI i)) ∨ (v_Server_isPrimary (s 6 1 i) (s 1 0 i) = 1 ∧ v_Model_leads (r 8 0 i) (r 9 0 i) (nI i) = 1 ∧ s 1 7 i = r 15 0 i ∧ xv r i ≠ 0 ∧ r 8 0 i ≠ 0 ∧ vp (xv r i) = nI i ∧ r 9 0 i = nI i) := by
  obtain ⟨cA, cV, cO, gC, cS, cU, cB, cL, rG, rS, rC, rP, rL⟩ := h
  obtain ⟨b0, -, -, -, -, -, -, b7, b8, b9, -⟩ := rS i hi
  obtain ⟨c0, -, c2, -⟩ := cS.1 i hi
  unfold v_Server_isPrimary v_Model_leads
  rw [b0]
  have hlt : xv r i < 2 ^ 31 := Int32.toNatClampNeg_lt _
  by_cases hz : xv r i = 0
  · have z : r 8 0 i = 0 := by rw [c0, hz]; rfl
    have z7 : ¬ (7 : Int32) = nI i := by rw [show (7 : Int32) = nI 7 from rfl, nI_eq (by omega) (by omega)]; omega
    rw [(b7 z).1, z, if_neg z7, if_pos (show (0 : Int32) ≤ 0 by decide)]
    exact Or.inl ⟨rfl, rfl, fun h => h.1 hz⟩
  · have z : r 8 0 i ≠ 0 := by rw [c0]; exact nI_ne0 (by omega) hlt
    have zp : ¬ r 8 0 i ≤ 0 := by rw [c0]; exact nI_nle (by omega) hlt
    rw [if_neg zp, (b8 z).1]
    by_cases hp : r 9 0 i = nI i
    · rw [if_pos hp]
      exact Or.inr ⟨rfl, rfl, b9 z hp, hz, z, by rw [← (c2 hz).1]; exact hp, hp⟩
    · rw [if_neg hp]
      exact Or.inl ⟨rfl, rfl, fun h => hp (by rw [(c2 hz).1]; exact h.2)⟩
theorem st_ping_ok (ht : t < 512) (hn5 : n ≤ 5) (h : INV n t none s π r vp vb T Q) : st_ping n (JJ n) t s π r := by
  intro x
  have hi := inv_t h
  have e0 : r 0 0 0 = nI n := h.1.1
  unfold v_Store_ping v_Model_ping S_Store_ping S_Model_ping
  rw [e0]
  rcases srv_cases hn5 x with ⟨i, hin, rfl, e1, e2⟩ | ⟨e1, e2⟩
  · rw [nI_clamp (show i < 2 ^ 31 by omega)]
    simp only [e1, e2, one0, eq_self, if_true, if_false]
    have e6 : s 1 6 i = r 17 0 i := (h.2.2.2.2.2.2.2.2.2.1 i hin).2.2.2.1
    have e48 : s 6 0 i = r 8 0 i := (h.2.2.2.2.2.2.2.2.2.1 i hin).2.2.2.2.2.2.1
    have e4 : s 1 4 i = r 13 0 i := (h.2.2.2.2.2.2.2.2.2.1 i hin).2.1
    have et : s 0 4 0 = r 0 1 0 := h.2.2.2.2.2.2.2.2.1.1
    have ew : s 4 2 0 = r 0 25 0 := h.2.2.2.2.2.2.2.2.2.2.2.1.1
    have hop : opOK s := h.2.2.2.2.2.2.2.2.2.2.2.1.2.2.2.2
    have hu : ∀ j, vp_in (r 36 0 j) 512 := h.2.2.2.2.2.1.2.1
    rw [e6]
    by_cases h1 : r 17 0 i = 0
    · simp only [if_pos h1]
      have key : ∀ N : Int32, v_Server_confirmedNumber (s 6 1 i) (s 1 0 i) (s 6 0 i) (s 1 7 i) = N → JJ n (t + 1) (u3 (u3 (S_Post_next π s 1 (nI i)) 5 5 (nxL (s 4 2 0) π) (v_Server_confirmedNumber (s 6 1 i) (s 1 0 i) (s 6 0 i) (s 1 7 i))) 5 6 (nxL (s 4 2 0) π) (s 0 4 0 + s 1 4 i)) π (u3 (u3 (S_Model_post r 1 (nI i)) 30 0 (ppF (r 0 25 0) (r 27 0)).toNatClampNeg N) 33 0 (ppF (r 0 25 0) (r 27 0)).toNatClampNeg (r 0 1 0 + r 13 0 i)) := by
        intro N hN
        rw [hN, et, e4]
        have k28 : (u3 (u3 (S_Model_post r 1 (nI i)) 30 0 (ppF (r 0 25 0) (r 27 0)).toNatClampNeg N) 33 0 (ppF (r 0 25 0) (r 27 0)).toNatClampNeg (r 0 1 0 + r 13 0 i)) 28 0 (ppF (r 0 25 0) (r 27 0)).toNatClampNeg = 1 := by rw [u3_k (by omega), u3_k (by omega)]; exact post_28
        have k29 : (u3 (u3 (S_Model_post r 1 (nI i)) 30 0 (ppF (r 0 25 0) (r 27 0)).toNatClampNeg N) 33 0 (ppF (r 0 25 0) (r 27 0)).toNatClampNeg (r 0 1 0 + r 13 0 i)) 29 0 (ppF (r 0 25 0) (r 27 0)).toNatClampNeg = nI i := by rw [u3_k (by omega), u3_k (by omega)]; exact post_29
        have k30 : (u3 (u3 (S_Model_post r 1 (nI i)) 30 0 (ppF (r 0 25 0) (r 27 0)).toNatClampNeg N) 33 0 (ppF (r 0 25 0) (r 27 0)).toNatClampNeg (r 0 1 0 + r 13 0 i)) 30 0 (ppF (r 0 25 0) (r 27 0)).toNatClampNeg = N := by rw [u3_k (by omega)]; exact u3_at
        refine ⟨vp, vb, T, Q, post_inv2 (k0 := 1) (a0 := nI i) (L := nxL (s 4 2 0) π) (p := (ppF (r 0 25 0) (r 27 0)).toNatClampNeg) (by omega) hn5 h (by rw [ew]) rfl (sBut_5 (sBut_5 (sBut_next _ _) _ _) _ _) (rBut_u (rBut_u (rBut_post _ _) 30 _ (by omega) (by omega)) 33 _ (by omega) (by omega)) rfl (fun k hk => by rw [u3_k (by omega), u3_k (by omega)]) (by rw [u3_k (by omega), u3_k (by omega), post_36]; exact hu) hop ?_ ?_⟩
        · exact Or.inl ⟨k28, i, hin, k29⟩
        · unfold LR
          rw [k28, k29, k30, u3_at]
          exact ⟨next_3 (a := nI i), next_4, fun _ => ⟨u3_at (s := S_Post_next π s 1 (nI i)) (a := 5) (b := 5), u3_at.symm⟩, fun h => absurd h (by decide), fun h => absurd h (by decide), fun h => absurd h (by decide), fun h => absurd h (by decide), fun h => absurd h (by decide), fun h => absurd h (by decide), fun h => absurd h (by decide)⟩
      rcases lead_eq hn5 hin h with ⟨l1, l2, -⟩ | ⟨l1, l2, l3, -⟩
      · simp only [l2, eq_self, if_true]
        exact ⟨rfl, key _ (by unfold v_Server_confirmedNumber; rw [l1, if_pos rfl, e48])⟩
      · simp only [l2, one0, if_false]
        by_cases hr : r 15 0 i = 0
        · simp only [if_pos hr]
          exact ⟨rfl, key _ (by unfold v_Server_confirmedNumber; rw [l1, if_neg one0, l3, if_pos hr])⟩
        · simp only [if_neg hr]
          exact ⟨rfl, key _ (by unfold v_Server_confirmedNumber; rw [l1, if_neg one0, l3, if_neg hr, e48])⟩
    · simp only [if_neg h1]; exact ⟨rfl, vp, vb, T, Q, hi⟩
  · simp only [e1, e2, one0, eq_self, if_true, if_false]; exact ⟨rfl, vp, vb, T, Q, hi⟩
theorem st_send_ok (ht : t < 512) (hn5 : n ≤ 5) (h : INV n t none s π r vp vb T Q) : st_send n (JJ n) t s π r := by
  intro x y
  have hi := inv_t h
  have e0 : r 0 0 0 = nI n := h.1.1
  unfold v_Store_send v_Model_send S_Store_send S_Model_send
  rw [e0]
  rcases cli_cases x with ⟨c, hc, rfl, e1, e2⟩ | ⟨e1, e2⟩
  · rw [nI_clamp (show c < 2 ^ 31 by omega)]
    simp only [e1, e2, one0, eq_self, if_true, if_false]
    rcases srv_cases hn5 y with ⟨i, hin, rfl, f1, f2⟩ | ⟨f1, f2⟩
    · simp only [f1, f2, one0, eq_self, if_true, if_false]
      have ew : s 4 2 0 = r 0 25 0 := h.2.2.2.2.2.2.2.2.2.2.2.1.1
      have hop : opOK s := h.2.2.2.2.2.2.2.2.2.2.2.1.2.2.2.2
      have hu : ∀ j, vp_in (r 36 0 j) 512 := h.2.2.2.2.2.1.2.1
      have hO := (h.2.2.1.2.2.2.1 c hc).2.2
      have hb := xb_le (by omega) h.2.2.1 h.2.2.2.1
      rcases (h.2.2.2.2.2.2.2.2.2.2.1 c hc).2.2.2.2 with ⟨g1, g2⟩ | ⟨g1, g2, g3⟩
      · rw [g1, g2]
        simp only [eq_self, if_true, if_neg (show ¬ (0 : Int32) ≤ -1 by decide)]
        exact ⟨rfl, vp, vb, T, Q, hi⟩
      · rw [g1]
        rcases hO with ⟨o1, -⟩ | ⟨o, ho, o1, -⟩
        · exact absurd o1 g2
        · have hpos : 0 ≤ r 21 0 c := by rw [o1]; exact nI_pos' (by omega)
          simp only [one0, if_false, if_pos hpos]
          have k28 : (u3 (S_Model_post r 7 (nI i)) 34 0 (ppF (r 0 25 0) (r 27 0)).toNatClampNeg (r 21 0 c)) 28 0 (ppF (r 0 25 0) (r 27 0)).toNatClampNeg = 7 := by rw [u3_k (by omega)]; exact post_28
          have k29 : (u3 (S_Model_post r 7 (nI i)) 34 0 (ppF (r 0 25 0) (r 27 0)).toNatClampNeg (r 21 0 c)) 29 0 (ppF (r 0 25 0) (r 27 0)).toNatClampNeg = nI i := by rw [u3_k (by omega)]; exact post_29
          have k34 : (u3 (S_Model_post r 7 (nI i)) 34 0 (ppF (r 0 25 0) (r 27 0)).toNatClampNeg (r 21 0 c)) 34 0 (ppF (r 0 25 0) (r 27 0)).toNatClampNeg = r 21 0 c := u3_at
          refine ⟨rfl, vp, vb, T, Q, post_inv2 (k0 := 7) (a0 := nI i) (L := nxL (s 4 2 0) π) (p := (ppF (r 0 25 0) (r 27 0)).toNatClampNeg) (by omega) hn5 h (by rw [ew]) rfl (sBut_op (sBut_next _ _) _) (rBut_u (rBut_post _ _) 34 _ (by omega) (by omega)) rfl (fun k hk => by rw [u3_k (by omega)]) (by rw [u3_k (by omega), post_36]; exact hu) (opOK_bec hop) ?_ ?_⟩
          · exact Or.inr (Or.inr (Or.inr (Or.inr (Or.inr (Or.inr (Or.inl ⟨k28, ⟨i, hin, k29⟩, o, by show o < xb _; unfold xb; rw [show (u3 (S_Model_post r 7 (nI i)) 34 0 (ppF (r 0 25 0) (r 27 0)).toNatClampNeg (r 21 0 c)) 0 2 = r 0 2 from (rBut_u (rBut_post 7 (nI i)) 34 _ (by omega) (by omega)).2.1 2 (by omega)]; exact ho, k34.trans o1⟩))))))
          · unfold LR
            rw [k28, k29, k34]
            refine ⟨next_3 (a := nI i), next_4, fun h => absurd h (by decide), fun h => absurd h (by decide), fun h => absurd h (by decide), fun h => absurd h (by decide), fun h => absurd h (by decide), fun h => absurd h (by decide), fun _ => ?_, fun h => absurd h (by decide)⟩
            unfold OR
            rw [bo_0, bo_1, bo_2, bo_3, bo_4]
            have q : ∀ k, k < 26 → k ≠ 0 → (u3 (S_Model_post r 7 (nI i)) 34 0 (ppF (r 0 25 0) (r 27 0)).toNatClampNeg (r 21 0 c)) k = r k := fun k hk h0 => by rw [u3_k (by omega)]; exact (rBut_post 7 (nI i)).1 k h0 hk
            rw [q 3 (by omega) (by omega), q 4 (by omega) (by omega), q 5 (by omega) (by omega), q 6 (by omega) (by omega), q 7 (by omega) (by omega)]
            exact g3
    · simp only [f1, f2, one0, eq_self, if_true, if_false]; exact ⟨rfl, vp, vb, T, Q, hi⟩
  · simp only [e1, e2, one0, eq_self, if_true, if_false]; exact ⟨rfl, vp, vb, T, Q, hi⟩
end LE
