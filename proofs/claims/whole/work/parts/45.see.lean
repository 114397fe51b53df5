/-! a VIEW arrives -/
def AR (n t : Nat) (tk : Option Nat) (s : S3) (π : Nat → Nat) (L : Nat) (S' R' : S3) (v v' : Int32) : Prop := v = v' ∧ S' 5 3 L = s 5 3 L ∧ ∃ (vp vb : Nat → Int32) (T : Nat → Nat) (Q : Nat → Nat → Int32), INV n (t + 1) tk S' π R' vp vb T Q
section SE
variable {n t : Nat} {tk : Option Nat} {s : S3} {π : Nat → Nat} {r : S3} {vp vb : Nat → Int32} {T : Nat → Nat} {Q : Nat → Nat → Int32} {i v L p : Nat}
theorem lease_inv (h : INV n t tk s π r vp vb T Q) (x : Int32) : INV n t tk (u3 s 1 5 i x) π (u3 r 14 0 i x) vp vb T Q := by
  obtain ⟨gA, gV, gO, gC, gS, gU, gB, gL, kG, kS, kC, kP, kL⟩ := h
  refine ⟨gA, gV, gO, gC, gS, gU, gB, gL, kG, fun j hj => ?_, kC, kP, kL⟩
  obtain ⟨b1, b2, b3, b4⟩ := kS j hj
  exact ⟨b1, b2, upd_eq b3, b4⟩
theorem lease_ok (h : INV n t tk s π r vp vb T Q) (hi : i < n) {x y : Int32} (hxy : x = y) : INV n t tk (u3 s 1 5 i (if s 1 5 i < x + 100 then x + 100 else s 1 5 i)) π (if y + 100 ≤ r 14 0 i then r else u3 r 14 0 i (y + 100)) vp vb T Q := by
  subst hxy
  have e : s 1 5 i = r 14 0 i := (h.2.2.2.2.2.2.2.2.2.1 i hi).2.2.1
  by_cases hb : x + 100 ≤ r 14 0 i
  · rw [if_pos hb, if_neg (by rw [e]; exact Int32.not_lt.mpr hb), u3_id]
    exact h
  · rw [if_neg hb, if_pos (by rw [e]; exact Int32.not_le.mp hb)]
    exact lease_inv h _
theorem eR_xv {P B Y : Int32} (hv : v < 2 ^ 31) : xv (eR r i (nI v) P B Y) i = v := by
  have : xv (eR r i (nI v) P B Y) i = (eR r i (nI v) P B Y 8 0 i).toNatClampNeg := rfl
  rw [this, eR_8, upd_at, nI_clamp hv]
theorem isP_eq {x : Int32} : v_Server_isPrimary x (nI i) = if x = nI i then 1 else 0 := rfl
theorem enter_res (ht : t ≤ 512) (hn5 : n ≤ 5) (h : INV n t (some p) s π r vp vb T Q) (hi : i < n) (hL : L ≠ nxL (s 4 2 0) π) (hv1 : xv r i < v) (hv2 : v ≤ xv r 5) (g0 : s 6 0 (8 + L) = nI v) (g1 : s 6 1 (8 + L) = vp v) (g2 : BR (s 6 2 (8 + L)) (vb v)) : ∃ T' Q', INV n (t + 1) (some p) (S_Store_enterView n π s i (8 + L)) π (S_Model_enter r (nI i) (nI v) (vp v) (vb v)) vp vb T' Q' ∧ (∀ a, S_Store_enterView n π s i (8 + L) 5 a L = s 5 a L) ∧ S_Model_enter r (nI i) (nI v) (vp v) (vb v) 33 0 p = r 33 0 p := by
  have h10 : s 1 0 i = nI i := (h.2.2.2.2.2.2.2.2.2.1 i hi).1
  have h31 : v < 2 ^ 31 := Nat.lt_of_le_of_lt hv2 (Int32.toNatClampNeg_lt _)
  have hpn := pp_ne h.2.2.2.2.2.2.1
  obtain ⟨-, hvb, -⟩ := h.2.1.2.1 v (by omega) hv2
  unfold S_Store_enterView
  rw [u3_at, g1, h10, isP_eq]
  by_cases hp : vp v = nI i
  · have w3 := show 8 + L ≠ i by omega
    rw [if_pos hp, if_neg one0, u3_ne w3, u3_ne w3, u3_ne w3]
    unfold S_Model_enter
    rw [if_pos hp, nI_clamp (show i < 2 ^ 31 by omega)]
    rcases hvb with hb | ⟨b, hbn, hb⟩
    · have b7 : s 6 2 (8 + L) = 7 := by
        rcases g2 with ⟨-, e⟩ | ⟨j, hj, e, -⟩
        · exact e
        · rw [hb] at e; exact absurd e.symm (nI_ne_m1 (by omega))
      have v7 : v_View_hasBackup (s 6 2 (8 + L)) = 0 := by rw [b7]; rfl
      have n0 : ¬ 0 ≤ vb v := by rw [hb]; decide
      have n1 : vb v < 0 := by rw [hb]; decide
      rw [if_pos v7, if_neg n0, if_pos n1]
      exact ⟨_, _, inv_t (enter_yes hn5 h hi hv1 hv2 g0 g1 g2 hp zb_1), fun a => rfl, rfl⟩
    · have b7 : s 6 2 (8 + L) = nI b := by
        rcases g2 with ⟨e, -⟩ | ⟨j, hj, e, e2⟩
        · rw [hb] at e; exact absurd e (nI_ne_m1 (by omega))
        · rw [e2, ← e, hb]
      have v7 : ¬ v_View_hasBackup (s 6 2 (8 + L)) = 0 := by
        unfold v_View_hasBackup
        rw [b7, if_neg]
        · exact one0
        · rw [show (7 : Int32) = nI 7 from rfl, nI_eq (by omega) (by omega)]; omega
      have n0 : 0 ≤ vb v := by rw [hb]; exact nI_pos' (by omega)
      have n1 : ¬ vb v < 0 := by rw [hb]; exact nI_pos (by omega)
      rw [if_neg v7, if_pos n0, if_neg n1]
      have e1 := enter_yes (π := π) (Y := 0) hn5 h hi hv1 hv2 g0 g1 g2 hp (Or.inl rfl)
      have ex : xv (eR r i (nI v) (vp v) (vb v) 0) i = v := eR_xv h31
      have e2 := sendFill_inv ht hn5 hi e1 (by rw [ex]; omega) (by rw [ex]; exact hp) (by rw [ex]; exact hb) hbn
      refine ⟨_, _, e2, fun a => ?_, ?_⟩
      · have hs : sBut (eS π s i (8 + L) 0) (S_Store_sendFill π (eS π s i (8 + L) 0) i) (nxL (s 4 2 0) π) := sBut_state (sBut_view (sBut_next _ _) _) _
        exact hs.2.2.2.2.2.1 a L hL
      · show S_Model_sendFill (eR r i (nI v) (vp v) (vb v) 0) (nI i) 33 0 p = r 33 0 p
        have e25 : (eR r i (nI v) (vp v) (vb v) 0) 0 25 0 = r 0 25 0 := rfl
        have e27 : (eR r i (nI v) (vp v) (vb v) 0) 27 0 = r 27 0 := rfl
        have e33 : (eR r i (nI v) (vp v) (vb v) 0) 33 0 p = r 33 0 p := rfl
        rw [← e33]
        rw [← e25, ← e27] at hpn
        generalize eR r i (nI v) (vp v) (vb v) 0 = r1 at hpn ⊢
        unfold S_Model_sendFill
        rw [uA_k (by omega), u3_k (by omega), u3_k (by omega), u3_k (by omega), u3_k (by omega)]
        exact (rBut_post _ _).2.2.1 33 p (by omega) (by omega) (Ne.symm hpn)
  · rw [if_neg hp, if_pos rfl]
    exact ⟨T, Q, inv_t (enter_no hn5 h hi hv1 hv2 g0 g1 g2 hp), fun a => rfl, by rw [enter_ne hp]; rfl⟩
theorem see_ar (ht : t ≤ 512) (hn5 : n ≤ 5) (h : INV n t (some p) s π r vp vb T Q) (hi : i < n) (hL : L ≠ nxL (s 4 2 0) π) (hp31 : p < 2 ^ 31) (hv0 : 1 ≤ v) (hv2 : v ≤ xv r 5) (e30 : r 30 0 p = nI v) (e31 : r 31 0 p = vp v) (e32 : r 32 0 p = vb v) (l0 : s 6 0 (8 + L) = r 30 0 p) (l1 : s 6 1 (8 + L) = r 31 0 p) (l2 : BR (s 6 2 (8 + L)) (r 32 0 p)) (l3 : s 5 6 L = r 33 0 p) : AR n t (some p) s π L (S_Store_takeView n π s i L) (S_Model_see r (nI p) (nI i)) (v_Store_takeView n π s i L) (v_Model_see r (nI p) (nI i)) := by
  have h31 : v < 2 ^ 31 := Nat.lt_of_le_of_lt hv2 (Int32.toNatClampNeg_lt _)
  have hx31 : xv r i < 2 ^ 31 := Int32.toNatClampNeg_lt _
  have c8 : r 8 0 i = nI (xv r i) := (h.2.2.2.2.1.1 i hi).1
  have s60 : s 6 0 i = nI (xv r i) := (h.2.2.2.2.2.2.2.2.2.1 i hi).2.2.2.2.2.2.1.trans c8
  rw [e30] at l0
  rw [e31] at l1
  rw [e32] at l2
  unfold S_Store_takeView S_Model_see v_Store_takeView v_Model_see
  rw [nI_clamp (show i < 2 ^ 31 by omega), nI_clamp hp31, e30, e31, e32, l0, s60]
  by_cases q1 : xv r i ≤ v
  · have q1' : nI (xv r i) ≤ nI v := by rw [nI_leI hx31 h31]; exact q1
    by_cases q2 : v ≤ xv r i
    · have q2' : nI v ≤ nI (xv r i) := by rw [nI_leI h31 hx31]; exact q2
      rw [c8]
      simp only [if_pos q1', if_pos q2']
      rcases lead_eq hn5 hi h with ⟨a1, a2, -⟩ | ⟨a1, a2, -⟩
      · rw [c8] at a2
        simp only [a1, a2, eq_self, if_true]
        exact ⟨rfl, rfl, vp, vb, T, Q, inv_t h⟩
      · rw [c8] at a2
        simp only [a1, a2, one0, if_false]
        refine ⟨?_, rfl, vp, vb, T, Q, ?_⟩
        · split <;> rfl
        · exact lease_ok (inv_t h) hi l3
    · have q2' : ¬ nI v ≤ nI (xv r i) := by rw [nI_leI h31 hx31]; exact q2
      obtain ⟨T', Q', k1, k2, k3⟩ := enter_res ht hn5 h hi hL (by omega) hv2 l0 l1 l2
      generalize S_Store_enterView n π s i (8 + L) = E at k1 k2 ⊢
      generalize S_Model_enter r (nI i) (nI v) (vp v) (vb v) = F at k1 k3 ⊢
      rw [c8]
      simp only [if_pos q1', if_neg q2']
      rcases lead_eq hn5 hi k1 with ⟨a1, a2, -⟩ | ⟨a1, a2, -⟩
      · simp only [a1, a2, eq_self, if_true]
        exact ⟨rfl, k2 3, vp, vb, T', Q', k1⟩
      · simp only [a1, a2, one0, if_false]
        refine ⟨?_, k2 3, vp, vb, T', Q', ?_⟩
        · split <;> rfl
        · exact lease_ok k1 hi (by rw [k2 6, k3]; exact l3)
  · have q1' : ¬ nI (xv r i) ≤ nI v := by rw [nI_leI hx31 h31]; exact q1
    rw [c8]
    simp only [if_neg q1']
    exact ⟨rfl, rfl, vp, vb, T, Q, inv_t h⟩
end SE
