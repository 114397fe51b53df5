/-! a PING arrives, an ANSWER arrives; deliver -/
section DV
variable {n t : Nat} {tk : Option Nat} {s : S3} {π : Nat → Nat} {r : S3} {vp vb : Nat → Int32} {T : Nat → Nat} {Q : Nat → Nat → Int32} {i c L p : Nat}
theorem heard_inv (ht : t ≤ 512) (h : INV n t tk s π r vp vb T Q) : INV n t tk (u3 s 15 0 i (s 0 4 0)) π (u3 r 12 0 i (r 0 1 0)) vp vb T Q := by
  obtain ⟨gA, gV, gO, gC, gS, gU, gB, gL, kG, kS, kC, kP, kL⟩ := h
  refine ⟨⟨gA.1, gA.2.1, fun j => ?_, gA.2.2.2⟩, gV, gO, gC, gS, gU, gB, gL, ⟨kG.1, kG.2.1, kG.2.2.1, kG.2.2.2.1, fun j hj => ?_⟩, kS, kC, kP, kL⟩
  · show upd (r 12 0) i (r 0 1 0) j = -1 ∨ ¬ upd (r 12 0) i (r 0 1 0) j < 0
    by_cases e : j = i
    · rw [e, upd_at]
      obtain ⟨τ, h1, h2⟩ := gA.2.1
      right
      rw [h2]; exact nI_pos (by omega)
    · rw [upd_ne e]; exact gA.2.2.1 j
  · show upd (s 15 0) i (s 0 4 0) j = upd (r 12 0) i (r 0 1 0) j
    rw [kG.1]
    exact upd_eq (kG.2.2.2.2 j hj)
theorem conf_inv (hv : xv r 5 ≠ 0) (h : INV n t tk s π r vp vb T Q) : INV n t tk (u3 s 3 2 0 1) π (u3 r 0 11 0 1) vp vb T Q := by
  obtain ⟨gA, gV, gO, gC, gS, gU, gB, gL, kG, kS, kC, kP, kL⟩ := h
  exact ⟨gA, ⟨gV.1, gV.2.1, gV.2.2.1, fun e => absurd e hv, zb_1⟩, gO, gC, gS, gU, gB, gL, ⟨kG.1, rfl, kG.2.2⟩, kS, kC, kP, kL⟩
theorem hear_ar (ht : t ≤ 512) (hn5 : n ≤ 5) (h : INV n t tk s π r vp vb T Q) (hi : i < n) (hL : L ≠ nxL (s 4 2 0) π) (hp34 : p < 34) (l4 : s 5 4 L = nI i) (l5 : s 5 5 L = r 30 0 p) (l6 : s 5 6 L = r 33 0 p) : AR n t tk s π L (S_Store_takePing n π s L) (S_Model_hear r (nI p) (nI i)) (v_Store_takePing n π s L) 1 := by
  have kG := h.2.2.2.2.2.2.2.2.1
  have gV := h.2.1
  have e1 := heard_inv (i := i) ht h
  have b5 : ∀ (X : S3) (x : Int32), sBut X (u3 (S_View_become π (S_Post_next π X 2 (nI i)) (8 + nxL (X 4 2 0) π) 7) 5 6 (nxL (X 4 2 0) π) x) (nxL (X 4 2 0) π) := fun X x => sBut_5 (sBut_view (sBut_next _ _) _) _ _
  have ci : (nI i).toNatClampNeg = i := nI_clamp (by omega)
  unfold S_Store_takePing S_Model_hear v_Store_takePing
  rw [ci, nI_clamp (show p < 2 ^ 31 by omega)]
  by_cases h0 : r 8 0 5 = 0
  · have hN : S_Service_notePing n π s L (s 0 4 0) = S_Service_changeView π (u3 s 15 0 i (s 0 4 0)) (nI i) 7 := by
      unfold S_Service_notePing
      rw [if_pos (by rw [kG.2.2.1]; exact h0), l4, ci]
    have hx0 : xv r 5 = 0 := by show (r 8 0 5).toNatClampNeg = 0; rw [h0]; rfl
    have e2 := newview_inv (π := π) (a := i) (yr := -1) (yc := 7) (Nat.le_refl t) ht hn5 e1 (by show xv r 5 ≤ t; omega) hi (Or.inl ⟨rfl, rfl⟩) (nI_ne_m1 (by omega))
    have en : nvR (u3 r 12 0 i (r 0 1 0)) (nI i) (-1) = u3 (u3 (u3 (u3 r 12 0 i (r 0 1 0)) 8 0 5 1) 9 0 5 (nI i)) 10 0 5 (-1) := by
      unfold nvR
      have ea : (u3 r 12 0 i (r 0 1 0)) 8 0 5 + 1 = 1 := by
        show r 8 0 5 + 1 = 1
        rw [h0]; rfl
      rw [ea]
      have eb := u3_id (u3 (u3 (u3 (u3 r 12 0 i (r 0 1 0)) 8 0 5 1) 9 0 5 (nI i)) 10 0 5 (-1)) 0 11 0
      have ec : (u3 (u3 (u3 (u3 r 12 0 i (r 0 1 0)) 8 0 5 1) 9 0 5 (nI i)) 10 0 5 (-1)) 0 11 0 = 0 := (gV.2.2.2.1 hx0).1
      rw [ec] at eb
      exact eb
    rw [en] at e2
    have hx1 : xv (u3 (u3 (u3 (u3 r 12 0 i (r 0 1 0)) 8 0 5 1) 9 0 5 (nI i)) 10 0 5 (-1)) 5 ≠ 0 := by
      show (1 : Int32).toNatClampNeg ≠ 0
      decide
    have e3 := view_inv (i := i) (x := r 33 0 p) ht hn5 e2 hi hx1
    rw [hN]
    have e54 : S_Service_changeView π (u3 s 15 0 i (s 0 4 0)) (nI i) 7 5 4 L = nI i := l4
    have e56 : S_Service_changeView π (u3 s 15 0 i (s 0 4 0)) (nI i) 7 5 6 L = r 33 0 p := l6
    rw [e54, e56, if_pos h0]
    exact ⟨rfl, (b5 (S_Service_changeView π (u3 s 15 0 i (s 0 4 0)) (nI i) 7) (r 33 0 p)).2.2.2.2.2.1 3 L hL, _, _, _, _, e3⟩
  · have hx0 : xv r 5 ≠ 0 := fun e => h0 (by rw [gV.1, e]; rfl)
    have s67 : ¬ s 6 0 7 = 0 := by rw [kG.2.2.1]; exact h0
    have k61 := (kG.2.2.2.1 h0).1
    rw [if_neg h0]
    have plain : S_Service_notePing n π s L (s 0 4 0) = u3 s 15 0 i (s 0 4 0) → AR n t tk s π L (u3 (S_View_become π (S_Post_next π (S_Service_notePing n π s L (s 0 4 0)) 2 (S_Service_notePing n π s L (s 0 4 0) 5 4 L)) (8 + nxL (S_Service_notePing n π s L (s 0 4 0) 4 2 0) π) 7) 5 6 (nxL (S_Service_notePing n π s L (s 0 4 0) 4 2 0) π) (S_Service_notePing n π s L (s 0 4 0) 5 6 L)) (u3 (u3 (u3 (u3 (S_Model_post (u3 r 12 0 i (r 0 1 0)) 2 (nI i)) 30 0 ((ppF (r 0 25 0) (r 27 0)).toNatClampNeg) (r 8 0 5)) 31 0 ((ppF (r 0 25 0) (r 27 0)).toNatClampNeg) (r 9 0 5)) 32 0 ((ppF (r 0 25 0) (r 27 0)).toNatClampNeg) (r 10 0 5)) 33 0 ((ppF (r 0 25 0) (r 27 0)).toNatClampNeg) (r 33 0 p)) 1 1 := fun hN => by
      have e3 := view_inv (i := i) (x := r 33 0 p) ht hn5 e1 hi hx0
      rw [hN]
      have e54 : u3 s 15 0 i (s 0 4 0) 5 4 L = nI i := l4
      have e56 : u3 s 15 0 i (s 0 4 0) 5 6 L = r 33 0 p := l6
      rw [e54, e56]
      exact ⟨rfl, (b5 (u3 s 15 0 i (s 0 4 0)) (r 33 0 p)).2.2.2.2.2.1 3 L hL, _, _, _, _, e3⟩
    by_cases h9 : r 9 0 5 = nI i
    · rw [if_pos h9]
      have c9 : s 5 4 L = s 6 1 7 := by rw [l4, k61, h9]
      by_cases h30 : r 30 0 p = r 8 0 5
      · rw [if_pos h30]
        have c30 : s 5 5 L = s 6 0 7 := by rw [l5, kG.2.2.1]; exact h30
        have hN : S_Service_notePing n π s L (s 0 4 0) = u3 (u3 s 15 0 i (s 0 4 0)) 3 2 0 1 := by
          unfold S_Service_notePing
          rw [if_neg s67, if_pos c9, if_pos c30, l4, ci]
        have e2 := conf_inv (r := u3 r 12 0 i (r 0 1 0)) hx0 e1
        have e3 := view_inv (i := i) (x := r 33 0 p) ht hn5 e2 hi hx0
        rw [hN]
        have e54 : u3 (u3 s 15 0 i (s 0 4 0)) 3 2 0 1 5 4 L = nI i := l4
        have e56 : u3 (u3 s 15 0 i (s 0 4 0)) 3 2 0 1 5 6 L = r 33 0 p := l6
        rw [e54, e56]
        exact ⟨rfl, (b5 (u3 (u3 s 15 0 i (s 0 4 0)) 3 2 0 1) (r 33 0 p)).2.2.2.2.2.1 3 L hL, _, _, _, _, e3⟩
      · rw [if_neg h30]
        have c30 : ¬ s 5 5 L = s 6 0 7 := by rw [l5, kG.2.2.1]; exact h30
        exact plain (by unfold S_Service_notePing; rw [if_neg s67, if_pos c9, if_neg c30, l4, ci])
    · rw [if_neg h9]
      have c9 : ¬ s 5 4 L = s 6 1 7 := by rw [l4, k61]; exact fun e => h9 e.symm
      exact plain (by unfold S_Service_notePing; rw [if_neg s67, if_neg c9, l4, ci])
def fiR (r : S3) (c : Nat) (y : Int32) : S3 := u3 (u3 (u3 r 21 0 c (-1)) 23 0 c (r 23 0 c + 1)) 24 0 c y
def fiS (s : S3) (c : Nat) (y : Int32) : S3 := u3 (u3 (u3 s 2 1 c 0) 2 2 c (s 2 2 c + 1)) 2 3 c y
theorem fiR_21 {y : Int32} : fiR r c y 21 0 = upd (r 21 0) c (-1) := by unfold fiR; rw [u3_k (by omega), u3_k (by omega), u3_row]
theorem fiR_23 {y : Int32} : fiR r c y 23 0 = upd (r 23 0) c (r 23 0 c + 1) := by unfold fiR; rw [u3_k (by omega), u3_row, u3_k (by omega)]
theorem fiR_24 {y : Int32} : fiR r c y 24 0 = upd (r 24 0) c y := by unfold fiR; rw [u3_row, u3_k (by omega), u3_k (by omega)]
theorem fiS_1 {y : Int32} : fiS s c y 2 1 = upd (s 2 1) c 0 := by funext x; unfold fiS; rw [u3_sl (by omega), u3_sl (by omega), u3_row]
theorem fiS_2 {y : Int32} : fiS s c y 2 2 = upd (s 2 2) c (s 2 2 c + 1) := by
  funext x; unfold fiS; rw [u3_sl (by omega), u3_row]
  exact upd_eq (u3_sl (by omega))
theorem fiS_3 {y : Int32} : fiS s c y 2 3 = upd (s 2 3) c y := by
  funext x; unfold fiS; rw [u3_row]
  exact upd_eq ((u3_sl (by omega)).trans (u3_sl (by omega)))
theorem fin_inv (ht : t ≤ 512) (hn5 : n ≤ 5) (h : INV n t tk s π r vp vb T Q) (hc : c < 3) (h21 : r 21 0 c ≠ -1) (h8 : cC (t - 1) r ∧ 1 ≤ t) (y : Int32) : INV n (t + 1) tk (fiS s c y) π (fiR r c y) vp vb T Q := by
  have hb := xb_le ht h.2.2.1 h.2.2.2.1
  obtain ⟨gA, gV, gO, gC, gS, gU, gB, gL, kG, kS, kC, kP, kL⟩ := inv_t h
  have hc3 : c = 0 ∨ c = 1 ∨ c = 2 := by omega
  have hsum := gO.2.2.2.2
  have hxn : xn r c ≤ 172 := by rcases hc3 with rfl | rfl | rfl <;> omega
  obtain ⟨f1, f2, f3⟩ := gO.2.2.2.1 c hc
  have fe : xn r c = xe r c + 1 := by
    rcases f3 with ⟨e, -⟩ | ⟨o, -, -, -, -, e⟩
    · exact absurd e h21
    · exact e
  have ec : xe (fiR r c y) c = xe r c + 1 := by
    have : xe (fiR r c y) c = (fiR r c y 23 0 c).toNatClampNeg := rfl
    rw [this, fiR_23, upd_at, f2, nI_1, nI_clamp (by omega)]
  have eo : ∀ d, d ≠ c → xe (fiR r c y) d = xe r d := fun d hd => by
    have : xe (fiR r c y) d = (fiR r c y 23 0 d).toNatClampNeg := rfl
    rw [this, fiR_23, upd_ne hd]; rfl
  refine ⟨gA, gV, ⟨gO.1, gO.2.1, gO.2.2.1, fun d hd => ?_, gO.2.2.2.2⟩, ?_, gS, ⟨gU.1, gU.2.1, gU.2.2.1, gU.2.2.2.1, fun d hd => ?_⟩, gB, gL, kG, kS, fun d hd => ?_, kP, kL⟩
  · obtain ⟨d1, d2, d3⟩ := gO.2.2.2.1 d hd
    by_cases e : d = c
    · subst e
      refine ⟨d1, ?_, Or.inl ⟨by rw [fiR_21, upd_at], ?_⟩⟩
      · rw [ec, fiR_23, upd_at, f2, nI_1]
      · rw [ec]; exact fe
    · refine ⟨d1, by rw [eo d e, fiR_23, upd_ne e]; exact d2, ?_⟩
      rw [eo d e, fiR_21, upd_ne e]
      exact d3
  · obtain ⟨h8, h1⟩ := h8
    unfold cC at h8 ⊢
    have e : cnt8 (fun j => (fiR r c y) 28 0 (xo (fiR r c y) j)) (xw (fiR r c y)) = cnt8 (fun j => r 28 0 (xo r j)) (xw r) := rfl
    have e2 : xb (fiR r c y) = xb r := rfl
    rw [e, e2]
    rcases hc3 with rfl | rfl | rfl
    · rw [ec, eo 1 (by omega), eo 2 (by omega)]; omega
    · rw [ec, eo 0 (by omega), eo 2 (by omega)]; omega
    · rw [ec, eo 0 (by omega), eo 1 (by omega)]; omega
  · rw [fiR_21, upd_ne (by omega)]; exact gU.2.2.2.2 d hd
  · obtain ⟨d1, d2, d3, d4, d5⟩ := kC d hd
    unfold rCc
    rw [fiS_1, fiS_2, fiS_3, fiR_21, fiR_23, fiR_24]
    by_cases e : d = c
    · subst e
      rw [upd_at, upd_at, upd_at, upd_at, upd_at, upd_at, d3]
      exact ⟨d1, d2, rfl, rfl, Or.inl ⟨rfl, rfl⟩⟩
    · rw [upd_ne e, upd_ne e, upd_ne e, upd_ne e, upd_ne e, upd_ne e]
      exact ⟨d1, d2, d3, d4, d5⟩
theorem ans_ar (ht : t ≤ 512) (hn5 : n ≤ 5) (h : INV n t tk s π r vp vb T Q) (hc : c < 3) (h8 : cC (t - 1) r ∧ 1 ≤ t) (l1 : s 7 1 (8 + L) = r 30 0 p) (l8 : s 5 8 L = r 35 0 p) : AR n t tk s π L (S_Client_takeAnswer n π s c L) (if r 21 0 c < 0 then r else if r 4 0 (r 21 0 c).toNatClampNeg = r 30 0 p then fiR r c (r 35 0 p) else r) (v_Client_takeAnswer n π s c L) (if r 21 0 c < 0 then 0 else if r 4 0 (r 21 0 c).toNatClampNeg = r 30 0 p then 1 else 0) := by
  have old : AR n t tk s π L s r 0 0 := ⟨rfl, rfl, vp, vb, T, Q, inv_t h⟩
  unfold S_Client_takeAnswer v_Client_takeAnswer
  rw [l1, l8]
  rcases (h.2.2.2.2.2.2.2.2.2.2.1 c hc).2.2.2.2 with ⟨g1, g2⟩ | ⟨g1, g2, g3⟩
  · have n1 : r 21 0 c < 0 := by rw [g2]; decide
    simp only [if_pos g1, if_pos n1]; exact old
  · have n0 : ¬ s 2 1 c = 0 := by rw [g1]; decide
    have n1 : ¬ r 21 0 c < 0 := by
      rcases (h.2.2.1.2.2.2.1 c hc).2.2 with ⟨f, -⟩ | ⟨o, ho, f, -⟩
      · exact absurd f g2
      · have : xb r < 2 ^ 31 := Int32.toNatClampNeg_lt _
        rw [f]; exact nI_pos (by omega)
    simp only [if_neg n0, if_neg n1]
    rw [g3.2.1]
    by_cases q : r 4 0 (r 21 0 c).toNatClampNeg = r 30 0 p
    · simp only [if_pos q]
      exact ⟨rfl, rfl, vp, vb, T, Q, fin_inv ht hn5 h hc g2 h8 _⟩
    · simp only [if_neg q]; exact old
theorem arr_ar (ht : t ≤ 512) (hn5 : n ≤ 5) (h : INV n t (some p) s π r vp vb T Q) (hLP : LPx n r vp vb T Q p) (hLR : LR s r L p) (hL : L ≠ nxL (s 4 2 0) π) (h8 : r 28 0 p = 8 → cC (t - 1) r ∧ 1 ≤ t) : AR n t (some p) s π L (S_Store_takesEffect n π s L) (if r 28 0 p = 1 then S_Model_arrive r (nI p) (r 28 0 p) else if r 28 0 p = 8 then S_Model_arrive r (nI p) (r 28 0 p) else if r 17 0 (r 29 0 p).toNatClampNeg = 0 then S_Model_arrive r (nI p) (r 28 0 p) else r) (v_Store_takesEffect n π s L) (if r 28 0 p = 1 then v_Model_arrive r (nI p) (r 28 0 p) else if r 28 0 p = 8 then v_Model_arrive r (nI p) (r 28 0 p) else if r 17 0 (r 29 0 p).toNatClampNeg = 0 then v_Model_arrive r (nI p) (r 28 0 p) else 0) := by
  have hp34 : p < 34 := by have := (h.2.2.2.2.2.2.1.2.2.2.2.2.2 p rfl).1; omega
  have ep : (nI p).toNatClampNeg = p := nI_clamp (by omega)
  have old : AR n t (some p) s π L s r 0 0 := ⟨rfl, rfl, vp, vb, T, Q, inv_t h⟩
  have x16 : ∀ j, j < n → s 1 6 j = r 17 0 j := fun j hj => (h.2.2.2.2.2.2.2.2.2.1 j hj).2.2.2.1
  obtain ⟨l3, l4, m1, m2, m3, m4, m5, m6, m7, m8⟩ := hLR
  have d21 : ¬ (2 : Int32) = 1 := by decide
  have d28 : ¬ (2 : Int32) = 8 := by decide
  have d31 : ¬ (3 : Int32) = 1 := by decide
  have d38 : ¬ (3 : Int32) = 8 := by decide
  have d32 : ¬ (3 : Int32) = 2 := by decide
  have d41 : ¬ (4 : Int32) = 1 := by decide
  have d48 : ¬ (4 : Int32) = 8 := by decide
  have d42 : ¬ (4 : Int32) = 2 := by decide
  have d43 : ¬ (4 : Int32) = 3 := by decide
  have d51 : ¬ (5 : Int32) = 1 := by decide
  have d58 : ¬ (5 : Int32) = 8 := by decide
  have d52 : ¬ (5 : Int32) = 2 := by decide
  have d53 : ¬ (5 : Int32) = 3 := by decide
  have d54 : ¬ (5 : Int32) = 4 := by decide
  have d61 : ¬ (6 : Int32) = 1 := by decide
  have d68 : ¬ (6 : Int32) = 8 := by decide
  have d62 : ¬ (6 : Int32) = 2 := by decide
  have d63 : ¬ (6 : Int32) = 3 := by decide
  have d64 : ¬ (6 : Int32) = 4 := by decide
  have d65 : ¬ (6 : Int32) = 5 := by decide
  have d71 : ¬ (7 : Int32) = 1 := by decide
  have d78 : ¬ (7 : Int32) = 8 := by decide
  have d72 : ¬ (7 : Int32) = 2 := by decide
  have d73 : ¬ (7 : Int32) = 3 := by decide
  have d74 : ¬ (7 : Int32) = 4 := by decide
  have d75 : ¬ (7 : Int32) = 5 := by decide
  have d76 : ¬ (7 : Int32) = 6 := by decide
  have d81 : ¬ (8 : Int32) = 1 := by decide
  have d82 : ¬ (8 : Int32) = 2 := by decide
  have d83 : ¬ (8 : Int32) = 3 := by decide
  have d84 : ¬ (8 : Int32) = 4 := by decide
  have d85 : ¬ (8 : Int32) = 5 := by decide
  have d86 : ¬ (8 : Int32) = 6 := by decide
  have d87 : ¬ (8 : Int32) = 7 := by decide
  unfold S_Store_takesEffect v_Store_takesEffect S_Model_arrive v_Model_arrive
  rw [l3, l4, ep]
  rcases hLP with ⟨k, j, hj, ej⟩ | ⟨k, ⟨j, hj, ej⟩, v, g1, g2, g3, g4, g5⟩ | ⟨k, ⟨j, hj, ej⟩, v, g1, g2, g3, g4, g5, g6, g7, m, g8, g9, g10⟩ | ⟨k, j, hj, ej⟩ | ⟨k, ⟨j, hj, ej⟩, v, g1, g2, g3, g4, m, g5, g6, g7⟩ | ⟨k, j, hj, ej⟩ | ⟨k, ⟨j, hj, ej⟩, o, ho, eo⟩ | ⟨k, j, hj, ej⟩
  · rw [k, ej]
    simp only [eq_self, if_true]
    exact hear_ar ht hn5 h hj hL hp34 (l4.trans ej) (m1 k).1 (m1 k).2
  · rw [k, ej, nI_clamp (show j < 2 ^ 31 by omega), x16 j hj]
    simp only [d21, d28, if_false, eq_self, if_true]
    by_cases hcr : r 17 0 j = 0
    · simp only [if_pos hcr]
      exact see_ar ht hn5 h hj hL (by omega) g1 g2 g3 g4 g5 (m2 k).1 (m2 k).2.1 (m2 k).2.2.1 (m2 k).2.2.2
    · simp only [if_neg hcr]; exact old
  · rw [k, ej, nI_clamp (show j < 2 ^ 31 by omega), x16 j hj]
    simp only [d31, d38, d32, if_false, eq_self, if_true]
    by_cases hcr : r 17 0 j = 0
    · simp only [if_pos hcr]
      obtain ⟨q1, q2, q3, q4⟩ := m3 k
      have hTv := T_le ht h v
      rw [g9, nI_clamp (show m < 2 ^ 31 by omega)] at q4
      exact fill_ar ht hn5 h hj hL hp34 g1 g2 g3 g4 g5 (g6.symm.trans ej) g7 g8 g9 g10 q1 q2 q3 q4
    · simp only [if_neg hcr]; exact old
  · rw [k, ej, nI_clamp (show j < 2 ^ 31 by omega), x16 j hj]
    simp only [d41, d48, d42, d43, if_false, eq_self, if_true]
    by_cases hcr : r 17 0 j = 0
    · simp only [if_pos hcr]
      exact filledBack_ar ht hn5 h hj hp34 (m4 k)
    · simp only [if_neg hcr]; exact old
  · rw [k, ej, nI_clamp (show j < 2 ^ 31 by omega), x16 j hj]
    simp only [d51, d58, d52, d53, d54, if_false, eq_self, if_true]
    by_cases hcr : r 17 0 j = 0
    · simp only [if_pos hcr]
      exact pass_ar ht hn5 h hj hL hp34 g1 g2 g3 g4 g5 g6 g7 (m5 k).1 (m5 k).2.1 (m5 k).2.2
    · simp only [if_neg hcr]; exact old
  · rw [k, ej, nI_clamp (show j < 2 ^ 31 by omega), x16 j hj]
    simp only [d61, d68, d62, d63, d64, d65, if_false, eq_self, if_true]
    by_cases hcr : r 17 0 j = 0
    · simp only [if_pos hcr]
      exact passed_ar ht hn5 h hj hL hp34 (m6 k).1 (m6 k).2
    · simp only [if_neg hcr]; exact old
  · rw [k, ej, nI_clamp (show j < 2 ^ 31 by omega), x16 j hj]
    simp only [d71, d78, d72, d73, d74, d75, d76, if_false, eq_self, if_true]
    by_cases hcr : r 17 0 j = 0
    · simp only [if_pos hcr]
      have q := m7 k
      rw [eo] at q ⊢
      exact ask_ar ht hn5 h hj hL ho q
    · simp only [if_neg hcr]; exact old
  · rw [k, ej, nI_clamp (show j < 2 ^ 31 by omega)]
    simp only [d81, d82, d83, d84, d85, d86, d87, if_false, eq_self, if_true]
    exact ans_ar ht hn5 h hj (h8 k) (m8 k).1 (m8 k).2
theorem st_deliver_ok (ht : t < 512) (hn5 : n ≤ 5) (h : INV n t none s π r vp vb T Q) : st_deliver n (JJ n) t s π r := by
  intro x
  have hi := inv_t h
  have hw := h.2.2.2.2.2.2.1.1
  have hw32 := h.2.2.2.2.2.2.1.2.1
  have ew : s 4 2 0 = r 0 25 0 := h.2.2.2.2.2.2.2.2.2.2.2.1.1
  unfold v_Store_deliver v_Model_deliver S_Store_deliver S_Model_deliver P_Store_deliver
  rcases has_cases hw32 x with ⟨j, hj, rfl, e1, e2, e3⟩ | ⟨e1, e2⟩
  · have e1 : v_Post_has (s 4 2 0) (nI j) = 1 := by rw [ew, hw]; exact e1
    have e3 : nI j < r 0 25 0 := by rw [hw]; exact e3
    simp only [e1, one0, if_false, if_neg e2, if_pos e3, ite_self]
    rw [nI_clamp (show j < 2 ^ 31 by omega)]
    obtain ⟨k1, k2, k3, k4⟩ := take_inv hn5 hj h
    have eP : r 26 0 j = nI (xo r j) := vp_eq (h.2.2.2.2.2.1.2.2.1 j)
    have hL : π j ≠ nxL ((u3 s 4 2 0 (s 4 2 0 - 1)) 4 2 0) (tkP π j) := by
      have e42 : (u3 s 4 2 0 (s 4 2 0 - 1)) 4 2 0 = nI (xw r - 1) := by rw [u3_at, ew, hw, nI_prd (by omega)]
      have hP := h.2.2.2.2.2.2.2.2.2.2.2.1
      rw [e42]
      unfold nxL
      rw [if_neg (by rw [show (32 : Int32) = nI 32 from rfl, nI_leI (by omega) (by omega)]; omega), nI_clamp (by omega), tkP_at (by omega), if_neg (by omega)]
      intro e
      by_cases q : j ≤ xw r - 1 ∧ xw r - 1 < 32
      · rw [if_pos q] at e
        have := hP.2.2.2.1 j (xw r - 1 + 1) (by omega) (by omega) e
        omega
      · rw [if_neg q] at e
        omega
    have hA := arr_ar (Nat.le_of_lt ht) hn5 k1 k2 k3 hL k4
    obtain ⟨v1, v2, vp', vb', T', Q', v3⟩ := hA
    have l3 : (u3 s 4 2 0 (s 4 2 0 - 1)) 5 3 (π j) = r 28 0 (xo r j) := k3.1
    have f28 : (uA (u3 r 0 25 0 (r 0 25 0 - 1)) 26 0 (rowR ((r 0 25 0).toNatClampNeg - 1 - j) j (r 26 0))) 28 0 (xo r j) = r 28 0 (xo r j) := rfl
    have f29 : (uA (u3 r 0 25 0 (r 0 25 0 - 1)) 26 0 (rowR ((r 0 25 0).toNatClampNeg - 1 - j) j (r 26 0))) 29 0 (xo r j) = r 29 0 (xo r j) := rfl
    have f17 : ∀ a, (uA (u3 r 0 25 0 (r 0 25 0 - 1)) 26 0 (rowR ((r 0 25 0).toNatClampNeg - 1 - j) j (r 26 0))) 17 0 a = r 17 0 a := fun _ => rfl
    rw [l3] at v2
    rw [f28, f29, f17] at v1 v3
    rw [v2]
    have eX : (r 26 0 j).toNatClampNeg = xo r j := rfl
    rw [eX, eP]
    have v4 := untake_inv v3
    clear v3 k1 k2 k3 k4 f28 f29 f17 hi v2
    generalize S_Store_takesEffect n (tkP π j) (u3 s 4 2 0 (s 4 2 0 - 1)) (π j) = S' at v4 ⊢
    rw [v1]
    clear v1
    by_cases c1 : r 28 0 (xo r j) = 1
    · simp only [if_pos c1] at v4 ⊢
      exact ⟨rfl, vp', vb', T', Q', v4⟩
    · simp only [if_neg c1] at v4 ⊢
      by_cases c8 : r 28 0 (xo r j) = 8
      · simp only [if_pos c8] at v4 ⊢
        exact ⟨rfl, vp', vb', T', Q', v4⟩
      · simp only [if_neg c8] at v4 ⊢
        by_cases c17 : r 17 0 (r 29 0 (xo r j)).toNatClampNeg = 0
        · simp only [if_pos c17] at v4 ⊢
          exact ⟨rfl, vp', vb', T', Q', v4⟩
        · simp only [if_neg c17, eq_self, if_true] at v4 ⊢
          exact ⟨rfl, vp', vb', T', Q', v4⟩
  · have e1 : v_Post_has (s 4 2 0) x = 0 := by rw [ew, hw]; exact e1
    simp only [e1, eq_self, if_true]
    rcases e2 with e2 | e2
    · simp only [if_pos e2]; exact ⟨rfl, vp, vb, T, Q, hi⟩
    · have e2 : ¬ x < r 0 25 0 := by rw [hw]; exact e2
      by_cases e3 : x < 0
      · simp only [if_pos e3]; exact ⟨rfl, vp, vb, T, Q, hi⟩
      · simp only [if_neg e3, if_neg e2]; exact ⟨rfl, vp, vb, T, Q, hi⟩
end DV
