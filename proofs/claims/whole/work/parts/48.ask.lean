/-! an ASK arrives -/
section AK
variable {n t : Nat} {tk : Option Nat} {s : S3} {π : Nat → Nat} {r : S3} {vp vb : Nat → Int32} {T T' : Nat → Nat} {Q Q' : Nat → Nat → Int32} {i v w o L p m : Nat}
theorem nl_GL (hg : GL r (lgS r i) (xl r i)) (ho : o < xb r) (hnew : ∀ a, a < xl r i → r 3 0 (lgS r i a).toNatClampNeg = r 3 0 o → xk r (lgS r i a).toNatClampNeg < xk r o) : GL r (nl r i o) (xl r i + 1) := by
  have hb31 : xb r < 2 ^ 31 := Int32.toNatClampNeg_lt _
  have eo : (nI o).toNatClampNeg = o := nI_clamp (by omega)
  have e1 : nl r i o (xl r i) = nI o := if_pos rfl
  have e2 : ∀ a, a < xl r i → nl r i o a = lgS r i a := fun a ha => if_neg (by omega)
  refine ⟨fun a ha => ?_, fun a b hab hb e => ?_⟩
  · by_cases e : a = xl r i
    · rw [e, e1]; exact vp_c ho hb31
    · rw [e2 a (by omega)]; exact hg.1 a (by omega)
  · rw [e2 a (by omega)] at e ⊢
    by_cases eb : b = xl r i
    · rw [eb, e1, eo] at e ⊢
      exact hnew a (by omega) e
    · rw [e2 b (by omega)] at e ⊢
      exact hg.2 a b hab (by omega) e
theorem pend_inv (hn5 : n ≤ 5) (h : INV n t tk s π r vp vb T Q) (hi : i < n) (ho : o < xb r) (hOR : OR s r w (nI o)) (hv : xv r i ≠ 0) (hl : vp (xv r i) = nI i) (hvb : vb (xv r i) ≠ -1) (h15 : r 15 0 i = 1) (h18 : r 18 0 i = -1) (hGL : GL r (nl r i o) (xl r i + 1)) : INV n t tk (S_Operation_become π (u3 s 1 8 i 1) i w) π (u3 r 18 0 i (nI o)) vp vb (enT T (xv r i) (xl r i + 1)) (enQ Q (xv r i) (nl r i o)) := by
  obtain ⟨gA, gV, gO, gC, gS, gU, gB, gL, kG, kS, kC, kP, kL⟩ := h
  have hb31 : xb r < 2 ^ 31 := Int32.toNatClampNeg_lt _
  obtain ⟨d1, d2⟩ := (gS.1 i hi).2.2.2.2.2.2.2.2.2.1 hv hl
  have hT : T (xv r i) = xl r i := by rcases d2 with ⟨-, e⟩ | ⟨e, -⟩; exact e; exact absurd h18 e
  have hne := (gV.2.1 (xv r i) (by omega) (gS.1 i hi).2.1).2.2
  have hmo : ∀ u, T u ≤ enT T (xv r i) (xl r i + 1) u ∧ ∀ a, a < T u → enQ Q (xv r i) (nl r i o) u a = Q u a := fun u => by
    by_cases e : u = xv r i
    · rw [e, enT_at, enQ_at, hT]
      refine ⟨by omega, fun a ha => ?_⟩
      rw [← d1 a ha]
      exact if_neg (by omega)
    · rw [enT_ne e, enQ_ne e]; exact ⟨Nat.le_refl _, fun _ _ => rfl⟩
  have q18 : (u3 r 18 0 i (nI o)) 18 0 = upd (r 18 0) i (nI o) := u3_row
  have s7 : ∀ x, x ≠ i → ∀ a, S_Operation_become π (u3 s 1 8 i 1) i w 7 a x = s 7 a x := fun x hx a => by
    unfold S_Operation_become
    rw [u3_ne hx, u3_ne hx, u3_ne hx, u3_ne hx, u3_ne hx]
    rfl
  have s18 : S_Operation_become π (u3 s 1 8 i 1) i w 1 8 = upd (s 1 8) i 1 := by
    have : S_Operation_become π (u3 s 1 8 i 1) i w 1 8 = (u3 s 1 8 i 1) 1 8 := rfl
    rw [this, u3_row]
  have s1 : ∀ b, b ≠ 8 → S_Operation_become π (u3 s 1 8 i 1) i w 1 b = s 1 b := fun b hb => by
    funext x
    have : S_Operation_become π (u3 s 1 8 i 1) i w 1 b x = (u3 s 1 8 i 1) 1 b x := rfl
    rw [this, u3_sl hb]
  have ORi : OR (S_Operation_become π (u3 s 1 8 i 1) i w) r i (nI o) := by
    unfold OR at hOR ⊢
    rw [bo_0, bo_1, bo_2, bo_3, bo_4]
    exact hOR
  have hLR : ∀ L q, LR s r L q → i ≠ 8 + L → LR (S_Operation_become π (u3 s 1 8 i 1) i w) (u3 r 18 0 i (nI o)) L q := fun L q h hne => by
    have k7 := s7 (8 + L) (Ne.symm hne)
    unfold LR OR at h ⊢
    rw [k7 0, k7 1, k7 2, k7 3, k7 4]
    exact h
  refine ⟨gA, gV, gO, gC, ⟨?_, ?_⟩, ⟨gU.1, gU.2.1, gU.2.2.1, fun j hj => ⟨?_, (gU.2.2.2.1 j hj).2⟩, gU.2.2.2.2⟩, gB, ?_, kG, ?_, ?_, ⟨kP.1, kP.2.1, kP.2.2.1, kP.2.2.2.1, opOK_bec (π := π) (s := u3 s 1 8 i 1) kP.2.2.2.2⟩, fun j hj => hLR _ _ (kL j hj) (by omega)⟩
  · intro j hj
    obtain ⟨b1, b2, b3, b4, b5, b6, b7, b8, b9, b10, b11⟩ := gS.1 j hj
    by_cases e : j = i
    · subst e
      unfold cSi
      rw [q18, upd_at]
      refine ⟨b1, b2, b3, b4, b5, b6, b7, b8, Or.inr ⟨o, ho, rfl, ⟨hv, hvb⟩, hl, h15⟩, fun _ _ => ?_, fun _ c2 _ => absurd (hl.trans c2.symm) hne⟩
      have ex : xv (u3 r 18 0 j (nI o)) j = xv r j := rfl
      rw [ex, enT_at, enQ_at]
      exact ⟨fun a ha => (if_neg (Nat.ne_of_lt ha)).symm, Or.inr ⟨nI_ne_m1 (by omega), rfl, if_pos rfl⟩⟩
    · unfold cSi
      rw [q18, upd_ne e]
      refine ⟨b1, b2, b3, b4, b5, b6, b7, b8, b9, fun c1 c2 => ?_, fun c1 c2 c3 => ?_⟩
      · have c2 : vp (xv r j) = nI j := c2
        have ev : xv r j ≠ xv r i := fun ev => by
          rw [ev, hl, nI_eq (by omega) (by omega)] at c2
          exact e c2.symm
        have ex : xv (u3 r 18 0 i (nI o)) j = xv r j := rfl
        rw [ex, enT_ne ev, enQ_ne ev]
        exact b10 c1 c2
      · obtain ⟨f1, f2, f3⟩ := b11 c1 c2 c3
        obtain ⟨m1, m2⟩ := hmo (xv r j)
        exact ⟨Nat.le_trans f1 m1, fun a ha => (f2 a ha).trans (m2 a (Nat.lt_of_lt_of_le ha f1)).symm, f3⟩
  · intro u
    by_cases e : u = xv r i
    · rw [e, enT_at, enQ_at]; exact hGL
    · rw [enT_ne e, enQ_ne e]; exact gS.2 u
  · rw [q18, upd_ne (by omega)]; exact (gU.2.2.2.1 j hj).1
  · intro j hj
    rcases gL j hj with g | g | ⟨g1, g2, u, h1, h2, h3, h4, h5, h6, h7, m, h8, h9, h10⟩ | g | ⟨g1, g2, u, h1, h2, h3, h4, m, h5, h6, h7⟩ | g
    · exact Or.inl g
    · exact Or.inr (Or.inl g)
    · exact Or.inr (Or.inr (Or.inl ⟨g1, g2, u, h1, h2, h3, h4, h5, h6, h7, m, Nat.le_trans h8 (hmo u).1, h9, fun a ha => (h10 a ha).trans ((hmo u).2 a (by omega)).symm⟩))
    · exact Or.inr (Or.inr (Or.inr (Or.inl g)))
    · exact Or.inr (Or.inr (Or.inr (Or.inr (Or.inl ⟨g1, g2, u, h1, h2, h3, h4, m, Nat.lt_of_lt_of_le h5 (hmo u).1, h6, ((hmo u).2 m h5).trans h7⟩))))
    · exact Or.inr (Or.inr (Or.inr (Or.inr (Or.inr g))))
  · intro j hj
    obtain ⟨b1, b2, b3, b4, b5, b6, b7, b8, b9, b10, b11⟩ := kS j hj
    by_cases e : j = i
    · subst e
      unfold rSi
      rw [s18, s1 0 (by omega), s1 4 (by omega), s1 5 (by omega), s1 6 (by omega), s1 7 (by omega), s1 9 (by omega), q18, upd_at, upd_at]
      exact ⟨b1, b2, b3, b4, b5, Or.inr ⟨rfl, nI_ne_m1 (by omega), ORi⟩, b7, b8, b9, b10, b11⟩
    · have k7 := s7 j e
      unfold rSi OR
      rw [s18, s1 0 (by omega), s1 4 (by omega), s1 5 (by omega), s1 6 (by omega), s1 7 (by omega), s1 9 (by omega), q18, upd_ne e, upd_ne e, k7 0, k7 1, k7 2, k7 3, k7 4]
      exact ⟨b1, b2, b3, b4, b5, b6, b7, b8, b9, b10, b11⟩
  · intro c hc
    have k7 := s7 (5 + c) (by omega)
    have := kC c hc
    unfold rCc OR at this ⊢
    rw [k7 0, k7 1, k7 2, k7 3, k7 4]
    exact this
theorem new_ar (ht : t ≤ 512) (hn5 : n ≤ 5) (h : INV n t tk s π r vp vb T Q) (hi : i < n) (hL : L ≠ nxL (s 4 2 0) π) (ho : o < xb r) (hOR : OR s r (8 + L) (nI o)) (hv : xv r i ≠ 0) (hl : vp (xv r i) = nI i) (h17 : s 1 7 i = r 15 0 i) (hnew : ∀ a, a < xl r i → r 3 0 (lgS r i a).toNatClampNeg = r 3 0 o → xk r (lgS r i a).toNatClampNeg < xk r o) : AR n t tk s π L (if v_View_hasBackup (s 6 2 i) = 0 then S_Store_doWriteAndAnswer π s i (8 + L) else if s 1 7 i = 0 then s else if s 1 8 i = 0 then S_Store_sendPass π (S_Operation_become π (u3 s 1 8 i 1) i (8 + L)) i else s) (if 0 ≤ r 10 0 i then (if r 15 0 i = 0 then r else if r 18 0 i < 0 then S_Model_sendPass (u3 r 18 0 i (nI o)) (nI i) else r) else S_Model_answer (S_Model_perform r (nI i) (nI o)) (nI o) (hdF (r 5 0) (r 6 0) (r 20 0) (nI i) (r 5 0 o) (r 19 0 i).toNatClampNeg)) (if v_View_hasBackup (s 6 2 i) = 0 then 1 else if s 1 7 i = 0 then 0 else if s 1 8 i = 0 then 1 else 0) (if 0 ≤ r 10 0 i then (if r 15 0 i = 0 then 0 else if r 18 0 i < 0 then 1 else 0) else 1) := by
  have hb := xb_le ht h.2.2.1 h.2.2.2.1
  have hxl := xl_le ht h hi
  have hcS := h.2.2.2.2.1.1 i hi
  have hrS := h.2.2.2.2.2.2.2.2.2.1 i hi
  have old : AR n t tk s π L s r 0 0 := ⟨rfl, rfl, vp, vb, T, Q, inv_t h⟩
  have hGL := nl_GL hcS.2.2.2.2.1 ho hnew
  have z : r 8 0 i ≠ 0 := by rw [hcS.1]; exact nI_ne0 (by omega) (Int32.toNatClampNeg_lt _)
  have hne := (h.2.1.2.1 (xv r i) (by omega) hcS.2.1).2.2
  obtain ⟨d1, d2⟩ := hcS.2.2.2.2.2.2.2.2.2.1 hv hl
  rw [h17]
  rcases (h.2.1.2.1 (xv r i) (by omega) hcS.2.1).2.1 with hbv | ⟨b, hbn, hbv⟩
  · have b7 : s 6 2 i = 7 := by
      rcases (hrS.2.2.2.2.2.2.2.2.1 z).2 with ⟨-, e⟩ | ⟨j, hj, e, -⟩
      · exact e
      · rw [(hcS.2.2.1 hv).2, hbv] at e; exact absurd e.symm (nI_ne_m1 (by omega))
    have v7 : v_View_hasBackup (s 6 2 i) = 0 := by rw [b7]; rfl
    have r10 : ¬ 0 ≤ r 10 0 i := by rw [(hcS.2.2.1 hv).2, hbv]; decide
    simp only [if_pos v7, if_neg r10]
    have p18 : r 18 0 i = -1 := by
      rcases hcS.2.2.2.2.2.2.2.2.1 with e | ⟨_, -, -, e, -⟩
      · exact e
      · exact absurd hbv e.2
    have p8 : s 1 8 i = 0 := by
      rcases hrS.2.2.2.2.2.1 with ⟨e, -⟩ | ⟨-, e, -⟩
      · exact e
      · exact absurd p18 e
    have hT : T (xv r i) = xl r i := by rcases d2 with ⟨-, e⟩ | ⟨e, -⟩; exact e; exact absurd p18 e
    have hmo : ∀ u, T u ≤ enT T (xv r i) (xl r i + 1) u ∧ ∀ a, a < T u → enQ Q (xv r i) (nl r i o) u a = Q u a := fun u => by
      by_cases e : u = xv r i
      · rw [e, enT_at, enQ_at, hT]
        refine ⟨by omega, fun a ha => ?_⟩
        rw [← d1 a ha]
        exact if_neg (by omega)
      · rw [enT_ne e, enQ_ne e]; exact ⟨Nat.le_refl _, fun _ _ => rfl⟩
    have e1 := perf_inv (π := π) (T' := enT T (xv r i) (xl r i + 1)) (Q' := enQ Q (xv r i) (nl r i o)) (w := 8 + L) (o := o) ht hn5 h hi ho hOR hGL (fun u => by
      by_cases e : u = xv r i
      · rw [e, enT_at, enQ_at]; exact hGL
      · rw [enT_ne e, enQ_ne e]; exact h.2.2.2.2.1.2 u) hmo (fun j hj hji _ c2 => enT_ne (fun ev => by
        rw [ev, hl, nI_eq (by omega) (by omega)] at c2
        exact hji c2.symm)) (fun _ _ => by rw [enT_at, enQ_at]; exact ⟨fun _ _ => rfl, rfl⟩) (fun _ e => absurd (hl.trans e.symm) hne)
    have ei : (u3 s 1 8 i 0) = s := by have := u3_id s 1 8 i; rw [p8] at this; exact this
    have er : (u3 r 18 0 i (-1)) = r := by have := u3_id r 18 0 i; rw [p18] at this; exact this
    rw [ei, er] at e1
    obtain ⟨⟨cl, hcl, r3, -⟩, -, -, ⟨ce, hce, r5⟩, -⟩ := h.2.2.1.2.1 o ho
    have eo : (nI o).toNatClampNeg = o := nI_clamp (by omega)
    have e2 := answer_inv (w := 8 + L) (o := o) (x := (u3 s 14 i ((s 7 0 (8 + L)).toNatClampNeg) (s 9 i ((s 7 3 (8 + L)).toNatClampNeg))) 14 i ((s 7 0 (8 + L)).toNatClampNeg)) ht hn5 e1 ho hOR
    refine ⟨rfl, (ans_but (S_State_doWrite π s i (8 + L)) (8 + L)).2.2.2.2.2.1 3 L hL, vp, vb, enT T (xv r i) (xl r i + 1), enQ Q (xv r i) (nl r i o), ?_⟩
    have ev : (u3 s 14 i ((s 7 0 (8 + L)).toNatClampNeg) (s 9 i ((s 7 3 (8 + L)).toNatClampNeg))) 14 i ((s 7 0 (8 + L)).toNatClampNeg) = hdF (r 5 0) (r 6 0) (r 20 0) (nI i) (r 5 0 o) (r 19 0 i).toNatClampNeg := by
      rw [u3_at, hdF_eq (by omega) (by show xl r i ≤ 180; omega), r5]
      have e3 : s 7 3 (8 + L) = nI ce := hOR.2.2.2.1.trans (by rw [eo]; exact r5)
      rw [e3, nI_clamp (by omega)]
      exact hrS.2.2.2.2.2.2.2.2.2.2.2.1 ce hce
    rw [← ev]
    exact e2
  · have hbk := bk_eq hn5 hi h hv hbv hbn
    have v7 : ¬ v_View_hasBackup (s 6 2 i) = 0 := by
      unfold v_View_hasBackup
      rw [hbk.1, if_neg]
      · exact one0
      · rw [show (7 : Int32) = nI 7 from rfl, nI_eq (by omega) (by omega)]; omega
    have r10 : 0 ≤ r 10 0 i := by rw [hbk.2]; exact nI_pos' (by omega)
    simp only [if_neg v7, if_pos r10]
    by_cases h15 : r 15 0 i = 0
    · simp only [if_pos h15]; exact old
    · simp only [if_neg h15]
      have h15' : r 15 0 i = 1 := by rcases hcS.2.2.2.2.2.1 with e | e; exact absurd e h15; exact e
      rcases hrS.2.2.2.2.2.1 with ⟨p1, p2⟩ | ⟨p1, p2, p3⟩
      · have n1 : r 18 0 i < 0 := by rw [p2]; decide
        simp only [if_pos p1, if_pos n1]
        have hvb : vb (xv r i) ≠ -1 := by rw [hbv]; exact nI_ne_m1 (by omega)
        have e1 := pend_inv (π := π) hn5 h hi ho hOR hv hl hvb h15' p2 hGL
        have e18 : (u3 r 18 0 i (nI o)) 18 0 i ≠ -1 := by rw [u3_at]; exact nI_ne_m1 (by omega)
        have e2 := sendPass_inv ht hn5 hi e1 hv hl hbv hbn e18
        have hs : sBut (S_Operation_become π (u3 s 1 8 i 1) i (8 + L)) (S_Store_sendPass π (S_Operation_become π (u3 s 1 8 i 1) i (8 + L)) i) (nxL (s 4 2 0) π) := sBut_op (sBut_5 (sBut_view (sBut_next _ _) _) _ _) _
        exact ⟨rfl, hs.2.2.2.2.2.1 3 L hL, vp, vb, _, _, e2⟩
      · have n0 : ¬ s 1 8 i = 0 := by rw [p1]; decide
        have n1 : ¬ r 18 0 i < 0 := by
          rcases hcS.2.2.2.2.2.2.2.2.1 with e | ⟨o, ho, e18, -⟩
          · exact absurd e p2
          · rw [e18]; exact nI_pos (by omega)
        simp only [if_neg n0, if_neg n1]; exact old
theorem la_or {c : Int32} (hi : i < 34) (hm : m ≤ 180) : (laF (r 3 0) (r 20 0) (nI i) c m = -1 ∧ (∀ a, a < m → r 3 0 (lgS r i a).toNatClampNeg ≠ c) ∧ lF (r 3 0) (r 4 0) (lgS r i) c m = 0) ∨ ∃ a, a < m ∧ laF (r 3 0) (r 20 0) (nI i) c m = nI a ∧ r 3 0 (lgS r i a).toNatClampNeg = c ∧ (∀ b, a < b → b < m → r 3 0 (lgS r i b).toNatClampNeg ≠ c) ∧ lF (r 3 0) (r 4 0) (lgS r i) c m = r 4 0 (lgS r i a).toNatClampNeg ∧ sF (r 3 0) (r 5 0) (r 6 0) (lgS r i) c m = hF (r 5 0) (r 6 0) (lgS r i) (r 5 0 (lgS r i a).toNatClampNeg) a := by
  induction m with
  | zero => exact Or.inl ⟨rfl, fun a ha => absurd ha (by omega), rfl⟩
  | succ m ih =>
    unfold laF lF sF
    rw [clamp_180 hi (show m < 180 by omega) rfl]
    have el : r 20 0 (180 * i + m) = lgS r i m := rfl
    rw [el]
    by_cases e : r 3 0 (lgS r i m).toNatClampNeg = c
    · rw [if_pos e, if_pos e, if_pos e]
      exact Or.inr ⟨m, by omega, rfl, e, fun b h1 h2 => absurd h2 (by omega), rfl, rfl⟩
    · rw [if_neg e, if_neg e, if_neg e]
      rcases ih (by omega) with ⟨h1, h2, h3⟩ | ⟨a, h1, h2, h3, h4, h5⟩
      · refine Or.inl ⟨h1, fun a ha => ?_, h3⟩
        by_cases ea : a = m
        · rw [ea]; exact e
        · exact h2 a (by omega)
      · refine Or.inr ⟨a, by omega, h2, h3, fun b hb1 hb2 => ?_, h5⟩
        by_cases eb : b = m
        · rw [eb]; exact e
        · exact h4 b hb1 (by omega)
theorem ask_ar (ht : t ≤ 512) (hn5 : n ≤ 5) (h : INV n t tk s π r vp vb T Q) (hi : i < n) (hL : L ≠ nxL (s 4 2 0) π) (ho : o < xb r) (hOR : OR s r (8 + L) (nI o)) : AR n t tk s π L (S_Store_takeAsk n π s i L) (S_Model_ask r (nI o) (nI i)) (v_Store_takeAsk n π s i L) (v_Model_ask r (nI o) (nI i)) := by
  have hb := xb_le ht h.2.2.1 h.2.2.2.1
  have hxl := xl_le ht h hi
  have hcS := h.2.2.2.2.1.1 i hi
  have hrS := h.2.2.2.2.2.2.2.2.2.1 i hi
  have old : AR n t tk s π L s r 0 0 := ⟨rfl, rfl, vp, vb, T, Q, inv_t h⟩
  have eo : (nI o).toNatClampNeg = o := nI_clamp (by omega)
  have gO := h.2.2.1
  have kG := h.2.2.2.2.2.2.2.2.1
  obtain ⟨⟨cl, hcl, r3, -⟩, r4, hk1, ⟨ce, hce, r5⟩, -⟩ := gO.2.1 o ho
  have hk31 : xk r o < 2 ^ 31 := Int32.toNatClampNeg_lt _
  obtain ⟨o0, o1, o2, o3, o4⟩ := hOR
  rw [eo] at o0 o1 o2 o3 o4
  have hOR : OR s r (8 + L) (nI o) := by unfold OR; rw [eo]; exact ⟨o0, o1, o2, o3, o4⟩
  obtain ⟨g8, g9, g13, g14⟩ := hrS.2.2.2.2.2.2.2.2.2.2
  unfold S_Store_takeAsk S_Model_ask v_Store_takeAsk v_Model_ask
  rw [nI_clamp (show i < 2 ^ 31 by omega), eo]
  rcases lead_eq hn5 hi h with ⟨a1, a2, -⟩ | ⟨a1, a2, a3, a4, a5, a6, a7⟩
  · simp only [a1, a2, eq_self, if_true]; exact old
  · simp only [a1, a2, one0, if_false]
    rw [o2]
    by_cases h7 : r 7 0 o = 0
    · simp only [if_pos h7]
      unfold S_Store_takeRead v_Store_takeRead
      rw [kG.1, hrS.2.1, hrS.2.2.1]
      by_cases hlt : r 0 1 0 + r 13 0 i < r 14 0 i
      · simp only [if_pos hlt]
        have e2 := answer_inv (w := 8 + L) (o := o) (x := s 9 i ((s 7 3 (8 + L)).toNatClampNeg)) ht hn5 h ho hOR
        refine ⟨rfl, (ans_but s (8 + L)).2.2.2.2.2.1 3 L hL, vp, vb, T, Q, ?_⟩
        have ev : s 9 i ((s 7 3 (8 + L)).toNatClampNeg) = hdF (r 5 0) (r 6 0) (r 20 0) (nI i) (r 5 0 o) (r 19 0 i).toNatClampNeg := by
          rw [hdF_eq (by omega) (by show xl r i ≤ 180; omega), o3, r5, nI_clamp (by omega)]
          exact g9 ce hce
        rw [← ev]
        exact e2
      · simp only [if_neg hlt]; exact old
    · simp only [if_neg h7]
      unfold S_Store_takeWrite v_Store_takeWrite
      rw [o0, o1, r3, nI_clamp (show cl < 2 ^ 31 by omega), g13 cl hcl]
      have exl : (r 19 0 i).toNatClampNeg = xl r i := rfl
      rw [exl]
      rcases la_or (r := r) (c := nI cl) (i := i) (m := xl r i) (by omega) (by omega) with ⟨c1, c2, c3⟩ | ⟨a, c0, c1, c2, c3, c4, c5⟩
      · have n1 : ¬ (0 : Int32) ≤ -1 := by decide
        have n2 : (0 : Int32) ≤ r 4 0 o := by rw [r4]; exact nI_pos' hk31
        have n3 : ¬ r 4 0 o = 0 := by rw [r4]; exact nI_ne0 (by omega) hk31
        rw [c1, c3]
        simp only [if_neg n1, if_pos n2, if_neg n3]
        exact new_ar ht hn5 h hi hL ho hOR a4 a6 a3 (fun b hb2 e => absurd (e.trans r3) (c2 b hb2))
      · have ha31 : a < 2 ^ 31 := by omega
        have hin := vp_lt (hcS.2.2.2.2.1.1 a c0)
        have r4a : r 4 0 (lgS r i a).toNatClampNeg = nI (xk r (lgS r i a).toNatClampNeg) := (gO.2.1 _ hin).2.1
        have hka31 : xk r (lgS r i a).toNatClampNeg < 2 ^ 31 := Int32.toNatClampNeg_lt _
        have ela : r 20 0 (180 * nI i + nI a).toNatClampNeg = lgS r i a := by rw [clamp_180 (by omega) (show a < 180 by omega) rfl]; rfl
        have n1 : (0 : Int32) ≤ nI a := nI_pos' ha31
        rw [c1, c4, ela]
        simp only [if_pos n1]
        by_cases q1 : r 4 0 (lgS r i a).toNatClampNeg ≤ r 4 0 o
        · simp only [if_pos q1]
          by_cases q2 : r 4 0 o = r 4 0 (lgS r i a).toNatClampNeg
          · simp only [if_pos q2]
            have hk : xk r o = xk r (lgS r i a).toNatClampNeg := by unfold xk; rw [q2]
            have hoo : (lgS r i a).toNatClampNeg = o := by
              rcases Nat.lt_trichotomy (lgS r i a).toNatClampNeg o with hl | hl | hl
              · have := gO.2.2.1 _ o hl ho (c2.trans r3.symm); omega
              · exact hl
              · have := gO.2.2.1 o _ hl hin (r3.trans c2.symm); omega
            have e2 := answer_inv (w := 8 + L) (o := o) (x := s 14 i cl) ht hn5 h ho hOR
            refine ⟨rfl, (ans_but s (8 + L)).2.2.2.2.2.1 3 L hL, vp, vb, T, Q, ?_⟩
            have ev : s 14 i cl = hdF (r 5 0) (r 6 0) (r 20 0) (nI i) (r 5 0 o) (nI a).toNatClampNeg := by
              rw [nI_clamp ha31, hdF_eq (by omega) (by omega), g14 cl hcl]
              rw [hoo] at c5
              exact c5
            rw [← ev]
            exact e2
          · simp only [if_neg q2]
            have hlt : xk r (lgS r i a).toNatClampNeg < xk r o := by
              rw [r4a, r4, nI_leI hka31 hk31] at q1
              rcases Nat.lt_or_ge (xk r (lgS r i a).toNatClampNeg) (xk r o) with g | g
              · exact g
              · exact absurd (by rw [r4a, r4, Nat.le_antisymm q1 g]) q2
            exact new_ar ht hn5 h hi hL ho hOR a4 a6 a3 (fun b hb2 e => by
              rcases Nat.lt_trichotomy b a with hl | hl | hl
              · have := hcS.2.2.2.2.1.2 b a hl c0 ((e.trans r3).trans c2.symm); omega
              · rw [hl]; exact hlt
              · exact absurd (e.trans r3) (c3 b hl hb2))
        · simp only [if_neg q1]; exact old
end AK
