/-! a new view; check -/
def nvR (r : S3) (x y : Int32) : S3 := u3 (u3 (u3 (u3 r 8 0 5 (r 8 0 5 + 1)) 9 0 5 x) 10 0 5 y) 0 11 0 0
section NV
variable {n t t' : Nat} {tk : Option Nat} {s : S3} {π : Nat → Nat} {r : S3} {vp vb : Nat → Int32} {T : Nat → Nat} {Q : Nat → Nat → Int32} {a : Nat} {yr yc : Int32}
theorem nvR_8 : nvR r (nI a) yr 8 0 = upd (r 8 0) 5 (r 8 0 5 + 1) := by
  unfold nvR
  rw [u3_k (by omega), u3_k (by omega), u3_k (by omega), u3_row]
theorem nvR_9 : nvR r (nI a) yr 9 0 = upd (r 9 0) 5 (nI a) := by
  unfold nvR
  rw [u3_k (by omega), u3_k (by omega), u3_row, u3_k (by omega)]
theorem nvR_10 : nvR r (nI a) yr 10 0 = upd (r 10 0) 5 yr := by
  unfold nvR
  rw [u3_k (by omega), u3_row, u3_k (by omega), u3_k (by omega)]
theorem newview_inv (htt : t ≤ t') (ht : t' ≤ 512) (hn5 : n ≤ 5) (h : INV n t tk s π r vp vb T Q) (hx : xv r 5 ≤ t') (ha : a < n) (hy : (yr = -1 ∧ yc = 7) ∨ ∃ j, j < n ∧ yr = nI j ∧ yc = nI j) (hne : nI a ≠ yr) : INV n t' tk (S_Service_changeView π s (nI a) yc) π (nvR r (nI a) yr) (fun v => if v = xv r 5 + 1 then nI a else vp v) (fun v => if v = xv r 5 + 1 then yr else vb v) T Q := by
  obtain ⟨gA, gV, gO, gC, gS, gU, gB, gL, kG, kS, kC, kP, kL⟩ := h
  have e8 : ∀ i, i ≠ 5 → nvR r (nI a) yr 8 0 i = r 8 0 i := fun i hi => by rw [nvR_8]; exact upd_ne hi
  have e9 : ∀ i, i ≠ 5 → nvR r (nI a) yr 9 0 i = r 9 0 i := fun i hi => by rw [nvR_9]; exact upd_ne hi
  have e10 : ∀ i, i ≠ 5 → nvR r (nI a) yr 10 0 i = r 10 0 i := fun i hi => by rw [nvR_10]; exact upd_ne hi
  have ev : ∀ i, i ≠ 5 → xv (nvR r (nI a) yr) i = xv r i := fun i hi => by unfold xv; rw [e8 i hi]
  have e85 : nvR r (nI a) yr 8 0 5 = nI (xv r 5 + 1) := by rw [nvR_8, upd_at, gV.1, nI_1]
  have ev5 : xv (nvR r (nI a) yr) 5 = xv r 5 + 1 := by
    have : xv (nvR r (nI a) yr) 5 = (nvR r (nI a) yr 8 0 5).toNatClampNeg := rfl
    rw [this, e85, nI_clamp (by omega)]
  have s6 : ∀ b x, x ≠ 7 → S_Service_changeView π s (nI a) yc 6 b x = s 6 b x := fun b x hx => by
    unfold S_Service_changeView
    rw [u3_k (by omega), u3_ne hx, u3_ne hx, u3_ne hx]
  have s60 : S_Service_changeView π s (nI a) yc 6 0 7 = s 6 0 7 + 1 := by
    unfold S_Service_changeView
    rw [u3_k (by omega), u3_sl (by omega), u3_sl (by omega), u3_at]
  have s61 : S_Service_changeView π s (nI a) yc 6 1 7 = nI a := by
    unfold S_Service_changeView
    rw [u3_k (by omega), u3_sl (by omega), u3_at]
  have s62 : S_Service_changeView π s (nI a) yc 6 2 7 = yc := by
    unfold S_Service_changeView
    rw [u3_k (by omega), u3_at]
  have s32 : S_Service_changeView π s (nI a) yc 3 2 0 = 0 := u3_at
  have r011 : nvR r (nI a) yr 0 11 0 = 0 := u3_at
  have wp : ∀ v, v ≤ xv r 5 → (fun v => if v = xv r 5 + 1 then nI a else vp v) v = vp v := fun v hv => if_neg (by omega)
  have wb : ∀ v, v ≤ xv r 5 → (fun v => if v = xv r 5 + 1 then yr else vb v) v = vb v := fun v hv => if_neg (by omega)
  have wp1 : (fun v => if v = xv r 5 + 1 then nI a else vp v) (xv r 5 + 1) = nI a := if_pos rfl
  have wb1 : (fun v => if v = xv r 5 + 1 then yr else vb v) (xv r 5 + 1) = yr := if_pos rfl
  generalize (fun v => if v = xv r 5 + 1 then nI a else vp v) = vp' at wp wp1 ⊢
  generalize (fun v => if v = xv r 5 + 1 then yr else vb v) = vb' at wb wb1 ⊢
  have EN : ∀ v, v ≤ xv r 5 → ENT n r vp v → ENT n (nvR r (nI a) yr) vp' v := fun v hv ⟨b, hb, e1, e2⟩ => ⟨b, hb, (wp v hv).trans e1, by rw [ev b (by omega)]; exact e2⟩
  have hLR : ∀ L q, LR s r L q → LR (S_Service_changeView π s (nI a) yc) (nvR r (nI a) yr) L q := fun L q h => by
    unfold LR at h ⊢
    rw [s6 0 _ (by omega), s6 1 _ (by omega), s6 2 _ (by omega)]
    exact h
  refine ⟨⟨gA.1, ⟨gA.2.1.choose, by have := gA.2.1.choose_spec.1; omega, gA.2.1.choose_spec.2⟩, gA.2.2.1, by rw [ev5]; omega⟩, ⟨by rw [ev5]; exact e85, ?_, ?_, ?_, by rw [r011]; exact Or.inl rfl⟩, gO, Nat.le_trans gC htt, ⟨?_, gS.2⟩, gU, gB, ?_, ⟨kG.1, ?_, ?_, ?_, kG.2.2.2.2⟩, ?_, kC, kP, fun j hj => hLR _ _ (kL j hj)⟩
  · intro v h1 h2
    rw [ev5] at h2
    by_cases e : v = xv r 5 + 1
    · subst e
      rw [wp1, wb1]
      refine ⟨⟨a, ha, rfl⟩, ?_, hne⟩
      rcases hy with ⟨y1, -⟩ | ⟨j, hj, y1, -⟩
      · exact Or.inl y1
      · exact Or.inr ⟨j, hj, y1⟩
    · rw [wp v (by omega), wb v (by omega)]
      exact gV.2.1 v h1 (by omega)
  · intro _
    rw [ev5, wp1, wb1, nvR_9, nvR_10, upd_at, upd_at]
    exact ⟨rfl, rfl⟩
  · intro h0
    rw [ev5] at h0
    omega
  · intro i hi
    obtain ⟨b1, b2, b3, b4, b5, b6, b7, b8, b9, b10, b11⟩ := gS.1 i hi
    have hi5 : i ≠ 5 := by omega
    unfold cSi
    rw [ev i hi5, e8 i hi5, e9 i hi5, e10 i hi5, ev5, wp _ b2, wb _ b2]
    exact ⟨b1, by omega, b3, b4, b5, b6, b7, b8, b9, b10, fun c1 c2 c3 => ⟨(b11 c1 c2 c3).1, (b11 c1 c2 c3).2.1, EN _ b2 (b11 c1 c2 c3).2.2⟩⟩
  · intro j hj
    rcases gL j hj with g | ⟨g1, g2, v, h1, h2, h3, h4, h5⟩ | ⟨g1, g2, v, h1, h2, h3, h4, h5, h6, h7, h8⟩ | g | ⟨g1, g2, v, h1, h2, h3, h4, h5⟩ | g
    · exact Or.inl g
    · exact Or.inr (Or.inl ⟨g1, g2, v, h1, by rw [ev5]; omega, h3, by rw [wp v h2]; exact h4, by rw [wb v h2]; exact h5⟩)
    · exact Or.inr (Or.inr (Or.inl ⟨g1, g2, v, h1, by rw [ev5]; omega, h3, by rw [wp v h2]; exact h4, by rw [wb v h2]; exact h5, by rw [wb v h2]; exact h6, EN v h2 h7, h8⟩))
    · exact Or.inr (Or.inr (Or.inr (Or.inl g)))
    · exact Or.inr (Or.inr (Or.inr (Or.inr (Or.inl ⟨g1, g2, v, h1, by rw [ev5]; omega, h3, EN v h2 h4, h5⟩))))
    · exact Or.inr (Or.inr (Or.inr (Or.inr (Or.inr g))))
  · rw [s32, r011]
  · rw [s60, nvR_8, upd_at, kG.2.2.1]
  · intro _
    rw [s61, s62, nvR_9, nvR_10, upd_at, upd_at]
    refine ⟨rfl, ?_⟩
    rcases hy with ⟨y1, y2⟩ | ⟨j, hj, y1, y2⟩
    · exact Or.inl ⟨y1, y2⟩
    · exact Or.inr ⟨j, by omega, y1, y2⟩
  · intro i hi
    have hi5 : i ≠ 5 := by omega
    have hi7 : i ≠ 7 := by omega
    have := kS i hi
    unfold rSi at this ⊢
    rw [s6 0 i hi7, s6 1 i hi7, s6 2 i hi7, e8 i hi5, e9 i hi5, e10 i hi5]
    exact this
end NV
section FR
variable {pr bk t : Int32} {g : Nat → Int32}
theorem ncF_or {k : Nat} : ∀ j, (∀ i, j ≤ i → i < j + k → nI i = pr ∨ nI i = bk ∨ v_Service_isFresh (g (nI i).toNatClampNeg) t = 0) ∧ ncF pr bk g t k j = 7 ∨ ∃ i, j ≤ i ∧ i < j + k ∧ (¬ nI i = pr ∧ ¬ nI i = bk ∧ ¬ v_Service_isFresh (g (nI i).toNatClampNeg) t = 0) ∧ (∀ i', j ≤ i' → i' < i → nI i' = pr ∨ nI i' = bk ∨ v_Service_isFresh (g (nI i').toNatClampNeg) t = 0) ∧ ncF pr bk g t k j = nI i := by
  induction k with
  | zero => intro j; exact Or.inl ⟨fun i h1 h2 => by omega, rfl⟩
  | succ k ih =>
    intro j
    unfold ncF
    have key : (nI j = pr ∨ nI j = bk ∨ v_Service_isFresh (g (nI j).toNatClampNeg) t = 0) → (∀ i, j ≤ i → i < j + (k + 1) → nI i = pr ∨ nI i = bk ∨ v_Service_isFresh (g (nI i).toNatClampNeg) t = 0) ∧ ncF pr bk g t k (j + 1) = 7 ∨ ∃ i, j ≤ i ∧ i < j + (k + 1) ∧ (¬ nI i = pr ∧ ¬ nI i = bk ∧ ¬ v_Service_isFresh (g (nI i).toNatClampNeg) t = 0) ∧ (∀ i', j ≤ i' → i' < i → nI i' = pr ∨ nI i' = bk ∨ v_Service_isFresh (g (nI i').toNatClampNeg) t = 0) ∧ ncF pr bk g t k (j + 1) = nI i := by
      intro hj
      rcases ih (j + 1) with ⟨h1, h2⟩ | ⟨i, h1, h2, h3, h4, h5⟩
      · refine Or.inl ⟨fun i a1 a2 => ?_, h2⟩
        by_cases e : i = j
        · rw [e]; exact hj
        · exact h1 i (by omega) (by omega)
      · refine Or.inr ⟨i, by omega, by omega, h3, fun i' a1 a2 => ?_, h5⟩
        by_cases e : i' = j
        · rw [e]; exact hj
        · exact h4 i' (by omega) a2
    by_cases c1 : nI j = pr
    · rw [if_pos c1]; exact key (Or.inl c1)
    · rw [if_neg c1]
      by_cases c2 : nI j = bk
      · rw [if_pos c2]; exact key (Or.inr (Or.inl c2))
      · rw [if_neg c2]
        by_cases c3 : v_Service_isFresh (g (nI j).toNatClampNeg) t = 0
        · rw [if_pos c3]; exact key (Or.inr (Or.inr c3))
        · rw [if_neg c3]; exact Or.inr ⟨j, by omega, by omega, ⟨c1, c2, c3⟩, fun i' a1 a2 => by omega, rfl⟩
theorem thF_or {m : Nat} : ∀ y, (∀ i, i < m → nI i = pr ∨ nI i = bk ∨ v_Model_fresh (g (nI i).toNatClampNeg) t (nI i) = 0) ∧ thF pr bk g t m y = y ∨ ∃ i, i < m ∧ (¬ nI i = pr ∧ ¬ nI i = bk ∧ ¬ v_Model_fresh (g (nI i).toNatClampNeg) t (nI i) = 0) ∧ (∀ i', i' < i → nI i' = pr ∨ nI i' = bk ∨ v_Model_fresh (g (nI i').toNatClampNeg) t (nI i') = 0) ∧ thF pr bk g t m y = nI i := by
  induction m with
  | zero => intro y; exact Or.inl ⟨fun i h => by omega, rfl⟩
  | succ m ih =>
    intro y
    unfold thF
    rcases ih (if nI m = pr then y else if nI m = bk then y else if v_Model_fresh (g (nI m).toNatClampNeg) t (nI m) = 0 then y else nI m) with ⟨h1, h2⟩ | ⟨i, h1, h2, h3, h4⟩
    · rw [h2]
      have key : (nI m = pr ∨ nI m = bk ∨ v_Model_fresh (g (nI m).toNatClampNeg) t (nI m) = 0) → ∀ i, i < m + 1 → nI i = pr ∨ nI i = bk ∨ v_Model_fresh (g (nI i).toNatClampNeg) t (nI i) = 0 := fun hm i hi => by
        by_cases e : i = m
        · rw [e]; exact hm
        · exact h1 i (by omega)
      by_cases c1 : nI m = pr
      · rw [if_pos c1]; exact Or.inl ⟨key (Or.inl c1), rfl⟩
      · rw [if_neg c1]
        by_cases c2 : nI m = bk
        · rw [if_pos c2]; exact Or.inl ⟨key (Or.inr (Or.inl c2)), rfl⟩
        · rw [if_neg c2]
          by_cases c3 : v_Model_fresh (g (nI m).toNatClampNeg) t (nI m) = 0
          · rw [if_pos c3]; exact Or.inl ⟨key (Or.inr (Or.inr c3)), rfl⟩
          · rw [if_neg c3]; exact Or.inr ⟨m, by omega, ⟨c1, c2, c3⟩, fun i' hi' => h1 i' hi', rfl⟩
    · exact Or.inr ⟨i, by omega, h2, h3, h4⟩
end FR
section CK
variable {n t : Nat} {tk : Option Nat} {s : S3} {π : Nat → Nat} {r : S3} {vp vb : Nat → Int32} {T : Nat → Nat} {Q : Nat → Nat → Int32}
theorem fr_eq (hn5 : n ≤ 5) (h : INV n t tk s π r vp vb T Q) {i : Nat} (hi : i < n) : v_Service_isFresh (s 15 0 i) (s 0 4 0) = v_Model_fresh (r 12 0 i) (r 0 1 0) (nI i) := by
  obtain ⟨gA, gV, gO, gC, gS, gU, gB, gL, kG, kS, kC, kP, kL⟩ := h
  unfold v_Service_isFresh v_Model_fresh
  rw [if_neg (show ¬ nI i < 0 from nI_pos (by omega)), kG.2.2.2.2 i hi, kG.1]
  rcases gA.2.2.1 i with e | e
  · rw [if_pos e, if_pos (by rw [e]; decide)]
  · rw [if_neg (fun e2 => e (by rw [e2]; decide)), if_neg e]
theorem nc_th (hn5 : n ≤ 5) (h : INV n t tk s π r vp vb T Q) {pr bc br : Int32} (hb : BR bc br) : (ncF pr bc (s 15 0) (s 0 4 0) n 0 = 7 ∧ thF pr br (r 12 0) (r 0 1 0) n (-1) = -1) ∨ ∃ j, j < n ∧ ncF pr bc (s 15 0) (s 0 4 0) n 0 = nI j ∧ thF pr br (r 12 0) (r 0 1 0) n (-1) = nI j ∧ nI j ≠ pr ∧ nI j ≠ br := by
  have hbb : ∀ i, i < n → (nI i = bc ↔ nI i = br) := fun i hi => by
    rcases hb with ⟨b1, b2⟩ | ⟨j, hj, b1, b2⟩
    · rw [b1, b2]
      exact ⟨fun e => by rw [show (7 : Int32) = nI 7 from rfl, nI_eq (by omega) (by omega)] at e; omega, fun e => absurd e (nI_ne_m1 (by omega))⟩
    · rw [b1, b2]
  have hfr : ∀ i, i < n → v_Service_isFresh (s 15 0 (nI i).toNatClampNeg) (s 0 4 0) = v_Model_fresh (r 12 0 (nI i).toNatClampNeg) (r 0 1 0) (nI i) := fun i hi => by
    rw [nI_clamp (by omega)]; exact fr_eq hn5 h hi
  rcases ncF_or (pr := pr) (bk := bc) (g := s 15 0) (t := s 0 4 0) (k := n) 0 with ⟨c1, c2⟩ | ⟨i, -, c1, c2, c3, c4⟩
  · rcases thF_or (pr := pr) (bk := br) (g := r 12 0) (t := r 0 1 0) (m := n) (-1) with ⟨d1, d2⟩ | ⟨j, d1, d2, d3, d4⟩
    · exact Or.inl ⟨c2, d2⟩
    · rcases c1 j (by omega) (by omega) with e | e | e
      · exact absurd e d2.1
      · exact absurd ((hbb j d1).mp e) d2.2.1
      · rw [hfr j d1] at e; exact absurd e d2.2.2
  · rw [Nat.zero_add] at c1
    rcases thF_or (pr := pr) (bk := br) (g := r 12 0) (t := r 0 1 0) (m := n) (-1) with ⟨d1, d2⟩ | ⟨j, d1, d2, d3, d4⟩
    · rcases d1 i c1 with e | e | e
      · exact absurd e c2.1
      · exact absurd ((hbb i c1).mpr e) c2.2.1
      · rw [← hfr i c1] at e; exact absurd e c2.2.2
    · have hij : i = j := by
        rcases Nat.lt_trichotomy i j with hl | hl | hl
        · rcases d3 i hl with e | e | e
          · exact absurd e c2.1
          · exact absurd ((hbb i c1).mpr e) c2.2.1
          · rw [← hfr i c1] at e; exact absurd e c2.2.2
        · exact hl
        · rcases c3 j (by omega) hl with e | e | e
          · exact absurd e d2.1
          · exact absurd ((hbb j d1).mp e) d2.2.1
          · rw [hfr j d1] at e; exact absurd e d2.2.2
      subst hij
      exact Or.inr ⟨i, c1, c4, d4, d2.1, d2.2.1⟩
theorem st_check_ok (ht : t < 512) (hn5 : n ≤ 5) (h : INV n t none s π r vp vb T Q) : st_check n (JJ n) t s π r := by
  have hi := inv_t h
  have hA := h
  obtain ⟨gA, gV, gO, gC, gS, gU, gB, gL, kG, kS, kC, kP, kL⟩ := h
  unfold st_check v_Store_check v_Model_check S_Store_check S_Model_check
  rw [kG.2.1]
  by_cases h0 : r 0 11 0 = 0
  · simp only [if_pos h0]
    exact ⟨kG.2.2.1, vp, vb, T, Q, hi⟩
  · simp only [if_neg h0]
    have hv : xv r 5 ≠ 0 := fun e => h0 (gV.2.2.2.1 e).1
    have h8 : r 8 0 5 ≠ 0 := by rw [gV.1]; exact nI_ne0 (by omega) (Int32.toNatClampNeg_lt _)
    obtain ⟨k1, k2⟩ := kG.2.2.2.1 h8
    obtain ⟨⟨a, ha, ea⟩, hbv, hne⟩ := gV.2.1 (xv r 5) (by omega) (Nat.le_refl _)
    obtain ⟨p1, p2⟩ := gV.2.2.1 hv
    rw [ea] at p1
    have hnt := nc_th (pr := nI a) hn5 hA k2
    have en : (r 0 0 0).toNatClampNeg = n := by rw [gA.1, nI_clamp (by omega)]
    have fa := fr_eq hn5 hA ha
    have e60 : s 6 0 7 = r 8 0 5 := kG.2.2.1
    rw [en, p1]
    unfold S_Service_reviseView v_Model_checkT S_Model_checkT
    rw [k1, p1]
    simp only [nI_clamp (show a < 2 ^ 31 by omega)]
    generalize hnc : ncF (nI a) (s 6 2 7) (s 15 0) (s 0 4 0) n 0 = nc at hnt ⊢
    generalize hth : thF (nI a) (r 10 0 5) (r 12 0) (r 0 1 0) n (-1) = th at hnt ⊢
    have hyy : (th = -1 ∧ nc = 7) ∨ ∃ j, j < n ∧ th = nI j ∧ nc = nI j := by
      rcases hnt with ⟨q1, q2⟩ | ⟨j, hj, q1, q2, -⟩
      · exact Or.inl ⟨q2, q1⟩
      · exact Or.inr ⟨j, hj, q2, q1⟩
    have hx : xv r 5 ≤ t + 1 := gA.2.2.2
    have hna : nI a ≠ th := by
      rcases hnt with ⟨q1, q2⟩ | ⟨j, hj, q1, q2, q3, -⟩
      · rw [q2]; exact nI_ne_m1 (by omega)
      · rw [q2]; exact q3.symm
    have new : ∀ b, b < n → nI b ≠ th → stp (JJ n) t (S_Service_changeView π s (nI b) nc) π (nvR r (nI b) th) (S_Service_changeView π s (nI b) nc 6 0 7) (r 8 0 5 + 1) := fun b hb hbt => by
      refine ⟨?_, _, _, _, _, newview_inv (Nat.le_succ t) (by omega) hn5 hA hx hb hyy hbt⟩
      unfold S_Service_changeView
      rw [u3_k (by omega), u3_sl (by omega), u3_sl (by omega), u3_at, e60]
    have old : stp (JJ n) t s π r (s 6 0 7) (r 8 0 5) := ⟨e60, vp, vb, T, Q, hi⟩
    rw [fa]
    rcases hbv with hb | ⟨b, hb, eb⟩
    · -- no backup
      rw [hb] at p2
      have b7 : s 6 2 7 = 7 := by
        rcases k2 with ⟨-, e⟩ | ⟨j, hj, e, -⟩
        · exact e
        · rw [p2] at e; exact absurd e.symm (nI_ne_m1 (by omega))
      have v7 : v_View_hasBackup (s 6 2 7) = 0 := by rw [b7]; rfl
      have r10 : r 10 0 5 < 0 := by rw [p2]; decide
      have r10' : ¬ 0 ≤ r 10 0 5 := by rw [p2]; decide
      simp only [v7, if_pos r10, if_neg r10', eq_self, if_true]
      by_cases hf : v_Model_fresh (r 12 0 a) (r 0 1 0) (nI a) = 0
      · simp only [if_pos hf]; exact old
      · simp only [if_neg hf]
        rcases hnt with ⟨q1, q2⟩ | ⟨j, hj, q1, q2, q3, -⟩
        · have t0 : th < 0 := by rw [q2]; decide
          simp only [if_pos q1, if_pos t0]; exact old
        · have t0 : ¬ th < 0 := by rw [q2]; exact nI_pos (by omega)
          have n7 : ¬ nc = 7 := by rw [q1, show (7 : Int32) = nI 7 from rfl, nI_eq (by omega) (by omega)]; omega
          simp only [if_neg n7, if_neg t0]
          exact new a ha hna
    · -- a backup
      rw [eb] at p2
      have b7 : s 6 2 7 = nI b := by
        rcases k2 with ⟨e, -⟩ | ⟨j, hj, e, e2⟩
        · rw [p2] at e; exact absurd e (nI_ne_m1 (by omega))
        · rw [e2, ← e, p2]
      have v7 : v_View_hasBackup (s 6 2 7) = 1 := by
        unfold v_View_hasBackup
        rw [b7, if_neg]
        rw [show (7 : Int32) = nI 7 from rfl, nI_eq (by omega) (by omega)]; omega
      have r10 : ¬ r 10 0 5 < 0 := by rw [p2]; exact nI_pos (by omega)
      have r10' : 0 ≤ r 10 0 5 := by rw [p2]; exact nI_pos' (by omega)
      have hnb : nI b ≠ th := by
        rcases hnt with ⟨q1, q2⟩ | ⟨j, hj, q1, q2, -, q4⟩
        · rw [q2]; exact nI_ne_m1 (by omega)
        · rw [q2]; rw [p2] at q4; exact q4.symm
      have fb := fr_eq hn5 hA hb
      simp only [v7, if_neg r10, if_pos r10', one0, if_false]
      rw [b7, p2]
      simp only [nI_clamp (show b < 2 ^ 31 by omega)]
      rw [fb]
      by_cases hf : v_Model_fresh (r 12 0 a) (r 0 1 0) (nI a) = 0
      · simp only [if_pos hf]
        by_cases hg : v_Model_fresh (r 12 0 b) (r 0 1 0) (nI b) = 0
        · simp only [if_pos hg]; exact old
        · simp only [if_neg hg]; exact new b hb hnb
      · simp only [if_neg hf]
        by_cases hg : v_Model_fresh (r 12 0 b) (r 0 1 0) (nI b) = 0
        · simp only [if_pos hg]; exact new a ha hna
        · simp only [if_neg hg]; exact old
end CK
