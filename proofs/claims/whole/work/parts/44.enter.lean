/-! a server comes to a new view -/
def eR (r : S3) (i : Nat) (V P B Y : Int32) : S3 := u3 (u3 (u3 (u3 (u3 (u3 r 8 0 i V) 9 0 i P) 10 0 i B) 18 0 i (-1)) 16 0 i 0) 15 0 i Y
def eS (π : Nat → Nat) (s : S3) (i w : Nat) (Y : Int32) : S3 := u3 (u3 (u3 (S_View_become π s i w) 1 8 i 0) 1 9 i 0) 1 7 i Y
section EN
variable {n t : Nat} {tk : Option Nat} {s : S3} {π : Nat → Nat} {r : S3} {vp vb : Nat → Int32} {T T' : Nat → Nat} {Q Q' : Nat → Nat → Int32} {i w v : Nat} {V P B Y Y' : Int32}
theorem eR_8 : eR r i V P B Y 8 0 = upd (r 8 0) i V := by
  unfold eR; rw [u3_k (by omega), u3_k (by omega), u3_k (by omega), u3_k (by omega), u3_k (by omega), u3_row]
theorem eR_9 : eR r i V P B Y 9 0 = upd (r 9 0) i P := by
  unfold eR; rw [u3_k (by omega), u3_k (by omega), u3_k (by omega), u3_k (by omega), u3_row, u3_k (by omega)]
theorem eR_10 : eR r i V P B Y 10 0 = upd (r 10 0) i B := by
  unfold eR; rw [u3_k (by omega), u3_k (by omega), u3_k (by omega), u3_row, u3_k (by omega), u3_k (by omega)]
theorem eR_18 : eR r i V P B Y 18 0 = upd (r 18 0) i (-1) := by
  unfold eR; rw [u3_k (by omega), u3_k (by omega), u3_row, u3_k (by omega), u3_k (by omega), u3_k (by omega)]
theorem eR_16 : eR r i V P B Y 16 0 = upd (r 16 0) i 0 := by
  unfold eR; rw [u3_k (by omega), u3_row, u3_k (by omega), u3_k (by omega), u3_k (by omega), u3_k (by omega)]
theorem eR_15 : eR r i V P B Y 15 0 = upd (r 15 0) i Y := by
  unfold eR; rw [u3_row, u3_k (by omega), u3_k (by omega), u3_k (by omega), u3_k (by omega), u3_k (by omega)]
theorem eS_6 {a x : Nat} (hx : x ≠ i) : eS π s i w Y 6 a x = s 6 a x := by
  unfold eS S_View_become
  rw [u3_k (by omega), u3_k (by omega), u3_k (by omega), u3_ne hx, u3_ne hx, u3_ne hx]
theorem eS_60 : eS π s i w Y 6 0 i = s 6 0 w := bv_0 (π := π) (s := s) (a := i) (b := w)
theorem eS_61 : eS π s i w Y 6 1 i = s 6 1 w := bv_1 (π := π) (s := s) (a := i) (b := w)
theorem eS_62 : eS π s i w Y 6 2 i = s 6 2 w := by
  unfold eS
  rw [u3_k (by omega), u3_k (by omega), u3_k (by omega)]
  exact bv_2 (π := π) (s := s) (a := i) (b := w)
theorem eS_18 : eS π s i w Y 1 8 = upd (s 1 8) i 0 := by
  funext x
  show (u3 (u3 (u3 (S_View_become π s i w) 1 8 i 0) 1 9 i 0) 1 7 i Y) 1 8 x = _
  rw [u3_sl (by omega), u3_sl (by omega), u3_row]
  rfl
theorem eS_19 : eS π s i w Y 1 9 = upd (s 1 9) i 0 := by
  funext x
  show (u3 (u3 (u3 (S_View_become π s i w) 1 8 i 0) 1 9 i 0) 1 7 i Y) 1 9 x = _
  rw [u3_sl (by omega), u3_row]
  rfl
theorem eS_17 : eS π s i w Y 1 7 = upd (s 1 7) i Y := by
  unfold eS
  rw [u3_row]
  rfl
theorem eS_1 {b : Nat} (h7 : b ≠ 7) (h8 : b ≠ 8) (h9 : b ≠ 9) : eS π s i w Y 1 b = s 1 b := by
  funext x
  show (u3 (u3 (u3 (S_View_become π s i w) 1 8 i 0) 1 9 i 0) 1 7 i Y) 1 b x = _
  rw [u3_sl h7, u3_sl h9, u3_sl h8]
  rfl
theorem enter_core (hn5 : n ≤ 5) (h : INV n t tk s π r vp vb T Q) (hi : i < n) (hv1 : xv r i < v) (hv2 : v ≤ xv r 5) (g0 : s 6 0 w = nI v) (g1 : s 6 1 w = vp v) (g2 : BR (s 6 2 w) (vb v)) (hY : zb Y') (hYY : vp v = nI i → Y = Y') (hT : ∀ u, u ≠ v → T' u = T u ∧ Q' u = Q u) (hP : vp v = nI i → T' v = xl r i ∧ Q' v = lgS r i) (hN : vp v ≠ nI i → T' v = T v ∧ Q' v = Q v) : INV n t tk (eS π s i w Y) π (eR r i (nI v) (vp v) (vb v) Y') vp vb T' Q' := by
  obtain ⟨gA, gV, gO, gC, gS, gU, gB, gL, kG, kS, kC, kP, kL⟩ := h
  have h31 : v < 2 ^ 31 := Nat.lt_of_le_of_lt hv2 (Int32.toNatClampNeg_lt _)
  have f8 : ∀ j, j ≠ i → eR r i (nI v) (vp v) (vb v) Y' 8 0 j = r 8 0 j := fun j hj => by rw [eR_8]; exact upd_ne hj
  have f9 : ∀ j, j ≠ i → eR r i (nI v) (vp v) (vb v) Y' 9 0 j = r 9 0 j := fun j hj => by rw [eR_9]; exact upd_ne hj
  have f10 : ∀ j, j ≠ i → eR r i (nI v) (vp v) (vb v) Y' 10 0 j = r 10 0 j := fun j hj => by rw [eR_10]; exact upd_ne hj
  have f18 : ∀ j, j ≠ i → eR r i (nI v) (vp v) (vb v) Y' 18 0 j = r 18 0 j := fun j hj => by rw [eR_18]; exact upd_ne hj
  have f16 : ∀ j, j ≠ i → eR r i (nI v) (vp v) (vb v) Y' 16 0 j = r 16 0 j := fun j hj => by rw [eR_16]; exact upd_ne hj
  have f15 : ∀ j, j ≠ i → eR r i (nI v) (vp v) (vb v) Y' 15 0 j = r 15 0 j := fun j hj => by rw [eR_15]; exact upd_ne hj
  have i8 : eR r i (nI v) (vp v) (vb v) Y' 8 0 i = nI v := by rw [eR_8]; exact upd_at
  have i9 : eR r i (nI v) (vp v) (vb v) Y' 9 0 i = vp v := by rw [eR_9]; exact upd_at
  have i10 : eR r i (nI v) (vp v) (vb v) Y' 10 0 i = vb v := by rw [eR_10]; exact upd_at
  have i18 : eR r i (nI v) (vp v) (vb v) Y' 18 0 i = -1 := by rw [eR_18]; exact upd_at
  have i16 : eR r i (nI v) (vp v) (vb v) Y' 16 0 i = 0 := by rw [eR_16]; exact upd_at
  have i15 : eR r i (nI v) (vp v) (vb v) Y' 15 0 i = Y' := by rw [eR_15]; exact upd_at
  have vi : xv (eR r i (nI v) (vp v) (vb v) Y') i = v := by
    have : xv (eR r i (nI v) (vp v) (vb v) Y') i = (eR r i (nI v) (vp v) (vb v) Y' 8 0 i).toNatClampNeg := rfl
    rw [this, i8, nI_clamp h31]
  have vj : ∀ j, j ≠ i → xv (eR r i (nI v) (vp v) (vb v) Y') j = xv r j := fun j hj => by
    have : xv (eR r i (nI v) (vp v) (vb v) Y') j = (eR r i (nI v) (vp v) (vb v) Y' 8 0 j).toNatClampNeg := rfl
    rw [this, f8 j hj]; rfl
  have EN : ∀ u, ENT n r vp u → ENT n (eR r i (nI v) (vp v) (vb v) Y') vp u := fun u ⟨b, hb, e1, e2⟩ => ⟨b, hb, e1, by
    by_cases e : b = i
    · rw [e, vi]; rw [e] at e2; omega
    · rw [vj b e]; exact e2⟩
  have nEN : vp v = nI i → ¬ ENT n r vp v := fun e ⟨b, hb, e1, e2⟩ => by
    rw [e, nI_eq (by omega) (by omega)] at e1
    subst e1
    omega
  have TQ : ∀ u, ENT n r vp u → T' u = T u ∧ Q' u = Q u := fun u hu => by
    by_cases e : u = v
    · subst e
      by_cases e2 : vp u = nI i
      · exact absurd hu (nEN e2)
      · exact hN e2
    · exact hT u e
  have v5 : xv (eR r i (nI v) (vp v) (vb v) Y') 5 = xv r 5 := vj 5 (by omega)
  have hLR : ∀ L q, LR s r L q → i ≠ 8 + L → LR (eS π s i w Y) (eR r i (nI v) (vp v) (vb v) Y') L q := fun L q h hne => by
    unfold LR at h ⊢
    rw [eS_6 (fun e => hne e.symm), eS_6 (fun e => hne e.symm), eS_6 (fun e => hne e.symm)]
    exact h
  refine ⟨⟨gA.1, gA.2.1, gA.2.2.1, by rw [v5]; exact gA.2.2.2⟩, ?_, gO, gC, ⟨?_, ?_⟩, ⟨gU.1, gU.2.1, gU.2.2.1, fun j hj => ⟨by rw [f18 j (by omega)]; exact (gU.2.2.2.1 j hj).1, (gU.2.2.2.1 j hj).2⟩, gU.2.2.2.2⟩, gB, ?_, ?_, ?_, kC, kP, fun j hj => hLR _ _ (kL j hj) (by omega)⟩
  · unfold cV
    rw [v5, f8 5 (by omega), f9 5 (by omega), f10 5 (by omega)]
    exact gV
  · intro j hj
    obtain ⟨b1, b2, b3, b4, b5, b6, b7, b8, b9, b10, b11⟩ := gS.1 j hj
    by_cases e : j = i
    · subst e
      unfold cSi
      rw [vi, v5, i8, i9, i10, i18, i16, i15]
      refine ⟨rfl, hv2, fun _ => ⟨rfl, rfl⟩, b4, b5, hY, Or.inl rfl, b8, Or.inl rfl, fun _ hp => ?_, fun _ _ h => absurd rfl h⟩
      obtain ⟨t1, t2⟩ := hP hp
      rw [t1, t2]
      exact ⟨fun m hm => rfl, Or.inl ⟨rfl, rfl⟩⟩
    · unfold cSi
      rw [vj j e, v5, f8 j e, f9 j e, f10 j e, f18 j e, f16 j e, f15 j e]
      refine ⟨b1, b2, b3, b4, b5, b6, b7, b8, b9, fun c1 c2 => ?_, fun c1 c2 c3 => ?_⟩
      · have tq : T' (xv r j) = T (xv r j) ∧ Q' (xv r j) = Q (xv r j) := by
          by_cases ev : xv r j = v
          · rw [ev] at c2 ⊢
            refine hN (fun e2 => e ?_)
            rw [c2, nI_eq (by omega) (by omega)] at e2
            exact e2
          · exact hT _ ev
        rw [tq.1, tq.2]
        exact b10 c1 c2
      · obtain ⟨d1, d2, d3⟩ := b11 c1 c2 c3
        rw [(TQ _ d3).1, (TQ _ d3).2]
        exact ⟨d1, d2, EN _ d3⟩
  · intro u
    by_cases e : u = v
    · subst e
      by_cases e2 : vp u = nI i
      · rw [(hP e2).1, (hP e2).2]; exact (gS.1 i hi).2.2.2.2.1
      · rw [(hN e2).1, (hN e2).2]; exact gS.2 u
    · rw [(hT u e).1, (hT u e).2]; exact gS.2 u
  · intro j hj
    rcases gL j hj with g | ⟨g1, g2, u, h1, h2, h3⟩ | ⟨g1, g2, u, h1, h2, h3, h4, h5, h6, h7, m, h8⟩ | g | ⟨g1, g2, u, h1, h2, h3, h4, m, h5⟩ | g
    · exact Or.inl g
    · exact Or.inr (Or.inl ⟨g1, g2, u, h1, by rw [v5]; exact h2, h3⟩)
    · exact Or.inr (Or.inr (Or.inl ⟨g1, g2, u, h1, by rw [v5]; exact h2, h3, h4, h5, h6, EN u h7, m, by rw [(TQ u h7).1, (TQ u h7).2]; exact h8⟩))
    · exact Or.inr (Or.inr (Or.inr (Or.inl g)))
    · exact Or.inr (Or.inr (Or.inr (Or.inr (Or.inl ⟨g1, g2, u, h1, by rw [v5]; exact h2, h3, EN u h4, m, by rw [(TQ u h4).1, (TQ u h4).2]; exact h5⟩))))
    · exact Or.inr (Or.inr (Or.inr (Or.inr (Or.inr g))))
  · unfold rG
    rw [eS_6 (show 7 ≠ i by omega), eS_6 (show 7 ≠ i by omega), eS_6 (show 7 ≠ i by omega), f8 5 (by omega), f9 5 (by omega), f10 5 (by omega)]
    exact kG
  · intro j hj
    obtain ⟨b1, b2, b3, b4, b5, b6, b7, b8, b9, b10, b11⟩ := kS j hj
    by_cases e : j = i
    · subst e
      unfold rSi
      rw [i8, i9, i10, i18, i16, i15, eS_60, eS_61, eS_62, eS_18, eS_19, eS_17, eS_1 (by omega) (by omega) (by omega), eS_1 (by omega) (by omega) (by omega), eS_1 (by omega) (by omega) (by omega), eS_1 (by omega) (by omega) (by omega), upd_at, upd_at, upd_at]
      have z : ¬ nI v = 0 := nI_ne0 (by omega) h31
      exact ⟨b1, b2, b3, b4, rfl, Or.inl ⟨rfl, rfl⟩, g0, fun h => absurd h z, fun _ => ⟨g1, g2⟩, fun _ hp => hYY hp, b11⟩
    · unfold rSi
      rw [f8 j e, f9 j e, f10 j e, f18 j e, f16 j e, f15 j e, eS_6 e, eS_6 e, eS_6 e, eS_18, eS_19, eS_17, eS_1 (by omega) (by omega) (by omega), eS_1 (by omega) (by omega) (by omega), eS_1 (by omega) (by omega) (by omega), eS_1 (by omega) (by omega) (by omega), upd_ne e, upd_ne e, upd_ne e]
      exact ⟨b1, b2, b3, b4, b5, b6, b7, b8, b9, b10, b11⟩
/-- what a primary starts its view with -/
def enT (T : Nat → Nat) (v x : Nat) : Nat → Nat := fun u => if u = v then x else T u
def enQ (Q : Nat → Nat → Int32) (v : Nat) (f : Nat → Int32) : Nat → Nat → Int32 := fun u => if u = v then f else Q u
theorem enT_at {x : Nat} : enT T v x v = x := if_pos rfl
theorem enT_ne {x u : Nat} (h : u ≠ v) : enT T v x u = T u := if_neg h
theorem enQ_at {f : Nat → Int32} : enQ Q v f v = f := if_pos rfl
theorem enQ_ne {f : Nat → Int32} {u : Nat} (h : u ≠ v) : enQ Q v f u = Q u := if_neg h
theorem enter_no (hn5 : n ≤ 5) (h : INV n t tk s π r vp vb T Q) (hi : i < n) (hv1 : xv r i < v) (hv2 : v ≤ xv r 5) (g0 : s 6 0 w = nI v) (g1 : s 6 1 w = vp v) (g2 : BR (s 6 2 w) (vb v)) (hp : vp v ≠ nI i) : INV n t tk (eS π s i w 0) π (S_Model_enter r (nI i) (nI v) (vp v) (vb v)) vp vb T Q := by
  have e := enter_core (Y := 0) (Y' := r 15 0 i) (T' := T) (Q' := Q) hn5 h hi hv1 hv2 g0 g1 g2 (h.2.2.2.2.1.1 i hi).2.2.2.2.2.1 (fun e => absurd e hp) (fun u _ => ⟨rfl, rfl⟩) (fun e => absurd e hp) (fun _ => ⟨rfl, rfl⟩)
  rw [enter_ne hp, nI_clamp (by omega)]
  have e2 : eR r i (nI v) (vp v) (vb v) (r 15 0 i) = u3 (u3 (u3 (u3 (u3 r 8 0 i (nI v)) 9 0 i (vp v)) 10 0 i (vb v)) 18 0 i (-1)) 16 0 i 0 := u3_id (u3 (u3 (u3 (u3 (u3 r 8 0 i (nI v)) 9 0 i (vp v)) 10 0 i (vb v)) 18 0 i (-1)) 16 0 i 0) 15 0 i
  rw [e2] at e
  exact e
theorem enter_yes (hn5 : n ≤ 5) (h : INV n t tk s π r vp vb T Q) (hi : i < n) (hv1 : xv r i < v) (hv2 : v ≤ xv r 5) (g0 : s 6 0 w = nI v) (g1 : s 6 1 w = vp v) (g2 : BR (s 6 2 w) (vb v)) (hp : vp v = nI i) (hY : zb Y) : INV n t tk (eS π s i w Y) π (eR r i (nI v) (vp v) (vb v) Y) vp vb (enT T v (xl r i)) (enQ Q v (lgS r i)) :=
  enter_core hn5 h hi hv1 hv2 g0 g1 g2 hY (fun _ => rfl) (fun u hu => ⟨enT_ne hu, enQ_ne hu⟩) (fun _ => ⟨enT_at, enQ_at⟩) (fun e => absurd hp e)
end EN
