/-! a letter is taken from the row; lose -/
theorem nI_prd {a : Nat} (h : 1 ≤ a) : nI a - 1 = nI (a - 1) := by
  obtain ⟨b, rfl⟩ : ∃ b, a = b + 1 := ⟨a - 1, by omega⟩
  rw [nI_pred, Nat.add_sub_cancel]
theorem va_upE {α : Type} {f : Nat → α} {k : Nat} {v : α} {j : Nat} : va_up f k v j = if j = k then v else f j := rfl
theorem tkR_at {k i : Nat} : ∀ (j : Nat) (p : Nat → Nat), tkR k j p i = if j ≤ i ∧ i < j + k then p (i + 1) else p i := by
  induction k with
  | zero => intro j p; rw [if_neg (by omega)]; rfl
  | succ k ih =>
    intro j p
    unfold tkR
    rw [ih, va_upE, va_upE]
    by_cases h1 : j + 1 ≤ i ∧ i < j + 1 + k
    · rw [if_pos h1, if_neg (by omega), if_pos (by omega)]
    · rw [if_neg h1]
      by_cases h2 : i = j
      · subst h2; rw [if_pos rfl, if_pos (by omega)]
      · rw [if_neg h2, if_neg (by omega)]
theorem rowR_at {k i : Nat} : ∀ (j : Nat) (p : Nat → Int32), rowR k j p i = if j ≤ i ∧ i < j + k then p (i + 1) else p i := by
  induction k with
  | zero => intro j p; rw [if_neg (by omega)]; rfl
  | succ k ih =>
    intro j p
    unfold rowR
    rw [ih]
    unfold upd
    by_cases h1 : j + 1 ≤ i ∧ i < j + 1 + k
    · rw [if_pos h1, if_neg (by omega), if_pos (by omega)]
    · rw [if_neg h1]
      by_cases h2 : i = j
      · subst h2; rw [if_pos rfl, if_pos (by omega)]
      · rw [if_neg h2, if_neg (by omega)]
theorem tkP_at {π : Nat → Nat} {x j : Nat} (hx : x < 33) : tkP π x j = if j = 32 then π x else if x ≤ j ∧ j < 32 then π (j + 1) else π j := by
  unfold tkP
  rw [va_upE, tkR_at]
  by_cases h : j = 32
  · rw [if_pos h, if_pos h]
  · rw [if_neg h, if_neg h]
    by_cases h2 : x ≤ j ∧ j < 32
    · rw [if_pos h2, if_pos (by omega)]
    · rw [if_neg h2, if_neg (by omega)]
theorem cnt8_take {g g' : Nat → Int32} {x m : Nat} (hx : x < m) (h1 : ∀ j, j < x → g' j = g j) (h2 : ∀ j, x ≤ j → j + 1 < m → g' j = g (j + 1)) : cnt8 g' (m - 1) + (if g x = 8 then 1 else 0) = cnt8 g m := by
  induction m with
  | zero => omega
  | succ m ih =>
    show _ = cnt8 g m + _
    by_cases e : x = m
    · subst e
      rw [Nat.add_sub_cancel, cnt8_congr h1]
    · have hm : m = m - 1 + 1 := by omega
      have := ih (by omega) (fun j a b => h2 j a (by omega))
      rw [← this, Nat.add_sub_cancel]
      conv => lhs; rw [hm]
      show cnt8 g' (m - 1) + (if g' (m - 1) = 8 then 1 else 0) + _ = _
      rw [h2 (m - 1) (by omega) (by omega), ← hm]
      omega
section TK
variable {n t : Nat} {tk : Option Nat} {s : S3} {π : Nat → Nat} {r : S3} {vp vb : Nat → Int32} {T : Nat → Nat} {Q : Nat → Nat → Int32} {x : Nat}
theorem take_inv (hn5 : n ≤ 5) (hx : x < xw r) (h : INV n t none s π r vp vb T Q) : INV n t (some (xo r x)) (u3 s 4 2 0 (s 4 2 0 - 1)) (tkP π x) (uA (u3 r 0 25 0 (r 0 25 0 - 1)) 26 0 (rowR ((r 0 25 0).toNatClampNeg - 1 - x) x (r 26 0))) vp vb T Q ∧ LPx n r vp vb T Q (xo r x) ∧ LR s r (π x) (xo r x) ∧ (r 28 0 (xo r x) = 8 → cC (t - 1) (uA (u3 r 0 25 0 (r 0 25 0 - 1)) 26 0 (rowR ((r 0 25 0).toNatClampNeg - 1 - x) x (r 26 0))) ∧ 1 ≤ t) := by
  obtain ⟨cA, cV, cO, gC, cS, cU, cB, cL, rG, rS, rC, rP, rL⟩ := h
  have hw := cB.1
  have hw32 := cB.2.1
  have e25 : (uA (u3 r 0 25 0 (r 0 25 0 - 1)) 26 0 (rowR ((r 0 25 0).toNatClampNeg - 1 - x) x (r 26 0))) 0 25 0 = nI (xw r - 1) := by
    show r 0 25 0 - 1 = _
    rw [hw, nI_prd (by omega)]
  have e26 : ∀ j, (uA (u3 r 0 25 0 (r 0 25 0 - 1)) 26 0 (rowR ((r 0 25 0).toNatClampNeg - 1 - x) x (r 26 0))) 26 0 j = if x ≤ j ∧ j < xw r - 1 then r 26 0 (j + 1) else r 26 0 j := fun j => by
    show rowR (xw r - 1 - x) x (r 26 0) j = _
    rw [rowR_at]
    by_cases h2 : x ≤ j ∧ j < xw r - 1
    · rw [if_pos h2, if_pos (by omega)]
    · rw [if_neg h2, if_neg (by omega)]
  have hoth : ∀ k, k ≠ 0 → k ≠ 26 → (uA (u3 r 0 25 0 (r 0 25 0 - 1)) 26 0 (rowR ((r 0 25 0).toNatClampNeg - 1 - x) x (r 26 0))) k = r k := fun k h0 h26 => by rw [uA_k h26, u3_k h0]
  have h0b : ∀ b, b ≠ 25 → (uA (u3 r 0 25 0 (r 0 25 0 - 1)) 26 0 (rowR ((r 0 25 0).toNatClampNeg - 1 - x) x (r 26 0))) 0 b = r 0 b := fun b hb => by
    funext c
    rw [uA_k (by omega), u3_sl hb]
  have gA := cA
  have gV := cV
  have gO := cO
  have gS := cS
  generalize (uA (u3 r 0 25 0 (r 0 25 0 - 1)) 26 0 (rowR ((r 0 25 0).toNatClampNeg - 1 - x) x (r 26 0))) = r' at e25 e26 hoth h0b ⊢
  have exw : xw r' = xw r - 1 := by unfold xw; rw [e25, nI_clamp]; rfl; have := hw32; unfold xw at this; omega
  have exo : ∀ j, j < xw r - 1 → xo r' j = xo r (if x ≤ j then j + 1 else j) := fun j hj => by
    unfold xo
    rw [e26]
    by_cases h2 : x ≤ j
    · rw [if_pos ⟨h2, hj⟩, if_pos h2]
    · rw [if_neg (by omega), if_neg h2]
  have hr : ∀ p, rBut r r' p := fun p => ⟨fun k h0 hk => hoth k h0 (by omega), h0b, fun k q h1 h2 _ => by rw [hoth k (by omega) (by omega)], fun q m _ _ => by rw [hoth 36 (by omega) (by omega)]⟩
  have hs : ∀ L, sBut s (u3 s 4 2 0 (s 4 2 0 - 1)) L := fun L => ⟨rfl, rfl, rfl, rfl, rfl, fun _ _ _ => rfl, fun _ _ _ => rfl, fun _ _ _ => rfl, fun _ _ _ => rfl, fun _ _ => rfl, fun _ _ => rfl, fun _ _ => rfl⟩
  obtain ⟨kA, kV, kO, kS⟩ := core_keep (n := n) (t := t) (vp := vp) (vb := vb) (T := T) (Q := Q) (hr 0)
  have e28 := hoth 28 (by omega) (by omega)
  have eb : xb r' = xb r := by unfold xb; rw [h0b 2 (by omega)]
  have ee : ∀ c, xe r' c = xe r c := fun c => by unfold xe; rw [hoth 23 (by omega) (by omega)]
  have hcnt := cnt8_take (g := fun j => r 28 0 (xo r j)) (g' := fun j => r' 28 0 (xo r' j)) (x := x) (m := xw r) hx (fun j hj => by show r' 28 0 (xo r' j) = _; rw [e28, exo j (by omega), if_neg (by omega)]) (fun j h1 h2 => by show r' 28 0 (xo r' j) = r 28 0 (xo r (j + 1)); rw [e28, exo j (by omega), if_pos h1])
  have hcnt : cnt8 (fun j => r' 28 0 (xo r' j)) (xw r - 1) + (if r 28 0 (xo r x) = 8 then 1 else 0) = cnt8 (fun j => r 28 0 (xo r j)) (xw r) := hcnt
  have hidx : ∀ j, j < xw r - 1 → (if x ≤ j then j + 1 else j) < xw r := fun j hj => by split <;> omega
  have hidn : ∀ j, j < xw r - 1 → (if x ≤ j then j + 1 else j) ≠ x := fun j hj => by split <;> omega
  have hpi : ∀ j, j < xw r - 1 → tkP π x j = π (if x ≤ j then j + 1 else j) := fun j hj => by
    rw [tkP_at (by omega), if_neg (by omega)]
    by_cases h2 : x ≤ j
    · rw [if_pos (by omega), if_pos h2]
    · rw [if_neg (by omega), if_neg h2]
  have hLR : ∀ L q, LR s r L q → LR (u3 s 4 2 0 (s 4 2 0 - 1)) r' L q := fun L q h => by
    unfold LR OR SR at h ⊢
    have el : lgL r' q = lgL r q := by funext m; unfold lgL; rw [hoth 36 (by omega) (by omega)]
    rw [el, hoth 28 (by omega) (by omega), hoth 29 (by omega) (by omega), hoth 30 (by omega) (by omega), hoth 31 (by omega) (by omega), hoth 32 (by omega) (by omega), hoth 33 (by omega) (by omega), hoth 34 (by omega) (by omega), hoth 35 (by omega) (by omega), hoth 3 (by omega) (by omega), hoth 4 (by omega) (by omega), hoth 5 (by omega) (by omega), hoth 6 (by omega) (by omega), hoth 7 (by omega) (by omega)]
    exact h
  have hLP : ∀ q, LPx n r vp vb T Q q → LPx n r' vp vb T Q q := fun q h => by
    unfold LPx TO ENT xv at h ⊢
    have el : lgL r' q = lgL r q := by funext m; unfold lgL; rw [hoth 36 (by omega) (by omega)]
    rw [el, eb, hoth 28 (by omega) (by omega), hoth 29 (by omega) (by omega), hoth 30 (by omega) (by omega), hoth 31 (by omega) (by omega), hoth 32 (by omega) (by omega), hoth 33 (by omega) (by omega), hoth 34 (by omega) (by omega), hoth 8 (by omega) (by omega)]
    exact h
  have e27 := hoth 27 (by omega) (by omega)
  refine ⟨⟨kA.mpr gA, kV.mpr gV, kO.mpr gO, ?_, kS.mpr gS, ?_, ?_, ?_, rG_keep (hs 0) (hr 0) rG, fun i hi => rS_keep (hs i) (hr 0) (by omega) (rS i hi), fun c hc => rC_keep (hs 0) (hr 0) hc (rC c hc), ?_, ?_⟩, cL x hx, rL x hx, ?_⟩
  · unfold cC at gC ⊢
    rw [exw, eb, ee, ee, ee]
    omega
  · refine ⟨by rw [hoth 20 (by omega) (by omega)]; exact cU.1, by rw [hoth 36 (by omega) (by omega)]; exact cU.2.1, fun j => ?_, by rw [hoth 18 (by omega) (by omega), hoth 19 (by omega) (by omega)]; exact cU.2.2.2.1, by rw [hoth 21 (by omega) (by omega)]; exact cU.2.2.2.2⟩
    rw [e26]
    split
    · exact cU.2.2.1 _
    · exact cU.2.2.1 _
  · obtain ⟨-, -, b3, b4, b5, b6, -⟩ := cB
    refine ⟨by rw [exw]; exact e25, by omega, fun j hj => ?_, fun i j hi hj e => ?_, by rw [e27]; exact b5, fun q => ?_, fun q hq => ?_⟩
    · rw [exo j (by omega)]; exact b3 _ (hidx j (by omega))
    · rw [exo i (by omega), exo j (by omega)] at e
      have := b4 _ _ (hidx i (by omega)) (hidx j (by omega)) e
      split at this <;> split at this <;> omega
    · rw [e27, b6 q]
      constructor
      · rintro (⟨j, hj, e⟩ | e)
        · by_cases hjx : j = x
          · right; rw [← e, hjx]
          · left
            by_cases hlt : j < x
            · exact ⟨j, by omega, by rw [exo j (by omega), if_neg (by omega)]; exact e⟩
            · exact ⟨j - 1, by omega, by rw [exo (j - 1) (by omega), if_pos (by omega), show j - 1 + 1 = j by omega]; exact e⟩
        · cases e
      · rintro (⟨j, hj, e⟩ | e)
        · left
          rw [exo j (by omega)] at e
          exact ⟨_, hidx j (by omega), e⟩
        · left
          cases e
          exact ⟨x, hx, rfl⟩
    · cases hq
      refine ⟨b3 x hx, fun j hj e => ?_⟩
      rw [exo j (by omega)] at e
      exact hidn j (by omega) (b4 _ _ (hidx j (by omega)) hx e)
  · intro j hj
    rw [exo j (by omega)]
    exact hLP _ (cL _ (hidx j (by omega)))
  · refine ⟨?_, fun j => ?_, fun j hj => ?_, fun i j hi hj e => ?_, rP.2.2.2.2⟩
    · show s 4 2 0 - 1 = r' 0 25 0
      rw [rP.1, e25, hw, nI_prd (by omega)]
    · rw [tkP_at (by omega)]
      split
      · exact rP.2.1 _
      · split
        · exact rP.2.1 _
        · exact rP.2.1 _
    · rw [tkP_at (by omega)]
      split
      · exact rP.2.2.1 _ (by omega)
      · split
        · exact rP.2.2.1 _ (by omega)
        · exact rP.2.2.1 _ (by omega)
    · have key : ∀ j, j < 33 → tkP π x j = π (if j = 32 then x else if x ≤ j then j + 1 else j) := fun j hj => by
        rw [tkP_at (by omega)]
        by_cases h1 : j = 32
        · rw [if_pos h1, if_pos h1]
        · rw [if_neg h1, if_neg h1]
          by_cases h2 : x ≤ j
          · rw [if_pos (by omega), if_pos h2]
          · rw [if_neg (by omega), if_neg h2]
      rw [key i hi, key j hj] at e
      have := rP.2.2.2.1 _ _ (by split; omega; split <;> omega) (by split; omega; split <;> omega) e
      by_cases i1 : i = 32
      · by_cases j1 : j = 32
        · omega
        · rw [if_pos i1, if_neg j1] at this
          split at this <;> omega
      · by_cases j1 : j = 32
        · rw [if_neg i1, if_pos j1] at this
          split at this <;> omega
        · rw [if_neg i1, if_neg j1] at this
          split at this <;> split at this <;> omega
  · intro j hj
    rw [exo j (by omega), hpi j (by omega)]
    exact hLR _ _ (rL _ (hidx j (by omega)))
  · intro h8
    unfold cC at gC ⊢
    rw [exw, eb, ee, ee, ee]
    rw [if_pos h8] at hcnt
    omega
theorem untake_inv {p : Nat} (h : INV n t (some p) s π r vp vb T Q) : INV n t none s π (u3 r 27 0 p 0) vp vb T Q := by
  obtain ⟨cA, cV, cO, gC, cS, cU, cB, cL, rG, rS, rC, rP, rL⟩ := h
  refine ⟨cA, cV, cO, gC, cS, cU, ?_, cL, rG, rS, rC, rP, rL⟩
  obtain ⟨b1, b2, b3, b4, b5, b6, b7⟩ := cB
  refine ⟨b1, b2, b3, b4, fun q => ?_, fun q => ?_, fun q hq => by cases hq⟩
  · show zb (upd (r 27 0) p 0 q)
    exact zb_upd (Or.inl rfl) (b5 q)
  · show upd (r 27 0) p 0 q = 1 ↔ (∃ j, j < xw r ∧ xo r j = q) ∨ none = some q
    unfold upd
    by_cases hq : q = p
    · subst hq
      rw [if_pos rfl]
      constructor
      · intro h; exact absurd h (by decide)
      · rintro (⟨j, hj, e⟩ | e)
        · exact absurd e ((b7 q rfl).2 j hj)
        · cases e
    · rw [if_neg hq, b6 q]
      constructor
      · rintro (e | e)
        · exact Or.inl e
        · cases e; exact absurd rfl hq
      · rintro (e | e)
        · exact Or.inl e
        · cases e
theorem st_lose_ok (hn5 : n ≤ 5) (h : INV n t none s π r vp vb T Q) : st_lose n (JJ n) t s π r := by
  intro x
  have hi := inv_t h
  have hw := h.2.2.2.2.2.2.1.1
  have hw32 := h.2.2.2.2.2.2.1.2.1
  have ew : s 4 2 0 = r 0 25 0 := h.2.2.2.2.2.2.2.2.2.2.2.1.1
  unfold v_Store_lose v_Model_lose S_Store_lose S_Model_lose P_Store_lose
  rcases has_cases hw32 x with ⟨j, hj, rfl, e1, e2, e3⟩ | ⟨e1, e2⟩
  · have e1 : v_Post_has (s 4 2 0) (nI j) = 1 := by rw [ew, hw]; exact e1
    have e3 : nI j < r 0 25 0 := by rw [hw]; exact e3
    simp only [e1, one0, if_false, if_neg e2, if_pos e3]
    rw [nI_clamp (show j < 2 ^ 31 by omega)]
    exact ⟨rfl, vp, vb, T, Q, inv_t (untake_inv (take_inv hn5 hj h).1)⟩
  · have e1 : v_Post_has (s 4 2 0) x = 0 := by rw [ew, hw]; exact e1
    simp only [e1, eq_self, if_true]
    rcases e2 with e2 | e2
    · simp only [if_pos e2]; exact ⟨rfl, vp, vb, T, Q, hi⟩
    · have e2 : ¬ x < r 0 25 0 := by rw [hw]; exact e2
      by_cases e3 : x < 0
      · simp only [if_pos e3]; exact ⟨rfl, vp, vb, T, Q, hi⟩
      · simp only [if_neg e3, if_neg e2]; exact ⟨rfl, vp, vb, T, Q, hi⟩
end TK
