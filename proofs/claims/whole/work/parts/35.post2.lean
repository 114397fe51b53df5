/-! a letter is sent: what is kept -/
section P2
variable {n t : Nat} {tk : Option Nat} {s s' : S3} {π : Nat → Nat} {r r' : S3} {vp vb : Nat → Int32} {T : Nat → Nat} {Q : Nat → Nat → Int32} {L p : Nat}
theorem core_keep (hr : rBut r r' p) : (cA n t r' ↔ cA n t r) ∧ (cV n r' vp vb ↔ cV n r vp vb) ∧ (cO r' ↔ cO r) ∧ (cS n r' vp vb T Q ↔ cS n r vp vb T Q) := by
  obtain ⟨a1, a2, -, -⟩ := hr
  have e3 := a1 3 (by omega) (by omega)
  have e4 := a1 4 (by omega) (by omega)
  have e5 := a1 5 (by omega) (by omega)
  have e7 := a1 7 (by omega) (by omega)
  have e8 := a1 8 (by omega) (by omega)
  have e9 := a1 9 (by omega) (by omega)
  have e10 := a1 10 (by omega) (by omega)
  have e12 := a1 12 (by omega) (by omega)
  have e15 := a1 15 (by omega) (by omega)
  have e16 := a1 16 (by omega) (by omega)
  have e17 := a1 17 (by omega) (by omega)
  have e18 := a1 18 (by omega) (by omega)
  have e19 := a1 19 (by omega) (by omega)
  have e20 := a1 20 (by omega) (by omega)
  have e21 := a1 21 (by omega) (by omega)
  have e22 := a1 22 (by omega) (by omega)
  have e23 := a1 23 (by omega) (by omega)
  have f0 := a2 0 (by omega)
  have f1 := a2 1 (by omega)
  have f2 := a2 2 (by omega)
  have f11 := a2 11 (by omega)
  refine ⟨?_, ?_, ?_, ?_⟩
  · simp only [cA, xv, e8, e12, f0, f1]
  · simp only [cV, xv, e8, e9, e10, f11]
  · simp only [cO, xb, xk, xn, xe, e3, e4, e5, e7, e21, e22, e23, f2]
  · have hl : ∀ i, lgS r' i = lgS r i := fun i => by funext m; unfold lgS; rw [e20]
    simp only [cS, cSi, GL, ENT, xv, xl, xb, xk, hl, e3, e4, e8, e9, e10, e15, e16, e17, e18, e19, f2]
theorem LP_keep {p' : Nat} (hT : ∀ v, T v ≤ 180) (hr : rBut r r' p) (hp : p' ≠ p) (h : LPx n r vp vb T Q p') : LPx n r' vp vb T Q p' := by
  obtain ⟨a1, a2, a3, a4⟩ := hr
  have e8 := a1 8 (by omega) (by omega)
  have f2 := a2 2 (by omega)
  have e : ∀ k, 28 ≤ k → k ≤ 35 → r' k 0 p' = r k 0 p' := fun k g1 g2 => a3 k p' g1 g2 hp
  unfold LPx TO ENT xv xb at h ⊢
  rw [e 28 (by omega) (by omega), e 29 (by omega) (by omega), e 30 (by omega) (by omega), e 31 (by omega) (by omega), e 32 (by omega) (by omega), e 33 (by omega) (by omega), e 34 (by omega) (by omega), e8, f2]
  rcases h with h | h | ⟨k, h1, v, g1, g2, g3, g4, g5, g6, g7, m, g8, g9, g10⟩ | h
  · exact Or.inl h
  · exact Or.inr (Or.inl h)
  · refine Or.inr (Or.inr (Or.inl ⟨k, h1, v, g1, g2, g3, g4, g5, g6, g7, m, g8, g9, fun a ha => ?_⟩))
    have := hT v
    rw [← g10 a ha]
    exact a4 p' a (by omega) hp
  · exact Or.inr (Or.inr (Or.inr h))
theorem rS_keep {i : Nat} (hs : sBut s s' L) (hr : rBut r r' p) (hi : i < 8) (h : rSi s r i) : rSi s' r' i := by
  obtain ⟨h0, h1, h2, h3, h15, h5, h6, h7, h8, h9, h13, h14⟩ := hs
  obtain ⟨a1, a2, -, -⟩ := hr
  have hx : i ≠ 8 + L := by omega
  have e3 := a1 3 (by omega) (by omega)
  have e4 := a1 4 (by omega) (by omega)
  have e5 := a1 5 (by omega) (by omega)
  have e6 := a1 6 (by omega) (by omega)
  have e7 := a1 7 (by omega) (by omega)
  have e8 := a1 8 (by omega) (by omega)
  have e9 := a1 9 (by omega) (by omega)
  have e10 := a1 10 (by omega) (by omega)
  have e13 := a1 13 (by omega) (by omega)
  have e14 := a1 14 (by omega) (by omega)
  have e15 := a1 15 (by omega) (by omega)
  have e16 := a1 16 (by omega) (by omega)
  have e17 := a1 17 (by omega) (by omega)
  have e18 := a1 18 (by omega) (by omega)
  have e19 := a1 19 (by omega) (by omega)
  have e20 := a1 20 (by omega) (by omega)
  have k6 := fun a => h6 a i hx
  have k7 := fun a => h7 a i hx
  unfold rSi OR xl at h ⊢
  rw [h1, k6 0, k6 1, k6 2, k7 0, k7 1, k7 2, k7 3, k7 4, e3, e4, e5, e6, e7, e8, e9, e10, e13, e14, e15, e16, e17, e18, e19]
  obtain ⟨b1, b2, b3, b4, b5, b6, b7, b8, b9, b10, b11⟩ := h
  exact ⟨b1, b2, b3, b4, b5, b6, b7, b8, b9, b10, SR_congr b11 (h8 3 _ hx) (fun k _ => by rw [h9 _ hx]) (fun k _ => by rw [h13 _ hx]) (fun k _ => by rw [h14 _ hx]) (fun a _ => by unfold lgS; rw [e20]) (fun a _ => by rw [e3]) (fun a _ => by rw [e4]) (fun a _ => by rw [e5]) (fun a _ => by rw [e6])⟩
theorem rC_keep {c : Nat} (hs : sBut s s' L) (hr : rBut r r' p) (hc : c < 3) (h : rCc s r c) : rCc s' r' c := by
  obtain ⟨h0, h1, h2, h3, h15, h5, h6, h7, h8, h9, h13, h14⟩ := hs
  obtain ⟨a1, a2, -, -⟩ := hr
  have k7 := fun a => h7 a (5 + c) (by omega)
  have e3 := a1 3 (by omega) (by omega)
  have e4 := a1 4 (by omega) (by omega)
  have e5 := a1 5 (by omega) (by omega)
  have e6 := a1 6 (by omega) (by omega)
  have e7 := a1 7 (by omega) (by omega)
  have e21 := a1 21 (by omega) (by omega)
  have e22 := a1 22 (by omega) (by omega)
  have e23 := a1 23 (by omega) (by omega)
  have e24 := a1 24 (by omega) (by omega)
  unfold rCc OR at h ⊢
  rw [h2, k7 0, k7 1, k7 2, k7 3, k7 4, e3, e4, e5, e6, e7, e21, e22, e23, e24]
  exact h
theorem rG_keep (hs : sBut s s' L) (hr : rBut r r' p) (h : rG n s r) : rG n s' r' := by
  obtain ⟨h0, h1, h2, h3, h15, h5, h6, h7, h8, h9, h13, h14⟩ := hs
  obtain ⟨a1, a2, -, -⟩ := hr
  have k6 := fun a => h6 a 7 (by omega)
  unfold rG at h ⊢
  rw [h0, h3, h15, k6 0, k6 1, k6 2, a1 8 (by omega) (by omega), a1 9 (by omega) (by omega), a1 10 (by omega) (by omega), a1 12 (by omega) (by omega), a2 1 (by omega), a2 11 (by omega)]
  exact h
theorem fbF_le {g : Nat → Int32} {k q : Nat} : ∀ q0, q0 ≤ q → q0 + k = 34 → q < 34 → g q = 0 → fbF g k q0 ≤ q := by
  induction k with
  | zero => intro q0 h1 h2 h3 h4; omega
  | succ k ih =>
    intro q0 h1 h2 h3 h4
    unfold fbF
    rw [nI_clamp (by omega)]
    by_cases hg : g q0 = 0
    · rw [if_pos hg]; exact h1
    · rw [if_neg hg]
      exact ih (q0 + 1) (by rcases Nat.eq_or_lt_of_le h1 with e | e; exact absurd (e ▸ h4) hg; exact e) (by omega) h3 h4
/-- a free place among the first 33 -/
theorem free_ex (hB : cBx r tk) (hw : xw r < 32) : ∃ q, q < 33 ∧ r 27 0 q = 0 := by
  obtain ⟨-, -, b3, b4, b5, b6, b7⟩ := hB
  apply Classical.byContradiction
  intro hn
  have hall : ∀ q, q < 33 → r 27 0 q = 1 := fun q hq => by
    rcases b5 q with h | h
    · exact absurd ⟨q, hq, h⟩ hn
    · exact h
  have hf : ∀ q, q < 33 → ∃ j, j < 32 ∧ ((j < xw r ∧ xo r j = q) ∨ (j = xw r ∧ tk = some q)) := fun q hq => by
    rcases (b6 q).mp (hall q hq) with ⟨j, h1, h2⟩ | h
    · exact ⟨j, by omega, Or.inl ⟨h1, h2⟩⟩
    · exact ⟨xw r, hw, Or.inr ⟨rfl, h⟩⟩
  have hg : ∀ q, ∃ j, q < 33 → j < 32 ∧ ((j < xw r ∧ xo r j = q) ∨ (j = xw r ∧ tk = some q)) := fun q => by
    by_cases hq : q < 33
    · obtain ⟨j, h⟩ := hf q hq; exact ⟨j, fun _ => h⟩
    · exact ⟨0, fun h => absurd h hq⟩
  obtain ⟨i, j, hij, hj, e⟩ := pigeon 32 (fun q => (hg q).choose) (fun q hq => ((hg q).choose_spec (by omega)).1)
  have h1 := ((hg i).choose_spec (by omega)).2
  have h2 := ((hg j).choose_spec (by omega)).2
  have e : (hg i).choose = (hg j).choose := e
  rw [e] at h1
  rcases h1 with ⟨u1, u2⟩ | ⟨u1, u2⟩
  · rcases h2 with ⟨v1, v2⟩ | ⟨v1, v2⟩
    · rw [u2] at v2; omega
    · omega
  · rcases h2 with ⟨v1, v2⟩ | ⟨v1, v2⟩
    · omega
    · rw [u2] at v2; cases v2; omega
theorem post_place (hB : cBx r tk) (hw : xw r < 32) : ∃ q, q < 33 ∧ r 27 0 q = 0 ∧ ppF (r 0 25 0) (r 27 0) = nI q := by
  obtain ⟨q, hq, hq0⟩ := free_ex hB hw
  have h1 := fbF_le (g := r 27 0) (k := 34) (q := q) 0 (by omega) (by omega) (by omega) hq0
  have h2 := fbF_lt (g := r 27 0) (k := 34) (p := 0) ⟨q, by omega, by omega, hq0⟩ (by omega)
  refine ⟨fbF (r 27 0) 34 0, by omega, h2.2, ?_⟩
  unfold ppF
  rw [if_neg]
  rw [hB.1, show (32 : Int32) = nI 32 from rfl, nI_leI (by omega) (by omega)]
  omega
theorem cnt8_congr {g g' : Nat → Int32} {m : Nat} (h : ∀ j, j < m → g j = g' j) : cnt8 g m = cnt8 g' m := by
  induction m with
  | zero => rfl
  | succ m ih => unfold cnt8; rw [ih (fun j hj => h j (by omega)), h m (by omega)]
end P2
