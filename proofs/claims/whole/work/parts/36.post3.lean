section P3
variable {n t : Nat} {tk : Option Nat} {s s' : S3} {π : Nat → Nat} {r r' : S3} {vp vb : Nat → Int32} {T : Nat → Nat} {Q : Nat → Nat → Int32} {L p : Nat}
theorem T_le (ht : t ≤ 512) (h : INV n t tk s π r vp vb T Q) (v : Nat) : T v ≤ 172 := Nat.le_trans (GL_len (h.2.2.2.2.1.2 v)) (xb_le ht h.2.2.1 h.2.2.2.1)
theorem LP3 {q : Nat} (hT : ∀ v, T v ≤ 172) (h : LPx n r vp vb T Q q) (h3 : r 28 0 q = 3) : (r 34 0 q).toNatClampNeg ≤ 180 := by
  have d1 : ∀ a b : Int32, ¬ a = b → r 28 0 q = a → r 28 0 q = b → False := fun a b h e e2 => h (e.symm.trans e2)
  rcases h with ⟨k, -⟩ | ⟨k, -⟩ | ⟨k, -, v, -, -, -, -, -, -, -, m, hm, e34, -⟩ | ⟨k, -⟩ | ⟨k, -⟩ | ⟨k, -⟩ | ⟨k, -⟩ | ⟨k, -⟩
  · exact (d1 1 3 (by decide) k h3).elim
  · exact (d1 2 3 (by decide) k h3).elim
  · have := hT v
    rw [e34, nI_clamp (by omega)]; omega
  · exact (d1 4 3 (by decide) k h3).elim
  · exact (d1 5 3 (by decide) k h3).elim
  · exact (d1 6 3 (by decide) k h3).elim
  · exact (d1 7 3 (by decide) k h3).elim
  · exact (d1 8 3 (by decide) k h3).elim
theorem upd_self {f : Nat → Int32} {k : Nat} : upd f k (f k) = f := by
  funext j
  unfold upd
  by_cases h : j = k
  · rw [if_pos h, h]
  · rw [if_neg h]
/-- a letter is sent -/
theorem post_inv (ht : t ≤ 512) (hn5 : n ≤ 5) (h : INV n t tk s π r vp vb T Q) (hL : L = nxL (r 0 25 0) π) (hp : p = (ppF (r 0 25 0) (r 27 0)).toNatClampNeg) (hs : sBut s s' L) (hr : rBut r r' p) (w1 : s' 4 2 0 = nxW (s 4 2 0)) (w2 : r' 0 25 0 = nxW (r 0 25 0)) (w3 : r' 26 0 = upd (r 26 0) (r 0 25 0).toNatClampNeg (if 32 ≤ r 0 25 0 then r 26 0 (r 0 25 0).toNatClampNeg else ppF (r 0 25 0) (r 27 0))) (w4 : r' 27 0 = upd (r 27 0) p (if 32 ≤ r 0 25 0 then r 27 0 p else 1)) (hu : ∀ j, vp_in (r' 36 0 j) 512) (hop : opOK s') (hLP : LPx n r' vp vb T Q p) (hLR : LR s' r' L p) : INV n (t + 1) tk s' π r' vp vb T Q := by
  have hT := T_le ht h
  have hT2 : ∀ v, T v ≤ 180 := fun v => Nat.le_trans (hT v) (by omega)
  obtain ⟨cA, cV, cO, gC, cS, cU, cB, cL, rG, rS, rC, rP, rL⟩ := inv_t h
  have gC0 := h.2.2.2.1
  obtain ⟨kA, kV, kO, kS⟩ := core_keep (n := n) (t := t + 1) (vp := vp) (vb := vb) (T := T) (Q := Q) hr
  have hw := cB.1
  have hw32 := cB.2.1
  have e2 : r' 0 2 = r 0 2 := hr.2.1 2 (by omega)
  have eb : xb r' = xb r := by unfold xb; rw [e2]
  have e23 : r' 23 = r 23 := hr.1 23 (by omega) (by omega)
  have ee : ∀ c, xe r' c = xe r c := fun c => by unfold xe; rw [e23]
  by_cases hfull : xw r < 32
  · -- there is room
    have hlt : ¬ 32 ≤ r 0 25 0 := by rw [hw, show (32 : Int32) = nI 32 from rfl, nI_leI (by omega) (by omega)]; omega
    obtain ⟨q, hq, hq0, eq⟩ := post_place cB hfull
    have epq : p = q := by rw [hp, eq, nI_clamp (by omega)]
    subst epq
    have eL : L = π (xw r) := by rw [hL]; unfold nxL; rw [if_neg hlt]; rfl
    rw [if_neg hlt, eq] at w3
    have w3 : r' 26 0 = upd (r 26 0) (xw r) (nI p) := w3
    rw [if_neg hlt] at w4
    have ew : r' 0 25 0 = nI (xw r + 1) := by rw [w2]; unfold nxW; rw [if_neg hlt, hw, nI_1]
    have exw : xw r' = xw r + 1 := by unfold xw; rw [ew, nI_clamp (by have := hw32; unfold xw at this; unfold xw; omega)]; rfl
    have exo : ∀ j, xo r' j = if j = xw r then p else xo r j := fun j => by
      unfold xo
      rw [w3]
      unfold upd
      by_cases hj : j = xw r
      · rw [if_pos hj, if_pos hj, nI_clamp (by omega)]
      · rw [if_neg hj, if_neg hj]
    have hbusy : ∀ j, j < xw r → xo r j ≠ p := fun j hj e => by
      have h1 := (cB.2.2.2.2.2.1 (xo r j)).mpr (Or.inl ⟨j, hj, rfl⟩)
      rw [e, hq0] at h1
      exact absurd h1 (by decide)
    have hold : ∀ j, j < xw r → xo r' j = xo r j := fun j hj => by rw [exo, if_neg (by omega)]
    have hnew : xo r' (xw r) = p := by rw [exo, if_pos rfl]
    have hπ : ∀ j, j < xw r → π j ≠ L := fun j hj e => by
      rw [eL] at e
      have := rP.2.2.2.1 j (xw r) (by omega) (by omega) e
      omega
    refine ⟨kA.mpr cA, kV.mpr cV, kO.mpr cO, ?_, kS.mpr cS, ?_, ?_, ?_, rG_keep hs hr rG, fun i hi => rS_keep hs hr (by omega) (rS i hi), fun c hc => rC_keep hs hr hc (rC c hc), ?_, ?_⟩
    · unfold cC at gC0 ⊢
      rw [exw, eb, ee, ee, ee]
      have e1 : cnt8 (fun j => r' 28 0 (xo r' j)) (xw r + 1) ≤ cnt8 (fun j => r 28 0 (xo r j)) (xw r) + 1 := by
        show cnt8 _ (xw r) + _ ≤ _
        rw [cnt8_congr (g' := fun j => r 28 0 (xo r j)) (fun j hj => by
          show r' 28 0 (xo r' j) = r 28 0 (xo r j)
          rw [hold j hj]
          exact hr.2.2.1 28 _ (by omega) (by omega) (hbusy j hj))]
        split <;> omega
      omega
    · refine ⟨by rw [hr.1 20 (by omega) (by omega)]; exact cU.1, hu, fun j => ?_, by rw [hr.1 18 (by omega) (by omega), hr.1 19 (by omega) (by omega)]; exact cU.2.2.2.1, by rw [hr.1 21 (by omega) (by omega)]; exact cU.2.2.2.2⟩
      rw [w3]
      unfold upd
      split
      · exact vp_c (by omega) (by omega)
      · exact cU.2.2.1 j
    · refine ⟨by rw [exw]; exact ew, by omega, fun j hj => ?_, fun i j hi hj e => ?_, fun q => ?_, fun q => ?_, fun q hq2 => ?_⟩
      · rw [exo]
        split
        · exact hq
        · exact cB.2.2.1 j (by omega)
      · rw [exo, exo] at e
        by_cases hi2 : i = xw r
        · by_cases hj2 : j = xw r
          · omega
          · rw [if_pos hi2, if_neg hj2] at e
            exact absurd e.symm (hbusy j (by omega))
        · by_cases hj2 : j = xw r
          · rw [if_neg hi2, if_pos hj2] at e
            exact absurd e (hbusy i (by omega))
          · rw [if_neg hi2, if_neg hj2] at e
            exact cB.2.2.2.1 i j (by omega) (by omega) e
      · rw [w4]
        exact zb_upd zb_1 (cB.2.2.2.2.1 q)
      · rw [w4]
        unfold upd
        by_cases hqp : q = p
        · rw [if_pos hqp]
          exact ⟨fun _ => Or.inl ⟨xw r, by omega, by rw [hnew, hqp]⟩, fun _ => rfl⟩
        · rw [if_neg hqp, cB.2.2.2.2.2.1 q]
          constructor
          · rintro (⟨j, hj, e⟩ | e)
            · exact Or.inl ⟨j, by omega, by rw [hold j hj]; exact e⟩
            · exact Or.inr e
          · rintro (⟨j, hj, e⟩ | e)
            · by_cases hj2 : j = xw r
              · rw [hj2, hnew] at e; exact absurd e.symm hqp
              · rw [hold j (by omega)] at e; exact Or.inl ⟨j, by omega, e⟩
            · exact Or.inr e
      · have h1 := cB.2.2.2.2.2.2 q hq2
        refine ⟨h1.1, fun j hj => ?_⟩
        by_cases hj2 : j = xw r
        · rw [hj2, hnew]
          intro e
          have := (cB.2.2.2.2.2.1 q).mpr (Or.inr hq2)
          rw [← e, hq0] at this
          exact absurd this (by decide)
        · rw [hold j (by omega)]; exact h1.2 j (by omega)
    · intro j hj
      by_cases hj2 : j = xw r
      · rw [hj2, hnew]; exact hLP
      · rw [hold j (by omega)]; exact LP_keep hT2 hr (hbusy j (by omega)) (cL j (by omega))
    · exact ⟨by rw [w1, w2, rP.1], rP.2.1, rP.2.2.1, rP.2.2.2.1, hop⟩
    · intro j hj
      by_cases hj2 : j = xw r
      · rw [hj2, hnew, ← eL]; exact hLR
      · rw [hold j (by omega)]
        exact LR_keep (rL j (by omega)) hs hr (hπ j (by omega)) (hbusy j (by omega)) (LP3 hT (cL j (by omega)))
  · -- the row is full: the letter is lost
    have hge : 32 ≤ r 0 25 0 := by rw [hw, show (32 : Int32) = nI 32 from rfl, nI_leI (by omega) (by omega)]; omega
    have ep : p = 33 := by rw [hp]; unfold ppF; rw [if_pos hge]; rfl
    have eL : L = 33 := by rw [hL]; unfold nxL; rw [if_pos hge]
    rw [if_pos hge, upd_self] at w3
    rw [if_pos hge, upd_self] at w4
    have ew : r' 0 25 0 = r 0 25 0 := by rw [w2]; unfold nxW; rw [if_pos hge]
    have exw : xw r' = xw r := by unfold xw; rw [ew]
    have exo : ∀ j, xo r' j = xo r j := fun j => by unfold xo; rw [w3]
    have hne : ∀ j, j < xw r → xo r j ≠ p := fun j hj e => by have := cB.2.2.1 j hj; omega
    refine ⟨kA.mpr cA, kV.mpr cV, kO.mpr cO, ?_, kS.mpr cS, ?_, ?_, ?_, rG_keep hs hr rG, fun i hi => rS_keep hs hr (by omega) (rS i hi), fun c hc => rC_keep hs hr hc (rC c hc), ?_, ?_⟩
    · unfold cC at gC ⊢
      rw [exw, eb, ee, ee, ee, cnt8_congr (g' := fun j => r 28 0 (xo r j)) (fun j hj => by
          show r' 28 0 (xo r' j) = r 28 0 (xo r j)
          rw [exo]
          exact hr.2.2.1 28 _ (by omega) (by omega) (hne j hj))]
      exact gC
    · exact ⟨by rw [hr.1 20 (by omega) (by omega)]; exact cU.1, hu, by rw [w3]; exact cU.2.2.1, by rw [hr.1 18 (by omega) (by omega), hr.1 19 (by omega) (by omega)]; exact cU.2.2.2.1, by rw [hr.1 21 (by omega) (by omega)]; exact cU.2.2.2.2⟩
    · unfold cBx at cB ⊢
      simp only [exw, exo, ew, w4]
      exact cB
    · intro j hj
      rw [exw] at hj
      rw [exo]
      exact LP_keep hT2 hr (hne j hj) (cL j hj)
    · exact ⟨by rw [w1, w2, rP.1], rP.2.1, rP.2.2.1, rP.2.2.2.1, hop⟩
    · intro j hj
      rw [exw] at hj
      rw [exo]
      exact LR_keep (rL j hj) hs hr (fun e => by have := rP.2.2.1 j (by omega); omega) (hne j hj) (LP3 hT (cL j hj))
end P3
