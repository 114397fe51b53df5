/-! the start; what contracts need follows from what is kept -/
theorem nI_sm {j : Nat} (h : j < 2 ^ 31) : (nI j).toNatClampNeg = j := nI_clamp h
theorem inv_0 {n : Nat} (h2 : 2 ≤ n) (h5 : n ≤ 5) : JJ n 0 cS0 cP0 (rS0 n) := by
  refine ⟨fun _ => 0, fun _ => -1, fun _ => 0, fun _ _ => 0, ?_, ?_, ?_, ?_, ?_, ?_, ?_, ?_, ?_, ?_, ?_, ?_, ?_⟩
  · exact ⟨rfl, ⟨0, by omega, rfl⟩, fun i => Or.inl rfl, Nat.zero_le _⟩
  · exact ⟨rfl, fun v h1 h => absurd (show v ≤ 0 from h) (by omega), fun h => absurd rfl h, fun _ => ⟨rfl, rfl, rfl⟩, Or.inl rfl⟩
  · exact ⟨rfl, fun o h => absurd (show o < 0 from h) (by omega), fun o o' _ h => absurd (show o' < 0 from h) (by omega), fun c _ => ⟨rfl, rfl, Or.inl ⟨rfl, rfl⟩⟩, rfl⟩
  · exact Nat.le_refl _
  · exact ⟨fun i _ => ⟨rfl, Nat.le_refl _, fun h => absurd rfl h, rfl, ⟨fun a h => absurd (show a < 0 from h) (by omega), fun a b _ h => absurd (show b < 0 from h) (by omega)⟩, Or.inl rfl, Or.inl rfl, Or.inl rfl, Or.inl rfl, fun h => absurd rfl h, fun h => absurd rfl h⟩, fun v => ⟨fun a h => absurd (show a < 0 from h) (by omega), fun a b _ h => absurd (show b < 0 from h) (by omega)⟩⟩
  · exact ⟨fun j => vp_c (c := 0) (by omega) (by omega), fun j => vp_c (c := 0) (by omega) (by omega), fun j => vp_c (c := 0) (by omega) (by omega), fun j _ => ⟨rfl, rfl⟩, fun c _ => rfl⟩
  · exact ⟨rfl, by show (0 : Nat) ≤ 32; omega, fun j h => absurd (show j < 0 from h) (by omega), fun i j h => absurd (show i < 0 from h) (by omega), fun p => Or.inl rfl, fun p => ⟨fun h => absurd (show (0 : Int32) = 1 from h) (by decide), fun h => by
      rcases h with ⟨j, hj, -⟩ | h
      · exact absurd (show j < 0 from hj) (by omega)
      · cases h⟩, fun p h => by cases h⟩
  · exact fun j h => absurd (show j < 0 from h) (by omega)
  · exact ⟨rfl, rfl, rfl, fun h => absurd rfl h, fun i _ => rfl⟩
  · intro i hi
    refine ⟨rfl, rfl, rfl, rfl, rfl, Or.inl ⟨rfl, rfl⟩, rfl, fun _ => ⟨rfl, rfl⟩, fun h => absurd rfl h, fun h => absurd rfl h, rfl, fun k _ => rfl, fun c _ => rfl, fun c _ => rfl⟩
  · intro c hc
    refine ⟨?_, rfl, rfl, rfl, Or.inl ⟨rfl, rfl⟩⟩
    show (if 5 ≤ 5 + c ∧ 5 + c < 8 then nI (5 + c - 5) else 0) = nI c
    rw [if_pos (by omega), Nat.add_sub_cancel_left]
  · refine ⟨rfl, fun j => ?_, fun j hj => ?_, fun i j hi hj e => ?_, fun x => ⟨?_, vp_c (c := 0) (by omega) (by omega), Or.inl rfl⟩⟩
    · unfold cP0; split <;> omega
    · unfold cP0; rw [if_pos hj]; exact hj
    · unfold cP0 at e; rw [if_pos hi, if_pos hj] at e; exact e
    · show vp_in (if 5 ≤ x ∧ x < 8 then nI (x - 5) else 0) 3
      split
      · exact vp_c (by omega) (by omega)
      · exact vp_c (c := 0) (by omega) (by omega)
  · exact fun j h => absurd (show j < 0 from h) (by omega)
section HY
variable {n t : Nat} {tk : Option Nat} {s : S3} {π : Nat → Nat} {r : S3} {vp vb : Nat → Int32} {T : Nat → Nat} {Q : Nat → Nat → Int32}
theorem xw_lt (hB : cBx r tk) : r 0 25 0 = nI (xw r) ∧ xw r ≤ 32 := ⟨hB.1, hB.2.1⟩
theorem has_iff {w : Nat} {x : Int32} (hw : w ≤ 32) : ¬ v_Post_has (nI w) x = 0 ↔ ∃ j, j < w ∧ x = nI j := by
  unfold v_Post_has
  by_cases h1 : x < 0
  · rw [if_pos h1]
    exact ⟨fun h => absurd rfl h, fun ⟨j, hj, e⟩ => absurd h1 (by rw [e]; exact nI_pos (by omega))⟩
  · rw [if_neg h1]
    obtain ⟨j, hj, rfl⟩ := nI_of h1
    by_cases h2 : nI w ≤ nI j
    · rw [if_pos h2]
      rw [nI_leI (by omega) hj] at h2
      exact ⟨fun h => absurd rfl h, fun ⟨k, hk, e⟩ => by rw [nI_eq hj (by omega)] at e; omega⟩
    · rw [if_neg h2]
      rw [nI_leI (by omega) hj] at h2
      exact ⟨fun _ => ⟨j, by omega, rfl⟩, fun _ => by decide⟩
/-- letters that wait are known by kind -/
theorem LP_kind {p : Nat} (h : LPx n r vp vb T Q p) (hn5 : n ≤ 5) : (¬ r 28 0 p = 8 → vp_in (r 29 0 p) n) ∧ (r 28 0 p = 8 → vp_in (r 29 0 p) 3) := by
  have d18 : ¬ (1 : Int32) = 8 := by decide
  have d28 : ¬ (2 : Int32) = 8 := by decide
  have d38 : ¬ (3 : Int32) = 8 := by decide
  have d48 : ¬ (4 : Int32) = 8 := by decide
  have d58 : ¬ (5 : Int32) = 8 := by decide
  have d68 : ¬ (6 : Int32) = 8 := by decide
  have d78 : ¬ (7 : Int32) = 8 := by decide
  have to : TO n r p → vp_in (r 29 0 p) n := fun ⟨a, ha, e⟩ => by rw [e]; exact vp_c ha (by omega)
  rcases h with ⟨k, h⟩ | ⟨k, h, -⟩ | ⟨k, h, -⟩ | ⟨k, h⟩ | ⟨k, h, -⟩ | ⟨k, h⟩ | ⟨k, h, -⟩ | ⟨k, a, ha, e⟩
  · exact ⟨fun _ => to h, fun e => absurd (k.symm.trans e) d18⟩
  · exact ⟨fun _ => to h, fun e => absurd (k.symm.trans e) d28⟩
  · exact ⟨fun _ => to h, fun e => absurd (k.symm.trans e) d38⟩
  · exact ⟨fun _ => to h, fun e => absurd (k.symm.trans e) d48⟩
  · exact ⟨fun _ => to h, fun e => absurd (k.symm.trans e) d58⟩
  · exact ⟨fun _ => to h, fun e => absurd (k.symm.trans e) d68⟩
  · exact ⟨fun _ => to h, fun e => absurd (k.symm.trans e) d78⟩
  · exact ⟨fun h => absurd k h, fun _ => by rw [e]; exact vp_c ha (by omega)⟩
theorem hypC_of (hn5 : n ≤ 5) (h : INV n t tk s π r vp vb T Q) : hypC n s π := by
  obtain ⟨cA, cV, cO, cC, cS, cU, cB, cL, rG, rS, rC, rP, rL⟩ := h
  obtain ⟨hw, hw32⟩ := xw_lt cB
  refine ⟨?_, rP.2.1, rP.2.2.2.2, fun hc => ?_, fun x hx => ?_⟩
  · rw [rP.1, hw]; exact vp_c (by omega) (by omega)
  · rw [rG.2.1] at hc
    have hv : xv r 5 ≠ 0 := fun e => hc (cV.2.2.2.1 e).1
    have h8 : r 8 0 5 ≠ 0 := by rw [cV.1]; exact nI_ne0 (by omega) (Int32.toNatClampNeg_lt _)
    obtain ⟨g1, g2⟩ := rG.2.2.2.1 h8
    obtain ⟨⟨a, ha, ea⟩, hb, -⟩ := cV.2.1 (xv r 5) (by omega) (Nat.le_refl _)
    obtain ⟨p1, p2⟩ := cV.2.2.1 hv
    refine ⟨by rw [g1, p1, ea]; exact vp_c ha (by omega), fun h7 => ?_⟩
    rcases g2 with ⟨-, e7⟩ | ⟨j, hj, e1, e2⟩
    · exact absurd e7 h7
    · rw [e2]
      rcases hb with hb | ⟨b, hb, eb⟩
      · rw [p2, hb] at e1; exact absurd e1.symm (nI_ne_m1 (by omega))
      · rw [p2, eb, nI_eq (by omega) (by omega)] at e1
        exact vp_c (by omega) (by omega)
  · rw [rP.1, hw, has_iff hw32] at hx
    obtain ⟨j, hj, rfl⟩ := hx
    rw [nI_clamp (by omega)]
    have l1 := rL j hj
    have l2 := LP_kind (cL j hj) hn5
    rw [l1.1, l1.2.1]
    exact l2
theorem busy33 (hB : cBx r tk) : r 27 0 33 = 0 := by
  rcases hB.2.2.2.2.1 33 with h | h
  · exact h
  · rcases (hB.2.2.2.2.2.1 33).mp h with ⟨j, hj, e⟩ | e
    · have := hB.2.2.1 j hj; omega
    · have := (hB.2.2.2.2.2.2 33 e).1; omega
theorem vp_ne {v a b : Nat} (hV : cV n r vp vb) (h1 : 1 ≤ v) (h2 : v ≤ xv r 5) (ha : vp v = nI a) (hb : vb v = nI b) : a ≠ b := fun e => (hV.2.1 v h1 h2).2.2 (by rw [ha, hb, e])
/-- entering a view where one isn't the primary changes little -/
theorem enter_ne {x v p b : Int32} (h : ¬ p = x) : S_Model_enter r x v p b = u3 (u3 (u3 (u3 (u3 r 8 0 x.toNatClampNeg v) 9 0 x.toNatClampNeg p) 10 0 x.toNatClampNeg b) 18 0 x.toNatClampNeg (-1)) 16 0 x.toNatClampNeg 0 := by
  unfold S_Model_enter
  rw [if_neg h]
theorem hypR_of (ht : t ≤ 512) (hn5 : n ≤ 5) (h : INV n t none s π r vp vb T Q) : hypR r := by
  obtain ⟨cA, cV, cO, cC, cS, cU, cB, cL, rG, rS, rC, rP, rL⟩ := h
  obtain ⟨hw, hw32⟩ := xw_lt cB
  have hb := xb_le ht cO cC
  have hlen : ∀ i, i < n → xl r i ≤ 172 := fun i hi => Nat.le_trans (GL_len (cS.1 i hi).2.2.2.2.1) hb
  have h33 := busy33 cB
  have hpos : ∀ x : Int32, x = -1 → ¬ ¬ x < 0 := fun x e h => h (by rw [e]; decide)
  refine ⟨?_, ?_, fun _ => ⟨33, by omega, h33⟩, cU.1, fun j => ?_, fun j hj => ?_, fun c hc => ?_, cU.2.2.1, fun j hj => ?_, ?_, ⟨33, by omega, h33⟩, ?_, fun hb9 => ?_, fun x h0 hx => ?_⟩
  · rw [cA.1]; exact vp_c (by omega) (by omega)
  · rw [hw]; exact vp_c (by omega) (by omega)
  · by_cases hj : j < n
    · rw [(cS.1 j hj).2.2.2.1]; have := hlen j hj; exact vp_c (by omega) (by omega)
    · rw [(cU.2.2.2.1 j (by omega)).2]; exact vp_c (c := 0) (by omega) (by omega)
  · by_cases hn : j < n
    · rcases (cS.1 j hn).2.2.2.2.2.2.2.2.1 with e | ⟨o, ho, e, -⟩
      · exact absurd hj (hpos _ e)
      · rw [e]; exact vp_c (by omega) (by omega)
    · exact absurd hj (hpos _ (cU.2.2.2.1 j (by omega)).1)
  · by_cases h3 : c < 3
    · rcases (cO.2.2.2.1 c h3).2.2 with ⟨e, -⟩ | ⟨o, ho, e, -⟩
      · exact absurd hc (hpos _ e)
      · rw [e]; exact vp_c (by omega) (by omega)
    · exact absurd hc (hpos _ (cU.2.2.2.2 c (by omega)))
  · by_cases hn : j < n
    · rcases (cS.1 j hn).2.2.2.2.2.2.2.2.1 with e | ⟨o, ho, e, -, -, e1⟩
      · rw [e]; decide
      · rw [e1] at hj; exact absurd hj (by decide)
    · rw [(cU.2.2.2.1 j (by omega)).1]; decide
  · rw [cO.1]; exact vp_c (by omega) (by omega)
  · by_cases hv : xv r 5 = 0
    · rw [(cV.2.2.2.1 hv).2.1]; exact vp_c (c := 0) (by omega) (by omega)
    · obtain ⟨⟨a, ha, ea⟩, -⟩ := cV.2.1 (xv r 5) (by omega) (Nat.le_refl _)
      rw [(cV.2.2.1 hv).1, ea]; exact vp_c (by omega) (by omega)
  · by_cases hv : xv r 5 = 0
    · rw [(cV.2.2.2.1 hv).2.2]; exact vp_c (c := 0) (by omega) (by omega)
    · obtain ⟨-, e | ⟨b, hb2, e⟩, -⟩ := cV.2.1 (xv r 5) (by omega) (Nat.le_refl _)
      · rw [(cV.2.2.1 hv).2] at hb9; exact absurd hb9 (hpos _ e)
      · rw [(cV.2.2.1 hv).2, e]; exact vp_c (by omega) (by omega)
  · obtain ⟨j, hj, rfl⟩ := nI_of h0
    rw [hw, nI_ltI hj (by omega)] at hx
    rw [nI_clamp hj]
    have hl := cL j hx
    unfold xo at hl
    generalize hp : (r 26 0 j).toNatClampNeg = p at hl
    have d1 : ∀ a b : Int32, ¬ a = b → r 28 0 p = a → ¬ r 28 0 p = b := fun a b h e e2 => h (e.symm.trans e2)
    have to : TO n r p → vp_in (r 29 0 p) 5 := fun ⟨a, ha, e⟩ => by rw [e]; exact vp_c (by omega) (by omega)
    unfold arOK
    rw [hp]
    refine ⟨?_, ?_, ?_, ?_, ?_⟩
    · refine ⟨fun h8 => ?_, fun h8 => (LP_kind hl hn5).2 h8⟩
      exact vp_mono ((LP_kind hl hn5).1 h8) hn5
    · intro g1 g2 g3 g4 g5 g6 g7
      rcases hl with ⟨k, -⟩ | ⟨k, -⟩ | ⟨k, -⟩ | ⟨k, -⟩ | ⟨k, -⟩ | ⟨k, -⟩ | ⟨k, -⟩ | ⟨k, -⟩
      · exact absurd k g1
      · exact absurd k g2
      · exact absurd k g3
      · exact absurd k g4
      · exact absurd k g5
      · exact absurd k g6
      · exact absurd k g7
      · exact k
    · intro g3
      rcases hl with ⟨k, -⟩ | ⟨k, -⟩ | ⟨k, -, v, hv1, hv2, e30, e31, e32, e29, -, m, hm, e34, -⟩ | ⟨k, -⟩ | ⟨k, -⟩ | ⟨k, -⟩ | ⟨k, -⟩ | ⟨k, -⟩
      · exact absurd g3 (d1 1 3 (by decide) k)
      · exact absurd g3 (d1 2 3 (by decide) k)
      · have hm2 : m ≤ 172 := Nat.le_trans hm (Nat.le_trans (GL_len (cS.2 v)) hb)
        have hne : ¬ r 31 0 p = r 29 0 p := by rw [e31, e29]; exact (cV.2.1 v hv1 hv2).2.2
        have v34 : vp_in (r 34 0 p) 180 := by rw [e34]; exact vp_c (by omega) (by omega)
        refine ⟨v34, ?_, ?_, ?_⟩
        · rw [enter_ne (by exact hne)]
          show vp_in (r 0 25 0 - 1) 33
          have hx1 : vp_in (nI j) (r 0 25 0).toNatClampNeg := nI_in hx (by show xw r < _; omega)
          exact w_pred (by rw [hw]; exact vp_c (by omega) (by omega)) hx1
        · rw [enter_ne (by exact hne)]
          exact fun _ => ⟨33, by omega, h33⟩
        · rw [enter_ne (by exact hne)]
          exact v34
      · exact absurd g3 (d1 4 3 (by decide) k)
      · exact absurd g3 (d1 5 3 (by decide) k)
      · exact absurd g3 (d1 6 3 (by decide) k)
      · exact absurd g3 (d1 7 3 (by decide) k)
      · exact absurd g3 (d1 8 3 (by decide) k)
    · intro g5
      rcases hl with ⟨k, -⟩ | ⟨k, -⟩ | ⟨k, -⟩ | ⟨k, -⟩ | ⟨k, -, v, hv1, hv2, e30, -, m, hm, e33, e34⟩ | ⟨k, -⟩ | ⟨k, -⟩ | ⟨k, -⟩
      · exact absurd g5 (d1 1 5 (by decide) k)
      · exact absurd g5 (d1 2 5 (by decide) k)
      · exact absurd g5 (d1 3 5 (by decide) k)
      · exact absurd g5 (d1 4 5 (by decide) k)
      · show vp_in (r 34 0 p) 512
        rw [← e34]
        exact vp_mono ((cS.2 v).1 m hm) (by omega)
      · exact absurd g5 (d1 6 5 (by decide) k)
      · exact absurd g5 (d1 7 5 (by decide) k)
      · exact absurd g5 (d1 8 5 (by decide) k)
    · intro g7
      rcases hl with ⟨k, -⟩ | ⟨k, -⟩ | ⟨k, -⟩ | ⟨k, -⟩ | ⟨k, -⟩ | ⟨k, -⟩ | ⟨k, -, o, ho, e34⟩ | ⟨k, -⟩
      · exact absurd g7 (d1 1 7 (by decide) k)
      · exact absurd g7 (d1 2 7 (by decide) k)
      · exact absurd g7 (d1 3 7 (by decide) k)
      · exact absurd g7 (d1 4 7 (by decide) k)
      · exact absurd g7 (d1 5 7 (by decide) k)
      · exact absurd g7 (d1 6 7 (by decide) k)
      · refine ⟨?_, ?_⟩
        · show vp_in (r 34 0 p) 512
          rw [e34]; exact vp_c (by omega) (by omega)
        · show ¬ r 4 0 (r 34 0 p).toNatClampNeg = 0
          rw [e34, nI_clamp (by omega), (cO.2.1 o ho).2.1]
          exact nI_ne0 (by have := (cO.2.1 o ho).2.2.1; omega) (Int32.toNatClampNeg_lt _)
      · exact absurd g7 (d1 8 7 (by decide) k)
end HY
