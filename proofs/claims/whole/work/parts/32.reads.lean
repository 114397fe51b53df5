/-! the calls that only read -/
section RD
variable {n t : Nat} {tk : Option Nat} {s : S3} {π : Nat → Nat} {r : S3} {vp vb : Nat → Int32} {T : Nat → Nat} {Q : Nat → Nat → Int32}
theorem inv_t (h : INV n t tk s π r vp vb T Q) : INV n (t + 1) tk s π r vp vb T Q := by
  obtain ⟨cA, cV, cO, cC, rest⟩ := h
  obtain ⟨a1, ⟨τ, a2, a3⟩, a4, a5⟩ := cA
  exact ⟨⟨a1, ⟨τ, by omega, a3⟩, a4, by omega⟩, cV, cO, Nat.le_succ_of_le cC, rest⟩
theorem srv_cases (hn5 : n ≤ 5) (x : Int32) : (∃ i, i < n ∧ x = nI i ∧ v_Store_isServer n x = 1 ∧ v_Model_noServer (nI n) x = 0) ∨ (v_Store_isServer n x = 0 ∧ v_Model_noServer (nI n) x = 1) := by
  unfold v_Store_isServer v_Model_noServer
  by_cases h1 : x < 0
  · rw [if_pos h1, if_pos h1]; exact Or.inr ⟨rfl, rfl⟩
  · rw [if_neg h1, if_neg h1]
    obtain ⟨j, hj, rfl⟩ := nI_of h1
    by_cases h2 : j < n
    · rw [if_neg (by rw [nI_leI (by omega) hj]; omega), if_pos (by rw [nI_ltI hj (by omega)]; exact h2)]
      exact Or.inl ⟨j, h2, rfl, rfl, rfl⟩
    · rw [if_pos (by rw [nI_leI (by omega) hj]; omega), if_neg (by rw [nI_ltI hj (by omega)]; exact h2)]
      exact Or.inr ⟨rfl, rfl⟩
theorem cli_cases (x : Int32) : (∃ i, i < 3 ∧ x = nI i ∧ v_Store_isClient x = 1 ∧ v_Model_noClient x = 0) ∨ (v_Store_isClient x = 0 ∧ v_Model_noClient x = 1) := by
  unfold v_Store_isClient v_Model_noClient
  by_cases h1 : x < 0
  · rw [if_pos h1, if_pos h1]; exact Or.inr ⟨rfl, rfl⟩
  · rw [if_neg h1, if_neg h1]
    obtain ⟨j, hj, rfl⟩ := nI_of h1
    by_cases h2 : j < 3
    · rw [if_neg (by rw [show (3 : Int32) = nI 3 from rfl, nI_leI (by omega) hj]; omega), if_pos (by rw [show (2 : Int32) = nI 2 from rfl, nI_leI hj (by omega)]; omega)]
      exact Or.inl ⟨j, h2, rfl, rfl, rfl⟩
    · rw [if_pos (by rw [show (3 : Int32) = nI 3 from rfl, nI_leI (by omega) hj]; omega), if_neg (by rw [show (2 : Int32) = nI 2 from rfl, nI_leI hj (by omega)]; omega)]
      exact Or.inr ⟨rfl, rfl⟩
theorem cel_cases (k : Int32) : (∃ i, i < 4 ∧ k = nI i ∧ v_Store_isCell k = 1 ∧ ¬ k < 0 ∧ k ≤ 3) ∨ (v_Store_isCell k = 0 ∧ (k < 0 ∨ ¬ k ≤ 3)) := by
  unfold v_Store_isCell
  by_cases h1 : k < 0
  · rw [if_pos h1]; exact Or.inr ⟨rfl, Or.inl h1⟩
  · rw [if_neg h1]
    obtain ⟨j, hj, rfl⟩ := nI_of h1
    by_cases h2 : j < 4
    · rw [if_neg (by rw [show (4 : Int32) = nI 4 from rfl, nI_leI (by omega) hj]; omega)]
      exact Or.inl ⟨j, h2, rfl, rfl, h1, by rw [show (3 : Int32) = nI 3 from rfl, nI_leI hj (by omega)]; omega⟩
    · rw [if_pos (by rw [show (4 : Int32) = nI 4 from rfl, nI_leI (by omega) hj]; omega)]
      exact Or.inr ⟨rfl, Or.inr (by rw [show (3 : Int32) = nI 3 from rfl, nI_leI hj (by omega)]; omega)⟩
theorem has_cases {w : Nat} (hw : w ≤ 32) (x : Int32) : (∃ j, j < w ∧ x = nI j ∧ v_Post_has (nI w) x = 1 ∧ ¬ x < 0 ∧ x < nI w) ∨ (v_Post_has (nI w) x = 0 ∧ (x < 0 ∨ ¬ x < nI w)) := by
  unfold v_Post_has
  by_cases h1 : x < 0
  · rw [if_pos h1]; exact Or.inr ⟨rfl, Or.inl h1⟩
  · rw [if_neg h1]
    obtain ⟨j, hj, rfl⟩ := nI_of h1
    by_cases h2 : j < w
    · rw [if_neg (by rw [nI_leI (by omega) hj]; omega)]
      exact Or.inl ⟨j, h2, rfl, rfl, h1, by rw [nI_ltI hj (by omega)]; exact h2⟩
    · rw [if_pos (by rw [nI_leI (by omega) hj]; omega)]
      exact Or.inr ⟨rfl, Or.inr (by rw [nI_ltI hj (by omega)]; exact h2)⟩
theorem clamp_180 {i m k : Nat} (hi : i < 34) (hm : m < 180) (hk : k = 180 * i + m) : ((180 * nI i) + (nI m)).toNatClampNeg = k := by
  rw [show (180 : Int32) = nI 180 from rfl, nI_mul, nI_add, nI_clamp (by omega), hk]
theorem hdF_eq {oc ov d : Nat → Int32} {i : Nat} {k : Int32} {m : Nat} (hi : i < 34) (hm : m ≤ 180) : hdF oc ov d (nI i) k m = hF oc ov (fun a => d (180 * i + a)) k m := by
  induction m with
  | zero => rfl
  | succ m ih =>
    unfold hdF hF
    rw [clamp_180 hi (show m < 180 by omega) rfl, ih (by omega)]
theorem xl_le (ht : t ≤ 512) (h : INV n t tk s π r vp vb T Q) {i : Nat} (hi : i < n) : xl r i ≤ 172 := Nat.le_trans (GL_len (h.2.2.2.2.1.1 i hi).2.2.2.2.1) (xb_le ht h.2.2.1 h.2.2.2.1)
theorem st_letters_ok (h : INV n t none s π r vp vb T Q) : st_letters n (JJ n) t s π r := ⟨h.2.2.2.2.2.2.2.2.2.2.2.1.1, vp, vb, T, Q, inv_t h⟩
theorem st_letter_ok (h : INV n t none s π r vp vb T Q) : st_letter n (JJ n) t s π r := by
  intro x
  refine ⟨?_, vp, vb, T, Q, inv_t h⟩
  obtain ⟨cA, cV, cO, cC, cS, cU, cB, cL, rG, rS, rC, rP, rL⟩ := h
  obtain ⟨hw, hw32⟩ := xw_lt cB
  unfold v_Store_letter v_Model_letter
  rw [rP.1, hw]
  rcases has_cases hw32 x with ⟨j, hj, rfl, e1, e2, e3⟩ | ⟨e1, e2⟩
  · rw [e1, if_neg (by decide), if_neg e2, if_pos e3, nI_clamp (by omega), (rL j hj).1, (rL j hj).2.1]
    rfl
  · rw [e1, if_pos rfl]
    rcases e2 with e2 | e2
    · rw [if_pos e2]
    · by_cases e3 : x < 0
      · rw [if_pos e3]
      · rw [if_neg e3, if_neg e2]
theorem shown_eq {a p b a9 a10 : Int32} (h : a ≠ 0 → p = a9 ∧ BR b a10) : v_View_shown a p b = (if a = 0 then 0 else if 0 ≤ a10 then ((64 * a) + (8 * a9)) + a10 else ((64 * a) + (8 * a9)) + 7) := by
  unfold v_View_shown
  by_cases h0 : a = 0
  · rw [if_pos h0, if_pos h0]
  · obtain ⟨e1, e2⟩ := h h0
    rw [if_neg h0, if_neg h0, e1]
    rcases e2 with ⟨e2, e3⟩ | ⟨j, hj, e2, e3⟩
    · rw [e2, e3, if_neg (by decide)]
    · rw [e2, e3, if_pos (nI_pos' (by omega))]
theorem st_view_ok (hn5 : n ≤ 5) (h : INV n t none s π r vp vb T Q) : st_view n (JJ n) t s π r := by
  intro x
  refine ⟨?_, vp, vb, T, Q, inv_t h⟩
  obtain ⟨cA, cV, cO, cC, cS, cU, cB, cL, rG, rS, rC, rP, rL⟩ := h
  unfold v_Store_view v_Model_view
  by_cases hx : x = -1
  · rw [if_pos hx, if_pos hx, rG.2.2.1]
    exact shown_eq rG.2.2.2.1
  · rw [if_neg hx, if_neg hx, cA.1]
    rcases srv_cases hn5 x with ⟨i, hi, rfl, e1, e2⟩ | ⟨e1, e2⟩
    · rw [e1, e2, if_neg (by decide), if_pos rfl, nI_clamp (by omega)]
      obtain ⟨-, -, -, -, -, -, f0, -, f1, -⟩ := rS i hi
      rw [f0]
      exact shown_eq f1
    · rw [e1, e2, if_pos rfl, if_neg (by decide)]
theorem st_role_ok (hn5 : n ≤ 5) (h : INV n t none s π r vp vb T Q) : st_role n (JJ n) t s π r := by
  intro x
  refine ⟨?_, vp, vb, T, Q, inv_t h⟩
  obtain ⟨cA, cV, cO, cC, cS, cU, cB, cL, rG, rS, rC, rP, rL⟩ := h
  unfold v_Store_role v_Model_role
  rw [cA.1]
  rcases srv_cases hn5 x with ⟨i, hi, rfl, e1, e2⟩ | ⟨e1, e2⟩
  · rw [e1, e2, if_neg (by decide), if_pos rfl, nI_clamp (by omega)]
    obtain ⟨g0, -, -, g6, g9, g8, f0, f00, f1, g7, -⟩ := rS i hi
    have hpen := (cS.1 i hi).2.2.2.2.2.2.2.2.1
    rw [g6, f0, g0, g9]
    unfold v_Server_liveRole
    by_cases hz : r 8 0 i = 0
    · rw [if_pos hz, if_pos hz]
    · rw [if_neg hz, if_neg hz]
      obtain ⟨k1, k2⟩ := f1 hz
      rw [k1]
      by_cases hp : r 9 0 i = nI i
      · rw [if_pos hp, if_pos hp, g7 hz hp]
        rcases g8 with ⟨q1, q2⟩ | ⟨q1, q2, -⟩
        · rw [q1, q2, if_pos (by decide : (-1 : Int32) < 0)]
          by_cases hr : r 15 0 i = 0
          · rw [if_pos hr, if_pos hr]
          · rw [if_neg hr, if_neg hr, if_pos rfl]
        · rcases hpen with e | ⟨o, ho, e, -, -, e15⟩
          · exact absurd e q2
          · have hlt : xb r < 2 ^ 31 := Int32.toNatClampNeg_lt _
            rw [q1, e15, if_neg (show ¬ (1 : Int32) = 0 by decide), if_neg (show ¬ (1 : Int32) = 0 by decide), e, if_neg (nI_pos (show o < 2 ^ 31 by omega))]
      · rw [if_neg hp, if_neg hp]
        have hb : (s 6 2 i = nI i) ↔ (r 10 0 i = nI i) := by
          rcases k2 with ⟨a1, a2⟩ | ⟨j, hj, a1, a2⟩
          · rw [a1, a2]
            exact ⟨fun e => by rw [show (7 : Int32) = nI 7 from rfl, nI_eq (by omega) (by omega)] at e; omega, fun e => absurd e.symm (nI_ne_m1 (by omega))⟩
          · rw [a1, a2]
        by_cases h10 : r 10 0 i = nI i
        · rw [if_pos (hb.mpr h10), if_pos h10]
          by_cases h16 : r 16 0 i = 0
          · rw [if_pos h16, if_pos h16]
          · rw [if_neg h16, if_neg h16]
        · rw [if_neg (fun e => h10 (hb.mp e)), if_neg h10]
  · rw [e1, e2, if_pos rfl, if_neg (by decide)]
theorem st_cell_ok (ht : t ≤ 512) (hn5 : n ≤ 5) (h : INV n t none s π r vp vb T Q) : st_cell n (JJ n) t s π r := by
  intro x k
  refine ⟨?_, vp, vb, T, Q, inv_t h⟩
  have hxl := fun i hi => xl_le ht h (i := i) hi
  obtain ⟨cA, cV, cO, cC, cS, cU, cB, cL, rG, rS, rC, rP, rL⟩ := h
  unfold v_Store_cell v_Model_cell
  rw [cA.1]
  rcases srv_cases hn5 x with ⟨i, hi, rfl, e1, e2⟩ | ⟨e1, e2⟩
  · rw [e1, e2, if_neg (by decide), if_pos rfl, nI_clamp (by omega)]
    rcases cel_cases k with ⟨j, hj, rfl, f1, f2, f3⟩ | ⟨f1, f2⟩
    · rw [f1, if_neg (by decide), if_neg f2, if_pos f3, nI_clamp (by omega)]
      have hx := hxl i hi
      rw [hdF_eq (by omega) (by show xl r i ≤ 180; omega)]
      exact (rS i hi).2.2.2.2.2.2.2.2.2.2.2.1 j hj
    · rw [f1, if_pos rfl]
      rcases f2 with f2 | f2
      · rw [if_pos f2]
      · by_cases f3 : k < 0
        · rw [if_pos f3]
        · rw [if_neg f3, if_neg f2]
  · rw [e1, e2, if_pos rfl, if_neg (by decide)]
theorem st_count_ok (hn5 : n ≤ 5) (h : INV n t none s π r vp vb T Q) : st_count n (JJ n) t s π r := by
  intro x
  refine ⟨?_, vp, vb, T, Q, inv_t h⟩
  obtain ⟨cA, cV, cO, cC, cS, cU, cB, cL, rG, rS, rC, rP, rL⟩ := h
  unfold v_Store_count v_Model_count
  rw [cA.1]
  rcases srv_cases hn5 x with ⟨i, hi, rfl, e1, e2⟩ | ⟨e1, e2⟩
  · rw [e1, e2, if_neg (by decide), if_pos rfl, nI_clamp (by omega), (rS i hi).2.2.2.2.2.2.2.2.2.2.1, (cS.1 i hi).2.2.2.1]
  · rw [e1, e2, if_pos rfl, if_neg (by decide)]
theorem st_finished_ok (h : INV n t none s π r vp vb T Q) : st_finished n (JJ n) t s π r := by
  intro x
  refine ⟨?_, vp, vb, T, Q, inv_t h⟩
  obtain ⟨cA, cV, cO, cC, cS, cU, cB, cL, rG, rS, rC, rP, rL⟩ := h
  unfold v_Store_finished v_Model_finished
  rcases cli_cases x with ⟨i, hi, rfl, e1, e2⟩ | ⟨e1, e2⟩
  · rw [e1, e2, if_neg (by decide), if_pos rfl, nI_clamp (by omega), (rC i hi).2.2.1]
  · rw [e1, e2, if_pos rfl, if_neg (by decide)]
theorem st_result_ok (h : INV n t none s π r vp vb T Q) : st_result n (JJ n) t s π r := by
  intro x
  refine ⟨?_, vp, vb, T, Q, inv_t h⟩
  obtain ⟨cA, cV, cO, cC, cS, cU, cB, cL, rG, rS, rC, rP, rL⟩ := h
  unfold v_Store_result v_Model_result
  rcases cli_cases x with ⟨i, hi, rfl, e1, e2⟩ | ⟨e1, e2⟩
  · rw [e1, e2, if_neg (by decide), if_pos rfl, nI_clamp (by omega), (rC i hi).2.2.2.1]
  · rw [e1, e2, if_pos rfl, if_neg (by decide)]
end RD
