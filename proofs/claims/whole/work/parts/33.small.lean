/-! advance, skew, crash -/
section SM
variable {n t : Nat} {tk : Option Nat} {s : S3} {π : Nat → Nat} {r : S3} {vp vb : Nat → Int32} {T : Nat → Nat} {Q : Nat → Nat → Int32}
theorem one0 : ¬ (1 : Int32) = 0 := by decide
theorem zero0 : (0 : Int32) = 0 := rfl
theorem st_advance_ok (ht : t < 512) (h : INV n t none s π r vp vb T Q) : st_advance n (JJ n) t s π r := by
  intro d
  have hi := inv_t h
  have e0 : s 0 4 0 = r 0 1 0 := h.2.2.2.2.2.2.2.2.1.1
  unfold v_Store_advance v_Model_advance S_Store_advance S_Model_advance
  by_cases h1 : d < 0
  · simp only [if_pos h1]; exact ⟨rfl, vp, vb, T, Q, hi⟩
  · simp only [if_neg h1]
    by_cases h2 : d ≤ 1000
    · simp only [if_pos h2]
      refine ⟨by rw [e0], vp, vb, T, Q, ?_⟩
      obtain ⟨cA, cV, cO, cC, cS, cU, cB, cL, rG, rS, rC, rP, rL⟩ := h
      obtain ⟨a1, ⟨τ, a2, a3⟩, a4, a5⟩ := cA
      obtain ⟨j, hj, rfl⟩ := nI_of h1
      rw [show (1000 : Int32) = nI 1000 from rfl, nI_leI hj (by omega)] at h2
      refine ⟨⟨a1, ⟨τ + j, by omega, ?_⟩, a4, ?_⟩, cV, cO, Nat.le_succ_of_le cC, cS, cU, cB, cL, ⟨?_, rG.2⟩, rS, rC, rP, rL⟩
      · show r 0 1 0 + nI j = _
        rw [a3, nI_add]
      · show xv r 5 ≤ _
        omega
      · show s 0 4 0 + nI j = r 0 1 0 + nI j
        rw [e0]
    · simp only [if_neg h2]; exact ⟨rfl, vp, vb, T, Q, hi⟩
theorem upd_eq {f g : Nat → Int32} {c : Nat} {x : Int32} {j : Nat} (h : f j = g j) : upd f c x j = upd g c x j := by
  unfold upd
  by_cases e : j = c
  · rw [if_pos e, if_pos e]
  · rw [if_neg e, if_neg e, h]
theorem st_skew_ok (hn5 : n ≤ 5) (h : INV n t none s π r vp vb T Q) : st_skew n (JJ n) t s π r := by
  intro x o
  have hi := inv_t h
  have e0 : r 0 0 0 = nI n := h.1.1
  unfold v_Store_skew v_Model_skew S_Store_skew S_Model_skew
  rw [e0]
  rcases srv_cases hn5 x with ⟨i, hin, rfl, e1, e2⟩ | ⟨e1, e2⟩
  · rw [nI_clamp (show i < 2 ^ 31 by omega)]
    simp only [e1, e2, if_neg one0, if_pos zero0]
    by_cases h1 : o < -10
    · simp only [if_pos h1]; exact ⟨rfl, vp, vb, T, Q, hi⟩
    · simp only [if_neg h1]
      by_cases h2 : o ≤ 10
      · simp only [if_pos h2]
        refine ⟨rfl, vp, vb, T, Q, ?_⟩
        obtain ⟨cA, cV, cO, cC, cS, cU, cB, cL, rG, rS, rC, rP, rL⟩ := hi
        exact ⟨cA, cV, cO, cC, cS, cU, cB, cL, rG, fun j hj => ⟨(rS j hj).1, upd_eq (rS j hj).2.1, (rS j hj).2.2⟩, rC, rP, rL⟩
      · simp only [if_neg h2]; exact ⟨rfl, vp, vb, T, Q, hi⟩
  · simp only [e1, e2, if_neg one0, if_pos zero0]; exact ⟨rfl, vp, vb, T, Q, hi⟩
theorem zb_upd {f : Nat → Int32} {c : Nat} {x : Int32} {j : Nat} (hx : zb x) (h : zb (f j)) : zb (upd f c x j) := by
  unfold upd
  split
  · exact hx
  · exact h
theorem st_crash_ok (hn5 : n ≤ 5) (h : INV n t none s π r vp vb T Q) : st_crash n (JJ n) t s π r := by
  intro x
  have hi := inv_t h
  have e0 : r 0 0 0 = nI n := h.1.1
  unfold v_Store_crash v_Model_crash S_Store_crash S_Model_crash
  rw [e0]
  rcases srv_cases hn5 x with ⟨i, hin, rfl, e1, e2⟩ | ⟨e1, e2⟩
  · rw [nI_clamp (show i < 2 ^ 31 by omega)]
    simp only [e1, e2, if_neg one0, if_pos zero0]
    have e6 : s 1 6 i = r 17 0 i := (h.2.2.2.2.2.2.2.2.2.1 i hin).2.2.2.1
    rw [e6]
    by_cases h1 : r 17 0 i = 0
    · simp only [if_pos h1]
      refine ⟨rfl, vp, vb, T, Q, ?_⟩
      obtain ⟨cA, cV, cO, cC, cS, cU, cB, cL, rG, rS, rC, rP, rL⟩ := hi
      refine ⟨cA, cV, cO, cC, ⟨fun j hj => ?_, cS.2⟩, cU, cB, cL, rG, fun j hj => ?_, rC, rP, rL⟩
      · obtain ⟨b1, b2, b3, b4, b5, b6, b7, b8, b9⟩ := cS.1 j hj
        exact ⟨b1, b2, b3, b4, b5, b6, b7, zb_upd zb_1 b8, b9⟩
      · obtain ⟨b1, b2, b3, b4, b5⟩ := rS j hj
        exact ⟨b1, b2, b3, upd_eq b4, b5⟩
    · simp only [if_neg h1]; exact ⟨rfl, vp, vb, T, Q, hi⟩
  · simp only [e1, e2, if_neg one0, if_pos zero0]; exact ⟨rfl, vp, vb, T, Q, hi⟩
end SM
