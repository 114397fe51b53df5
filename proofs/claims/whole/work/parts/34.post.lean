/-! a letter is sent: nothing else changes -/
/-- s' differs from s in the letter L (and the count of letters) alone -/
def sBut (s s' : S3) (L : Nat) : Prop := s' 0 = s 0 ∧ s' 1 = s 1 ∧ s' 2 = s 2 ∧ s' 3 = s 3 ∧ s' 15 = s 15 ∧ (∀ a x, x ≠ L → s' 5 a x = s 5 a x) ∧ (∀ a x, x ≠ 8 + L → s' 6 a x = s 6 a x) ∧ (∀ a x, x ≠ 8 + L → s' 7 a x = s 7 a x) ∧ (∀ a x, x ≠ 8 + L → s' 8 a x = s 8 a x) ∧ (∀ x, x ≠ 8 + L → s' 9 x = s 9 x) ∧ (∀ x, x ≠ 8 + L → s' 13 x = s 13 x) ∧ ∀ x, x ≠ 8 + L → s' 14 x = s 14 x
/-- r' differs from r in the letter p (and the letters' places) alone -/
def rBut (r r' : S3) (p : Nat) : Prop := (∀ k, k ≠ 0 → k < 26 → r' k = r k) ∧ (∀ b, b ≠ 25 → r' 0 b = r 0 b) ∧ (∀ k q, 28 ≤ k → k ≤ 35 → q ≠ p → r' k 0 q = r k 0 q) ∧ ∀ q m, m < 180 → q ≠ p → r' 36 0 (180 * q + m) = r 36 0 (180 * q + m)
theorem sBut_rf (s : S3) (L : Nat) : sBut s s L := ⟨rfl, rfl, rfl, rfl, rfl, fun _ _ _ => rfl, fun _ _ _ => rfl, fun _ _ _ => rfl, fun _ _ _ => rfl, fun _ _ => rfl, fun _ _ => rfl, fun _ _ => rfl⟩
theorem rBut_rf (r : S3) (p : Nat) : rBut r r p := ⟨fun _ _ _ => rfl, fun _ _ => rfl, fun _ _ _ _ _ => rfl, fun _ _ _ _ => rfl⟩
theorem u3_ne {s : S3} {a b c : Nat} {v : Int32} {b' c' : Nat} (h : c' ≠ c) : u3 s a b c v a b' c' = s a b' c' := by
  by_cases hb : b' = b
  · subst hb; simp [u3, uA, upd, h]
  · simp [u3, uA, hb]
theorem u3_at {s : S3} {a b c : Nat} {v : Int32} : u3 s a b c v a b c = v := by simp [u3, uA, upd]
theorem u3_sl {s : S3} {a b c : Nat} {v : Int32} {b' c' : Nat} (h : b' ≠ b) : u3 s a b c v a b' c' = s a b' c' := by simp [u3, uA, h]
theorem uA_ne {s : S3} {a b : Nat} {f : Nat → Int32} {b' : Nat} (h : b' ≠ b) : uA s a b f a b' = s a b' := by simp [uA, h]
theorem u3_k {s : S3} {a b c : Nat} {v : Int32} {a' : Nat} (h : a' ≠ a) : u3 s a b c v a' = s a' := by simp [u3, uA, h]
theorem uA_k {s : S3} {a b : Nat} {f : Nat → Int32} {a' : Nat} (h : a' ≠ a) : uA s a b f a' = s a' := by simp [uA, h]
section PO
variable {s s' r r' : S3} {π : Nat → Nat} {L p : Nat}
theorem sBut_5 (h : sBut s s' L) (a : Nat) (v : Int32) : sBut s (u3 s' 5 a L v) L := by
  obtain ⟨h0, h1, h2, h3, h15, h5, h6, h7, h8, h9, h13, h14⟩ := h
  exact ⟨h0, h1, h2, h3, h15, fun b x hx => (u3_ne hx).trans (h5 b x hx), h6, h7, h8, h9, h13, h14⟩
theorem sBut_6 (h : sBut s s' L) (a : Nat) (v : Int32) : sBut s (u3 s' 6 a (8 + L) v) L := by
  obtain ⟨h0, h1, h2, h3, h15, h5, h6, h7, h8, h9, h13, h14⟩ := h
  exact ⟨h0, h1, h2, h3, h15, h5, fun b x hx => (u3_ne hx).trans (h6 b x hx), h7, h8, h9, h13, h14⟩
theorem sBut_7 (h : sBut s s' L) (a : Nat) (v : Int32) : sBut s (u3 s' 7 a (8 + L) v) L := by
  obtain ⟨h0, h1, h2, h3, h15, h5, h6, h7, h8, h9, h13, h14⟩ := h
  exact ⟨h0, h1, h2, h3, h15, h5, h6, fun b x hx => (u3_ne hx).trans (h7 b x hx), h8, h9, h13, h14⟩
theorem sBut_next (k a : Int32) : sBut s (S_Post_next π s k a) (nxL (s 4 2 0) π) := by
  have h : sBut s (u3 s 4 2 0 (nxW (s 4 2 0))) (nxL (s 4 2 0) π) := sBut_rf s _
  exact sBut_5 (sBut_5 h 3 k) 4 a
theorem sBut_view (h : sBut s s' L) (b : Nat) : sBut s (S_View_become π s' (8 + L) b) L := sBut_6 (sBut_6 (sBut_6 h 0 _) 1 _) 2 _
theorem sBut_op (h : sBut s s' L) (b : Nat) : sBut s (S_Operation_become π s' (8 + L) b) L := sBut_7 (sBut_7 (sBut_7 (sBut_7 (sBut_7 h 0 _) 1 _) 2 _) 3 _) 4 _
theorem sBut_state (h : sBut s s' L) (b : Nat) : sBut s (S_State_become π s' (8 + L) b) L := by
  obtain ⟨h0, h1, h2, h3, h15, h5, h6, h7, h8, h9, h13, h14⟩ := h
  exact ⟨h0, h1, h2, h3, h15, h5, h6, h7, fun b x hx => (u3_ne hx).trans (h8 b x hx), fun x hx => (uA_ne hx).trans (h9 x hx), fun x hx => (uA_ne hx).trans (h13 x hx), fun x hx => (uA_ne hx).trans (h14 x hx)⟩
theorem rBut_u (h : rBut r r' p) (k : Nat) (v : Int32) (h1 : 28 ≤ k) (h2 : k ≤ 35) : rBut r (u3 r' k 0 p v) p := by
  obtain ⟨a1, a2, a3, a4⟩ := h
  refine ⟨fun j hj0 hj => ?_, fun b hb => ?_, fun j q hj1 hj2 hq => ?_, fun q m hm hq => ?_⟩
  · rw [u3_k (by omega)]; exact a1 j hj0 hj
  · rw [u3_k (by omega)]; exact a2 b hb
  · by_cases e : j = k
    · subst e; exact (u3_ne hq).trans (a3 j q hj1 hj2 hq)
    · rw [u3_k e]; exact a3 j q hj1 hj2 hq
  · rw [u3_k (by omega)]; exact a4 q m hm hq
theorem rBut_post (k a : Int32) : rBut r (S_Model_post r k a) (ppF (r 0 25 0) (r 27 0)).toNatClampNeg := by
  have h : rBut r (u3 (u3 (u3 r 27 0 (ppF (r 0 25 0) (r 27 0)).toNatClampNeg (if 32 ≤ r 0 25 0 then r 27 0 (ppF (r 0 25 0) (r 27 0)).toNatClampNeg else 1)) 26 0 (r 0 25 0).toNatClampNeg (if 32 ≤ r 0 25 0 then r 26 0 (r 0 25 0).toNatClampNeg else ppF (r 0 25 0) (r 27 0))) 0 25 0 (nxW (r 0 25 0))) (ppF (r 0 25 0) (r 27 0)).toNatClampNeg := by
    refine ⟨fun j hj0 hj => ?_, fun b hb => ?_, fun j q hj1 hj2 hq => ?_, fun q m hm hq => rfl⟩
    · rw [u3_k hj0, u3_k (by omega), u3_k (by omega)]
    · funext c
      rw [u3_sl hb]
      rfl
    · rw [u3_k (by omega), u3_k (by omega), u3_k (by omega)]
  exact rBut_u (rBut_u h 28 k (by omega) (by omega)) 29 a (by omega) (by omega)
theorem hF_congr {oc ov oc' ov' lg lg' : Nat → Int32} {k : Int32} {m : Nat} (h : ∀ a, a < m → lg a = lg' a ∧ oc (lg a).toNatClampNeg = oc' (lg a).toNatClampNeg ∧ ov (lg a).toNatClampNeg = ov' (lg a).toNatClampNeg) : hF oc ov lg k m = hF oc' ov' lg' k m := by
  induction m with
  | zero => rfl
  | succ m ih =>
    obtain ⟨h1, h2, h3⟩ := h m (by omega)
    unfold hF
    rw [ih (fun a ha => h a (by omega)), h2, h3, h1]
theorem lF_congr {oc ov oc' ov' lg lg' : Nat → Int32} {k : Int32} {m : Nat} (h : ∀ a, a < m → lg a = lg' a ∧ oc (lg a).toNatClampNeg = oc' (lg a).toNatClampNeg ∧ ov (lg a).toNatClampNeg = ov' (lg a).toNatClampNeg) : lF oc ov lg k m = lF oc' ov' lg' k m := by
  induction m with
  | zero => rfl
  | succ m ih =>
    obtain ⟨h1, h2, h3⟩ := h m (by omega)
    unfold lF
    rw [ih (fun a ha => h a (by omega)), h2, h3, h1]
theorem sF_congr {cl oc ov cl' oc' ov' lg lg' : Nat → Int32} {k : Int32} {m : Nat} (h : ∀ a, a < m → lg a = lg' a ∧ cl (lg a).toNatClampNeg = cl' (lg a).toNatClampNeg ∧ oc (lg a).toNatClampNeg = oc' (lg a).toNatClampNeg ∧ ov (lg a).toNatClampNeg = ov' (lg a).toNatClampNeg) : sF cl oc ov lg k m = sF cl' oc' ov' lg' k m := by
  induction m with
  | zero => rfl
  | succ m ih =>
    obtain ⟨h1, h2, h3, h4⟩ := h m (by omega)
    unfold sF
    rw [ih (fun a ha => h a (by omega)), h2, h3, h1, hF_congr (oc' := oc') (ov' := ov') (lg' := lg') (fun a ha => ⟨(h a (by omega)).1, (h a (by omega)).2.2⟩)]
/-- a State that is copied, or whose operations are renamed in the table, says the same -/
theorem SR_congr {x x' : Nat} {lg lg' : Nat → Int32} {m : Nat} (h : SR s r x lg m) (e8 : s' 8 3 x' = s 8 3 x) (e9 : ∀ k, k < 4 → s' 9 x' k = s 9 x k) (e13 : ∀ k, k < 3 → s' 13 x' k = s 13 x k) (e14 : ∀ k, k < 3 → s' 14 x' k = s 14 x k) (hl : ∀ a, a < m → lg a = lg' a) (h3 : ∀ a, a < m → r 3 0 (lg a).toNatClampNeg = r' 3 0 (lg a).toNatClampNeg) (h4 : ∀ a, a < m → r 4 0 (lg a).toNatClampNeg = r' 4 0 (lg a).toNatClampNeg) (h5 : ∀ a, a < m → r 5 0 (lg a).toNatClampNeg = r' 5 0 (lg a).toNatClampNeg) (h6 : ∀ a, a < m → r 6 0 (lg a).toNatClampNeg = r' 6 0 (lg a).toNatClampNeg) : SR s' r' x' lg' m := by
  obtain ⟨g8, g9, g13, g14⟩ := h
  refine ⟨e8.trans g8, fun k hk => ?_, fun k hk => ?_, fun k hk => ?_⟩
  · rw [e9 k hk, g9 k hk]; exact hF_congr (fun a ha => ⟨hl a ha, h5 a ha, h6 a ha⟩)
  · rw [e13 k hk, g13 k hk]; exact lF_congr (fun a ha => ⟨hl a ha, h3 a ha, h4 a ha⟩)
  · rw [e14 k hk, g14 k hk]; exact sF_congr (fun a ha => ⟨hl a ha, h3 a ha, h5 a ha, h6 a ha⟩)
theorem LR_keep {L' p' : Nat} (h : LR s r L' p') (hs : sBut s s' L) (hr : rBut r r' p) (hL : L' ≠ L) (hp : p' ≠ p) (hm : r 28 0 p' = 3 → (r 34 0 p').toNatClampNeg ≤ 180) : LR s' r' L' p' := by
  obtain ⟨h0, h1, h2, h3, h15, h5, h6, h7, h8, h9, h13, h14⟩ := hs
  obtain ⟨a1, a2, a3, a4⟩ := hr
  have e : ∀ k, 28 ≤ k → k ≤ 35 → r' k 0 p' = r k 0 p' := fun k g1 g2 => a3 k p' g1 g2 hp
  have r3 := a1 3 (by omega) (by omega)
  have r4 := a1 4 (by omega) (by omega)
  have r5 := a1 5 (by omega) (by omega)
  have r6 := a1 6 (by omega) (by omega)
  have r7 := a1 7 (by omega) (by omega)
  have hx : 8 + L' ≠ 8 + L := by omega
  have k5 := fun a => h5 a L' hL
  have k6 := fun a => h6 a (8 + L') hx
  have k7 := fun a => h7 a (8 + L') hx
  unfold LR OR at h ⊢
  rw [k5 3, k5 4, k5 5, k5 6, k5 7, k5 8, k6 0, k6 1, k6 2, k7 0, k7 1, k7 2, k7 3, k7 4, e 28 (by omega) (by omega), e 29 (by omega) (by omega), e 30 (by omega) (by omega), e 31 (by omega) (by omega), e 32 (by omega) (by omega), e 33 (by omega) (by omega), e 34 (by omega) (by omega), e 35 (by omega) (by omega), r3, r4, r5, r6, r7]
  obtain ⟨b1, b2, b3, b4, b5, b6⟩ := h
  refine ⟨b1, b2, b3, b4, fun hk => ?_, b6⟩
  obtain ⟨c1, c2, c3, c4⟩ := b5 hk
  have hm := hm hk
  refine ⟨c1, c2, c3, SR_congr c4 (h8 3 _ hx) (fun k _ => by rw [h9 _ hx]) (fun k _ => by rw [h13 _ hx]) (fun k _ => by rw [h14 _ hx]) (fun a ha => (a4 p' a (by omega) hp).symm) (fun a _ => by rw [r3]) (fun a _ => by rw [r4]) (fun a _ => by rw [r5]) (fun a _ => by rw [r6])⟩
end PO
