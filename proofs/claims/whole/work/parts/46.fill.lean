/-! a FILL arrives, a FILLED arrives -/
def cyS (π : Nat → Nat) (s : S3) (i w : Nat) : S3 := u3 (S_State_become π s i w) 1 9 i 1
def cyR (r : S3) (i p : Nat) : S3 := u3 (uA (u3 r 19 0 i (r 34 0 p)) 20 0 (cpR (r 36 0) (nI p) (nI i) (r 34 0 p).toNatClampNeg 0 (r 20 0))) 16 0 i 1
section FI
variable {n t : Nat} {tk : Option Nat} {s : S3} {π : Nat → Nat} {r : S3} {vp vb : Nat → Int32} {T : Nat → Nat} {Q : Nat → Nat → Int32} {i v w L p m : Nat}
theorem GL_cg {lg lg' : Nat → Int32} (h : GL r lg m) (e : ∀ a, a < m → lg' a = lg a) : GL r lg' m := by
  refine ⟨fun a ha => by rw [e a ha]; exact h.1 a ha, fun a b hab hb e3 => ?_⟩
  rw [e a (by omega), e b hb] at e3 ⊢
  exact h.2 a b hab hb e3
theorem cyR_19 : cyR r i p 19 0 = upd (r 19 0) i (r 34 0 p) := by
  unfold cyR; rw [u3_k (by omega), uA_k (by omega), u3_row]
theorem cyR_20 : cyR r i p 20 0 = cpR (r 36 0) (nI p) (nI i) (r 34 0 p).toNatClampNeg 0 (r 20 0) := by
  unfold cyR; rw [u3_k (by omega), uA_at]
theorem cyR_16 : cyR r i p 16 0 = upd (r 16 0) i 1 := by
  unfold cyR; rw [u3_row, uA_k (by omega), u3_k (by omega)]
theorem cyS_19 : cyS π s i w 1 9 = upd (s 1 9) i 1 := by
  unfold cyS
  rw [u3_row]
  rfl
theorem cyS_1 {b : Nat} (hb : b ≠ 9) : cyS π s i w 1 b = s 1 b := by
  funext x
  show (u3 (S_State_become π s i w) 1 9 i 1) 1 b x = _
  rw [u3_sl hb]
  rfl
theorem copy_inv (ht : t ≤ 512) (hn5 : n ≤ 5) (h : INV n t tk s π r vp vb T Q) (hi : i < n) (hp34 : p < 34) (hv : xv r i = v) (hv0 : v ≠ 0) (hvp : vp v ≠ nI i) (e34 : r 34 0 p = nI m) (hm : m ≤ T v) (hlog : ∀ a, a < m → lgL r p a = Q v a) (hE : ENT n r vp v) (hS : SR s r w (lgL r p) m) : INV n t tk (cyS π s i w) π (cyR r i p) vp vb T Q := by
  have hTv := T_le ht h v
  have hxl : ∀ j, j < n → xl r j ≤ 172 := fun j hj => xl_le ht h hj
  obtain ⟨gA, gV, gO, gC, gS, gU, gB, gL, kG, kS, kC, kP, kL⟩ := h
  have em : (r 34 0 p).toNatClampNeg = m := by rw [e34, nI_clamp (by omega)]
  have li : xl (cyR r i p) i = m := by
    have : xl (cyR r i p) i = (cyR r i p 19 0 i).toNatClampNeg := rfl
    rw [this, cyR_19, upd_at, em]
  have lj : ∀ j, j ≠ i → xl (cyR r i p) j = xl r j := fun j hj => by
    have : xl (cyR r i p) j = (cyR r i p 19 0 j).toNatClampNeg := rfl
    rw [this, cyR_19, upd_ne hj]; rfl
  have gi : ∀ a, a < m → lgS (cyR r i p) i a = lgL r p a := fun a ha => by
    unfold lgS lgL
    rw [cyR_20, em]
    exact cpR_in hp34 (by omega) (by omega) gU.2.1 _ (by omega) (by omega)
  have gj : ∀ j, j < n → j ≠ i → ∀ a, a < xl r j → lgS (cyR r i p) j a = lgS r j a := fun j hj hji a ha => by
    have := hxl j hj
    unfold lgS
    rw [cyR_20, em]
    exact cpR_out hp34 (by omega) (by omega) _ (by omega)
  have s9j : ∀ x, x ≠ i → (∀ b, cyS π s i w 8 b x = s 8 b x) ∧ cyS π s i w 9 x = s 9 x ∧ cyS π s i w 13 x = s 13 x ∧ cyS π s i w 14 x = s 14 x := fun x hx => by
    refine ⟨fun b => ?_, ?_, ?_, ?_⟩
    · show (u3 _ 8 3 i (s 8 3 w)) 8 b x = _
      rw [u3_ne hx]; rfl
    · unfold cyS S_State_become; rw [u3_k (by omega), u3_k (by omega), uA_k (by omega), uA_k (by omega), uA_ne hx]
    · unfold cyS S_State_become; rw [u3_k (by omega), u3_k (by omega), uA_k (by omega), uA_ne hx, uA_k (by omega)]
    · unfold cyS S_State_become; rw [u3_k (by omega), u3_k (by omega), uA_ne hx, uA_k (by omega), uA_k (by omega)]
  have hLR : ∀ L q, LR s r L q → i ≠ 8 + L → LR (cyS π s i w) (cyR r i p) L q := fun L q h hne => by
    obtain ⟨a1, a2, a3, a4, a5, a6⟩ := h
    refine ⟨a1, a2, a3, a4, fun k => ?_, a6⟩
    obtain ⟨c1, c2, c3, c4⟩ := a5 k
    obtain ⟨q1, q2, q3, q4⟩ := s9j (8 + L) (Ne.symm hne)
    exact ⟨c1, c2, c3, SR_congr c4 (q1 3) (fun k _ => by rw [q2]) (fun k _ => by rw [q3]) (fun k _ => by rw [q4]) (fun _ _ => rfl) (fun _ _ => rfl) (fun _ _ => rfl) (fun _ _ => rfl) (fun _ _ => rfl)⟩
  refine ⟨gA, gV, gO, gC, ⟨?_, gS.2⟩, ⟨?_, gU.2.1, gU.2.2.1, fun j hj => ⟨(gU.2.2.2.1 j hj).1, ?_⟩, gU.2.2.2.2⟩, gB, gL, kG, ?_, kC, kP, fun j hj => hLR _ _ (kL j hj) (by omega)⟩
  · intro j hj
    obtain ⟨b1, b2, b3, b4, b5, b6, b7, b8, b9, b10, b11⟩ := gS.1 j hj
    by_cases e : j = i
    · subst e
      unfold cSi
      rw [li, cyR_19, cyR_16, upd_at, upd_at]
      refine ⟨b1, b2, b3, e34, GL_cg (lg := Q v) ⟨fun a ha => (gS.2 v).1 a (by omega), fun a b hab hb => (gS.2 v).2 a b hab (by omega)⟩ (fun a ha => by rw [gi a ha]; exact hlog a ha), b6, zb_1, b8, b9, fun c1 c2 => ?_, fun c1 c2 _ => ?_⟩
      · have c2 : vp (xv r j) = nI j := c2
        rw [hv] at c2
        exact absurd c2 hvp
      · have e : xv (cyR r j p) j = v := hv
        rw [e]
        exact ⟨hm, fun a ha => by rw [gi a ha]; exact hlog a ha, hE⟩
    · unfold cSi
      rw [lj j e, cyR_19, cyR_16, upd_ne e, upd_ne e]
      refine ⟨b1, b2, b3, b4, GL_cg b5 (gj j hj e), b6, b7, b8, b9, fun c1 c2 => ?_, fun c1 c2 c3 => ?_⟩
      · exact ⟨fun a ha => by rw [gj j hj e a ha]; exact (b10 c1 c2).1 a ha, (b10 c1 c2).2⟩
      · obtain ⟨d1, d2, d3⟩ := b11 c1 c2 c3
        exact ⟨d1, fun a ha => by rw [gj j hj e a ha]; exact d2 a ha, d3⟩
  · intro j
    rw [cyR_20, em]
    exact cpR_vp hp34 (by omega) (by omega) gU.2.1 gU.1 j
  · rw [cyR_19, upd_ne (by omega)]
    exact (gU.2.2.2.1 j hj).2
  · intro j hj
    obtain ⟨b1, b2, b3, b4, b5, b6, b7, b8, b9, b10, b11⟩ := kS j hj
    by_cases e : j = i
    · subst e
      unfold rSi
      rw [cyS_19, cyS_1 (by omega), cyS_1 (by omega), cyS_1 (by omega), cyS_1 (by omega), cyS_1 (by omega), cyS_1 (by omega), cyR_16, upd_at, upd_at, li]
      exact ⟨b1, b2, b3, b4, rfl, b6, b7, b8, b9, b10, SR_congr hS (bs_3 (π := π)) (fun k hk => bs_9 (π := π) hk) (fun k hk => bs_13 (π := π) hk) (fun k hk => bs_14 (π := π) hk) (fun a ha => (gi a ha).symm) (fun _ _ => rfl) (fun _ _ => rfl) (fun _ _ => rfl) (fun _ _ => rfl)⟩
    · obtain ⟨q1, q2, q3, q4⟩ := s9j j e
      unfold rSi
      rw [cyS_19, cyS_1 (by omega), cyS_1 (by omega), cyS_1 (by omega), cyS_1 (by omega), cyS_1 (by omega), cyS_1 (by omega), cyR_16, upd_ne e, upd_ne e, lj j e]
      exact ⟨b1, b2, b3, b4, b5, b6, b7, b8, b9, b10, SR_congr b11 (q1 3) (fun k _ => by rw [q2]) (fun k _ => by rw [q3]) (fun k _ => by rw [q4]) (fun a ha => (gj j hj e a ha).symm) (fun _ _ => rfl) (fun _ _ => rfl) (fun _ _ => rfl) (fun _ _ => rfl)⟩
theorem fill_ar (ht : t ≤ 512) (hn5 : n ≤ 5) (h : INV n t (some p) s π r vp vb T Q) (hi : i < n) (hL : L ≠ nxL (s 4 2 0) π) (hp34 : p < 34) (hv0 : 1 ≤ v) (hv2 : v ≤ xv r 5) (e30 : r 30 0 p = nI v) (e31 : r 31 0 p = vp v) (e32 : r 32 0 p = vb v) (e29 : vb v = nI i) (hE : ENT n r vp v) (hm : m ≤ T v) (e34 : r 34 0 p = nI m) (hlog : ∀ a, a < m → lgL r p a = Q v a) (l0 : s 6 0 (8 + L) = r 30 0 p) (l1 : s 6 1 (8 + L) = r 31 0 p) (l2 : BR (s 6 2 (8 + L)) (r 32 0 p)) (l3 : SR s r (8 + L) (lgL r p) m) : AR n t (some p) s π L (S_Store_takeFill n π s i L) (S_Model_fill r (nI p) (nI i)) (v_Store_takeFill n π s i L) (v_Model_fill r (nI p) (nI i)) := by
  have h31 : v < 2 ^ 31 := Nat.lt_of_le_of_lt hv2 (Int32.toNatClampNeg_lt _)
  have hx31 : xv r i < 2 ^ 31 := Int32.toNatClampNeg_lt _
  have hcS := h.2.2.2.2.1.1 i hi
  have hrS := h.2.2.2.2.2.2.2.2.2.1 i hi
  have c8 : r 8 0 i = nI (xv r i) := hcS.1
  have s60 : s 6 0 i = nI (xv r i) := hrS.2.2.2.2.2.2.1.trans c8
  have h10 : s 1 0 i = nI i := hrS.1
  have s19 : s 1 9 i = r 16 0 i := hrS.2.2.2.2.1
  obtain ⟨⟨a, ha, ea⟩, -, hne⟩ := h.2.1.2.1 v hv0 hv2
  have hvp : vp v ≠ nI i := fun e => hne (e.trans e29.symm)
  have b5 : ∀ (X : S3) (k x : Int32), sBut X (S_View_become π (S_Post_next π X k x) (8 + nxL (X 4 2 0) π) i) (nxL (X 4 2 0) π) := fun X k x => sBut_view (sBut_next _ _) _
  rw [e30] at l0
  rw [e31] at l1
  rw [e32] at l2
  unfold S_Store_takeFill S_Model_fill v_Store_takeFill v_Model_fill
  rw [nI_clamp (show i < 2 ^ 31 by omega), nI_clamp (show p < 2 ^ 31 by omega), e30, e31, e32, l0, s60]
  by_cases q1 : xv r i ≤ v
  · have q1' : nI (xv r i) ≤ nI v := by rw [nI_leI hx31 h31]; exact q1
    by_cases q2 : v ≤ xv r i
    · have q2' : nI v ≤ nI (xv r i) := by rw [nI_leI h31 hx31]; exact q2
      have hv : xv r i = v := by omega
      have z : r 8 0 i ≠ 0 := by rw [c8]; exact nI_ne0 (by omega) hx31
      have s61 : s 6 1 i = nI a := by rw [(hrS.2.2.2.2.2.2.2.2.1 z).1, (hcS.2.2.1 (by omega)).1, hv]; exact ea
      rw [c8]
      simp only [if_pos q1', if_pos q2']
      rw [s19]
      by_cases hf : r 16 0 i = 0
      · simp only [if_pos hf]
        have e1 := copy_inv (π := π) ht hn5 h hi hp34 hv (by omega) hvp e34 hm hlog hE l3
        have e2 := filled_inv (i := i) (x := s 6 1 i) (y := vp v) (N := nI v) ht hn5 e1 ha s61 ea (by rw [← hv]; exact s60)
        exact ⟨rfl, (b5 (cyS π s i (8 + L)) 4 (s 6 1 i)).2.2.2.2.2.1 3 L hL, vp, vb, T, Q, e2⟩
      · simp only [if_neg hf]
        have e2 := filled_inv (i := i) (x := s 6 1 i) (y := vp v) (N := nI v) ht hn5 h ha s61 ea (by rw [← hv]; exact s60)
        exact ⟨rfl, (b5 s 4 (s 6 1 i)).2.2.2.2.2.1 3 L hL, vp, vb, T, Q, e2⟩
    · have q2' : ¬ nI v ≤ nI (xv r i) := by rw [nI_leI h31 hx31]; exact q2
      have eE : S_Store_enterView n π s i (8 + L) = eS π s i (8 + L) 0 := by
        unfold S_Store_enterView
        rw [u3_at, l1, h10, isP_eq, if_neg hvp, if_pos rfl]
        rfl
      have k1 := enter_no (π := π) hn5 h hi (by omega) hv2 l0 l1 l2 hvp
      have xF : xv (S_Model_enter r (nI i) (nI v) (vp v) (vb v)) i = v := by
        rw [enter_ne hvp, nI_clamp (show i < 2 ^ 31 by omega)]
        show (upd (r 8 0) i (nI v) i).toNatClampNeg = v
        rw [upd_at, nI_clamp h31]
      have xFj : ∀ j, j ≠ i → xv (S_Model_enter r (nI i) (nI v) (vp v) (vb v)) j = xv r j := fun j hj => by
        rw [enter_ne hvp, nI_clamp (show i < 2 ^ 31 by omega)]
        show (upd (r 8 0) i (nI v) j).toNatClampNeg = xv r j
        rw [upd_ne hj]; rfl
      have EF : ENT n (S_Model_enter r (nI i) (nI v) (vp v) (vb v)) vp v := by
        obtain ⟨b, hb, f1, f2⟩ := hE
        refine ⟨b, hb, f1, ?_⟩
        rw [xFj b (fun e => hvp (by rw [f1, e]))]
        exact f2
      have F16 : S_Model_enter r (nI i) (nI v) (vp v) (vb v) 16 0 i = 0 := by rw [enter_ne hvp, nI_clamp (show i < 2 ^ 31 by omega)]; exact u3_at
      have F34 : S_Model_enter r (nI i) (nI v) (vp v) (vb v) 34 0 p = r 34 0 p := by rw [enter_ne hvp]; rfl
      have F30 : S_Model_enter r (nI i) (nI v) (vp v) (vb v) 30 0 p = nI v := by rw [enter_ne hvp]; exact e30
      have F31 : S_Model_enter r (nI i) (nI v) (vp v) (vb v) 31 0 p = vp v := by rw [enter_ne hvp]; exact e31
      have F36 : S_Model_enter r (nI i) (nI v) (vp v) (vb v) 36 = r 36 := by rw [enter_ne hvp]; rfl
      have F0 : S_Model_enter r (nI i) (nI v) (vp v) (vb v) 0 = r 0 := by rw [enter_ne hvp]; rfl
      have F27 : S_Model_enter r (nI i) (nI v) (vp v) (vb v) 27 = r 27 := by rw [enter_ne hvp]; rfl
      have FS : SR (eS π s i (8 + L) 0) (S_Model_enter r (nI i) (nI v) (vp v) (vb v)) (8 + L) (lgL (S_Model_enter r (nI i) (nI v) (vp v) (vb v)) p) m := by rw [enter_ne hvp]; exact l3
      have Fl : ∀ a, a < m → lgL (S_Model_enter r (nI i) (nI v) (vp v) (vb v)) p a = Q v a := fun a ha => by unfold lgL; rw [F36]; exact hlog a ha
      have e19 : eS π s i (8 + L) 0 1 9 i = 0 := by rw [eS_19, upd_at]
      have e61 : eS π s i (8 + L) 0 6 1 i = nI a := by rw [eS_61, l1]; exact ea
      have e60 : eS π s i (8 + L) 0 6 0 i = nI v := by rw [eS_60]; exact l0
      have e1 := copy_inv (π := π) ht hn5 k1 hi hp34 xF (by omega) hvp (F34.trans e34) hm Fl EF FS
      have e2 := filled_inv (i := i) (x := eS π s i (8 + L) 0 6 1 i) (y := S_Model_enter r (nI i) (nI v) (vp v) (vb v) 31 0 p) (N := S_Model_enter r (nI i) (nI v) (vp v) (vb v) 30 0 p) ht hn5 e1 ha e61 (F31.trans ea) (F30.symm ▸ e60)
      rw [c8]
      simp only [if_pos q1', if_neg q2', eE, if_pos e19, if_pos F16]
      exact ⟨rfl, (b5 (cyS π (eS π s i (8 + L) 0) i (8 + L)) 4 _).2.2.2.2.2.1 3 L hL, vp, vb, T, Q, e2⟩
  · have q1' : ¬ nI (xv r i) ≤ nI v := by rw [nI_leI hx31 h31]; exact q1
    rw [c8]
    simp only [if_neg q1']
    exact ⟨rfl, rfl, vp, vb, T, Q, inv_t h⟩
theorem ready_inv (h : INV n t tk s π r vp vb T Q) : INV n t tk (u3 s 1 7 i 1) π (u3 r 15 0 i 1) vp vb T Q := by
  obtain ⟨gA, gV, gO, gC, gS, gU, gB, gL, kG, kS, kC, kP, kL⟩ := h
  refine ⟨gA, gV, gO, gC, ⟨fun j hj => ?_, gS.2⟩, gU, gB, gL, kG, fun j hj => ?_, kC, kP, kL⟩
  · obtain ⟨b1, b2, b3, b4, b5, b6, b7, b8, b9, b10⟩ := gS.1 j hj
    refine ⟨b1, b2, b3, b4, b5, zb_upd zb_1 b6, b7, b8, ?_, b10⟩
    rcases b9 with e | ⟨o, ho, e1, e2, e3, e4⟩
    · exact Or.inl e
    · refine Or.inr ⟨o, ho, e1, e2, e3, ?_⟩
      show upd (r 15 0) i 1 j = 1
      by_cases e : j = i
      · rw [e, upd_at]
      · rw [upd_ne e]; exact e4
  · obtain ⟨b1, b2, b3, b4, b5, b6, b7, b8, b9, b10, b11⟩ := kS j hj
    exact ⟨b1, b2, b3, b4, b5, b6, b7, b8, b9, fun c1 c2 => upd_eq (b10 c1 c2), b11⟩
theorem pof_eq {N : Int32} : v_Server_isPrimaryOf (s 6 0 i) (s 6 1 i) (s 1 0 i) N = if s 6 0 i = N then v_Server_isPrimary (s 6 1 i) (s 1 0 i) else 0 := rfl
theorem filledBack_ar (ht : t ≤ 512) (hn5 : n ≤ 5) (h : INV n t tk s π r vp vb T Q) (hi : i < n) (hp34 : p < 34) (l0 : s 6 0 (8 + L) = r 30 0 p) : AR n t tk s π L (S_Store_takeFilled n π s i L) (S_Model_filledBack r (nI p) (nI i)) (v_Store_takeFilled n π s i L) (v_Model_filledBack r (nI p) (nI i)) := by
  have s60 : s 6 0 i = r 8 0 i := (h.2.2.2.2.2.2.2.2.2.1 i hi).2.2.2.2.2.2.1
  unfold S_Store_takeFilled S_Model_filledBack v_Store_takeFilled v_Model_filledBack
  rw [nI_clamp (show i < 2 ^ 31 by omega), nI_clamp (show p < 2 ^ 31 by omega), pof_eq, l0, s60]
  have old : AR n t tk s π L s r 0 0 := ⟨rfl, rfl, vp, vb, T, Q, inv_t h⟩
  by_cases q : r 30 0 p = r 8 0 i
  · have q' : r 8 0 i = r 30 0 p := q.symm
    simp only [if_pos q, if_pos q']
    rcases lead_eq hn5 hi h with ⟨a1, a2, -⟩ | ⟨a1, a2, a3, -⟩
    · simp only [a1, a2, eq_self, if_true]; exact old
    · simp only [a1, a2, a3, one0, if_false]
      by_cases h15 : r 15 0 i = 0
      · simp only [if_pos h15]
        exact ⟨rfl, rfl, vp, vb, T, Q, inv_t (ready_inv h)⟩
      · simp only [if_neg h15]; exact old
  · have q' : ¬ r 8 0 i = r 30 0 p := fun e => q e.symm
    simp only [if_neg q, if_neg q', eq_self, if_true]; exact old
end FI
