/-! a write is done; a PASS arrives, a PASSED arrives -/
def pfR (r : S3) (i o : Nat) : S3 := u3 (u3 (u3 r 18 0 i (-1)) 20 0 (180 * i + xl r i) (nI o)) 19 0 i (nI (xl r i + 1))
def pfS (s : S3) (i w cl ce : Nat) : S3 := u3 (u3 (u3 (u3 (u3 s 1 8 i 0) 14 i cl (s 9 i ce)) 9 i ce (s 7 4 w)) 13 i cl (s 7 1 w)) 8 3 i (s 8 3 i + 1)
/-- the log with one more -/
def nl (r : S3) (i o a : Nat) : Int32 := if a = xl r i then nI o else lgS r i a
section PF2
variable {n t : Nat} {tk : Option Nat} {s : S3} {π : Nat → Nat} {r : S3} {vp vb : Nat → Int32} {T T' : Nat → Nat} {Q Q' : Nat → Nat → Int32} {i v w o L p m cl ce : Nat}
theorem nar_op {o : Nat} (h : o < 512) : vp_nar .short ((nI o).toInt16.toInt32) = nI o := by
  have key : ∀ j : Nat, j < 512 → vp_nar .short ((nI j).toInt16.toInt32) = nI j := by decide +kernel
  exact key o h
theorem pfR_eq (hi : i < 5) (h19 : r 19 0 i = nI (xl r i)) (hl : xl r i < 180) (ho : o < 512) : S_Model_perform (u3 r 18 0 i (-1)) (nI i) (nI o) = pfR r i o := by
  unfold S_Model_perform pfR
  have e : (u3 r 18 0 i (-1)) 19 0 i = nI (xl r i) := h19
  rw [nI_clamp (show i < 2 ^ 31 by omega), e, clamp_180 (by omega) hl rfl, nar_op ho, nI_1]
theorem pfS_eq (h0 : s 7 0 w = nI cl) (h3 : s 7 3 w = nI ce) (hcl : cl < 3) (hce : ce < 4) : S_State_doWrite π (u3 s 1 8 i 0) i w = pfS s i w cl ce := by
  unfold S_State_doWrite pfS
  have e0 : (u3 s 1 8 i 0) 7 0 w = nI cl := h0
  have e3 : (u3 s 1 8 i 0) 7 3 w = nI ce := h3
  rw [e0, e3, nI_clamp (by omega), nI_clamp (by omega)]
  rfl
theorem pfR_18 : pfR r i o 18 0 = upd (r 18 0) i (-1) := by
  unfold pfR; rw [u3_k (by omega), u3_k (by omega), u3_row]
theorem pfR_20 : pfR r i o 20 0 = upd (r 20 0) (180 * i + xl r i) (nI o) := by
  unfold pfR; rw [u3_k (by omega), u3_row, u3_k (by omega)]
theorem pfR_19 : pfR r i o 19 0 = upd (r 19 0) i (nI (xl r i + 1)) := by
  unfold pfR; rw [u3_row, u3_k (by omega), u3_k (by omega)]
theorem pfS_18 : pfS s i w cl ce 1 8 = upd (s 1 8) i 0 := by
  unfold pfS; rw [u3_k (by omega), u3_k (by omega), u3_k (by omega), u3_k (by omega), u3_row]
theorem pfS_1 {b : Nat} (hb : b ≠ 8) : pfS s i w cl ce 1 b = s 1 b := by
  funext x
  unfold pfS; rw [u3_k (by omega), u3_k (by omega), u3_k (by omega), u3_k (by omega), u3_sl hb]
theorem pfS_14 : pfS s i w cl ce 14 i = upd (s 14 i) cl (s 9 i ce) := by
  unfold pfS; rw [u3_k (by omega), u3_k (by omega), u3_k (by omega), u3_row, u3_k (by omega)]
theorem pfS_9 : pfS s i w cl ce 9 i = upd (s 9 i) ce (s 7 4 w) := by
  unfold pfS; rw [u3_k (by omega), u3_k (by omega), u3_row, u3_k (by omega), u3_k (by omega)]
theorem pfS_13 : pfS s i w cl ce 13 i = upd (s 13 i) cl (s 7 1 w) := by
  unfold pfS; rw [u3_k (by omega), u3_row, u3_k (by omega), u3_k (by omega), u3_k (by omega)]
theorem pfS_8 : pfS s i w cl ce 8 3 i = s 8 3 i + 1 := u3_at
theorem pfS_x {x : Nat} (hx : x ≠ i) : (∀ b, pfS s i w cl ce 8 b x = s 8 b x) ∧ pfS s i w cl ce 9 x = s 9 x ∧ pfS s i w cl ce 13 x = s 13 x ∧ pfS s i w cl ce 14 x = s 14 x := by
  refine ⟨fun b => ?_, ?_, ?_, ?_⟩
  · unfold pfS; rw [u3_ne hx]; rfl
  · unfold pfS u3; rw [uA_k (by omega), uA_k (by omega), uA_ne hx, uA_k (by omega), uA_k (by omega)]
  · unfold pfS u3; rw [uA_k (by omega), uA_ne hx, uA_k (by omega), uA_k (by omega), uA_k (by omega)]
  · unfold pfS u3; rw [uA_k (by omega), uA_k (by omega), uA_k (by omega), uA_ne hx, uA_k (by omega)]
theorem perf_inv (ht : t ≤ 512) (hn5 : n ≤ 5) (h : INV n t tk s π r vp vb T Q) (hi : i < n) (ho : o < xb r) (hOR : OR s r w (nI o)) (hGL : GL r (nl r i o) (xl r i + 1)) (hQ : ∀ u, GL r (Q' u) (T' u)) (hmo : ∀ u, T u ≤ T' u ∧ ∀ a, a < T u → Q' u a = Q u a) (hJ : ∀ j, j < n → j ≠ i → xv r j ≠ 0 → vp (xv r j) = nI j → T' (xv r j) = T (xv r j)) (hP : xv r i ≠ 0 → vp (xv r i) = nI i → (∀ a, a < xl r i + 1 → nl r i o a = Q' (xv r i) a) ∧ T' (xv r i) = xl r i + 1) (hB : xv r i ≠ 0 → vb (xv r i) = nI i → r 16 0 i ≠ 0 → xl r i + 1 ≤ T' (xv r i) ∧ (∀ a, a < xl r i + 1 → nl r i o a = Q' (xv r i) a) ∧ ENT n r vp (xv r i)) : INV n t tk (S_State_doWrite π (u3 s 1 8 i 0) i w) π (S_Model_perform (u3 r 18 0 i (-1)) (nI i) (nI o)) vp vb T' Q' := by
  have hb := xb_le ht h.2.2.1 h.2.2.2.1
  have hxl : ∀ j, j < n → xl r j ≤ 172 := fun j hj => xl_le ht h hj
  obtain ⟨gA, gV, gO, gC, gS, gU, gB, gL, kG, kS, kC, kP, kL⟩ := h
  obtain ⟨⟨cl, hcl, r3, -⟩, -, -, ⟨ce, hce, r5⟩, -⟩ := gO.2.1 o ho
  have eo : (nI o).toNatClampNeg = o := nI_clamp (by omega)
  obtain ⟨o0, o1, o2, o3, o4⟩ := hOR
  rw [eo] at o0 o1 o2 o3 o4
  have hl := hxl i hi
  rw [pfS_eq (π := π) (i := i) (o0.trans r3) (o3.trans r5) hcl hce, pfR_eq (by omega) (gS.1 i hi).2.2.2.1 (by omega) (by omega)]
  have li : xl (pfR r i o) i = xl r i + 1 := by
    have : xl (pfR r i o) i = (pfR r i o 19 0 i).toNatClampNeg := rfl
    rw [this, pfR_19, upd_at, nI_clamp (by omega)]
  have lj : ∀ j, j ≠ i → xl (pfR r i o) j = xl r j := fun j hj => by
    have : xl (pfR r i o) j = (pfR r i o 19 0 j).toNatClampNeg := rfl
    rw [this, pfR_19, upd_ne hj]; rfl
  have gi : ∀ a, lgS (pfR r i o) i a = nl r i o a := fun a => by
    unfold lgS nl
    rw [pfR_20]
    by_cases e : a = xl r i
    · rw [if_pos e, e, upd_at]
    · rw [if_neg e, upd_ne (by omega)]; rfl
  have gj : ∀ j, j < n → j ≠ i → ∀ a, a < xl r j → lgS (pfR r i o) j a = lgS r j a := fun j hj hji a ha => by
    have := hxl j hj
    unfold lgS
    rw [pfR_20, upd_ne (by omega)]
  have hLR : ∀ L q, LR s r L q → i ≠ 8 + L → LR (pfS s i w cl ce) (pfR r i o) L q := fun L q h hne => by
    obtain ⟨a1, a2, a3, a4, a5, a6⟩ := h
    refine ⟨a1, a2, a3, a4, fun k => ?_, a6⟩
    obtain ⟨c1, c2, c3, c4⟩ := a5 k
    obtain ⟨q1, q2, q3, q4⟩ := pfS_x (s := s) (w := w) (cl := cl) (ce := ce) (Ne.symm hne)
    exact ⟨c1, c2, c3, SR_congr c4 (q1 3) (fun k _ => by rw [q2]) (fun k _ => by rw [q3]) (fun k _ => by rw [q4]) (fun _ _ => rfl) (fun _ _ => rfl) (fun _ _ => rfl) (fun _ _ => rfl) (fun _ _ => rfl)⟩
  refine ⟨gA, gV, gO, gC, ⟨?_, hQ⟩, ⟨?_, gU.2.1, gU.2.2.1, fun j hj => ⟨?_, ?_⟩, gU.2.2.2.2⟩, gB, ?_, kG, ?_, kC, kP, fun j hj => hLR _ _ (kL j hj) (by omega)⟩
  · intro j hj
    obtain ⟨b1, b2, b3, b4, b5, b6, b7, b8, b9, b10, b11⟩ := gS.1 j hj
    by_cases e : j = i
    · subst e
      unfold cSi
      rw [li, pfR_19, pfR_18, upd_at, upd_at]
      refine ⟨b1, b2, b3, rfl, GL_cg hGL (fun a _ => gi a), b6, b7, b8, Or.inl rfl, fun c1 c2 => ?_, fun c1 c2 c3 => ?_⟩
      · obtain ⟨d1, d2⟩ := hP c1 c2
        exact ⟨fun a ha => by rw [gi a]; exact d1 a ha, Or.inl ⟨rfl, d2⟩⟩
      · obtain ⟨d1, d2, d3⟩ := hB c1 c2 c3
        exact ⟨d1, fun a ha => by rw [gi a]; exact d2 a ha, d3⟩
    · unfold cSi
      rw [lj j e, pfR_19, pfR_18, upd_ne e, upd_ne e]
      refine ⟨b1, b2, b3, b4, GL_cg b5 (gj j hj e), b6, b7, b8, b9, fun c1 c2 => ?_, fun c1 c2 c3 => ?_⟩
      · have et : T' (xv r j) = T (xv r j) := hJ j hj e c1 c2
        have eq := (hmo (xv r j)).2
        obtain ⟨d1, d2⟩ := b10 c1 c2
        have hle : xl r j ≤ T (xv r j) := by rcases d2 with ⟨-, e⟩ | ⟨-, e, -⟩ <;> omega
        refine ⟨fun a ha => ?_, ?_⟩
        · rw [gj j hj e a ha]
          exact (d1 a ha).trans (eq a (by omega)).symm
        · rcases d2 with ⟨f1, f2⟩ | ⟨f1, f2, f3⟩
          · exact Or.inl ⟨f1, et.trans f2⟩
          · exact Or.inr ⟨f1, et.trans f2, (eq _ (by omega)).trans f3⟩
      · obtain ⟨d1, d2, d3⟩ := b11 c1 c2 c3
        obtain ⟨m1, m2⟩ := hmo (xv r j)
        exact ⟨Nat.le_trans d1 m1, fun a ha => by rw [gj j hj e a ha]; exact (d2 a ha).trans (m2 a (by omega)).symm, d3⟩
  · intro j
    rw [pfR_20]
    unfold upd
    split
    · exact vp_c (by omega) (by omega)
    · exact gU.1 j
  · rw [pfR_18, upd_ne (by omega)]
    exact (gU.2.2.2.1 j hj).1
  · rw [pfR_19, upd_ne (by omega)]
    exact (gU.2.2.2.1 j hj).2
  · intro j hj
    rcases gL j hj with g | g | ⟨g1, g2, u, h1, h2, h3, h4, h5, h6, h7, m, h8, h9, h10⟩ | g | ⟨g1, g2, u, h1, h2, h3, h4, m, h5, h6, h7⟩ | g
    · exact Or.inl g
    · exact Or.inr (Or.inl g)
    · exact Or.inr (Or.inr (Or.inl ⟨g1, g2, u, h1, h2, h3, h4, h5, h6, h7, m, Nat.le_trans h8 (hmo u).1, h9, fun a ha => (h10 a ha).trans ((hmo u).2 a (by omega)).symm⟩))
    · exact Or.inr (Or.inr (Or.inr (Or.inl g)))
    · exact Or.inr (Or.inr (Or.inr (Or.inr (Or.inl ⟨g1, g2, u, h1, h2, h3, h4, m, Nat.lt_of_lt_of_le h5 (hmo u).1, h6, ((hmo u).2 m h5).trans h7⟩))))
    · exact Or.inr (Or.inr (Or.inr (Or.inr (Or.inr g))))
  · intro j hj
    obtain ⟨b1, b2, b3, b4, b5, b6, b7, b8, b9, b10, b11⟩ := kS j hj
    by_cases e : j = i
    · subst e
      unfold rSi
      rw [pfS_18, pfS_1 (by omega), pfS_1 (by omega), pfS_1 (by omega), pfS_1 (by omega), pfS_1 (by omega), pfS_1 (by omega), pfR_18, upd_at, upd_at, li]
      refine ⟨b1, b2, b3, b4, b5, Or.inl ⟨rfl, rfl⟩, b7, b8, b9, b10, ?_⟩
      obtain ⟨g8, g9, g13, g14⟩ := b11
      have elast : lgS (pfR r j o) j (xl r j) = nI o := by rw [gi]; exact if_pos rfl
      have eold : ∀ a, a < xl r j → lgS r j a = lgS (pfR r j o) j a := fun a ha => by rw [gi]; exact (if_neg (by omega)).symm
      refine ⟨?_, fun k hk => ?_, fun c hc => ?_, fun c hc => ?_⟩
      · rw [pfS_8, g8, nI_1]
      · show pfS s j w cl ce 9 j k = (if r 5 0 (lgS (pfR r j o) j (xl r j)).toNatClampNeg = nI k then r 6 0 (lgS (pfR r j o) j (xl r j)).toNatClampNeg else hF (r 5 0) (r 6 0) (lgS (pfR r j o) j) (nI k) (xl r j))
        rw [elast, eo, r5, pfS_9]
        by_cases ek : ce = k
        · rw [if_pos (congrArg nI ek), ← ek, upd_at, o4]
        · rw [if_neg (fun e => ek ((nI_eq (by omega) (by omega)).mp e)), upd_ne (fun e => ek e.symm), g9 k hk]
          exact hF_congr (fun a ha => ⟨eold a ha, rfl, rfl⟩)
      · show pfS s j w cl ce 13 j c = (if r 3 0 (lgS (pfR r j o) j (xl r j)).toNatClampNeg = nI c then r 4 0 (lgS (pfR r j o) j (xl r j)).toNatClampNeg else lF (r 3 0) (r 4 0) (lgS (pfR r j o) j) (nI c) (xl r j))
        rw [elast, eo, r3, pfS_13]
        by_cases ek : cl = c
        · rw [if_pos (congrArg nI ek), ← ek, upd_at, o1]
        · rw [if_neg (fun e => ek ((nI_eq (by omega) (by omega)).mp e)), upd_ne (fun e => ek e.symm), g13 c hc]
          exact lF_congr (fun a ha => ⟨eold a ha, rfl, rfl⟩)
      · show pfS s j w cl ce 14 j c = (if r 3 0 (lgS (pfR r j o) j (xl r j)).toNatClampNeg = nI c then hF (r 5 0) (r 6 0) (lgS (pfR r j o) j) (r 5 0 (lgS (pfR r j o) j (xl r j)).toNatClampNeg) (xl r j) else sF (r 3 0) (r 5 0) (r 6 0) (lgS (pfR r j o) j) (nI c) (xl r j))
        rw [elast, eo, r3, r5, pfS_14]
        by_cases ek : cl = c
        · rw [if_pos (congrArg nI ek), ← ek, upd_at, g9 ce hce]
          exact hF_congr (fun a ha => ⟨eold a ha, rfl, rfl⟩)
        · rw [if_neg (fun e => ek ((nI_eq (by omega) (by omega)).mp e)), upd_ne (fun e => ek e.symm), g14 c hc]
          exact sF_congr (fun a ha => ⟨eold a ha, rfl, rfl, rfl⟩)
    · obtain ⟨q1, q2, q3, q4⟩ := pfS_x (s := s) (w := w) (cl := cl) (ce := ce) e
      unfold rSi
      rw [pfS_18, pfS_1 (by omega), pfS_1 (by omega), pfS_1 (by omega), pfS_1 (by omega), pfS_1 (by omega), pfS_1 (by omega), pfR_18, upd_ne e, upd_ne e, lj j e]
      exact ⟨b1, b2, b3, b4, b5, b6, b7, b8, b9, b10, SR_congr b11 (q1 3) (fun k _ => by rw [q2]) (fun k _ => by rw [q3]) (fun k _ => by rw [q4]) (fun a ha => (gj j hj e a ha).symm) (fun _ _ => rfl) (fun _ _ => rfl) (fun _ _ => rfl) (fun _ _ => rfl)⟩
theorem bof_eq {N : Int32} : v_Server_isBackupOf (s 6 0 i) (s 6 2 i) (s 1 0 i) N = if s 6 0 i = N then (if s 6 2 i = s 1 0 i then 1 else 0) else 0 := rfl
theorem pass_ar (ht : t ≤ 512) (hn5 : n ≤ 5) (h : INV n t tk s π r vp vb T Q) (hi : i < n) (hL : L ≠ nxL (s 4 2 0) π) (hp34 : p < 34) (hv0 : 1 ≤ v) (hv2 : v ≤ xv r 5) (e30 : r 30 0 p = nI v) (hE : ENT n r vp v) (hm : m < T v) (e33 : r 33 0 p = nI m) (e34 : Q v m = r 34 0 p) (l0 : s 6 0 (8 + L) = r 30 0 p) (l1 : s 5 7 L = r 33 0 p) (l2 : OR s r (8 + L) (r 34 0 p)) : AR n t tk s π L (S_Store_takePass n π s i L) (S_Model_pass r (nI p) (nI i)) (v_Store_takePass n π s i L) (v_Model_pass r (nI p) (nI i)) := by
  have h31 : v < 2 ^ 31 := Nat.lt_of_le_of_lt hv2 (Int32.toNatClampNeg_lt _)
  have hb := xb_le ht h.2.2.1 h.2.2.2.1
  have hTv := T_le ht h v
  have hcS := h.2.2.2.2.1.1 i hi
  have hrS := h.2.2.2.2.2.2.2.2.2.1 i hi
  have c8 : r 8 0 i = nI (xv r i) := hcS.1
  have s60 : s 6 0 i = r 8 0 i := hrS.2.2.2.2.2.2.1
  have h10 : s 1 0 i = nI i := hrS.1
  have s19 : s 1 9 i = r 16 0 i := hrS.2.2.2.2.1
  have s83 : s 8 3 i = r 19 0 i := hrS.2.2.2.2.2.2.2.2.2.2.1.trans hcS.2.2.2.1.symm
  have hGQ := h.2.2.2.2.1.2 v
  obtain ⟨o, ho, -, eo⟩ := vp_nI (hGQ.1 m hm)
  unfold S_Store_takePass S_Model_pass v_Store_takePass v_Model_pass
  rw [nI_clamp (show i < 2 ^ 31 by omega), nI_clamp (show p < 2 ^ 31 by omega), bof_eq, l0, s60, h10]
  have old : AR n t tk s π L s r 0 0 := ⟨rfl, rfl, vp, vb, T, Q, inv_t h⟩
  have b5 : ∀ (X : S3) (k x c : Int32), sBut X (u3 (S_View_become π (S_Post_next π X k x) (8 + nxL (X 4 2 0) π) i) 5 7 (nxL (X 4 2 0) π) c) (nxL (X 4 2 0) π) := fun X k x c => sBut_5 (sBut_view (sBut_next _ _) _) _ _
  by_cases q : r 30 0 p = r 8 0 i
  · have q' : r 8 0 i = r 30 0 p := q.symm
    have hv : xv r i = v := by
      rw [c8, e30] at q
      exact ((nI_eq h31 (Int32.toNatClampNeg_lt _)).mp q).symm
    have z : r 8 0 i ≠ 0 := by rw [c8]; exact nI_ne0 (by omega) (Int32.toNatClampNeg_lt _)
    obtain ⟨k1, k2⟩ := hrS.2.2.2.2.2.2.2.2.1 z
    have hbb : (s 6 2 i = nI i) ↔ (r 10 0 i = nI i) := by
      rcases k2 with ⟨a1, a2⟩ | ⟨j, hj, a1, a2⟩
      · rw [a1, a2]
        exact ⟨fun e => by rw [show (7 : Int32) = nI 7 from rfl, nI_eq (by omega) (by omega)] at e; omega, fun e => absurd e.symm (nI_ne_m1 (by omega))⟩
      · rw [a1, a2]
    simp only [if_pos q, if_pos q']
    by_cases q10 : r 10 0 i = nI i
    · have q62 := hbb.mpr q10
      simp only [if_pos q10, if_pos q62, one0, if_false]
      rw [s19]
      by_cases h16 : r 16 0 i = 0
      · simp only [if_pos h16]; exact old
      · simp only [if_neg h16]
        obtain ⟨r9, r10⟩ := hcS.2.2.1 (by omega)
        rw [hv] at r9 r10
        obtain ⟨⟨a, ha, ea⟩, -, hne⟩ := h.2.1.2.1 v hv0 hv2
        have hvb : vb v = nI i := r10.symm.trans q10
        have hvp : vp v ≠ nI i := fun e => hne (e.trans hvb.symm)
        have s61 : s 6 1 i = nI a := k1.trans (r9.trans ea)
        have N1 : s 6 0 i = r 30 0 p := s60.trans q'
        rw [s83, l1]
        by_cases h19 : r 19 0 i = r 33 0 p
        · simp only [if_pos h19]
          have hxm : xl r i = m := by
            rw [hcS.2.2.2.1, e33] at h19
            exact (nI_eq (Int32.toNatClampNeg_lt _) (by omega)).mp h19
          have p18 : r 18 0 i = -1 := by
            rcases hcS.2.2.2.2.2.2.2.2.1 with e | ⟨o, -, -, -, e, -⟩
            · exact e
            · rw [hv] at e; exact absurd e hvp
          have p8 : s 1 8 i = 0 := by
            rcases hrS.2.2.2.2.2.1 with ⟨e, -⟩ | ⟨-, e, -⟩
            · exact e
            · exact absurd p18 e
          obtain ⟨d1, d2, d3⟩ := hcS.2.2.2.2.2.2.2.2.2.2 (by omega) (by rw [hv]; exact hvb) h16
          rw [hv] at d1 d2 d3
          have hnl : ∀ a, a < xl r i + 1 → nl r i o a = Q v a := fun a ha => by
            unfold nl
            by_cases e : a = xl r i
            · rw [if_pos e, e, hxm, eo]
            · rw [if_neg e]; exact d2 a (by omega)
          have ei : (u3 s 1 8 i 0) = s := by have := u3_id s 1 8 i; rw [p8] at this; exact this
          have er : (u3 r 18 0 i (-1)) = r := by have := u3_id r 18 0 i; rw [p18] at this; exact this
          have e1 := perf_inv (π := π) (T' := T) (Q' := Q) (w := 8 + L) (o := o) ht hn5 h hi ho (by rw [← eo, e34]; exact l2) (GL_cg (lg := Q v) ⟨fun a ha => hGQ.1 a (by omega), fun a b hab hb => hGQ.2 a b hab (by omega)⟩ hnl) h.2.2.2.2.1.2 (fun u => ⟨Nat.le_refl _, fun _ _ => rfl⟩) (fun _ _ _ _ _ => rfl) (fun _ e => by rw [hv] at e; exact absurd e hvp) (fun _ _ _ => by rw [hv]; exact ⟨by omega, hnl, d3⟩)
          rw [ei, er, ← eo, e34] at e1
          have e2 := passed_inv (i := i) (x := s 6 1 i) (y := r 9 0 i) (N := r 30 0 p) (c := r 33 0 p) (d := r 33 0 p) ht hn5 e1 ha s61 (r9.trans ea) N1 rfl
          exact ⟨rfl, (b5 (S_State_doWrite π s i (8 + L)) 6 (s 6 1 i) (r 33 0 p)).2.2.2.2.2.1 3 L hL, vp, vb, T, Q, e2⟩
        · simp only [if_neg h19]
          have e2 := passed_inv (i := i) (x := s 6 1 i) (y := r 9 0 i) (N := r 30 0 p) (c := r 33 0 p) (d := r 33 0 p) ht hn5 h ha s61 (r9.trans ea) N1 rfl
          exact ⟨rfl, (b5 s 6 (s 6 1 i) (r 33 0 p)).2.2.2.2.2.1 3 L hL, vp, vb, T, Q, e2⟩
    · have q62 : ¬ s 6 2 i = nI i := fun e => q10 (hbb.mp e)
      simp only [if_neg q10, if_neg q62, eq_self, if_true]; exact old
  · have q' : ¬ r 8 0 i = r 30 0 p := fun e => q e.symm
    simp only [if_neg q, if_neg q', eq_self, if_true]; exact old
theorem ans_but {x : Int32} (X : S3) (w : Nat) : sBut X (S_Store_sendAnswer π X w x) (nxL (X 4 2 0) π) := sBut_5 (sBut_op (sBut_next _ _) _) _ _
theorem passed_ar (ht : t ≤ 512) (hn5 : n ≤ 5) (h : INV n t tk s π r vp vb T Q) (hi : i < n) (hL : L ≠ nxL (s 4 2 0) π) (hp34 : p < 34) (l0 : s 6 0 (8 + L) = r 30 0 p) (l1 : s 5 7 L = r 33 0 p) : AR n t tk s π L (S_Store_takePassed n π s i L) (S_Model_passed r (nI p) (nI i)) (v_Store_takePassed n π s i L) (v_Model_passed r (nI p) (nI i)) := by
  have hb := xb_le ht h.2.2.1 h.2.2.2.1
  have hxl := xl_le ht h hi
  have hcS := h.2.2.2.2.1.1 i hi
  have hrS := h.2.2.2.2.2.2.2.2.2.1 i hi
  have s60 : s 6 0 i = r 8 0 i := hrS.2.2.2.2.2.2.1
  have s83 : s 8 3 i = r 19 0 i := hrS.2.2.2.2.2.2.2.2.2.2.1.trans hcS.2.2.2.1.symm
  unfold S_Store_takePassed S_Model_passed v_Store_takePassed v_Model_passed
  rw [nI_clamp (show i < 2 ^ 31 by omega), nI_clamp (show p < 2 ^ 31 by omega), pof_eq, l0, s60]
  have old : AR n t tk s π L s r 0 0 := ⟨rfl, rfl, vp, vb, T, Q, inv_t h⟩
  by_cases q : r 30 0 p = r 8 0 i
  · have q' : r 8 0 i = r 30 0 p := q.symm
    simp only [if_pos q, if_pos q']
    rcases lead_eq hn5 hi h with ⟨a1, a2, -⟩ | ⟨a1, a2, a3, a4, a5, a6, a7⟩
    · simp only [a1, a2, eq_self, if_true]; exact old
    · simp only [a1, a2, one0, if_false]
      rcases hrS.2.2.2.2.2.1 with ⟨p1, p2⟩ | ⟨p1, p2, p3⟩
      · have n1 : r 18 0 i < 0 := by rw [p2]; decide
        simp only [p1, if_pos n1, eq_self, if_true]; exact old
      · rcases hcS.2.2.2.2.2.2.2.2.1 with e | ⟨o, ho, e18, -⟩
        · exact absurd e p2
        · have n1 : ¬ r 18 0 i < 0 := by rw [e18]; exact nI_pos (by omega)
          simp only [p1, if_neg n1, one0, if_false]
          rw [s83, l1]
          by_cases h19 : r 19 0 i = r 33 0 p
          · simp only [if_pos h19]
            obtain ⟨d1, d2⟩ := hcS.2.2.2.2.2.2.2.2.2.1 a4 a6
            rcases d2 with ⟨f1, -⟩ | ⟨-, f2, f3⟩
            · exact absurd f1 p2
            · have hnl : ∀ a, a < xl r i + 1 → nl r i o a = Q (xv r i) a := fun a ha => by
                unfold nl
                by_cases e : a = xl r i
                · rw [if_pos e, e, f3, e18]
                · rw [if_neg e]; exact d1 a (by omega)
              have hGQ := h.2.2.2.2.1.2 (xv r i)
              have hne := (h.2.1.2.1 (xv r i) (by omega) hcS.2.1).2.2
              rw [e18] at p3
              have e1 := perf_inv (π := π) (T' := T) (Q' := Q) (w := i) (o := o) ht hn5 h hi ho p3 (GL_cg (lg := Q (xv r i)) ⟨fun a ha => hGQ.1 a (by omega), fun a b hab hb => hGQ.2 a b hab (by omega)⟩ hnl) h.2.2.2.2.1.2 (fun u => ⟨Nat.le_refl _, fun _ _ => rfl⟩) (fun _ _ _ _ _ => rfl) (fun _ _ => ⟨hnl, f2⟩) (fun _ e => absurd (a6.trans e.symm) hne)
              obtain ⟨⟨cl, hcl, r3, -⟩, -, -, ⟨ce, hce, r5⟩, -⟩ := h.2.2.1.2.1 o ho
              have eo : (nI o).toNatClampNeg = o := nI_clamp (by omega)
              have e2 := answer_inv (w := i) (o := o) (x := (u3 (u3 s 1 8 i 0) 14 i (((u3 s 1 8 i 0) 7 0 i).toNatClampNeg) ((u3 s 1 8 i 0) 9 i (((u3 s 1 8 i 0) 7 3 i).toNatClampNeg))) 14 i (((u3 s 1 8 i 0) 7 0 i).toNatClampNeg)) ht hn5 e1 ho p3
              refine ⟨rfl, (ans_but (S_State_doWrite π (u3 s 1 8 i 0) i i) i).2.2.2.2.2.1 3 L hL, vp, vb, T, Q, ?_⟩
              have ev : (u3 (u3 s 1 8 i 0) 14 i (((u3 s 1 8 i 0) 7 0 i).toNatClampNeg) ((u3 s 1 8 i 0) 9 i (((u3 s 1 8 i 0) 7 3 i).toNatClampNeg))) 14 i (((u3 s 1 8 i 0) 7 0 i).toNatClampNeg) = hdF (r 5 0) (r 6 0) (r 20 0) (nI i) (r 5 0 (nI o).toNatClampNeg) (r 19 0 i).toNatClampNeg := by
                rw [u3_at, hdF_eq (by omega) (by show xl r i ≤ 180; omega), eo, r5]
                have e3 : (u3 s 1 8 i 0) 7 3 i = nI ce := p3.2.2.2.1.trans (by rw [eo]; exact r5)
                rw [e3, nI_clamp (by omega)]
                exact hrS.2.2.2.2.2.2.2.2.2.2.2.1 ce hce
              rw [e18, ← ev]
              exact e2
          · simp only [if_neg h19]; exact old
  · have q' : ¬ r 8 0 i = r 30 0 p := fun e => q e.symm
    simp only [if_neg q, if_neg q', eq_self, if_true]; exact old
end PF2
