/-! begin -/
def bR (r : S3) (c b : Nat) (w k v : Int32) : S3 := u3 (u3 (u3 (u3 (u3 (u3 (u3 (u3 r 22 0 c (r 22 0 c + 1)) 3 0 b (nI c)) 4 0 b (r 22 0 c + 1)) 5 0 b k) 6 0 b v) 7 0 b w) 21 0 c (r 0 2 0)) 0 2 0 (r 0 2 0 + 1)
section BG
variable {n t : Nat} {tk : Option Nat} {s s' : S3} {π : Nat → Nat} {r r' : S3} {vp vb : Nat → Int32} {T : Nat → Nat} {Q : Nat → Nat → Int32} {c b : Nat} {w k v : Int32}
theorem bR_22 : bR r c b w k v 22 0 = upd (r 22 0) c (r 22 0 c + 1) := by
  unfold bR
  rw [u3_k (by omega), u3_k (by omega), u3_k (by omega), u3_k (by omega), u3_k (by omega), u3_k (by omega), u3_k (by omega), u3_row]
theorem bR_3 : bR r c b w k v 3 0 = upd (r 3 0) b (nI c) := by
  unfold bR
  rw [u3_k (by omega), u3_k (by omega), u3_k (by omega), u3_k (by omega), u3_k (by omega), u3_k (by omega), u3_row, u3_k (by omega)]
theorem bR_4 : bR r c b w k v 4 0 = upd (r 4 0) b (r 22 0 c + 1) := by
  unfold bR
  rw [u3_k (by omega), u3_k (by omega), u3_k (by omega), u3_k (by omega), u3_k (by omega), u3_row, u3_k (by omega), u3_k (by omega)]
theorem bR_5 : bR r c b w k v 5 0 = upd (r 5 0) b k := by
  unfold bR
  rw [u3_k (by omega), u3_k (by omega), u3_k (by omega), u3_k (by omega), u3_row, u3_k (by omega), u3_k (by omega), u3_k (by omega)]
theorem bR_6 : bR r c b w k v 6 0 = upd (r 6 0) b v := by
  unfold bR
  rw [u3_k (by omega), u3_k (by omega), u3_k (by omega), u3_row, u3_k (by omega), u3_k (by omega), u3_k (by omega), u3_k (by omega)]
theorem bR_7 : bR r c b w k v 7 0 = upd (r 7 0) b w := by
  unfold bR
  rw [u3_k (by omega), u3_k (by omega), u3_row, u3_k (by omega), u3_k (by omega), u3_k (by omega), u3_k (by omega), u3_k (by omega)]
theorem bR_21 : bR r c b w k v 21 0 = upd (r 21 0) c (r 0 2 0) := by
  unfold bR
  rw [u3_k (by omega), u3_row, u3_k (by omega), u3_k (by omega), u3_k (by omega), u3_k (by omega), u3_k (by omega), u3_k (by omega)]
theorem bR_2 : bR r c b w k v 0 2 0 = r 0 2 0 + 1 := u3_at
theorem upd_at {f : Nat → Int32} {j : Nat} {x : Int32} : upd f j x j = x := if_pos rfl
theorem upd_ne {f : Nat → Int32} {j i : Nat} {x : Int32} (h : i ≠ j) : upd f j x i = f i := if_neg h
theorem GL_mono {lg : Nat → Int32} {m : Nat} (h : GL r lg m) (hb : xb r ≤ xb r') (h3 : ∀ o, o < xb r → r' 3 0 o = r 3 0 o) (h4 : ∀ o, o < xb r → r' 4 0 o = r 4 0 o) : GL r' lg m := by
  refine ⟨fun a ha => vp_mono (h.1 a ha) hb, fun a b hab hb2 e => ?_⟩
  have ha1 := vp_lt (h.1 a (by omega))
  have hb1 := vp_lt (h.1 b (by omega))
  rw [h3 _ ha1, h3 _ hb1] at e
  have := h.2 a b hab hb2 e
  unfold xk at this ⊢
  rw [h4 _ ha1, h4 _ hb1]
  exact this
theorem OR_mono {x : Nat} {o : Int32} (h : OR s r x o) (hs : ∀ a, s' 7 a x = s 7 a x) (ho : vp_in o (xb r)) (h3 : ∀ o, o < xb r → r' 3 0 o = r 3 0 o) (h4 : ∀ o, o < xb r → r' 4 0 o = r 4 0 o) (h5 : ∀ o, o < xb r → r' 5 0 o = r 5 0 o) (h6 : ∀ o, o < xb r → r' 6 0 o = r 6 0 o) (h7 : ∀ o, o < xb r → r' 7 0 o = r 7 0 o) : OR s' r' x o := by
  have hl := vp_lt ho
  unfold OR at h ⊢
  rw [hs, hs, hs, hs, hs, h3 _ hl, h4 _ hl, h5 _ hl, h6 _ hl, h7 _ hl]
  exact h
theorem begin_inv (ht : t < 512) (hn5 : n ≤ 5) (h : INV n t none s π r vp vb T Q) (hc : c < 3) (hw : zb w) {kk : Nat} (hk : kk < 4) (hf : r 21 0 c = -1) : INV n (t + 1) none (S_Client_start π s c w (nI kk) v) π (bR r c (xb r) w (nI kk) v) vp vb T Q := by
  have hb := xb_le (by omega) h.2.2.1 h.2.2.2.1
  obtain ⟨cA, cV, cO, gC, cS, cU, cB, cL, rG, rS, rC, rP, rL⟩ := h
  have gA := cA
  have q : ∀ f : Nat → Int32, ∀ x, ∀ o, o < xb r → upd f (xb r) x o = f o := fun f x o ho => upd_ne (by omega)
  have t3 : ∀ o, o < xb r → bR r c (xb r) w (nI kk) v 3 0 o = r 3 0 o := fun o ho => by rw [bR_3]; exact q _ _ o ho
  have t4 : ∀ o, o < xb r → bR r c (xb r) w (nI kk) v 4 0 o = r 4 0 o := fun o ho => by rw [bR_4]; exact q _ _ o ho
  have t5 : ∀ o, o < xb r → bR r c (xb r) w (nI kk) v 5 0 o = r 5 0 o := fun o ho => by rw [bR_5]; exact q _ _ o ho
  have t6 : ∀ o, o < xb r → bR r c (xb r) w (nI kk) v 6 0 o = r 6 0 o := fun o ho => by rw [bR_6]; exact q _ _ o ho
  have t7 : ∀ o, o < xb r → bR r c (xb r) w (nI kk) v 7 0 o = r 7 0 o := fun o ho => by rw [bR_7]; exact q _ _ o ho
  have eb : xb (bR r c (xb r) w (nI kk) v) = xb r + 1 := by
    show (bR r c (xb r) w (nI kk) v 0 2 0).toNatClampNeg = _
    rw [bR_2, cO.1, nI_1, nI_clamp (by omega)]
  have ek : ∀ o, o < xb r → xk (bR r c (xb r) w (nI kk) v) o = xk r o := fun o ho => by unfold xk; rw [t4 o ho]
  have hsum := cO.2.2.2.2
  have hc3 : c = 0 ∨ c = 1 ∨ c = 2 := by omega
  have hxn : xn r c ≤ 172 := by rcases hc3 with rfl | rfl | rfl <;> omega
  have e22 : r 22 0 c = nI (xn r c) := (cO.2.2.2.1 c hc).1
  have enc : xn (bR r c (xb r) w (nI kk) v) c = xn r c + 1 := by
    show (bR r c (xb r) w (nI kk) v 22 0 c).toNatClampNeg = _
    rw [bR_22, upd_at, e22, nI_1, nI_clamp (by omega)]
  have eno : ∀ d, d ≠ c → xn (bR r c (xb r) w (nI kk) v) d = xn r d := fun d hd => by unfold xn; rw [bR_22, upd_ne hd]
  have exk : xk (bR r c (xb r) w (nI kk) v) (xb r) = xn r c + 1 := by
    unfold xk
    rw [bR_4, upd_at, e22, nI_1, nI_clamp (by omega)]
  have eex : xn r c = xe r c := by
    rcases (cO.2.2.2.1 c hc).2.2 with ⟨-, e⟩ | ⟨o, ho, e, -⟩
    · exact e
    · rw [hf] at e; exact absurd e.symm (nI_ne_m1 (by omega))
  have GLm : ∀ {lg m}, GL r lg m → GL (bR r c (xb r) w (nI kk) v) lg m := fun g => GL_mono g (by omega) t3 t4
  have s7 : ∀ x, x ≠ 5 + c → ∀ a, S_Client_start π s c w (nI kk) v 7 a x = s 7 a x := fun x hx a => by
    unfold S_Client_start
    rw [u3_k (by omega), u3_ne hx, u3_ne hx, u3_ne hx, u3_ne hx]
  have SRm : ∀ {x lg m}, SR s r x lg m → (∀ a, a < m → vp_in (lg a) (xb r)) → SR (S_Client_start π s c w (nI kk) v) (bR r c (xb r) w (nI kk) v) x lg m := fun h hv => SR_congr h rfl (fun _ _ => rfl) (fun _ _ => rfl) (fun _ _ => rfl) (fun _ _ => rfl) (fun a ha => (t3 _ (vp_lt (hv a ha))).symm) (fun a ha => (t4 _ (vp_lt (hv a ha))).symm) (fun a ha => (t5 _ (vp_lt (hv a ha))).symm) (fun a ha => (t6 _ (vp_lt (hv a ha))).symm)
  have hcc : S_Client_start π s c w (nI kk) v 7 1 (5 + c) = s 7 1 (5 + c) + 1 := by
    show (u3 (u3 (u3 (u3 (u3 s 7 1 (5 + c) ((s 7 1 (5 + c)) + 1)) 7 2 (5 + c) w) 7 3 (5 + c) (nI kk)) 7 4 (5 + c) v) 2 1 c 1) 7 1 (5 + c) = _
    rw [u3_k (by omega), u3_sl (by omega), u3_sl (by omega), u3_sl (by omega), u3_at]
  have hc0 : S_Client_start π s c w (nI kk) v 7 0 = s 7 0 := rfl
  have hc2 : S_Client_start π s c w (nI kk) v 7 2 (5 + c) = w := by
    unfold S_Client_start
    rw [u3_k (by omega), u3_sl (by omega), u3_sl (by omega), u3_at]
  have hc3' : S_Client_start π s c w (nI kk) v 7 3 (5 + c) = nI kk := by
    unfold S_Client_start
    rw [u3_k (by omega), u3_sl (by omega), u3_at]
  have hc4 : S_Client_start π s c w (nI kk) v 7 4 (5 + c) = v := by
    unfold S_Client_start
    rw [u3_k (by omega), u3_at]
  have h21 : S_Client_start π s c w (nI kk) v 2 1 = upd (s 2 1) c 1 := by
    unfold S_Client_start
    rw [u3_row, u3_k (by omega), u3_k (by omega), u3_k (by omega), u3_k (by omega)]
  have gO := cO
  have gS := cS
  refine ⟨⟨gA.1, ⟨gA.2.1.choose, by have := gA.2.1.choose_spec.1; omega, gA.2.1.choose_spec.2⟩, gA.2.2.1, Nat.le_succ_of_le gA.2.2.2⟩, cV, ⟨?_, ?_, ?_, ?_, ?_⟩, ?_, ⟨?_, fun v => GLm (gS.2 v)⟩, ?_, cB, ?_, rG, ?_, ?_, ?_, ?_⟩
  · rw [eb, bR_2, gO.1, nI_1]
  · intro o ho
    rw [eb] at ho
    by_cases e : o = xb r
    · subst e
      refine ⟨⟨c, hc, by rw [bR_3, upd_at], by rw [exk, enc]; exact Nat.le_refl _⟩, ?_, by omega, ⟨kk, hk, by rw [bR_5, upd_at]⟩, by rw [bR_7, upd_at]; exact hw⟩
      rw [exk, bR_4, upd_at, e22, nI_1]
    · have ho : o < xb r := by omega
      obtain ⟨⟨d, hd, e1, e2⟩, e3, e4, e5, e6⟩ := gO.2.1 o ho
      refine ⟨⟨d, hd, (t3 o ho).trans e1, ?_⟩, ?_, ?_, ?_, ?_⟩
      · rw [ek o ho]
        by_cases hdc : d = c
        · subst hdc; rw [enc]; omega
        · rw [eno d hdc]; exact e2
      · rw [ek o ho, t4 o ho]; exact e3
      · rw [ek o ho]; exact e4
      · rw [t5 o ho]; exact e5
      · rw [t7 o ho]; exact e6
  · intro o o' hoo ho' e
    rw [eb] at ho'
    have ho : o < xb r := by omega
    by_cases e2 : o' = xb r
    · subst e2
      rw [t3 o ho, bR_3, upd_at] at e
      obtain ⟨⟨d, hd, e1, e2⟩, -⟩ := gO.2.1 o ho
      rw [e1, nI_eq (by omega) (by omega)] at e
      subst e
      rw [ek o ho, exk]; omega
    · have ho' : o' < xb r := by omega
      rw [t3 o ho, t3 o' ho'] at e
      rw [ek o ho, ek o' ho']
      exact gO.2.2.1 o o' hoo ho' e
  · intro d hd
    by_cases hdc : d = c
    · subst hdc
      refine ⟨by rw [enc, bR_22, upd_at, e22, nI_1], (gO.2.2.2.1 d hd).2.1, Or.inr ⟨xb r, by omega, ?_, by rw [bR_3, upd_at], by rw [exk, enc], ?_⟩⟩
      · rw [bR_21, upd_at]; exact gO.1
      · rw [enc, eex]; rfl
    · obtain ⟨e1, e2, e3⟩ := gO.2.2.2.1 d hd
      refine ⟨by rw [eno d hdc, bR_22, upd_ne hdc]; exact e1, e2, ?_⟩
      rw [eno d hdc, bR_21, upd_ne hdc]
      rcases e3 with e3 | ⟨o, ho, f1, f2, f3, f4⟩
      · exact Or.inl e3
      · exact Or.inr ⟨o, by omega, f1, (t3 o ho).trans f2, (ek o ho).trans f3, f4⟩
  · rw [eb]
    rcases hc3 with rfl | rfl | rfl
    · rw [enc, eno 1 (by omega), eno 2 (by omega)]; omega
    · rw [enc, eno 0 (by omega), eno 2 (by omega)]; omega
    · rw [enc, eno 0 (by omega), eno 1 (by omega)]; omega
  · unfold cC at gC ⊢
    rw [eb]
    have e : cnt8 (fun j => (bR r c (xb r) w (nI kk) v) 28 0 (xo (bR r c (xb r) w (nI kk) v) j)) (xw (bR r c (xb r) w (nI kk) v)) = cnt8 (fun j => r 28 0 (xo r j)) (xw r) := rfl
    have e2 : ∀ d, xe (bR r c (xb r) w (nI kk) v) d = xe r d := fun d => rfl
    rw [e, e2, e2, e2]
    omega
  · intro i hi
    obtain ⟨b1, b2, b3, b4, b5, b6, b7, b8, b9, b10⟩ := gS.1 i hi
    refine ⟨b1, b2, b3, b4, GLm b5, b6, b7, b8, ?_, b10⟩
    rcases b9 with e | ⟨o, ho, e⟩
    · exact Or.inl e
    · exact Or.inr ⟨o, by omega, e⟩
  · refine ⟨cU.1, cU.2.1, cU.2.2.1, cU.2.2.2.1, fun d hd => ?_⟩
    rw [bR_21, upd_ne (by omega)]
    exact cU.2.2.2.2 d hd
  · intro j hj
    rcases cL j hj with g | g | g | g | g | g | ⟨g1, g2, o, ho, g3⟩ | g
    · exact Or.inl g
    · exact Or.inr (Or.inl g)
    · exact Or.inr (Or.inr (Or.inl g))
    · exact Or.inr (Or.inr (Or.inr (Or.inl g)))
    · exact Or.inr (Or.inr (Or.inr (Or.inr (Or.inl g))))
    · exact Or.inr (Or.inr (Or.inr (Or.inr (Or.inr (Or.inl g)))))
    · exact Or.inr (Or.inr (Or.inr (Or.inr (Or.inr (Or.inr (Or.inl ⟨g1, g2, o, by omega, g3⟩))))))
    · exact Or.inr (Or.inr (Or.inr (Or.inr (Or.inr (Or.inr (Or.inr g))))))
  · intro i hi
    obtain ⟨b1, b2, b3, b4, b5, b6, b7, b8, b9, b10, b11⟩ := rS i hi
    refine ⟨b1, b2, b3, b4, b5, ?_, b7, b8, b9, b10, SRm b11 (gS.1 i hi).2.2.2.2.1.1⟩
    rcases b6 with e | ⟨e1, e2, e3⟩
    · exact Or.inl e
    · refine Or.inr ⟨e1, e2, OR_mono e3 (s7 i (by omega)) ?_ t3 t4 t5 t6 t7⟩
      rcases (gS.1 i hi).2.2.2.2.2.2.2.2.1 with f | ⟨o, ho, f, -⟩
      · exact absurd f e2
      · exact (show vp_in (r 18 0 i) (xb r) by rw [f]; exact vp_c ho (by omega))
  · intro d hd
    obtain ⟨b1, b2, b3, b4, b5⟩ := rC d hd
    by_cases hdc : d = c
    · subst hdc
      refine ⟨by rw [hc0]; exact b1, by rw [hcc, bR_22, upd_at, b2], b3, b4, Or.inr ⟨by rw [h21, upd_at], ?_, ?_⟩⟩
      · rw [bR_21, upd_at, gO.1]; exact nI_ne_m1 (by omega)
      · rw [bR_21, upd_at]
        unfold OR
        have ez : (r 0 2 0).toNatClampNeg = xb r := rfl
        rw [ez, hc0, hcc, hc2, hc3', hc4, bR_3, bR_4, bR_5, bR_6, bR_7, upd_at, upd_at, upd_at, upd_at, upd_at, b2]
        exact ⟨b1, rfl, rfl, rfl, rfl⟩
    · refine ⟨by rw [hc0]; exact b1, by rw [s7 _ (by omega), bR_22, upd_ne hdc]; exact b2, b3, b4, ?_⟩
      rw [h21, bR_21, upd_ne hdc, upd_ne hdc]
      rcases b5 with e | ⟨e1, e2, e3⟩
      · exact Or.inl e
      · refine Or.inr ⟨e1, e2, OR_mono e3 (s7 _ (by omega)) ?_ t3 t4 t5 t6 t7⟩
        rcases (gO.2.2.2.1 d hd).2.2 with ⟨f, -⟩ | ⟨o, ho, f, -⟩
        · exact absurd f e2
        · rw [f]; exact vp_c ho (by omega)
  · refine ⟨rP.1, rP.2.1, rP.2.2.1, rP.2.2.2.1, fun x => ?_⟩
    obtain ⟨o1, o2, o3⟩ := rP.2.2.2.2 x
    by_cases hx : x = 5 + c
    · subst hx
      rw [hc0, hc2, hc3']
      exact ⟨o1, vp_c hk (by omega), hw⟩
    · rw [s7 x hx, s7 x hx, s7 x hx]
      exact ⟨o1, o2, o3⟩
  · intro j hj
    obtain ⟨l1, l2, l3, l4, l5, l6, l7, l8, l9, l10⟩ := rL j hj
    have d1 : ∀ a b : Int32, ¬ a = b → r 28 0 (xo r j) = a → r 28 0 (xo r j) = b → False := fun a b h e e2 => h (e.symm.trans e2)
    have s7L := s7 (8 + π j) (by omega)
    refine ⟨l1, l2, l3, l4, fun k3 => ?_, l6, fun k5 => ?_, l8, fun k7 => ?_, fun k8 => ?_⟩
    · obtain ⟨a1, a2, a3, a4⟩ := l5 k3
      refine ⟨a1, a2, a3, SRm a4 ?_⟩
      rcases cL j hj with ⟨g, -⟩ | ⟨g, -⟩ | ⟨g, -, v', -, -, -, -, -, -, -, m, hm, e34, hlog⟩ | ⟨g, -⟩ | ⟨g, -⟩ | ⟨g, -⟩ | ⟨g, -⟩ | ⟨g, -⟩
      · exact (d1 1 3 (by decide) g k3).elim
      · exact (d1 2 3 (by decide) g k3).elim
      · intro a ha
        have hT := GL_len (gS.2 v')
        have ha2 : a < m := by
          have e : (r 34 0 (xo r j)).toNatClampNeg = m := by rw [e34, nI_clamp (by omega)]
          have ha : a < (r 34 0 (xo r j)).toNatClampNeg := ha
          omega
        show vp_in (lgL r (xo r j) a) (xb r)
        rw [hlog a ha2]
        exact (gS.2 v').1 a (by omega)
      · exact (d1 4 3 (by decide) g k3).elim
      · exact (d1 5 3 (by decide) g k3).elim
      · exact (d1 6 3 (by decide) g k3).elim
      · exact (d1 7 3 (by decide) g k3).elim
      · exact (d1 8 3 (by decide) g k3).elim
    · obtain ⟨a1, a2, a3⟩ := l7 k5
      refine ⟨a1, a2, OR_mono a3 s7L ?_ t3 t4 t5 t6 t7⟩
      rcases cL j hj with ⟨g, -⟩ | ⟨g, -⟩ | ⟨g, -⟩ | ⟨g, -⟩ | ⟨g, -, v', -, -, -, -, m, hm, -, e34⟩ | ⟨g, -⟩ | ⟨g, -⟩ | ⟨g, -⟩
      · exact (d1 1 5 (by decide) g k5).elim
      · exact (d1 2 5 (by decide) g k5).elim
      · exact (d1 3 5 (by decide) g k5).elim
      · exact (d1 4 5 (by decide) g k5).elim
      · show vp_in (r 34 0 (xo r j)) (xb r)
        rw [← e34]
        exact (gS.2 v').1 m hm
      · exact (d1 6 5 (by decide) g k5).elim
      · exact (d1 7 5 (by decide) g k5).elim
      · exact (d1 8 5 (by decide) g k5).elim
    · refine OR_mono (l9 k7) s7L ?_ t3 t4 t5 t6 t7
      rcases cL j hj with ⟨g, -⟩ | ⟨g, -⟩ | ⟨g, -⟩ | ⟨g, -⟩ | ⟨g, -⟩ | ⟨g, -⟩ | ⟨g, -, o, ho, e34⟩ | ⟨g, -⟩
      · exact (d1 1 7 (by decide) g k7).elim
      · exact (d1 2 7 (by decide) g k7).elim
      · exact (d1 3 7 (by decide) g k7).elim
      · exact (d1 4 7 (by decide) g k7).elim
      · exact (d1 5 7 (by decide) g k7).elim
      · exact (d1 6 7 (by decide) g k7).elim
      · show vp_in (r 34 0 (xo r j)) (xb r)
        rw [e34]; exact vp_c ho (by omega)
      · exact (d1 8 7 (by decide) g k7).elim
    · rw [s7L 1]; exact l10 k8
theorem st_begin_ok (ht : t < 512) (hn5 : n ≤ 5) (h : INV n t none s π r vp vb T Q) : st_begin n (JJ n) t s π r := by
  intro x w k v hw
  have hi := inv_t h
  unfold v_Store_begin v_Model_begin S_Store_begin S_Model_begin
  rcases cli_cases x with ⟨c, hc, rfl, e1, e2⟩ | ⟨e1, e2⟩
  · rw [nI_clamp (show c < 2 ^ 31 by omega)]
    simp only [e1, e2, one0, eq_self, if_true, if_false]
    rcases cel_cases k with ⟨kk, hk, rfl, f1, f2, f3⟩ | ⟨f1, f2⟩
    · simp only [f1, if_neg f2, if_pos f3, one0, if_false]
      rcases (h.2.2.2.2.2.2.2.2.2.2.1 c hc).2.2.2.2 with ⟨g1, g2⟩ | ⟨g1, g2, -⟩
      · have hlt : r 21 0 c < 0 := by rw [g2]; decide
        simp only [g1, if_pos hlt, eq_self, if_true]
        refine ⟨?_, vp, vb, T, Q, begin_inv ht hn5 h hc hw hk g2⟩
        rw [u3_at, (h.2.2.2.2.2.2.2.2.2.2.1 c hc).2.1]
      · have hlt : ¬ r 21 0 c < 0 := by
          rcases (h.2.2.1.2.2.2.1 c hc).2.2 with ⟨f, -⟩ | ⟨o, ho, f, -⟩
          · exact absurd f g2
          · have : xb r < 2 ^ 31 := Int32.toNatClampNeg_lt _
            rw [f]; exact nI_pos (by omega)
        simp only [g1, if_neg hlt, one0, if_false]
        exact ⟨rfl, vp, vb, T, Q, hi⟩
    · simp only [f1, eq_self, if_true]
      rcases f2 with f2 | f2
      · simp only [if_pos f2]; exact ⟨rfl, vp, vb, T, Q, hi⟩
      · by_cases f3 : k < 0
        · simp only [if_pos f3]; exact ⟨rfl, vp, vb, T, Q, hi⟩
        · simp only [if_neg f3, if_neg f2]; exact ⟨rfl, vp, vb, T, Q, hi⟩
  · simp only [e1, e2, one0, eq_self, if_true, if_false]; exact ⟨rfl, vp, vb, T, Q, hi⟩
end BG
