/-! from what the constructors leave to worlds by roles -/
def cS0 : S3 := fun k a i => match k with
  | 1 => (match a with | 0 => nI i | 5 => -1000 | _ => 0)
  | 6 => (match a with | 0 => 0 | _ => 7)
  | 7 => (match a with | 0 => (if 5 ≤ i ∧ i < 8 then nI (i - 5) else 0) | _ => 0)
  | 15 => -1
  | _ => 0
def cP0 : Nat → Nat := fun j => if j < 33 then j else 0
def coff (n k i : Nat) : Nat := match k with
  | 0 => 0
  | 1 => 2 + 7 * i
  | 2 => 3 + 7 * n + 2 * i
  | 3 => 9 + 7 * n
  | 4 => 12 + 7 * n
  | 5 => if i = 33 then 14 + 7 * n else 21 + 7 * n + 7 * i
  | 6 => if i < 7 then 3 + 7 * i else if i = 7 then 10 + 7 * n else if i = 41 then 15 + 7 * n else 22 + 7 * n + 7 * (i - 8)
  | 7 => if i < 5 then 8 + 7 * i else if i < 8 then 4 + 7 * n + 2 * (i - 5) else if i = 41 then 16 + 7 * n else 23 + 7 * n + 7 * (i - 8)
  | 8 => if i < 8 then 4 + 7 * i else if i = 41 then 17 + 7 * n else 24 + 7 * n + 7 * (i - 8)
  | 9 => if i < 8 then 5 + 7 * i else if i = 41 then 18 + 7 * n else 25 + 7 * n + 7 * (i - 8)
  | 10 => 1
  | 11 => 2 + 7 * n
  | 12 => 13 + 7 * n
  | 13 => if i < 8 then 6 + 7 * i else if i = 41 then 19 + 7 * n else 26 + 7 * n + 7 * (i - 8)
  | 14 => if i < 8 then 7 + 7 * i else if i = 41 then 20 + 7 * n else 27 + 7 * n + 7 * (i - 8)
  | _ => 11 + 7 * n
def cad (n : Nat) (f : Nat → Nat) (k i : Nat) : Nat := f (coff n k i)
def b7 (o : Nat) : List Nat := [o, o + 1, o + 2, o + 3, o + 4, o + 5, o + 6]
def offs (n : Nat) : List Nat := 0 :: (2 + 7 * n) :: (((1 :: (List.range n).flatMap (fun i => b7 (2 + 7 * i))) ++ (List.range 3).flatMap (fun i => [2 + 7 * n + (1 + 2 * i), 2 + 7 * n + (1 + 2 * i + 1)])) ++ [9 + 7 * n, 9 + 7 * n + 1, 9 + 7 * n + 2]) ++ (12 + 7 * n) :: (12 + 7 * n + 1) :: (b7 (12 + 7 * n + 2) ++ (List.range 33).flatMap (fun x => b7 (12 + 7 * n + (9 + 7 * x))))
theorem offs_map {K : Nat → ClassId} {n : Nat} {f : Nat → Nat} : (wStore K n f).map Prod.fst = (offs n).map f := by
  simp only [wStore, offs, wSrv, wCli, wService, wPostJ, wServer, wClient, wLetter, b7, List.map_append, List.map_cons, List.map_nil, List.map_flatMap, List.cons_append, List.nil_append, List.append_assoc, Nat.add_zero, Nat.add_assoc]
theorem inj_of_nd {f : Nat → Nat} {l : List Nat} (h : (l.map f).Nodup) {a b : Nat} (ha : a ∈ l) (hb : b ∈ l) (e : f a = f b) : a = b := by
  induction l with
  | nil => cases ha
  | cons x t ih =>
    rw [List.map_cons, List.nodup_cons] at h
    rcases List.mem_cons.mp ha with ea | ha2
    · rcases List.mem_cons.mp hb with eb | hb2
      · rw [ea, eb]
      · refine absurd ?_ h.1
        rw [← ea, e]
        exact List.mem_map_of_mem hb2
    · rcases List.mem_cons.mp hb with eb | hb2
      · refine absurd ?_ h.1
        rw [← eb, ← e]
        exact List.mem_map_of_mem ha2
      · exact ih h.2 ha2 hb2
theorem nd_idx {α : Type} {l : List α} {g : α → Nat} (h : (l.map g).Nodup) {i j : Nat} {p q : α} (hi : l[i]? = some p) (hj : l[j]? = some q) (e : g p = g q) : i = j := by
  rw [List.Nodup, List.pairwise_iff_getElem] at h
  obtain ⟨a1, b1⟩ := List.getElem?_eq_some_iff.mp hi
  obtain ⟨a2, b2⟩ := List.getElem?_eq_some_iff.mp hj
  rcases Nat.lt_trichotomy i j with hl | hl | hl
  · have h9 := h i j (by simpa using a1) (by simpa using a2) hl
    simp only [List.getElem_map] at h9
    exact absurd (by rw [b1, b2]; exact e) h9
  · exact hl
  · have h9 := h j i (by simpa using a2) (by simpa using a1) hl
    simp only [List.getElem_map] at h9
    exact absurd (by rw [b1, b2]; exact e.symm) h9
set_option maxRecDepth 100000 in
theorem coff_nd2 : ((cRL 2).map (fun r => coff 2 r.1 r.2)).Nodup := by decide +kernel
set_option maxRecDepth 100000 in
theorem coff_in2 : ∀ r ∈ cRL 2, coff 2 r.1 r.2 ∈ offs 2 := by decide +kernel
set_option maxRecDepth 100000 in
theorem coff_nd3 : ((cRL 3).map (fun r => coff 3 r.1 r.2)).Nodup := by decide +kernel
set_option maxRecDepth 100000 in
theorem coff_in3 : ∀ r ∈ cRL 3, coff 3 r.1 r.2 ∈ offs 3 := by decide +kernel
set_option maxRecDepth 100000 in
theorem coff_nd4 : ((cRL 4).map (fun r => coff 4 r.1 r.2)).Nodup := by decide +kernel
set_option maxRecDepth 100000 in
theorem coff_in4 : ∀ r ∈ cRL 4, coff 4 r.1 r.2 ∈ offs 4 := by decide +kernel
set_option maxRecDepth 100000 in
theorem coff_nd5 : ((cRL 5).map (fun r => coff 5 r.1 r.2)).Nodup := by decide +kernel
set_option maxRecDepth 100000 in
theorem coff_in5 : ∀ r ∈ cRL 5, coff 5 r.1 r.2 ∈ offs 5 := by decide +kernel
theorem coff_ok {n : Nat} (h2 : 2 ≤ n) (h5 : n ≤ 5) : ((cRL n).map (fun r => coff n r.1 r.2)).Nodup ∧ ∀ r ∈ cRL n, coff n r.1 r.2 ∈ offs n := by
  have : n = 2 ∨ n = 3 ∨ n = 4 ∨ n = 5 := by omega
  rcases this with rfl | rfl | rfl | rfl
  · exact ⟨coff_nd2, coff_in2⟩
  · exact ⟨coff_nd3, coff_in3⟩
  · exact ⟨coff_nd4, coff_in4⟩
  · exact ⟨coff_nd5, coff_in5⟩
theorem cad_J {K : Nat → ClassId} {A : Nat → Prop} {n : Nat} {f : Nat → Nat} (h2 : 2 ≤ n) (h5 : n ≤ 5) (hD : va_D A (wStore K n f)) : zw_J (cRL n) (cad n f) := by
  intro i j p q hi hj e
  obtain ⟨c1, c2⟩ := coff_ok h2 h5
  have hn := n_nd.mp hD.1
  rw [offs_map] at hn
  exact nd_idx c1 hi hj (inj_of_nd hn (c2 p (List.mem_of_getElem? hi)) (c2 q (List.mem_of_getElem? hj)) e)
theorem cad_A {K : Nat → ClassId} {A : Nat → Prop} {n : Nat} {f : Nat → Nat} (h2 : 2 ≤ n) (h5 : n ≤ 5) (hD : va_D A (wStore K n f)) (q : Nat) (hq : zw_A (cRL n) (cad n f) q) : A q := by
  obtain ⟨r, hr, rfl⟩ := hq
  have hm : f (coff n r.1 r.2) ∈ (wStore K n f).map Prod.fst := by
    rw [offs_map]
    exact List.mem_map_of_mem ((coff_ok h2 h5).2 r hr)
  obtain ⟨x, hx, e⟩ := List.mem_map.mp hm
  obtain ⟨k, hk⟩ := List.getElem?_of_mem hx
  show A (f (coff n r.1 r.2))
  rw [← e]
  exact hD.2 k x hk
/-- membership in the store's list -/
theorem wq_0 {K : Nat → ClassId} {n : Nat} {f : Nat → Nat} : (f 0, .inr (0, [.ref (f 1), .ref (f (2 + 7 * n)), .ref (f (9 + 7 * n)), .ref (f (12 + 7 * n)), .int 0])) ∈ wStore K n f := by
  unfold wStore; simp
theorem wq_11 {K : Nat → ClassId} {n : Nat} {f : Nat → Nat} : (f (2 + 7 * n), .inl (K 4, 3, .inr (.inr (.inr (.inr (cliF 3 (fun k => f (2 + 7 * n + k)))))))) ∈ wStore K n f := by
  unfold wStore; simp
theorem wq_10 {K : Nat → ClassId} {n : Nat} {f : Nat → Nat} : (f 1, .inl (K 3, n, .inr (.inr (.inr (.inr (srvF n f)))))) ∈ wStore K n f := by
  unfold wStore; simp
theorem wq_s {K : Nat → ClassId} {n i : Nat} {f : Nat → Nat} {x : Nat × va_E} (hi : i < n) (hx : x ∈ wServer K (nI i) (fun k => f (2 + 7 * i + k))) : x ∈ wStore K n f := by
  have : x ∈ wSrv K n f := List.mem_flatMap.mpr ⟨i, List.mem_range.mpr hi, hx⟩
  unfold wStore
  simp only [List.mem_append, List.mem_cons]
  exact Or.inl (Or.inl (Or.inr (Or.inr (Or.inl (Or.inr this)))))
theorem wq_c {K : Nat → ClassId} {n i : Nat} {f : Nat → Nat} {x : Nat × va_E} (hi : i < 3) (hx : x ∈ wClient (nI i) (fun k => f (2 + 7 * n + (1 + 2 * i + k)))) : x ∈ wStore K n f := by
  have : x ∈ wCli 3 (fun k => f (2 + 7 * n + k)) := List.mem_flatMap.mpr ⟨i, List.mem_range.mpr hi, hx⟩
  unfold wStore
  simp only [List.mem_append, List.mem_cons]
  exact Or.inl (Or.inl (Or.inr (Or.inr (Or.inr this))))
theorem wq_v {K : Nat → ClassId} {n : Nat} {f : Nat → Nat} {x : Nat × va_E} (hx : x ∈ wService K n (fun k => f (9 + 7 * n + k))) : x ∈ wStore K n f := by
  unfold wStore
  simp only [List.mem_append]
  exact Or.inl (Or.inr hx)
theorem wq_p {K : Nat → ClassId} {n : Nat} {f : Nat → Nat} {x : Nat × va_E} (hx : x ∈ wPostJ K 33 (fun k => f (12 + 7 * n + k))) : x ∈ wStore K n f := by
  unfold wStore
  simp only [List.mem_append]
  exact Or.inr hx
theorem wq_l {K : Nat → ClassId} {n i : Nat} {f : Nat → Nat} {x : Nat × va_E} (hi : i < 33) (hx : x ∈ wLetter K (fun k => f (12 + 7 * n + (9 + 7 * i + k)))) : x ∈ wStore K n f := by
  refine wq_p ?_
  unfold wPostJ
  simp only [List.mem_append, List.mem_cons]
  exact Or.inr (Or.inr (Or.inr (List.mem_flatMap.mpr ⟨i, List.mem_range.mpr hi, hx⟩)))
theorem wq_l33 {K : Nat → ClassId} {n : Nat} {f : Nat → Nat} {x : Nat × va_E} (hx : x ∈ wLetter K (fun k => f (12 + 7 * n + (2 + k)))) : x ∈ wStore K n f := by
  refine wq_p ?_
  unfold wPostJ
  simp only [List.mem_append, List.mem_cons]
  exact Or.inr (Or.inr (Or.inl hx))
theorem at_i {D : va_G} {a n : Nat} {cA : ClassId} {f g : Nat → Int32} {H : Heap} (h : va_at D zCl (a, .inl (cA, n, .inl f)) H) (hfg : ∀ i, i < n → f i = g i) : va_at D zCl (a, .inl (cA, n, .inl g)) H := by
  have h1 : H[a]? = some (vp_cell cA (n, .inl f)) := h
  show H[a]? = some (vp_cell cA (n, .inl g))
  rw [h1, vp_cell_i, vp_cell_i, arrV_ext (fun i hi => by rw [hfg i hi])]
theorem at_q {D : va_G} {a n : Nat} {cA : ClassId} {f g : Nat → Option Nat} {H : Heap} (h : va_at D zCl (a, .inl (cA, n, .inr (.inr (.inr (.inr f))))) H) (hfg : ∀ i, i < n → f i = g i) : va_at D zCl (a, .inl (cA, n, .inr (.inr (.inr (.inr g))))) H := by
  have h1 : H[a]? = some (vp_cell cA (n, .inr (.inr (.inr (.inr f))))) := h
  show H[a]? = some (vp_cell cA (n, .inr (.inr (.inr (.inr g)))))
  rw [h1, vp_cell_q, vp_cell_q, arrV_ext (fun i hi => by rw [hfg i hi])]
set_option maxHeartbeats 4000000 in
theorem cad_P {D : va_G} {K : Nat → ClassId} {n : Nat} {f : Nat → Nat} {H : Heap} (h5 : n ≤ 5) (hP : va_P D zCl (wStore K n f) H) : va_P D zCl (zw_W (cRL n) (cad n f) (kC K (cad n f) n cS0 cP0)) H := by
  have hm := n_mem.mp hP
  have key : ∀ r ∈ cRL n, va_at D zCl (cad n f r.1 r.2, kC K (cad n f) n cS0 cP0 r.1 r.2) H := by
    intro r hr
    rcases rl_cases hr with rfl | rfl | ⟨i, hi, h⟩ | rfl | ⟨i, hi, h⟩ | h | ⟨i, hi, h⟩
    · exact hm _ wq_0
    · refine at_q (hm _ wq_10) (fun i hi => ?_)
      show srvF n f i = some (f (2 + 7 * i))
      exact if_pos hi
    · have a6 : cad n f 6 i = f (2 + 7 * i + 1) := by show f (if i < 7 then _ else _) = _; rw [if_pos (by omega)]; congr 1; omega
      have a7 : cad n f 7 i = f (2 + 7 * i + 6) := by show f (if i < 5 then _ else _) = _; rw [if_pos (by omega)]; congr 1; omega
      have a8 : cad n f 8 i = f (2 + 7 * i + 2) := by show f (if i < 8 then _ else _) = _; rw [if_pos (by omega)]; congr 1; omega
      have a9 : cad n f 9 i = f (2 + 7 * i + 3) := by show f (if i < 8 then _ else _) = _; rw [if_pos (by omega)]; congr 1; omega
      have a13 : cad n f 13 i = f (2 + 7 * i + 4) := by show f (if i < 8 then _ else _) = _; rw [if_pos (by omega)]; congr 1; omega
      have a14 : cad n f 14 i = f (2 + 7 * i + 5) := by show f (if i < 8 then _ else _) = _; rw [if_pos (by omega)]; congr 1; omega
      have s7 : cS0 7 0 i = 0 := if_neg (by omega)
      simp only [sB, List.mem_cons, List.not_mem_nil, or_false] at h
      rcases h with rfl | rfl | rfl | rfl | rfl | rfl | rfl
      · rw [kC_1, a6, a7, a8]; exact hm _ (wq_s hi (List.mem_of_getElem? (i := 0) rfl))
      · rw [kC_6, a6]; exact hm _ (wq_s hi (List.mem_of_getElem? (i := 1) rfl))
      · rw [kC_8, a8, a9, a13, a14]; exact hm _ (wq_s hi (List.mem_of_getElem? (i := 2) rfl))
      · rw [kC_9, a9]; exact hm _ (wq_s hi (List.mem_of_getElem? (i := 3) rfl))
      · rw [kC_13, a13]; exact hm _ (wq_s hi (List.mem_of_getElem? (i := 4) rfl))
      · rw [kC_14, a14]; exact hm _ (wq_s hi (List.mem_of_getElem? (i := 5) rfl))
      · rw [kC_7, a7, s7]; exact hm _ (wq_s hi (List.mem_of_getElem? (i := 6) rfl))
    · refine at_q (hm _ wq_11) (fun i hi => ?_)
      show cliF 3 _ i = some (f (3 + 7 * n + 2 * i))
      unfold cliF
      rw [if_pos hi]
      show some (f (2 + 7 * n + (1 + 2 * i))) = _
      congr 2
      omega
    · have a2 : cad n f 2 i = f (2 + 7 * n + (1 + 2 * i + 0)) := by show f _ = _; congr 1; simp only [coff]; omega
      have a7 : cad n f 7 (5 + i) = f (2 + 7 * n + (1 + 2 * i + 1)) := by show f (if 5 + i < 5 then _ else if 5 + i < 8 then _ else _) = _; rw [if_neg (by omega), if_pos (by omega)]; congr 1; omega
      have s7 : cS0 7 0 (5 + i) = nI i := by show (if 5 ≤ 5 + i ∧ 5 + i < 8 then nI (5 + i - 5) else 0) = _; rw [if_pos (by omega)]; congr 1; omega
      simp only [cB, List.mem_cons, List.not_mem_nil, or_false] at h
      rcases h with rfl | rfl
      · rw [kC_2, a2, a7]; exact hm _ (wq_c hi (List.mem_of_getElem? (i := 0) rfl))
      · rw [kC_7, a7, s7]; exact hm _ (wq_c hi (List.mem_of_getElem? (i := 1) rfl))
    · simp only [List.mem_cons, List.not_mem_nil, or_false] at h
      rcases h with rfl | rfl | rfl | rfl | rfl
      · have b1 : cad n f 6 7 = f (9 + 7 * n + 1) := by show f (10 + 7 * n) = _; congr 1; omega
        have b2 : cad n f 15 0 = f (9 + 7 * n + 2) := by show f (11 + 7 * n) = _; congr 1; omega
        rw [kC_3, b1, b2]; exact hm _ (wq_v (List.mem_of_getElem? (i := 0) rfl))
      · have b1 : cad n f 6 7 = f (9 + 7 * n + 1) := by show f (10 + 7 * n) = _; congr 1; omega
        rw [kC_6, b1]; exact hm _ (wq_v (List.mem_of_getElem? (i := 1) rfl))
      · have b2 : cad n f 15 0 = f (9 + 7 * n + 2) := by show f (11 + 7 * n) = _; congr 1; omega
        rw [kC_15, b2]; exact hm _ (wq_v (List.mem_of_getElem? (i := 2) rfl))
      · have b1 : cad n f 12 0 = f (12 + 7 * n + 1) := by show f (13 + 7 * n) = _; congr 1; omega
        have b2 : cad n f 5 33 = f (12 + 7 * n + 2) := by show f (14 + 7 * n) = _; congr 1; omega
        rw [kC_4, b1, b2]; exact hm _ (wq_p (List.mem_of_getElem? (i := 0) rfl))
      · have b1 : cad n f 12 0 = f (12 + 7 * n + 1) := by show f (13 + 7 * n) = _; congr 1; omega
        rw [kC_12, b1]
        have h12 : (f (12 + 7 * n + 1), Sum.inl (K 5, 33, Sum.inr (Sum.inr (Sum.inr (Sum.inr (rowF 33 (fun k => f (12 + 7 * n + k)))))))) ∈ wStore K n f := wq_p (List.mem_of_getElem? (i := 1) rfl)
        refine at_q (hm _ h12) (fun i hi => ?_)
        show rowF 33 _ i = some (cad n f 5 (cP0 i))
        unfold rowF cP0
        rw [if_pos hi, if_pos hi]
        show _ = some (f (if i = 33 then _ else _))
        rw [if_neg (by omega)]
        show some (f (12 + 7 * n + (9 + 7 * i))) = _
        congr 2
        omega
    · have s7 : cS0 7 0 (8 + i) = 0 := if_neg (by omega)
      by_cases h33 : i = 33
      · subst h33
        have b5 : cad n f 5 33 = f (12 + 7 * n + (2 + 0)) := by show f (14 + 7 * n) = _; congr 1; omega
        have b6 : cad n f 6 (8 + 33) = f (12 + 7 * n + (2 + 1)) := by show f (15 + 7 * n) = _; congr 1; omega
        have b7 : cad n f 7 (8 + 33) = f (12 + 7 * n + (2 + 2)) := by show f (16 + 7 * n) = _; congr 1; omega
        have b8 : cad n f 8 (8 + 33) = f (12 + 7 * n + (2 + 3)) := by show f (17 + 7 * n) = _; congr 1; omega
        have b9 : cad n f 9 (8 + 33) = f (12 + 7 * n + (2 + 4)) := by show f (18 + 7 * n) = _; congr 1; omega
        have b13 : cad n f 13 (8 + 33) = f (12 + 7 * n + (2 + 5)) := by show f (19 + 7 * n) = _; congr 1; omega
        have b14 : cad n f 14 (8 + 33) = f (12 + 7 * n + (2 + 6)) := by show f (20 + 7 * n) = _; congr 1; omega
        simp only [lB, List.mem_cons, List.not_mem_nil, or_false] at h
        rcases h with rfl | rfl | rfl | rfl | rfl | rfl | rfl
        · rw [kC_5, b5, b6, b7, b8]; exact hm _ (wq_l33 (List.mem_of_getElem? (i := 0) rfl))
        · rw [kC_6, b6]; exact hm _ (wq_l33 (List.mem_of_getElem? (i := 1) rfl))
        · rw [kC_7, b7, s7]; exact hm _ (wq_l33 (List.mem_of_getElem? (i := 2) rfl))
        · rw [kC_8, b8, b9, b13, b14]; exact hm _ (wq_l33 (List.mem_of_getElem? (i := 3) rfl))
        · rw [kC_9, b9]; exact hm _ (wq_l33 (List.mem_of_getElem? (i := 4) rfl))
        · rw [kC_13, b13]; exact hm _ (wq_l33 (List.mem_of_getElem? (i := 5) rfl))
        · rw [kC_14, b14]; exact hm _ (wq_l33 (List.mem_of_getElem? (i := 6) rfl))
      · have hi3 : i < 33 := by omega
        have a5 : cad n f 5 i = f (12 + 7 * n + (9 + 7 * i + 0)) := by show f (if i = 33 then _ else _) = _; rw [if_neg h33]; congr 1; omega
        have a6 : cad n f 6 (8 + i) = f (12 + 7 * n + (9 + 7 * i + 1)) := by show f (if 8 + i < 7 then _ else if 8 + i = 7 then _ else if 8 + i = 41 then _ else _) = _; rw [if_neg (by omega), if_neg (by omega), if_neg (by omega)]; congr 1; omega
        have a7 : cad n f 7 (8 + i) = f (12 + 7 * n + (9 + 7 * i + 2)) := by show f (if 8 + i < 5 then _ else if 8 + i < 8 then _ else if 8 + i = 41 then _ else _) = _; rw [if_neg (by omega), if_neg (by omega), if_neg (by omega)]; congr 1; omega
        have a8 : cad n f 8 (8 + i) = f (12 + 7 * n + (9 + 7 * i + 3)) := by show f (if 8 + i < 8 then _ else if 8 + i = 41 then _ else _) = _; rw [if_neg (by omega), if_neg (by omega)]; congr 1; omega
        have a9 : cad n f 9 (8 + i) = f (12 + 7 * n + (9 + 7 * i + 4)) := by show f (if 8 + i < 8 then _ else if 8 + i = 41 then _ else _) = _; rw [if_neg (by omega), if_neg (by omega)]; congr 1; omega
        have a13 : cad n f 13 (8 + i) = f (12 + 7 * n + (9 + 7 * i + 5)) := by show f (if 8 + i < 8 then _ else if 8 + i = 41 then _ else _) = _; rw [if_neg (by omega), if_neg (by omega)]; congr 1; omega
        have a14 : cad n f 14 (8 + i) = f (12 + 7 * n + (9 + 7 * i + 6)) := by show f (if 8 + i < 8 then _ else if 8 + i = 41 then _ else _) = _; rw [if_neg (by omega), if_neg (by omega)]; congr 1; omega
        simp only [lB, List.mem_cons, List.not_mem_nil, or_false] at h
        rcases h with rfl | rfl | rfl | rfl | rfl | rfl | rfl
        · rw [kC_5, a5, a6, a7, a8]; exact hm _ (wq_l hi3 (List.mem_of_getElem? (i := 0) rfl))
        · rw [kC_6, a6]; exact hm _ (wq_l hi3 (List.mem_of_getElem? (i := 1) rfl))
        · rw [kC_7, a7, s7]; exact hm _ (wq_l hi3 (List.mem_of_getElem? (i := 2) rfl))
        · rw [kC_8, a8, a9, a13, a14]; exact hm _ (wq_l hi3 (List.mem_of_getElem? (i := 3) rfl))
        · rw [kC_9, a9]; exact hm _ (wq_l hi3 (List.mem_of_getElem? (i := 4) rfl))
        · rw [kC_13, a13]; exact hm _ (wq_l hi3 (List.mem_of_getElem? (i := 5) rfl))
        · rw [kC_14, a14]; exact hm _ (wq_l hi3 (List.mem_of_getElem? (i := 6) rfl))
  intro k q hk
  obtain ⟨r, hr, rfl⟩ := zw_at hk
  exact key r (List.mem_of_getElem? hr)
def rpos (k : Nat) : Nat := match k with
  | 3 => 1
  | 4 => 2
  | 5 => 3
  | 6 => 4
  | 7 => 5
  | 8 => 6
  | 9 => 7
  | 10 => 8
  | 12 => 9
  | 13 => 10
  | 14 => 11
  | 15 => 12
  | 16 => 13
  | 17 => 14
  | 18 => 15
  | 19 => 16
  | 20 => 17
  | 21 => 18
  | 22 => 19
  | 23 => 20
  | 24 => 21
  | 26 => 22
  | 27 => 23
  | 28 => 24
  | 29 => 25
  | 30 => 26
  | 31 => 27
  | 32 => 28
  | 33 => 29
  | 34 => 30
  | 35 => 31
  | 36 => 32
  | _ => 0
def rad (f : Nat → Nat) (k _ : Nat) : Nat := f (rpos k)
def rS0 (N : Nat) : S3 := fun k a _ => match k with
  | 0 => (match a with | 0 => nI N | _ => 0)
  | 12 => -1
  | 14 => -1000
  | 18 => -1
  | 21 => -1
  | _ => 0
theorem rad_W {K : Nat → ClassId} {N : Nat} {f : Nat → Nat} : zw_W rRL (rad f) (rC K (rad f) (rS0 N)) = wModel K N f := rfl
theorem rad_J {K : Nat → ClassId} {A : Nat → Prop} {N : Nat} {f : Nat → Nat} (hD : va_D A (wModel K N f)) : zw_J rRL (rad f) := by
  rw [← rad_W] at hD
  intro i j p q hi hj e
  refine hD.1 i j (rad f p.1 p.2, rC K (rad f) (rS0 N) p.1 p.2) (rad f q.1 q.2, rC K (rad f) (rS0 N) q.1 q.2) ?_ ?_ e
  · unfold zw_W; rw [List.getElem?_map, hi]; rfl
  · unfold zw_W; rw [List.getElem?_map, hj]; rfl
theorem rad_A {K : Nat → ClassId} {A : Nat → Prop} {N : Nat} {f : Nat → Nat} (hD : va_D A (wModel K N f)) (q : Nat) (hq : zw_A rRL (rad f) q) : A q := by
  obtain ⟨r, hr, rfl⟩ := hq
  rw [← rad_W] at hD
  obtain ⟨k, hk⟩ := List.getElem?_of_mem hr
  exact hD.2 k (rad f r.1 r.2, rC K (rad f) (rS0 N) r.1 r.2) (by unfold zw_W; rw [List.getElem?_map, hk]; rfl)
