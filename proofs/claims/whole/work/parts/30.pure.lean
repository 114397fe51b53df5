/-! THE PURE PART: what is kept from call to call -/
def xw (r : S3) : Nat := (r 0 25 0).toNatClampNeg
def xo (r : S3) (j : Nat) : Nat := (r 26 0 j).toNatClampNeg
def xb (r : S3) : Nat := (r 0 2 0).toNatClampNeg
def xv (r : S3) (i : Nat) : Nat := (r 8 0 i).toNatClampNeg
def xl (r : S3) (i : Nat) : Nat := (r 19 0 i).toNatClampNeg
def xe (r : S3) (c : Nat) : Nat := (r 23 0 c).toNatClampNeg
def xn (r : S3) (c : Nat) : Nat := (r 22 0 c).toNatClampNeg
/-- the number of operation o -/
def xk (r : S3) (o : Nat) : Nat := (r 4 0 o).toNatClampNeg
/-- the logs: a server's, a letter's -/
def lgS (r : S3) (i m : Nat) : Int32 := r 20 0 (180 * i + m)
def lgL (r : S3) (p m : Nat) : Int32 := r 36 0 (180 * p + m)
/-- what a log says: of a cell, of a client's latest number, of its result -/
def hF (ock ov lg : Nat → Int32) (k : Int32) : Nat → Int32
  | 0 => 0
  | m + 1 => if ock (lg m).toNatClampNeg = k then ov (lg m).toNatClampNeg else hF ock ov lg k m
def lF (ocl on lg : Nat → Int32) (c : Int32) : Nat → Int32
  | 0 => 0
  | m + 1 => if ocl (lg m).toNatClampNeg = c then on (lg m).toNatClampNeg else lF ocl on lg c m
def sF (ocl ock ov lg : Nat → Int32) (c : Int32) : Nat → Int32
  | 0 => 0
  | m + 1 => if ocl (lg m).toNatClampNeg = c then hF ock ov lg (ock (lg m).toNatClampNeg) m else sF ocl ock ov lg c m
/-- the class's State x is what the log says -/
def SR (s r : S3) (x : Nat) (lg : Nat → Int32) (len : Nat) : Prop := s 8 3 x = nI len ∧ (∀ k, k < 4 → s 9 x k = hF (r 5 0) (r 6 0) lg (nI k) len) ∧ (∀ c, c < 3 → s 13 x c = lF (r 3 0) (r 4 0) lg (nI c) len) ∧ ∀ c, c < 3 → s 14 x c = sF (r 3 0) (r 5 0) (r 6 0) lg (nI c) len
/-- the class's Operation x is operation o of the table -/
def OR (s r : S3) (x : Nat) (o : Int32) : Prop := s 7 0 x = r 3 0 o.toNatClampNeg ∧ s 7 1 x = r 4 0 o.toNatClampNeg ∧ s 7 2 x = r 7 0 o.toNatClampNeg ∧ s 7 3 x = r 5 0 o.toNatClampNeg ∧ s 7 4 x = r 6 0 o.toNatClampNeg
/-- backups: 7 stands for none in the class, -1 in the reference -/
def BR (a b : Int32) : Prop := (b = -1 ∧ a = 7) ∨ ∃ j, j < 5 ∧ b = nI j ∧ a = nI j
/-- for each client the numbers grow along the log; its entries are operations that began -/
def GL (r : S3) (lg : Nat → Int32) (m : Nat) : Prop := (∀ a, a < m → vp_in (lg a) (xb r)) ∧ ∀ a b, a < b → b < m → r 3 0 (lg a).toNatClampNeg = r 3 0 (lg b).toNatClampNeg → xk r (lg a).toNatClampNeg < xk r (lg b).toNatClampNeg
/-- the primary of view v has come to v -/
def ENT (n : Nat) (r : S3) (vp : Nat → Int32) (v : Nat) : Prop := ∃ a, a < n ∧ vp v = nI a ∧ v ≤ xv r a
def cnt8 (g : Nat → Int32) : Nat → Nat
  | 0 => 0
  | j + 1 => cnt8 g j + (if g j = 8 then 1 else 0)
def cA (n t : Nat) (r : S3) : Prop := r 0 0 0 = nI n ∧ (∃ τ, τ ≤ 1000 * t ∧ r 0 1 0 = nI τ) ∧ (∀ i, r 12 0 i = -1 ∨ ¬ r 12 0 i < 0) ∧ xv r 5 ≤ t + 1
def cV (n : Nat) (r : S3) (vp vb : Nat → Int32) : Prop := r 8 0 5 = nI (xv r 5) ∧ (∀ v, 1 ≤ v → v ≤ xv r 5 → (∃ a, a < n ∧ vp v = nI a) ∧ (vb v = -1 ∨ ∃ b, b < n ∧ vb v = nI b) ∧ vp v ≠ vb v) ∧ (xv r 5 ≠ 0 → r 9 0 5 = vp (xv r 5) ∧ r 10 0 5 = vb (xv r 5)) ∧ (xv r 5 = 0 → r 0 11 0 = 0 ∧ r 9 0 5 = 0 ∧ r 10 0 5 = 0) ∧ zb (r 0 11 0)
def cO (r : S3) : Prop := r 0 2 0 = nI (xb r) ∧ (∀ o, o < xb r → (∃ c, c < 3 ∧ r 3 0 o = nI c ∧ xk r o ≤ xn r c) ∧ r 4 0 o = nI (xk r o) ∧ 1 ≤ xk r o ∧ (∃ k, k < 4 ∧ r 5 0 o = nI k) ∧ zb (r 7 0 o)) ∧ (∀ o o', o < o' → o' < xb r → r 3 0 o = r 3 0 o' → xk r o < xk r o') ∧
  (∀ c, c < 3 → r 22 0 c = nI (xn r c) ∧ r 23 0 c = nI (xe r c) ∧ ((r 21 0 c = -1 ∧ xn r c = xe r c) ∨ ∃ o, o < xb r ∧ r 21 0 c = nI o ∧ r 3 0 o = nI c ∧ xk r o = xn r c ∧ xn r c = xe r c + 1)) ∧ xb r = xn r 0 + xn r 1 + xn r 2
def cC (t : Nat) (r : S3) : Prop := xb r + cnt8 (fun j => r 28 0 (xo r j)) (xw r) + 2 * (xe r 0 + xe r 1 + xe r 2) ≤ t
/-- what is kept of server i -/
def cSi (n : Nat) (r : S3) (vp vb : Nat → Int32) (T : Nat → Nat) (Q : Nat → Nat → Int32) (i : Nat) : Prop := r 8 0 i = nI (xv r i) ∧ xv r i ≤ xv r 5 ∧ (xv r i ≠ 0 → r 9 0 i = vp (xv r i) ∧ r 10 0 i = vb (xv r i)) ∧ r 19 0 i = nI (xl r i) ∧ GL r (lgS r i) (xl r i) ∧ zb (r 15 0 i) ∧ zb (r 16 0 i) ∧ zb (r 17 0 i) ∧
  (r 18 0 i = -1 ∨ ∃ o, o < xb r ∧ r 18 0 i = nI o ∧ (xv r i ≠ 0 ∧ vb (xv r i) ≠ -1) ∧ vp (xv r i) = nI i ∧ r 15 0 i = 1) ∧
  (xv r i ≠ 0 → vp (xv r i) = nI i → (∀ m, m < xl r i → lgS r i m = Q (xv r i) m) ∧ ((r 18 0 i = -1 ∧ T (xv r i) = xl r i) ∨ (r 18 0 i ≠ -1 ∧ T (xv r i) = xl r i + 1 ∧ Q (xv r i) (xl r i) = r 18 0 i))) ∧
  (xv r i ≠ 0 → vb (xv r i) = nI i → r 16 0 i ≠ 0 → xl r i ≤ T (xv r i) ∧ (∀ m, m < xl r i → lgS r i m = Q (xv r i) m) ∧ ENT n r vp (xv r i))
def cS (n : Nat) (r : S3) (vp vb : Nat → Int32) (T : Nat → Nat) (Q : Nat → Nat → Int32) : Prop := (∀ i, i < n → cSi n r vp vb T Q i) ∧ ∀ v, GL r (Q v) (T v)
/-- what holds of every place, used or not -/
def cU (n : Nat) (r : S3) : Prop := (∀ j, vp_in (r 20 0 j) 512) ∧ (∀ j, vp_in (r 36 0 j) 512) ∧ (∀ j, vp_in (r 26 0 j) 34) ∧ (∀ j, n ≤ j → r 18 0 j = -1 ∧ r 19 0 j = 0) ∧ ∀ c, 3 ≤ c → r 21 0 c = -1
/-- the letters' places; tk: the one that is being delivered -/
def cBx (r : S3) (tk : Option Nat) : Prop := r 0 25 0 = nI (xw r) ∧ xw r ≤ 32 ∧ (∀ j, j < xw r → xo r j < 33) ∧ (∀ i j, i < xw r → j < xw r → xo r i = xo r j → i = j) ∧ (∀ p, zb (r 27 0 p)) ∧ (∀ p, r 27 0 p = 1 ↔ (∃ j, j < xw r ∧ xo r j = p) ∨ tk = some p) ∧ ∀ p, tk = some p → p < 33 ∧ ∀ j, j < xw r → xo r j ≠ p
def TO (n : Nat) (r : S3) (p : Nat) : Prop := ∃ a, a < n ∧ r 29 0 p = nI a
/-- what is kept of the letter at place p -/
def LPx (n : Nat) (r : S3) (vp vb : Nat → Int32) (T : Nat → Nat) (Q : Nat → Nat → Int32) (p : Nat) : Prop :=
  (r 28 0 p = 1 ∧ TO n r p) ∨
  (r 28 0 p = 2 ∧ TO n r p ∧ ∃ v, 1 ≤ v ∧ v ≤ xv r 5 ∧ r 30 0 p = nI v ∧ r 31 0 p = vp v ∧ r 32 0 p = vb v) ∨
  (r 28 0 p = 3 ∧ TO n r p ∧ ∃ v, 1 ≤ v ∧ v ≤ xv r 5 ∧ r 30 0 p = nI v ∧ r 31 0 p = vp v ∧ r 32 0 p = vb v ∧ r 29 0 p = vb v ∧ ENT n r vp v ∧ ∃ m, m ≤ T v ∧ r 34 0 p = nI m ∧ ∀ a, a < m → lgL r p a = Q v a) ∨
  (r 28 0 p = 4 ∧ TO n r p) ∨
  (r 28 0 p = 5 ∧ TO n r p ∧ ∃ v, 1 ≤ v ∧ v ≤ xv r 5 ∧ r 30 0 p = nI v ∧ ENT n r vp v ∧ ∃ m, m < T v ∧ r 33 0 p = nI m ∧ Q v m = r 34 0 p) ∨
  (r 28 0 p = 6 ∧ TO n r p) ∨
  (r 28 0 p = 7 ∧ TO n r p ∧ ∃ o, o < xb r ∧ r 34 0 p = nI o) ∨
  (r 28 0 p = 8 ∧ ∃ a, a < 3 ∧ r 29 0 p = nI a)
/-- the class's letter L is the reference's letter p -/
def LR (s r : S3) (L p : Nat) : Prop := s 5 3 L = r 28 0 p ∧ s 5 4 L = r 29 0 p ∧
  (r 28 0 p = 1 → s 5 5 L = r 30 0 p ∧ s 5 6 L = r 33 0 p) ∧
  (r 28 0 p = 2 → s 6 0 (8 + L) = r 30 0 p ∧ s 6 1 (8 + L) = r 31 0 p ∧ BR (s 6 2 (8 + L)) (r 32 0 p) ∧ s 5 6 L = r 33 0 p) ∧
  (r 28 0 p = 3 → s 6 0 (8 + L) = r 30 0 p ∧ s 6 1 (8 + L) = r 31 0 p ∧ BR (s 6 2 (8 + L)) (r 32 0 p) ∧ SR s r (8 + L) (lgL r p) (r 34 0 p).toNatClampNeg) ∧
  (r 28 0 p = 4 → s 6 0 (8 + L) = r 30 0 p) ∧
  (r 28 0 p = 5 → s 6 0 (8 + L) = r 30 0 p ∧ s 5 7 L = r 33 0 p ∧ OR s r (8 + L) (r 34 0 p)) ∧
  (r 28 0 p = 6 → s 6 0 (8 + L) = r 30 0 p ∧ s 5 7 L = r 33 0 p) ∧
  (r 28 0 p = 7 → OR s r (8 + L) (r 34 0 p)) ∧
  (r 28 0 p = 8 → s 7 1 (8 + L) = r 30 0 p ∧ s 5 8 L = r 35 0 p)
def rG (n : Nat) (s r : S3) : Prop := s 0 4 0 = r 0 1 0 ∧ s 3 2 0 = r 0 11 0 ∧ s 6 0 7 = r 8 0 5 ∧ (r 8 0 5 ≠ 0 → s 6 1 7 = r 9 0 5 ∧ BR (s 6 2 7) (r 10 0 5)) ∧ ∀ i, i < n → s 15 0 i = r 12 0 i
/-- server i -/
def rSi (s r : S3) (i : Nat) : Prop := s 1 0 i = nI i ∧ s 1 4 i = r 13 0 i ∧ s 1 5 i = r 14 0 i ∧ s 1 6 i = r 17 0 i ∧ s 1 9 i = r 16 0 i ∧ ((s 1 8 i = 0 ∧ r 18 0 i = -1) ∨ (s 1 8 i = 1 ∧ r 18 0 i ≠ -1 ∧ OR s r i (r 18 0 i))) ∧ s 6 0 i = r 8 0 i ∧
  (r 8 0 i = 0 → s 6 1 i = 7 ∧ s 6 2 i = 7) ∧ (r 8 0 i ≠ 0 → s 6 1 i = r 9 0 i ∧ BR (s 6 2 i) (r 10 0 i)) ∧ (r 8 0 i ≠ 0 → r 9 0 i = nI i → s 1 7 i = r 15 0 i) ∧ SR s r i (lgS r i) (xl r i)
def rCc (s r : S3) (c : Nat) : Prop := s 7 0 (5 + c) = nI c ∧ s 7 1 (5 + c) = r 22 0 c ∧ s 2 2 c = r 23 0 c ∧ s 2 3 c = r 24 0 c ∧ ((s 2 1 c = 0 ∧ r 21 0 c = -1) ∨ (s 2 1 c = 1 ∧ r 21 0 c ≠ -1 ∧ OR s r (5 + c) (r 21 0 c)))
def rP (s : S3) (π : Nat → Nat) (r : S3) : Prop := s 4 2 0 = r 0 25 0 ∧ (∀ j, π j < 34) ∧ (∀ j, j < 33 → π j < 33) ∧ (∀ i j, i < 33 → j < 33 → π i = π j → i = j) ∧ opOK s
def INV (n t : Nat) (tk : Option Nat) (s : S3) (π : Nat → Nat) (r : S3) (vp vb : Nat → Int32) (T : Nat → Nat) (Q : Nat → Nat → Int32) : Prop :=
  cA n t r ∧ cV n r vp vb ∧ cO r ∧ cC t r ∧ cS n r vp vb T Q ∧ cU n r ∧ cBx r tk ∧ (∀ j, j < xw r → LPx n r vp vb T Q (xo r j)) ∧ rG n s r ∧ (∀ i, i < n → rSi s r i) ∧ (∀ c, c < 3 → rCc s r c) ∧ rP s π r ∧ ∀ j, j < xw r → LR s r (π j) (xo r j)
def JJ (n t : Nat) (s : S3) (π : Nat → Nat) (r : S3) : Prop := ∃ (vp vb : Nat → Int32) (T : Nat → Nat) (Q : Nat → Nat → Int32), INV n t none s π r vp vb T Q
theorem nI_m1 : ¬ (nI 0 - 1 = (0 : Int32)) := by decide
theorem m1_lt : (-1 : Int32) < 0 := by decide
theorem nI_ne_m1 {j : Nat} (h : j < 2 ^ 31) : nI j ≠ -1 := fun e => nI_pos h (by rw [e]; decide)
/-- more places than names: two places bear one name -/
theorem pigeon (m : Nat) : ∀ f : Nat → Nat, (∀ i, i < m + 1 → f i < m) → ∃ i j, i < j ∧ j < m + 1 ∧ f i = f j := by
  induction m with
  | zero => intro f h; exact absurd (h 0 (by omega)) (by omega)
  | succ m ih =>
    intro f h
    by_cases hx : ∃ i, i < m + 1 ∧ f i = f (m + 1)
    · obtain ⟨i, hi, e⟩ := hx
      exact ⟨i, m + 1, by omega, by omega, e⟩
    · obtain ⟨i, j, hij, hj, e⟩ := ih (fun i => if f i = m then f (m + 1) else f i) (fun i hi => by
        show (if f i = m then f (m + 1) else f i) < m
        have h1 := h i (by omega)
        have h2 := h (m + 1) (by omega)
        have h3 : f i ≠ f (m + 1) := fun e => hx ⟨i, hi, e⟩
        by_cases hm : f i = m
        · rw [if_pos hm]; omega
        · rw [if_neg hm]; omega)
      refine ⟨i, j, hij, by omega, ?_⟩
      have h3 : f i ≠ f (m + 1) := fun e => hx ⟨i, by omega, e⟩
      have h4 : f j ≠ f (m + 1) := fun e => hx ⟨j, by omega, e⟩
      have e : (if f i = m then f (m + 1) else f i) = (if f j = m then f (m + 1) else f j) := e
      by_cases hi : f i = m
      · by_cases hj2 : f j = m
        · rw [hi, hj2]
        · rw [if_pos hi, if_neg hj2] at e; exact absurd e.symm h4
      · by_cases hj2 : f j = m
        · rw [if_neg hi, if_pos hj2] at e; exact absurd e h3
        · rw [if_neg hi, if_neg hj2] at e; exact e
/-- a good log isn't longer than the table of operations -/
theorem GL_len {r : S3} {lg : Nat → Int32} {m : Nat} (h : GL r lg m) : m ≤ xb r := by
  by_cases hm : m ≤ xb r
  · exact hm
  · obtain ⟨i, j, hij, hj, e⟩ := pigeon (xb r) (fun a => (lg a).toNatClampNeg) (fun a ha => vp_lt (h.1 a (by omega)))
    have := h.2 i j hij (by omega) (by show r 3 0 _ = r 3 0 _; rw [show (lg i).toNatClampNeg = (lg j).toNatClampNeg from e])
    rw [show (lg i).toNatClampNeg = (lg j).toNatClampNeg from e] at this
    exact absurd this (Nat.lt_irrefl _)
/-- not many operations can have begun -/
theorem xb_le {t : Nat} {r : S3} (ht : t ≤ 512) (hO : cO r) (hC : cC t r) : xb r ≤ 172 := by
  obtain ⟨-, -, -, hc, hs⟩ := hO
  have e : ∀ c, c < 3 → xn r c ≤ xe r c + 1 := fun c h => by
    rcases (hc c h).2.2 with ⟨-, h⟩ | ⟨o, -, -, -, -, h⟩ <;> omega
  have e0 := e 0 (by omega)
  have e1 := e 1 (by omega)
  have e2 := e 2 (by omega)
  unfold cC at hC
  omega
