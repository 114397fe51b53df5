/-! the reference's world: its object is kind 0, each array's kind is the slot of its field -/
def rRL : List (Nat × Nat) := [(0, 0), (3, 0), (4, 0), (5, 0), (6, 0), (7, 0), (8, 0), (9, 0), (10, 0), (12, 0), (13, 0), (14, 0), (15, 0), (16, 0), (17, 0), (18, 0), (19, 0), (20, 0), (21, 0), (22, 0), (23, 0), (24, 0), (26, 0), (27, 0), (28, 0), (29, 0), (30, 0), (31, 0), (32, 0), (33, 0), (34, 0), (35, 0), (36, 0)]
def rE (K : Nat → ClassId) (ad : Nat → Nat → Nat) (k i : Nat) (r : Nat → Nat → Int32) : va_E := match k with
  | 0 => .inr (9, [.int (r 0 i), .int (r 1 i), .int (r 2 i), .ref (ad 3 0), .ref (ad 4 0), .ref (ad 5 0), .ref (ad 6 0), .ref (ad 7 0), .ref (ad 8 0), .ref (ad 9 0), .ref (ad 10 0), .int (r 11 i), .ref (ad 12 0), .ref (ad 13 0), .ref (ad 14 0), .ref (ad 15 0), .ref (ad 16 0), .ref (ad 17 0), .ref (ad 18 0), .ref (ad 19 0), .ref (ad 20 0), .ref (ad 21 0), .ref (ad 22 0), .ref (ad 23 0), .ref (ad 24 0), .int (r 25 i), .ref (ad 26 0), .ref (ad 27 0), .ref (ad 28 0), .ref (ad 29 0), .ref (ad 30 0), .ref (ad 31 0), .ref (ad 32 0), .ref (ad 33 0), .ref (ad 34 0), .ref (ad 35 0), .ref (ad 36 0)])
  | 3 => .inl (K 0, 512, .inl (r i))
  | 4 => .inl (K 0, 512, .inl (r i))
  | 5 => .inl (K 0, 512, .inl (r i))
  | 6 => .inl (K 0, 512, .inl (r i))
  | 7 => .inl (K 1, 512, .inl (r i))
  | 8 => .inl (K 0, 6, .inl (r i))
  | 9 => .inl (K 0, 6, .inl (r i))
  | 10 => .inl (K 0, 6, .inl (r i))
  | 12 => .inl (K 0, 5, .inl (r i))
  | 13 => .inl (K 0, 5, .inl (r i))
  | 14 => .inl (K 0, 5, .inl (r i))
  | 15 => .inl (K 1, 5, .inl (r i))
  | 16 => .inl (K 1, 5, .inl (r i))
  | 17 => .inl (K 1, 5, .inl (r i))
  | 18 => .inl (K 0, 5, .inl (r i))
  | 19 => .inl (K 0, 5, .inl (r i))
  | 20 => .inl (K 2, 900, .inl (r i))
  | 21 => .inl (K 0, 3, .inl (r i))
  | 22 => .inl (K 0, 3, .inl (r i))
  | 23 => .inl (K 0, 3, .inl (r i))
  | 24 => .inl (K 0, 3, .inl (r i))
  | 26 => .inl (K 0, 32, .inl (r i))
  | 27 => .inl (K 1, 34, .inl (r i))
  | 28 => .inl (K 0, 34, .inl (r i))
  | 29 => .inl (K 0, 34, .inl (r i))
  | 30 => .inl (K 0, 34, .inl (r i))
  | 31 => .inl (K 0, 34, .inl (r i))
  | 32 => .inl (K 0, 34, .inl (r i))
  | 33 => .inl (K 0, 34, .inl (r i))
  | 34 => .inl (K 0, 34, .inl (r i))
  | 35 => .inl (K 0, 34, .inl (r i))
  | _ => .inl (K 2, 6120, .inl (r i))
def rC (K : Nat → ClassId) (ad : Nat → Nat → Nat) (s : S3) : Nat → Nat → va_E := fun k i => rE K ad k i (s k)
section RC
variable {K : Nat → ClassId} {ad : Nat → Nat → Nat} {s s' : S3} {i : Nat}
theorem rC_eq (h : s = s') : rC K ad s = rC K ad s' := by rw [h]
theorem rC_0 : rC K ad s 0 i = .inr (9, [.int (s 0 0 i), .int (s 0 1 i), .int (s 0 2 i), .ref (ad 3 0), .ref (ad 4 0), .ref (ad 5 0), .ref (ad 6 0), .ref (ad 7 0), .ref (ad 8 0), .ref (ad 9 0), .ref (ad 10 0), .int (s 0 11 i), .ref (ad 12 0), .ref (ad 13 0), .ref (ad 14 0), .ref (ad 15 0), .ref (ad 16 0), .ref (ad 17 0), .ref (ad 18 0), .ref (ad 19 0), .ref (ad 20 0), .ref (ad 21 0), .ref (ad 22 0), .ref (ad 23 0), .ref (ad 24 0), .int (s 0 25 i), .ref (ad 26 0), .ref (ad 27 0), .ref (ad 28 0), .ref (ad 29 0), .ref (ad 30 0), .ref (ad 31 0), .ref (ad 32 0), .ref (ad 33 0), .ref (ad 34 0), .ref (ad 35 0), .ref (ad 36 0)]) := rfl
theorem rC_3 : rC K ad s 3 i = .inl (K 0, 512, .inl (s 3 i)) := rfl
theorem rm_3 : (3, 0) ∈ rRL := by decide
theorem rC_4 : rC K ad s 4 i = .inl (K 0, 512, .inl (s 4 i)) := rfl
theorem rm_4 : (4, 0) ∈ rRL := by decide
theorem rC_5 : rC K ad s 5 i = .inl (K 0, 512, .inl (s 5 i)) := rfl
theorem rm_5 : (5, 0) ∈ rRL := by decide
theorem rC_6 : rC K ad s 6 i = .inl (K 0, 512, .inl (s 6 i)) := rfl
theorem rm_6 : (6, 0) ∈ rRL := by decide
theorem rC_7 : rC K ad s 7 i = .inl (K 1, 512, .inl (s 7 i)) := rfl
theorem rm_7 : (7, 0) ∈ rRL := by decide
theorem rC_8 : rC K ad s 8 i = .inl (K 0, 6, .inl (s 8 i)) := rfl
theorem rm_8 : (8, 0) ∈ rRL := by decide
theorem rC_9 : rC K ad s 9 i = .inl (K 0, 6, .inl (s 9 i)) := rfl
theorem rm_9 : (9, 0) ∈ rRL := by decide
theorem rC_10 : rC K ad s 10 i = .inl (K 0, 6, .inl (s 10 i)) := rfl
theorem rm_10 : (10, 0) ∈ rRL := by decide
theorem rC_12 : rC K ad s 12 i = .inl (K 0, 5, .inl (s 12 i)) := rfl
theorem rm_12 : (12, 0) ∈ rRL := by decide
theorem rC_13 : rC K ad s 13 i = .inl (K 0, 5, .inl (s 13 i)) := rfl
theorem rm_13 : (13, 0) ∈ rRL := by decide
theorem rC_14 : rC K ad s 14 i = .inl (K 0, 5, .inl (s 14 i)) := rfl
theorem rm_14 : (14, 0) ∈ rRL := by decide
theorem rC_15 : rC K ad s 15 i = .inl (K 1, 5, .inl (s 15 i)) := rfl
theorem rm_15 : (15, 0) ∈ rRL := by decide
theorem rC_16 : rC K ad s 16 i = .inl (K 1, 5, .inl (s 16 i)) := rfl
theorem rm_16 : (16, 0) ∈ rRL := by decide
theorem rC_17 : rC K ad s 17 i = .inl (K 1, 5, .inl (s 17 i)) := rfl
theorem rm_17 : (17, 0) ∈ rRL := by decide
theorem rC_18 : rC K ad s 18 i = .inl (K 0, 5, .inl (s 18 i)) := rfl
theorem rm_18 : (18, 0) ∈ rRL := by decide
theorem rC_19 : rC K ad s 19 i = .inl (K 0, 5, .inl (s 19 i)) := rfl
theorem rm_19 : (19, 0) ∈ rRL := by decide
theorem rC_20 : rC K ad s 20 i = .inl (K 2, 900, .inl (s 20 i)) := rfl
theorem rm_20 : (20, 0) ∈ rRL := by decide
theorem rC_21 : rC K ad s 21 i = .inl (K 0, 3, .inl (s 21 i)) := rfl
theorem rm_21 : (21, 0) ∈ rRL := by decide
theorem rC_22 : rC K ad s 22 i = .inl (K 0, 3, .inl (s 22 i)) := rfl
theorem rm_22 : (22, 0) ∈ rRL := by decide
theorem rC_23 : rC K ad s 23 i = .inl (K 0, 3, .inl (s 23 i)) := rfl
theorem rm_23 : (23, 0) ∈ rRL := by decide
theorem rC_24 : rC K ad s 24 i = .inl (K 0, 3, .inl (s 24 i)) := rfl
theorem rm_24 : (24, 0) ∈ rRL := by decide
theorem rC_26 : rC K ad s 26 i = .inl (K 0, 32, .inl (s 26 i)) := rfl
theorem rm_26 : (26, 0) ∈ rRL := by decide
theorem rC_27 : rC K ad s 27 i = .inl (K 1, 34, .inl (s 27 i)) := rfl
theorem rm_27 : (27, 0) ∈ rRL := by decide
theorem rC_28 : rC K ad s 28 i = .inl (K 0, 34, .inl (s 28 i)) := rfl
theorem rm_28 : (28, 0) ∈ rRL := by decide
theorem rC_29 : rC K ad s 29 i = .inl (K 0, 34, .inl (s 29 i)) := rfl
theorem rm_29 : (29, 0) ∈ rRL := by decide
theorem rC_30 : rC K ad s 30 i = .inl (K 0, 34, .inl (s 30 i)) := rfl
theorem rm_30 : (30, 0) ∈ rRL := by decide
theorem rC_31 : rC K ad s 31 i = .inl (K 0, 34, .inl (s 31 i)) := rfl
theorem rm_31 : (31, 0) ∈ rRL := by decide
theorem rC_32 : rC K ad s 32 i = .inl (K 0, 34, .inl (s 32 i)) := rfl
theorem rm_32 : (32, 0) ∈ rRL := by decide
theorem rC_33 : rC K ad s 33 i = .inl (K 0, 34, .inl (s 33 i)) := rfl
theorem rm_33 : (33, 0) ∈ rRL := by decide
theorem rC_34 : rC K ad s 34 i = .inl (K 0, 34, .inl (s 34 i)) := rfl
theorem rm_34 : (34, 0) ∈ rRL := by decide
theorem rC_35 : rC K ad s 35 i = .inl (K 0, 34, .inl (s 35 i)) := rfl
theorem rm_35 : (35, 0) ∈ rRL := by decide
theorem rC_36 : rC K ad s 36 i = .inl (K 2, 6120, .inl (s 36 i)) := rfl
theorem rm_36 : (36, 0) ∈ rRL := by decide
theorem rm_0 : (0, 0) ∈ rRL := by decide
theorem rup_0 {x : Int32} : zw_up (rC K ad s) 0 i (.inr (9, [.int (s 0 0 i), .int (s 0 1 i), .int (s 0 2 i), .ref (ad 3 0), .ref (ad 4 0), .ref (ad 5 0), .ref (ad 6 0), .ref (ad 7 0), .ref (ad 8 0), .ref (ad 9 0), .ref (ad 10 0), .int (s 0 11 i), .ref (ad 12 0), .ref (ad 13 0), .ref (ad 14 0), .ref (ad 15 0), .ref (ad 16 0), .ref (ad 17 0), .ref (ad 18 0), .ref (ad 19 0), .ref (ad 20 0), .ref (ad 21 0), .ref (ad 22 0), .ref (ad 23 0), .ref (ad 24 0), .int (s 0 25 i), .ref (ad 26 0), .ref (ad 27 0), .ref (ad 28 0), .ref (ad 29 0), .ref (ad 30 0), .ref (ad 31 0), .ref (ad 32 0), .ref (ad 33 0), .ref (ad 34 0), .ref (ad 35 0), .ref (ad 36 0)].set 0 (.int x))) = rC K ad (u3 s 0 0 i x) := by
  funext a b
  unfold zw_up
  by_cases ha : a = 0
  · subst ha
    by_cases hb : b = i
    · subst hb; simp [rC, rE, u3, uA, upd]
    · simp [rC, rE, u3, uA, upd, hb]
  · simp [rC, u3, uA, ha]
theorem rup_1 {x : Int32} : zw_up (rC K ad s) 0 i (.inr (9, [.int (s 0 0 i), .int (s 0 1 i), .int (s 0 2 i), .ref (ad 3 0), .ref (ad 4 0), .ref (ad 5 0), .ref (ad 6 0), .ref (ad 7 0), .ref (ad 8 0), .ref (ad 9 0), .ref (ad 10 0), .int (s 0 11 i), .ref (ad 12 0), .ref (ad 13 0), .ref (ad 14 0), .ref (ad 15 0), .ref (ad 16 0), .ref (ad 17 0), .ref (ad 18 0), .ref (ad 19 0), .ref (ad 20 0), .ref (ad 21 0), .ref (ad 22 0), .ref (ad 23 0), .ref (ad 24 0), .int (s 0 25 i), .ref (ad 26 0), .ref (ad 27 0), .ref (ad 28 0), .ref (ad 29 0), .ref (ad 30 0), .ref (ad 31 0), .ref (ad 32 0), .ref (ad 33 0), .ref (ad 34 0), .ref (ad 35 0), .ref (ad 36 0)].set 1 (.int x))) = rC K ad (u3 s 0 1 i x) := by
  funext a b
  unfold zw_up
  by_cases ha : a = 0
  · subst ha
    by_cases hb : b = i
    · subst hb; simp [rC, rE, u3, uA, upd]
    · simp [rC, rE, u3, uA, upd, hb]
  · simp [rC, u3, uA, ha]
theorem rup_2 {x : Int32} : zw_up (rC K ad s) 0 i (.inr (9, [.int (s 0 0 i), .int (s 0 1 i), .int (s 0 2 i), .ref (ad 3 0), .ref (ad 4 0), .ref (ad 5 0), .ref (ad 6 0), .ref (ad 7 0), .ref (ad 8 0), .ref (ad 9 0), .ref (ad 10 0), .int (s 0 11 i), .ref (ad 12 0), .ref (ad 13 0), .ref (ad 14 0), .ref (ad 15 0), .ref (ad 16 0), .ref (ad 17 0), .ref (ad 18 0), .ref (ad 19 0), .ref (ad 20 0), .ref (ad 21 0), .ref (ad 22 0), .ref (ad 23 0), .ref (ad 24 0), .int (s 0 25 i), .ref (ad 26 0), .ref (ad 27 0), .ref (ad 28 0), .ref (ad 29 0), .ref (ad 30 0), .ref (ad 31 0), .ref (ad 32 0), .ref (ad 33 0), .ref (ad 34 0), .ref (ad 35 0), .ref (ad 36 0)].set 2 (.int x))) = rC K ad (u3 s 0 2 i x) := by
  funext a b
  unfold zw_up
  by_cases ha : a = 0
  · subst ha
    by_cases hb : b = i
    · subst hb; simp [rC, rE, u3, uA, upd]
    · simp [rC, rE, u3, uA, upd, hb]
  · simp [rC, u3, uA, ha]
theorem rup_11 {x : Int32} : zw_up (rC K ad s) 0 i (.inr (9, [.int (s 0 0 i), .int (s 0 1 i), .int (s 0 2 i), .ref (ad 3 0), .ref (ad 4 0), .ref (ad 5 0), .ref (ad 6 0), .ref (ad 7 0), .ref (ad 8 0), .ref (ad 9 0), .ref (ad 10 0), .int (s 0 11 i), .ref (ad 12 0), .ref (ad 13 0), .ref (ad 14 0), .ref (ad 15 0), .ref (ad 16 0), .ref (ad 17 0), .ref (ad 18 0), .ref (ad 19 0), .ref (ad 20 0), .ref (ad 21 0), .ref (ad 22 0), .ref (ad 23 0), .ref (ad 24 0), .int (s 0 25 i), .ref (ad 26 0), .ref (ad 27 0), .ref (ad 28 0), .ref (ad 29 0), .ref (ad 30 0), .ref (ad 31 0), .ref (ad 32 0), .ref (ad 33 0), .ref (ad 34 0), .ref (ad 35 0), .ref (ad 36 0)].set 11 (.int x))) = rC K ad (u3 s 0 11 i x) := by
  funext a b
  unfold zw_up
  by_cases ha : a = 0
  · subst ha
    by_cases hb : b = i
    · subst hb; simp [rC, rE, u3, uA, upd]
    · simp [rC, rE, u3, uA, upd, hb]
  · simp [rC, u3, uA, ha]
theorem rup_25 {x : Int32} : zw_up (rC K ad s) 0 i (.inr (9, [.int (s 0 0 i), .int (s 0 1 i), .int (s 0 2 i), .ref (ad 3 0), .ref (ad 4 0), .ref (ad 5 0), .ref (ad 6 0), .ref (ad 7 0), .ref (ad 8 0), .ref (ad 9 0), .ref (ad 10 0), .int (s 0 11 i), .ref (ad 12 0), .ref (ad 13 0), .ref (ad 14 0), .ref (ad 15 0), .ref (ad 16 0), .ref (ad 17 0), .ref (ad 18 0), .ref (ad 19 0), .ref (ad 20 0), .ref (ad 21 0), .ref (ad 22 0), .ref (ad 23 0), .ref (ad 24 0), .int (s 0 25 i), .ref (ad 26 0), .ref (ad 27 0), .ref (ad 28 0), .ref (ad 29 0), .ref (ad 30 0), .ref (ad 31 0), .ref (ad 32 0), .ref (ad 33 0), .ref (ad 34 0), .ref (ad 35 0), .ref (ad 36 0)].set 25 (.int x))) = rC K ad (u3 s 0 25 i x) := by
  funext a b
  unfold zw_up
  by_cases ha : a = 0
  · subst ha
    by_cases hb : b = i
    · subst hb; simp [rC, rE, u3, uA, upd]
    · simp [rC, rE, u3, uA, upd, hb]
  · simp [rC, u3, uA, ha]
theorem rupA_3 {f : Nat → Int32} : zw_up (rC K ad s) 3 i (.inl (K 0, 512, .inl f)) = rC K ad (uA s 3 i f) := by
  funext a b
  unfold zw_up
  by_cases ha : a = 3
  · subst ha
    by_cases hb : b = i
    · subst hb; simp [rC, rE, uA]
    · simp [rC, rE, uA, hb]
  · simp [rC, uA, ha]
theorem rupI_3 {j : Nat} {x : Int32} : zw_up (rC K ad s) 3 i (.inl (K 0, 512, .inl (upd (s 3 i) j x))) = rC K ad (u3 s 3 i j x) := rupA_3
theorem rupA_4 {f : Nat → Int32} : zw_up (rC K ad s) 4 i (.inl (K 0, 512, .inl f)) = rC K ad (uA s 4 i f) := by
  funext a b
  unfold zw_up
  by_cases ha : a = 4
  · subst ha
    by_cases hb : b = i
    · subst hb; simp [rC, rE, uA]
    · simp [rC, rE, uA, hb]
  · simp [rC, uA, ha]
theorem rupI_4 {j : Nat} {x : Int32} : zw_up (rC K ad s) 4 i (.inl (K 0, 512, .inl (upd (s 4 i) j x))) = rC K ad (u3 s 4 i j x) := rupA_4
theorem rupA_5 {f : Nat → Int32} : zw_up (rC K ad s) 5 i (.inl (K 0, 512, .inl f)) = rC K ad (uA s 5 i f) := by
  funext a b
  unfold zw_up
  by_cases ha : a = 5
  · subst ha
    by_cases hb : b = i
    · subst hb; simp [rC, rE, uA]
    · simp [rC, rE, uA, hb]
  · simp [rC, uA, ha]
theorem rupI_5 {j : Nat} {x : Int32} : zw_up (rC K ad s) 5 i (.inl (K 0, 512, .inl (upd (s 5 i) j x))) = rC K ad (u3 s 5 i j x) := rupA_5
theorem rupA_6 {f : Nat → Int32} : zw_up (rC K ad s) 6 i (.inl (K 0, 512, .inl f)) = rC K ad (uA s 6 i f) := by
  funext a b
  unfold zw_up
  by_cases ha : a = 6
  · subst ha
    by_cases hb : b = i
    · subst hb; simp [rC, rE, uA]
    · simp [rC, rE, uA, hb]
  · simp [rC, uA, ha]
theorem rupI_6 {j : Nat} {x : Int32} : zw_up (rC K ad s) 6 i (.inl (K 0, 512, .inl (upd (s 6 i) j x))) = rC K ad (u3 s 6 i j x) := rupA_6
theorem rupA_7 {f : Nat → Int32} : zw_up (rC K ad s) 7 i (.inl (K 1, 512, .inl f)) = rC K ad (uA s 7 i f) := by
  funext a b
  unfold zw_up
  by_cases ha : a = 7
  · subst ha
    by_cases hb : b = i
    · subst hb; simp [rC, rE, uA]
    · simp [rC, rE, uA, hb]
  · simp [rC, uA, ha]
theorem rupI_7 {j : Nat} {x : Int32} : zw_up (rC K ad s) 7 i (.inl (K 1, 512, .inl (upd (s 7 i) j x))) = rC K ad (u3 s 7 i j x) := rupA_7
theorem rupA_8 {f : Nat → Int32} : zw_up (rC K ad s) 8 i (.inl (K 0, 6, .inl f)) = rC K ad (uA s 8 i f) := by
  funext a b
  unfold zw_up
  by_cases ha : a = 8
  · subst ha
    by_cases hb : b = i
    · subst hb; simp [rC, rE, uA]
    · simp [rC, rE, uA, hb]
  · simp [rC, uA, ha]
theorem rupI_8 {j : Nat} {x : Int32} : zw_up (rC K ad s) 8 i (.inl (K 0, 6, .inl (upd (s 8 i) j x))) = rC K ad (u3 s 8 i j x) := rupA_8
theorem rupA_9 {f : Nat → Int32} : zw_up (rC K ad s) 9 i (.inl (K 0, 6, .inl f)) = rC K ad (uA s 9 i f) := by
  funext a b
  unfold zw_up
  by_cases ha : a = 9
  · subst ha
    by_cases hb : b = i
    · subst hb; simp [rC, rE, uA]
    · simp [rC, rE, uA, hb]
  · simp [rC, uA, ha]
theorem rupI_9 {j : Nat} {x : Int32} : zw_up (rC K ad s) 9 i (.inl (K 0, 6, .inl (upd (s 9 i) j x))) = rC K ad (u3 s 9 i j x) := rupA_9
theorem rupA_10 {f : Nat → Int32} : zw_up (rC K ad s) 10 i (.inl (K 0, 6, .inl f)) = rC K ad (uA s 10 i f) := by
  funext a b
  unfold zw_up
  by_cases ha : a = 10
  · subst ha
    by_cases hb : b = i
    · subst hb; simp [rC, rE, uA]
    · simp [rC, rE, uA, hb]
  · simp [rC, uA, ha]
theorem rupI_10 {j : Nat} {x : Int32} : zw_up (rC K ad s) 10 i (.inl (K 0, 6, .inl (upd (s 10 i) j x))) = rC K ad (u3 s 10 i j x) := rupA_10
theorem rupA_12 {f : Nat → Int32} : zw_up (rC K ad s) 12 i (.inl (K 0, 5, .inl f)) = rC K ad (uA s 12 i f) := by
  funext a b
  unfold zw_up
  by_cases ha : a = 12
  · subst ha
    by_cases hb : b = i
    · subst hb; simp [rC, rE, uA]
    · simp [rC, rE, uA, hb]
  · simp [rC, uA, ha]
theorem rupI_12 {j : Nat} {x : Int32} : zw_up (rC K ad s) 12 i (.inl (K 0, 5, .inl (upd (s 12 i) j x))) = rC K ad (u3 s 12 i j x) := rupA_12
theorem rupA_13 {f : Nat → Int32} : zw_up (rC K ad s) 13 i (.inl (K 0, 5, .inl f)) = rC K ad (uA s 13 i f) := by
  funext a b
  unfold zw_up
  by_cases ha : a = 13
  · subst ha
    by_cases hb : b = i
    · subst hb; simp [rC, rE, uA]
    · simp [rC, rE, uA, hb]
  · simp [rC, uA, ha]
theorem rupI_13 {j : Nat} {x : Int32} : zw_up (rC K ad s) 13 i (.inl (K 0, 5, .inl (upd (s 13 i) j x))) = rC K ad (u3 s 13 i j x) := rupA_13
theorem rupA_14 {f : Nat → Int32} : zw_up (rC K ad s) 14 i (.inl (K 0, 5, .inl f)) = rC K ad (uA s 14 i f) := by
  funext a b
  unfold zw_up
  by_cases ha : a = 14
  · subst ha
    by_cases hb : b = i
    · subst hb; simp [rC, rE, uA]
    · simp [rC, rE, uA, hb]
  · simp [rC, uA, ha]
theorem rupI_14 {j : Nat} {x : Int32} : zw_up (rC K ad s) 14 i (.inl (K 0, 5, .inl (upd (s 14 i) j x))) = rC K ad (u3 s 14 i j x) := rupA_14
theorem rupA_15 {f : Nat → Int32} : zw_up (rC K ad s) 15 i (.inl (K 1, 5, .inl f)) = rC K ad (uA s 15 i f) := by
  funext a b
  unfold zw_up
  by_cases ha : a = 15
  · subst ha
    by_cases hb : b = i
    · subst hb; simp [rC, rE, uA]
    · simp [rC, rE, uA, hb]
  · simp [rC, uA, ha]
theorem rupI_15 {j : Nat} {x : Int32} : zw_up (rC K ad s) 15 i (.inl (K 1, 5, .inl (upd (s 15 i) j x))) = rC K ad (u3 s 15 i j x) := rupA_15
theorem rupA_16 {f : Nat → Int32} : zw_up (rC K ad s) 16 i (.inl (K 1, 5, .inl f)) = rC K ad (uA s 16 i f) := by
  funext a b
  unfold zw_up
  by_cases ha : a = 16
  · subst ha
    by_cases hb : b = i
    · subst hb; simp [rC, rE, uA]
    · simp [rC, rE, uA, hb]
  · simp [rC, uA, ha]
theorem rupI_16 {j : Nat} {x : Int32} : zw_up (rC K ad s) 16 i (.inl (K 1, 5, .inl (upd (s 16 i) j x))) = rC K ad (u3 s 16 i j x) := rupA_16
theorem rupA_17 {f : Nat → Int32} : zw_up (rC K ad s) 17 i (.inl (K 1, 5, .inl f)) = rC K ad (uA s 17 i f) := by
  funext a b
  unfold zw_up
  by_cases ha : a = 17
  · subst ha
    by_cases hb : b = i
    · subst hb; simp [rC, rE, uA]
    · simp [rC, rE, uA, hb]
  · simp [rC, uA, ha]
theorem rupI_17 {j : Nat} {x : Int32} : zw_up (rC K ad s) 17 i (.inl (K 1, 5, .inl (upd (s 17 i) j x))) = rC K ad (u3 s 17 i j x) := rupA_17
theorem rupA_18 {f : Nat → Int32} : zw_up (rC K ad s) 18 i (.inl (K 0, 5, .inl f)) = rC K ad (uA s 18 i f) := by
  funext a b
  unfold zw_up
  by_cases ha : a = 18
  · subst ha
    by_cases hb : b = i
    · subst hb; simp [rC, rE, uA]
    · simp [rC, rE, uA, hb]
  · simp [rC, uA, ha]
theorem rupI_18 {j : Nat} {x : Int32} : zw_up (rC K ad s) 18 i (.inl (K 0, 5, .inl (upd (s 18 i) j x))) = rC K ad (u3 s 18 i j x) := rupA_18
theorem rupA_19 {f : Nat → Int32} : zw_up (rC K ad s) 19 i (.inl (K 0, 5, .inl f)) = rC K ad (uA s 19 i f) := by
  funext a b
  unfold zw_up
  by_cases ha : a = 19
  · subst ha
    by_cases hb : b = i
    · subst hb; simp [rC, rE, uA]
    · simp [rC, rE, uA, hb]
  · simp [rC, uA, ha]
theorem rupI_19 {j : Nat} {x : Int32} : zw_up (rC K ad s) 19 i (.inl (K 0, 5, .inl (upd (s 19 i) j x))) = rC K ad (u3 s 19 i j x) := rupA_19
theorem rupA_20 {f : Nat → Int32} : zw_up (rC K ad s) 20 i (.inl (K 2, 900, .inl f)) = rC K ad (uA s 20 i f) := by
  funext a b
  unfold zw_up
  by_cases ha : a = 20
  · subst ha
    by_cases hb : b = i
    · subst hb; simp [rC, rE, uA]
    · simp [rC, rE, uA, hb]
  · simp [rC, uA, ha]
theorem rupI_20 {j : Nat} {x : Int32} : zw_up (rC K ad s) 20 i (.inl (K 2, 900, .inl (upd (s 20 i) j x))) = rC K ad (u3 s 20 i j x) := rupA_20
theorem rupA_21 {f : Nat → Int32} : zw_up (rC K ad s) 21 i (.inl (K 0, 3, .inl f)) = rC K ad (uA s 21 i f) := by
  funext a b
  unfold zw_up
  by_cases ha : a = 21
  · subst ha
    by_cases hb : b = i
    · subst hb; simp [rC, rE, uA]
    · simp [rC, rE, uA, hb]
  · simp [rC, uA, ha]
theorem rupI_21 {j : Nat} {x : Int32} : zw_up (rC K ad s) 21 i (.inl (K 0, 3, .inl (upd (s 21 i) j x))) = rC K ad (u3 s 21 i j x) := rupA_21
theorem rupA_22 {f : Nat → Int32} : zw_up (rC K ad s) 22 i (.inl (K 0, 3, .inl f)) = rC K ad (uA s 22 i f) := by
  funext a b
  unfold zw_up
  by_cases ha : a = 22
  · subst ha
    by_cases hb : b = i
    · subst hb; simp [rC, rE, uA]
    · simp [rC, rE, uA, hb]
  · simp [rC, uA, ha]
theorem rupI_22 {j : Nat} {x : Int32} : zw_up (rC K ad s) 22 i (.inl (K 0, 3, .inl (upd (s 22 i) j x))) = rC K ad (u3 s 22 i j x) := rupA_22
theorem rupA_23 {f : Nat → Int32} : zw_up (rC K ad s) 23 i (.inl (K 0, 3, .inl f)) = rC K ad (uA s 23 i f) := by
  funext a b
  unfold zw_up
  by_cases ha : a = 23
  · subst ha
    by_cases hb : b = i
    · subst hb; simp [rC, rE, uA]
    · simp [rC, rE, uA, hb]
  · simp [rC, uA, ha]
theorem rupI_23 {j : Nat} {x : Int32} : zw_up (rC K ad s) 23 i (.inl (K 0, 3, .inl (upd (s 23 i) j x))) = rC K ad (u3 s 23 i j x) := rupA_23
theorem rupA_24 {f : Nat → Int32} : zw_up (rC K ad s) 24 i (.inl (K 0, 3, .inl f)) = rC K ad (uA s 24 i f) := by
  funext a b
  unfold zw_up
  by_cases ha : a = 24
  · subst ha
    by_cases hb : b = i
    · subst hb; simp [rC, rE, uA]
    · simp [rC, rE, uA, hb]
  · simp [rC, uA, ha]
theorem rupI_24 {j : Nat} {x : Int32} : zw_up (rC K ad s) 24 i (.inl (K 0, 3, .inl (upd (s 24 i) j x))) = rC K ad (u3 s 24 i j x) := rupA_24
theorem rupA_26 {f : Nat → Int32} : zw_up (rC K ad s) 26 i (.inl (K 0, 32, .inl f)) = rC K ad (uA s 26 i f) := by
  funext a b
  unfold zw_up
  by_cases ha : a = 26
  · subst ha
    by_cases hb : b = i
    · subst hb; simp [rC, rE, uA]
    · simp [rC, rE, uA, hb]
  · simp [rC, uA, ha]
theorem rupI_26 {j : Nat} {x : Int32} : zw_up (rC K ad s) 26 i (.inl (K 0, 32, .inl (upd (s 26 i) j x))) = rC K ad (u3 s 26 i j x) := rupA_26
theorem rupA_27 {f : Nat → Int32} : zw_up (rC K ad s) 27 i (.inl (K 1, 34, .inl f)) = rC K ad (uA s 27 i f) := by
  funext a b
  unfold zw_up
  by_cases ha : a = 27
  · subst ha
    by_cases hb : b = i
    · subst hb; simp [rC, rE, uA]
    · simp [rC, rE, uA, hb]
  · simp [rC, uA, ha]
theorem rupI_27 {j : Nat} {x : Int32} : zw_up (rC K ad s) 27 i (.inl (K 1, 34, .inl (upd (s 27 i) j x))) = rC K ad (u3 s 27 i j x) := rupA_27
theorem rupA_28 {f : Nat → Int32} : zw_up (rC K ad s) 28 i (.inl (K 0, 34, .inl f)) = rC K ad (uA s 28 i f) := by
  funext a b
  unfold zw_up
  by_cases ha : a = 28
  · subst ha
    by_cases hb : b = i
    · subst hb; simp [rC, rE, uA]
    · simp [rC, rE, uA, hb]
  · simp [rC, uA, ha]
theorem rupI_28 {j : Nat} {x : Int32} : zw_up (rC K ad s) 28 i (.inl (K 0, 34, .inl (upd (s 28 i) j x))) = rC K ad (u3 s 28 i j x) := rupA_28
theorem rupA_29 {f : Nat → Int32} : zw_up (rC K ad s) 29 i (.inl (K 0, 34, .inl f)) = rC K ad (uA s 29 i f) := by
  funext a b
  unfold zw_up
  by_cases ha : a = 29
  · subst ha
    by_cases hb : b = i
    · subst hb; simp [rC, rE, uA]
    · simp [rC, rE, uA, hb]
  · simp [rC, uA, ha]
theorem rupI_29 {j : Nat} {x : Int32} : zw_up (rC K ad s) 29 i (.inl (K 0, 34, .inl (upd (s 29 i) j x))) = rC K ad (u3 s 29 i j x) := rupA_29
theorem rupA_30 {f : Nat → Int32} : zw_up (rC K ad s) 30 i (.inl (K 0, 34, .inl f)) = rC K ad (uA s 30 i f) := by
  funext a b
  unfold zw_up
  by_cases ha : a = 30
  · subst ha
    by_cases hb : b = i
    · subst hb; simp [rC, rE, uA]
    · simp [rC, rE, uA, hb]
  · simp [rC, uA, ha]
theorem rupI_30 {j : Nat} {x : Int32} : zw_up (rC K ad s) 30 i (.inl (K 0, 34, .inl (upd (s 30 i) j x))) = rC K ad (u3 s 30 i j x) := rupA_30
theorem rupA_31 {f : Nat → Int32} : zw_up (rC K ad s) 31 i (.inl (K 0, 34, .inl f)) = rC K ad (uA s 31 i f) := by
  funext a b
  unfold zw_up
  by_cases ha : a = 31
  · subst ha
    by_cases hb : b = i
    · subst hb; simp [rC, rE, uA]
    · simp [rC, rE, uA, hb]
  · simp [rC, uA, ha]
theorem rupI_31 {j : Nat} {x : Int32} : zw_up (rC K ad s) 31 i (.inl (K 0, 34, .inl (upd (s 31 i) j x))) = rC K ad (u3 s 31 i j x) := rupA_31
theorem rupA_32 {f : Nat → Int32} : zw_up (rC K ad s) 32 i (.inl (K 0, 34, .inl f)) = rC K ad (uA s 32 i f) := by
  funext a b
  unfold zw_up
  by_cases ha : a = 32
  · subst ha
    by_cases hb : b = i
    · subst hb; simp [rC, rE, uA]
    · simp [rC, rE, uA, hb]
  · simp [rC, uA, ha]
theorem rupI_32 {j : Nat} {x : Int32} : zw_up (rC K ad s) 32 i (.inl (K 0, 34, .inl (upd (s 32 i) j x))) = rC K ad (u3 s 32 i j x) := rupA_32
theorem rupA_33 {f : Nat → Int32} : zw_up (rC K ad s) 33 i (.inl (K 0, 34, .inl f)) = rC K ad (uA s 33 i f) := by
  funext a b
  unfold zw_up
  by_cases ha : a = 33
  · subst ha
    by_cases hb : b = i
    · subst hb; simp [rC, rE, uA]
    · simp [rC, rE, uA, hb]
  · simp [rC, uA, ha]
theorem rupI_33 {j : Nat} {x : Int32} : zw_up (rC K ad s) 33 i (.inl (K 0, 34, .inl (upd (s 33 i) j x))) = rC K ad (u3 s 33 i j x) := rupA_33
theorem rupA_34 {f : Nat → Int32} : zw_up (rC K ad s) 34 i (.inl (K 0, 34, .inl f)) = rC K ad (uA s 34 i f) := by
  funext a b
  unfold zw_up
  by_cases ha : a = 34
  · subst ha
    by_cases hb : b = i
    · subst hb; simp [rC, rE, uA]
    · simp [rC, rE, uA, hb]
  · simp [rC, uA, ha]
theorem rupI_34 {j : Nat} {x : Int32} : zw_up (rC K ad s) 34 i (.inl (K 0, 34, .inl (upd (s 34 i) j x))) = rC K ad (u3 s 34 i j x) := rupA_34
theorem rupA_35 {f : Nat → Int32} : zw_up (rC K ad s) 35 i (.inl (K 0, 34, .inl f)) = rC K ad (uA s 35 i f) := by
  funext a b
  unfold zw_up
  by_cases ha : a = 35
  · subst ha
    by_cases hb : b = i
    · subst hb; simp [rC, rE, uA]
    · simp [rC, rE, uA, hb]
  · simp [rC, uA, ha]
theorem rupI_35 {j : Nat} {x : Int32} : zw_up (rC K ad s) 35 i (.inl (K 0, 34, .inl (upd (s 35 i) j x))) = rC K ad (u3 s 35 i j x) := rupA_35
theorem rupA_36 {f : Nat → Int32} : zw_up (rC K ad s) 36 i (.inl (K 2, 6120, .inl f)) = rC K ad (uA s 36 i f) := by
  funext a b
  unfold zw_up
  by_cases ha : a = 36
  · subst ha
    by_cases hb : b = i
    · subst hb; simp [rC, rE, uA]
    · simp [rC, rE, uA, hb]
  · simp [rC, uA, ha]
theorem rupI_36 {j : Nat} {x : Int32} : zw_up (rC K ad s) 36 i (.inl (K 2, 6120, .inl (upd (s 36 i) j x))) = rC K ad (u3 s 36 i j x) := rupA_36
end RC
theorem vp_mono {x : Int32} {a b : Nat} (h : vp_in x a) (hab : a ≤ b) : vp_in x b := fun e => h (e.imp id (fun e => Nat.le_trans hab e))
theorem nI_mul (a b : Nat) : nI a * nI b = nI (a * b) := (Int32.ofNat_mul a b).symm
theorem vp_180 {x y : Int32} {a : Nat} (h : vp_in x a) (h2 : vp_in y 180) (ha : a ≤ 34) : vp_in (180 * x + y) (180 * a) := by
  obtain ⟨i, hi, hi2, rfl⟩ := vp_nI h
  obtain ⟨j, hj, hj2, rfl⟩ := vp_nI h2
  rw [show (180 : Int32) = nI 180 from rfl, nI_mul, nI_add]
  exact nI_in (by omega) (by omega)
theorem vp_c {c N : Nat} (h : c < N) (hN : N < 2 ^ 31) : vp_in (nI c) N := nI_in h hN
