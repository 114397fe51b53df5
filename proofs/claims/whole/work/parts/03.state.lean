/-! the state of the class (and of the reference): numbers by kind, slot and index -/
abbrev S3 : Type := Nat → Nat → Nat → Int32
def uA (s : S3) (a b : Nat) (f : Nat → Int32) : S3 := fun a' => if a' = a then (fun b' => if b' = b then f else s a b') else s a'
def u3 (s : S3) (a b c : Nat) (x : Int32) : S3 := uA s a b (upd (s a b) c x)
def zb (x : Int32) : Prop := x = 0 ∨ x = 1
theorem zb_n {x : Int32} (h : zb x) : narrow .boolean (.int x) = .int x := by rcases h with h | h <;> subst h <;> rfl
theorem zb_f {x : Int32} (h : zb x) : fits .boolean (.int x) = true := by rcases h with h | h <;> subst h <;> rfl
theorem zb_v {x : Int32} (h : zb x) : vp_nar .boolean x = x := by rcases h with h | h <;> subst h <;> rfl
theorem zb_0 : zb 0 := Or.inl rfl
theorem zb_1 : zb 1 := Or.inr rfl
theorem vp_lt {j : Int32} {n : Nat} (h : vp_in j n) : j.toNatClampNeg < n := by
  unfold vp_in at h
  omega
theorem u3_id (s : S3) (a b c : Nat) : u3 s a b c (s a b c) = s := by
  funext x y z
  by_cases hx : x = a
  · subst hx
    by_cases hy : y = b
    · subst hy
      by_cases hz : z = c
      · subst hz; simp [u3, uA, upd]
      · simp [u3, uA, upd, hz]
    · simp [u3, uA, hy]
  · simp [u3, uA, hx]
def zTys (K : Nat → ClassId) : List (ClassId × FieldType) := [(K 0, .int), (K 1, .boolean), (K 2, .short), (K 3, .object "LeasedViewStore$Server"), (K 4, .object "LeasedViewStore$Client"), (K 5, .object "LeasedViewStore$Letter")]

def kE (K : Nat → ClassId) (ad : Nat → Nat → Nat) (n : Nat) (π : Nat → Nat) (k i : Nat) (r : Nat → Nat → Int32) : va_E := match k with
  | 0 => .inr (0, [.ref (ad 10 (0)), .ref (ad 11 (0)), .ref (ad 3 (0)), .ref (ad 4 (0)), .int (r 4 i)])
  | 1 => .inr (1, [.int (r 0 i), .ref (ad 6 (i)), .ref (ad 8 (i)), .ref (ad 7 (i)), .int (r 4 i), .int (r 5 i), .int (r 6 i), .int (r 7 i), .int (r 8 i), .int (r 9 i)])
  | 2 => .inr (2, [.ref (ad 7 (5 + i)), .int (r 1 i), .int (r 2 i), .int (r 3 i)])
  | 3 => .inr (3, [.ref (ad 6 (7)), .ref (ad 15 (0)), .int (r 2 i)])
  | 4 => .inr (4, [.ref (ad 12 (0)), .ref (ad 5 (33)), .int (r 2 i)])
  | 5 => .inr (5, [.ref (ad 6 (8 + i)), .ref (ad 7 (8 + i)), .ref (ad 8 (8 + i)), .int (r 3 i), .int (r 4 i), .int (r 5 i), .int (r 6 i), .int (r 7 i), .int (r 8 i)])
  | 6 => .inr (6, [.int (r 0 i), .int (r 1 i), .int (r 2 i)])
  | 7 => .inr (7, [.int (r 0 i), .int (r 1 i), .int (r 2 i), .int (r 3 i), .int (r 4 i)])
  | 8 => .inr (8, [.ref (ad 9 (i)), .ref (ad 13 (i)), .ref (ad 14 (i)), .int (r 3 i)])
  | 9 => .inl (K 0, 4, .inl (r i))
  | 10 => .inl (K 3, n, .inr (.inr (.inr (.inr (fun j => some (ad 1 j))))))
  | 11 => .inl (K 4, 3, .inr (.inr (.inr (.inr (fun j => some (ad 2 j))))))
  | 12 => .inl (K 5, 33, .inr (.inr (.inr (.inr (fun j => some (ad 5 (if i = 0 then π j else 0)))))))
  | 13 => .inl (K 0, 3, .inl (r i))
  | 14 => .inl (K 0, 3, .inl (r i))
  | _ => .inl (K 0, n, .inl (r i))
def kC (K : Nat → ClassId) (ad : Nat → Nat → Nat) (n : Nat) (s : S3) (π : Nat → Nat) : Nat → Nat → va_E := fun k i => kE K ad n π k i (s k)
section KC
variable {K : Nat → ClassId} {ad : Nat → Nat → Nat} {n : Nat} {s s' : S3} {π : Nat → Nat} {i : Nat}
theorem kC_eq (h : s = s') : kC K ad n s π = kC K ad n s' π := by rw [h]
theorem kC_0 : kC K ad n s π 0 i = .inr (0, [.ref (ad 10 (0)), .ref (ad 11 (0)), .ref (ad 3 (0)), .ref (ad 4 (0)), .int (s 0 4 i)]) := rfl
theorem kC_1 : kC K ad n s π 1 i = .inr (1, [.int (s 1 0 i), .ref (ad 6 (i)), .ref (ad 8 (i)), .ref (ad 7 (i)), .int (s 1 4 i), .int (s 1 5 i), .int (s 1 6 i), .int (s 1 7 i), .int (s 1 8 i), .int (s 1 9 i)]) := rfl
theorem kC_2 : kC K ad n s π 2 i = .inr (2, [.ref (ad 7 (5 + i)), .int (s 2 1 i), .int (s 2 2 i), .int (s 2 3 i)]) := rfl
theorem kC_3 : kC K ad n s π 3 i = .inr (3, [.ref (ad 6 (7)), .ref (ad 15 (0)), .int (s 3 2 i)]) := rfl
theorem kC_4 : kC K ad n s π 4 i = .inr (4, [.ref (ad 12 (0)), .ref (ad 5 (33)), .int (s 4 2 i)]) := rfl
theorem kC_5 : kC K ad n s π 5 i = .inr (5, [.ref (ad 6 (8 + i)), .ref (ad 7 (8 + i)), .ref (ad 8 (8 + i)), .int (s 5 3 i), .int (s 5 4 i), .int (s 5 5 i), .int (s 5 6 i), .int (s 5 7 i), .int (s 5 8 i)]) := rfl
theorem kC_6 : kC K ad n s π 6 i = .inr (6, [.int (s 6 0 i), .int (s 6 1 i), .int (s 6 2 i)]) := rfl
theorem kC_7 : kC K ad n s π 7 i = .inr (7, [.int (s 7 0 i), .int (s 7 1 i), .int (s 7 2 i), .int (s 7 3 i), .int (s 7 4 i)]) := rfl
theorem kC_8 : kC K ad n s π 8 i = .inr (8, [.ref (ad 9 (i)), .ref (ad 13 (i)), .ref (ad 14 (i)), .int (s 8 3 i)]) := rfl
theorem kC_9 : kC K ad n s π 9 i = .inl (K 0, 4, .inl (s 9 i)) := rfl
theorem kC_10 : kC K ad n s π 10 i = .inl (K 3, n, .inr (.inr (.inr (.inr (fun j => some (ad 1 j)))))) := rfl
theorem kC_11 : kC K ad n s π 11 i = .inl (K 4, 3, .inr (.inr (.inr (.inr (fun j => some (ad 2 j)))))) := rfl
theorem kC_12 : kC K ad n s π 12 0 = .inl (K 5, 33, .inr (.inr (.inr (.inr (fun j => some (ad 5 (π j))))))) := rfl
theorem kC_13 : kC K ad n s π 13 i = .inl (K 0, 3, .inl (s 13 i)) := rfl
theorem kC_14 : kC K ad n s π 14 i = .inl (K 0, 3, .inl (s 14 i)) := rfl
theorem kC_15 : kC K ad n s π 15 i = .inl (K 0, n, .inl (s 15 i)) := rfl
theorem up_0_4 {x : Int32} : zw_up (kC K ad n s π) 0 i (.inr (0, [.ref (ad 10 (0)), .ref (ad 11 (0)), .ref (ad 3 (0)), .ref (ad 4 (0)), .int (s 0 4 i)].set 4 (.int x))) = kC K ad n (u3 s 0 4 i x) π := by
  funext a b
  unfold zw_up
  by_cases ha : a = 0
  · subst ha
    by_cases hb : b = i
    · subst hb; simp [kC, kE, u3, uA, upd]
    · simp [kC, kE, u3, uA, upd, hb]
  · simp [kC, u3, uA, ha]
theorem up_1_0 {x : Int32} : zw_up (kC K ad n s π) 1 i (.inr (1, [.int (s 1 0 i), .ref (ad 6 (i)), .ref (ad 8 (i)), .ref (ad 7 (i)), .int (s 1 4 i), .int (s 1 5 i), .int (s 1 6 i), .int (s 1 7 i), .int (s 1 8 i), .int (s 1 9 i)].set 0 (.int x))) = kC K ad n (u3 s 1 0 i x) π := by
  funext a b
  unfold zw_up
  by_cases ha : a = 1
  · subst ha
    by_cases hb : b = i
    · subst hb; simp [kC, kE, u3, uA, upd]
    · simp [kC, kE, u3, uA, upd, hb]
  · simp [kC, u3, uA, ha]
theorem up_1_4 {x : Int32} : zw_up (kC K ad n s π) 1 i (.inr (1, [.int (s 1 0 i), .ref (ad 6 (i)), .ref (ad 8 (i)), .ref (ad 7 (i)), .int (s 1 4 i), .int (s 1 5 i), .int (s 1 6 i), .int (s 1 7 i), .int (s 1 8 i), .int (s 1 9 i)].set 4 (.int x))) = kC K ad n (u3 s 1 4 i x) π := by
  funext a b
  unfold zw_up
  by_cases ha : a = 1
  · subst ha
    by_cases hb : b = i
    · subst hb; simp [kC, kE, u3, uA, upd]
    · simp [kC, kE, u3, uA, upd, hb]
  · simp [kC, u3, uA, ha]
theorem up_1_5 {x : Int32} : zw_up (kC K ad n s π) 1 i (.inr (1, [.int (s 1 0 i), .ref (ad 6 (i)), .ref (ad 8 (i)), .ref (ad 7 (i)), .int (s 1 4 i), .int (s 1 5 i), .int (s 1 6 i), .int (s 1 7 i), .int (s 1 8 i), .int (s 1 9 i)].set 5 (.int x))) = kC K ad n (u3 s 1 5 i x) π := by
  funext a b
  unfold zw_up
  by_cases ha : a = 1
  · subst ha
    by_cases hb : b = i
    · subst hb; simp [kC, kE, u3, uA, upd]
    · simp [kC, kE, u3, uA, upd, hb]
  · simp [kC, u3, uA, ha]
theorem up_1_6 {x : Int32} : zw_up (kC K ad n s π) 1 i (.inr (1, [.int (s 1 0 i), .ref (ad 6 (i)), .ref (ad 8 (i)), .ref (ad 7 (i)), .int (s 1 4 i), .int (s 1 5 i), .int (s 1 6 i), .int (s 1 7 i), .int (s 1 8 i), .int (s 1 9 i)].set 6 (.int x))) = kC K ad n (u3 s 1 6 i x) π := by
  funext a b
  unfold zw_up
  by_cases ha : a = 1
  · subst ha
    by_cases hb : b = i
    · subst hb; simp [kC, kE, u3, uA, upd]
    · simp [kC, kE, u3, uA, upd, hb]
  · simp [kC, u3, uA, ha]
theorem up_1_7 {x : Int32} : zw_up (kC K ad n s π) 1 i (.inr (1, [.int (s 1 0 i), .ref (ad 6 (i)), .ref (ad 8 (i)), .ref (ad 7 (i)), .int (s 1 4 i), .int (s 1 5 i), .int (s 1 6 i), .int (s 1 7 i), .int (s 1 8 i), .int (s 1 9 i)].set 7 (.int x))) = kC K ad n (u3 s 1 7 i x) π := by
  funext a b
  unfold zw_up
  by_cases ha : a = 1
  · subst ha
    by_cases hb : b = i
    · subst hb; simp [kC, kE, u3, uA, upd]
    · simp [kC, kE, u3, uA, upd, hb]
  · simp [kC, u3, uA, ha]
theorem up_1_8 {x : Int32} : zw_up (kC K ad n s π) 1 i (.inr (1, [.int (s 1 0 i), .ref (ad 6 (i)), .ref (ad 8 (i)), .ref (ad 7 (i)), .int (s 1 4 i), .int (s 1 5 i), .int (s 1 6 i), .int (s 1 7 i), .int (s 1 8 i), .int (s 1 9 i)].set 8 (.int x))) = kC K ad n (u3 s 1 8 i x) π := by
  funext a b
  unfold zw_up
  by_cases ha : a = 1
  · subst ha
    by_cases hb : b = i
    · subst hb; simp [kC, kE, u3, uA, upd]
    · simp [kC, kE, u3, uA, upd, hb]
  · simp [kC, u3, uA, ha]
theorem up_1_9 {x : Int32} : zw_up (kC K ad n s π) 1 i (.inr (1, [.int (s 1 0 i), .ref (ad 6 (i)), .ref (ad 8 (i)), .ref (ad 7 (i)), .int (s 1 4 i), .int (s 1 5 i), .int (s 1 6 i), .int (s 1 7 i), .int (s 1 8 i), .int (s 1 9 i)].set 9 (.int x))) = kC K ad n (u3 s 1 9 i x) π := by
  funext a b
  unfold zw_up
  by_cases ha : a = 1
  · subst ha
    by_cases hb : b = i
    · subst hb; simp [kC, kE, u3, uA, upd]
    · simp [kC, kE, u3, uA, upd, hb]
  · simp [kC, u3, uA, ha]
theorem up_2_1 {x : Int32} : zw_up (kC K ad n s π) 2 i (.inr (2, [.ref (ad 7 (5 + i)), .int (s 2 1 i), .int (s 2 2 i), .int (s 2 3 i)].set 1 (.int x))) = kC K ad n (u3 s 2 1 i x) π := by
  funext a b
  unfold zw_up
  by_cases ha : a = 2
  · subst ha
    by_cases hb : b = i
    · subst hb; simp [kC, kE, u3, uA, upd]
    · simp [kC, kE, u3, uA, upd, hb]
  · simp [kC, u3, uA, ha]
theorem up_2_2 {x : Int32} : zw_up (kC K ad n s π) 2 i (.inr (2, [.ref (ad 7 (5 + i)), .int (s 2 1 i), .int (s 2 2 i), .int (s 2 3 i)].set 2 (.int x))) = kC K ad n (u3 s 2 2 i x) π := by
  funext a b
  unfold zw_up
  by_cases ha : a = 2
  · subst ha
    by_cases hb : b = i
    · subst hb; simp [kC, kE, u3, uA, upd]
    · simp [kC, kE, u3, uA, upd, hb]
  · simp [kC, u3, uA, ha]
theorem up_2_3 {x : Int32} : zw_up (kC K ad n s π) 2 i (.inr (2, [.ref (ad 7 (5 + i)), .int (s 2 1 i), .int (s 2 2 i), .int (s 2 3 i)].set 3 (.int x))) = kC K ad n (u3 s 2 3 i x) π := by
  funext a b
  unfold zw_up
  by_cases ha : a = 2
  · subst ha
    by_cases hb : b = i
    · subst hb; simp [kC, kE, u3, uA, upd]
    · simp [kC, kE, u3, uA, upd, hb]
  · simp [kC, u3, uA, ha]
theorem up_3_2 {x : Int32} : zw_up (kC K ad n s π) 3 i (.inr (3, [.ref (ad 6 (7)), .ref (ad 15 (0)), .int (s 3 2 i)].set 2 (.int x))) = kC K ad n (u3 s 3 2 i x) π := by
  funext a b
  unfold zw_up
  by_cases ha : a = 3
  · subst ha
    by_cases hb : b = i
    · subst hb; simp [kC, kE, u3, uA, upd]
    · simp [kC, kE, u3, uA, upd, hb]
  · simp [kC, u3, uA, ha]
theorem up_4_2 {x : Int32} : zw_up (kC K ad n s π) 4 i (.inr (4, [.ref (ad 12 (0)), .ref (ad 5 (33)), .int (s 4 2 i)].set 2 (.int x))) = kC K ad n (u3 s 4 2 i x) π := by
  funext a b
  unfold zw_up
  by_cases ha : a = 4
  · subst ha
    by_cases hb : b = i
    · subst hb; simp [kC, kE, u3, uA, upd]
    · simp [kC, kE, u3, uA, upd, hb]
  · simp [kC, u3, uA, ha]
theorem up_5_3 {x : Int32} : zw_up (kC K ad n s π) 5 i (.inr (5, [.ref (ad 6 (8 + i)), .ref (ad 7 (8 + i)), .ref (ad 8 (8 + i)), .int (s 5 3 i), .int (s 5 4 i), .int (s 5 5 i), .int (s 5 6 i), .int (s 5 7 i), .int (s 5 8 i)].set 3 (.int x))) = kC K ad n (u3 s 5 3 i x) π := by
  funext a b
  unfold zw_up
  by_cases ha : a = 5
  · subst ha
    by_cases hb : b = i
    · subst hb; simp [kC, kE, u3, uA, upd]
    · simp [kC, kE, u3, uA, upd, hb]
  · simp [kC, u3, uA, ha]
theorem up_5_4 {x : Int32} : zw_up (kC K ad n s π) 5 i (.inr (5, [.ref (ad 6 (8 + i)), .ref (ad 7 (8 + i)), .ref (ad 8 (8 + i)), .int (s 5 3 i), .int (s 5 4 i), .int (s 5 5 i), .int (s 5 6 i), .int (s 5 7 i), .int (s 5 8 i)].set 4 (.int x))) = kC K ad n (u3 s 5 4 i x) π := by
  funext a b
  unfold zw_up
  by_cases ha : a = 5
  · subst ha
    by_cases hb : b = i
    · subst hb; simp [kC, kE, u3, uA, upd]
    · simp [kC, kE, u3, uA, upd, hb]
  · simp [kC, u3, uA, ha]
theorem up_5_5 {x : Int32} : zw_up (kC K ad n s π) 5 i (.inr (5, [.ref (ad 6 (8 + i)), .ref (ad 7 (8 + i)), .ref (ad 8 (8 + i)), .int (s 5 3 i), .int (s 5 4 i), .int (s 5 5 i), .int (s 5 6 i), .int (s 5 7 i), .int (s 5 8 i)].set 5 (.int x))) = kC K ad n (u3 s 5 5 i x) π := by
  funext a b
  unfold zw_up
  by_cases ha : a = 5
  · subst ha
    by_cases hb : b = i
    · subst hb; simp [kC, kE, u3, uA, upd]
    · simp [kC, kE, u3, uA, upd, hb]
  · simp [kC, u3, uA, ha]
theorem up_5_6 {x : Int32} : zw_up (kC K ad n s π) 5 i (.inr (5, [.ref (ad 6 (8 + i)), .ref (ad 7 (8 + i)), .ref (ad 8 (8 + i)), .int (s 5 3 i), .int (s 5 4 i), .int (s 5 5 i), .int (s 5 6 i), .int (s 5 7 i), .int (s 5 8 i)].set 6 (.int x))) = kC K ad n (u3 s 5 6 i x) π := by
  funext a b
  unfold zw_up
  by_cases ha : a = 5
  · subst ha
    by_cases hb : b = i
    · subst hb; simp [kC, kE, u3, uA, upd]
    · simp [kC, kE, u3, uA, upd, hb]
  · simp [kC, u3, uA, ha]
theorem up_5_7 {x : Int32} : zw_up (kC K ad n s π) 5 i (.inr (5, [.ref (ad 6 (8 + i)), .ref (ad 7 (8 + i)), .ref (ad 8 (8 + i)), .int (s 5 3 i), .int (s 5 4 i), .int (s 5 5 i), .int (s 5 6 i), .int (s 5 7 i), .int (s 5 8 i)].set 7 (.int x))) = kC K ad n (u3 s 5 7 i x) π := by
  funext a b
  unfold zw_up
  by_cases ha : a = 5
  · subst ha
    by_cases hb : b = i
    · subst hb; simp [kC, kE, u3, uA, upd]
    · simp [kC, kE, u3, uA, upd, hb]
  · simp [kC, u3, uA, ha]
theorem up_5_8 {x : Int32} : zw_up (kC K ad n s π) 5 i (.inr (5, [.ref (ad 6 (8 + i)), .ref (ad 7 (8 + i)), .ref (ad 8 (8 + i)), .int (s 5 3 i), .int (s 5 4 i), .int (s 5 5 i), .int (s 5 6 i), .int (s 5 7 i), .int (s 5 8 i)].set 8 (.int x))) = kC K ad n (u3 s 5 8 i x) π := by
  funext a b
  unfold zw_up
  by_cases ha : a = 5
  · subst ha
    by_cases hb : b = i
    · subst hb; simp [kC, kE, u3, uA, upd]
    · simp [kC, kE, u3, uA, upd, hb]
  · simp [kC, u3, uA, ha]
theorem up_6_0 {x : Int32} : zw_up (kC K ad n s π) 6 i (.inr (6, [.int (s 6 0 i), .int (s 6 1 i), .int (s 6 2 i)].set 0 (.int x))) = kC K ad n (u3 s 6 0 i x) π := by
  funext a b
  unfold zw_up
  by_cases ha : a = 6
  · subst ha
    by_cases hb : b = i
    · subst hb; simp [kC, kE, u3, uA, upd]
    · simp [kC, kE, u3, uA, upd, hb]
  · simp [kC, u3, uA, ha]
theorem up_6_1 {x : Int32} : zw_up (kC K ad n s π) 6 i (.inr (6, [.int (s 6 0 i), .int (s 6 1 i), .int (s 6 2 i)].set 1 (.int x))) = kC K ad n (u3 s 6 1 i x) π := by
  funext a b
  unfold zw_up
  by_cases ha : a = 6
  · subst ha
    by_cases hb : b = i
    · subst hb; simp [kC, kE, u3, uA, upd]
    · simp [kC, kE, u3, uA, upd, hb]
  · simp [kC, u3, uA, ha]
theorem up_6_2 {x : Int32} : zw_up (kC K ad n s π) 6 i (.inr (6, [.int (s 6 0 i), .int (s 6 1 i), .int (s 6 2 i)].set 2 (.int x))) = kC K ad n (u3 s 6 2 i x) π := by
  funext a b
  unfold zw_up
  by_cases ha : a = 6
  · subst ha
    by_cases hb : b = i
    · subst hb; simp [kC, kE, u3, uA, upd]
    · simp [kC, kE, u3, uA, upd, hb]
  · simp [kC, u3, uA, ha]
theorem up_7_0 {x : Int32} : zw_up (kC K ad n s π) 7 i (.inr (7, [.int (s 7 0 i), .int (s 7 1 i), .int (s 7 2 i), .int (s 7 3 i), .int (s 7 4 i)].set 0 (.int x))) = kC K ad n (u3 s 7 0 i x) π := by
  funext a b
  unfold zw_up
  by_cases ha : a = 7
  · subst ha
    by_cases hb : b = i
    · subst hb; simp [kC, kE, u3, uA, upd]
    · simp [kC, kE, u3, uA, upd, hb]
  · simp [kC, u3, uA, ha]
theorem up_7_1 {x : Int32} : zw_up (kC K ad n s π) 7 i (.inr (7, [.int (s 7 0 i), .int (s 7 1 i), .int (s 7 2 i), .int (s 7 3 i), .int (s 7 4 i)].set 1 (.int x))) = kC K ad n (u3 s 7 1 i x) π := by
  funext a b
  unfold zw_up
  by_cases ha : a = 7
  · subst ha
    by_cases hb : b = i
    · subst hb; simp [kC, kE, u3, uA, upd]
    · simp [kC, kE, u3, uA, upd, hb]
  · simp [kC, u3, uA, ha]
theorem up_7_2 {x : Int32} : zw_up (kC K ad n s π) 7 i (.inr (7, [.int (s 7 0 i), .int (s 7 1 i), .int (s 7 2 i), .int (s 7 3 i), .int (s 7 4 i)].set 2 (.int x))) = kC K ad n (u3 s 7 2 i x) π := by
  funext a b
  unfold zw_up
  by_cases ha : a = 7
  · subst ha
    by_cases hb : b = i
    · subst hb; simp [kC, kE, u3, uA, upd]
    · simp [kC, kE, u3, uA, upd, hb]
  · simp [kC, u3, uA, ha]
theorem up_7_3 {x : Int32} : zw_up (kC K ad n s π) 7 i (.inr (7, [.int (s 7 0 i), .int (s 7 1 i), .int (s 7 2 i), .int (s 7 3 i), .int (s 7 4 i)].set 3 (.int x))) = kC K ad n (u3 s 7 3 i x) π := by
  funext a b
  unfold zw_up
  by_cases ha : a = 7
  · subst ha
    by_cases hb : b = i
    · subst hb; simp [kC, kE, u3, uA, upd]
    · simp [kC, kE, u3, uA, upd, hb]
  · simp [kC, u3, uA, ha]
theorem up_7_4 {x : Int32} : zw_up (kC K ad n s π) 7 i (.inr (7, [.int (s 7 0 i), .int (s 7 1 i), .int (s 7 2 i), .int (s 7 3 i), .int (s 7 4 i)].set 4 (.int x))) = kC K ad n (u3 s 7 4 i x) π := by
  funext a b
  unfold zw_up
  by_cases ha : a = 7
  · subst ha
    by_cases hb : b = i
    · subst hb; simp [kC, kE, u3, uA, upd]
    · simp [kC, kE, u3, uA, upd, hb]
  · simp [kC, u3, uA, ha]
theorem up_8_3 {x : Int32} : zw_up (kC K ad n s π) 8 i (.inr (8, [.ref (ad 9 (i)), .ref (ad 13 (i)), .ref (ad 14 (i)), .int (s 8 3 i)].set 3 (.int x))) = kC K ad n (u3 s 8 3 i x) π := by
  funext a b
  unfold zw_up
  by_cases ha : a = 8
  · subst ha
    by_cases hb : b = i
    · subst hb; simp [kC, kE, u3, uA, upd]
    · simp [kC, kE, u3, uA, upd, hb]
  · simp [kC, u3, uA, ha]
theorem upA_9 {f : Nat → Int32} : zw_up (kC K ad n s π) 9 i (.inl (K 0, 4, .inl f)) = kC K ad n (uA s 9 i f) π := by
  funext a b
  unfold zw_up
  by_cases ha : a = 9
  · subst ha
    by_cases hb : b = i
    · subst hb; simp [kC, kE, uA]
    · simp [kC, kE, uA, hb]
  · simp [kC, uA, ha]
theorem upI_9 {j : Nat} {x : Int32} : zw_up (kC K ad n s π) 9 i (.inl (K 0, 4, .inl (upd (s 9 i) j x))) = kC K ad n (u3 s 9 i j x) π := upA_9
theorem upA_13 {f : Nat → Int32} : zw_up (kC K ad n s π) 13 i (.inl (K 0, 3, .inl f)) = kC K ad n (uA s 13 i f) π := by
  funext a b
  unfold zw_up
  by_cases ha : a = 13
  · subst ha
    by_cases hb : b = i
    · subst hb; simp [kC, kE, uA]
    · simp [kC, kE, uA, hb]
  · simp [kC, uA, ha]
theorem upI_13 {j : Nat} {x : Int32} : zw_up (kC K ad n s π) 13 i (.inl (K 0, 3, .inl (upd (s 13 i) j x))) = kC K ad n (u3 s 13 i j x) π := upA_13
theorem upA_14 {f : Nat → Int32} : zw_up (kC K ad n s π) 14 i (.inl (K 0, 3, .inl f)) = kC K ad n (uA s 14 i f) π := by
  funext a b
  unfold zw_up
  by_cases ha : a = 14
  · subst ha
    by_cases hb : b = i
    · subst hb; simp [kC, kE, uA]
    · simp [kC, kE, uA, hb]
  · simp [kC, uA, ha]
theorem upI_14 {j : Nat} {x : Int32} : zw_up (kC K ad n s π) 14 i (.inl (K 0, 3, .inl (upd (s 14 i) j x))) = kC K ad n (u3 s 14 i j x) π := upA_14
theorem upA_15 {f : Nat → Int32} : zw_up (kC K ad n s π) 15 i (.inl (K 0, n, .inl f)) = kC K ad n (uA s 15 i f) π := by
  funext a b
  unfold zw_up
  by_cases ha : a = 15
  · subst ha
    by_cases hb : b = i
    · subst hb; simp [kC, kE, uA]
    · simp [kC, kE, uA, hb]
  · simp [kC, uA, ha]
theorem upI_15 {j : Nat} {x : Int32} : zw_up (kC K ad n s π) 15 i (.inl (K 0, n, .inl (upd (s 15 i) j x))) = kC K ad n (u3 s 15 i j x) π := upA_15
theorem upP {j q : Nat} : zw_up (kC K ad n s π) 12 0 (.inl (K 5, 33, .inr (.inr (.inr (.inr (va_up (fun j => some (ad 5 (π j))) j (some (ad 5 q)))))))) = kC K ad n s (va_up π j q) := by
  have hf : (va_up (fun j => some (ad 5 (π j))) j (some (ad 5 q))) = fun x => some (ad 5 (va_up π j q x)) := by
    funext x
    by_cases hx : x = j
    · subst hx; simp [va_up]
    · simp [va_up, hx]
  rw [hf]
  funext a b
  unfold zw_up
  by_cases ha : a = 12
  · subst ha
    by_cases hb : b = 0
    · subst hb; simp [kC, kE]
    · simp [kC, kE, hb]
  · have : ∀ π2 : Nat → Nat, kC K ad n s π2 a b = kC K ad n s π a b := by
      intro π2
      unfold kC kE
      split <;> first | rfl | exact absurd rfl ha
    simp [ha, this]
end KC
def opOK (s : S3) : Prop := ∀ x, vp_in (s 7 0 x) 3 ∧ vp_in (s 7 3 x) 4 ∧ zb (s 7 2 x)
theorem opOK.c {s : S3} (h : opOK s) (x : Nat) : vp_in (s 7 0 x) 3 := (h x).1
theorem opOK.k {s : S3} (h : opOK s) (x : Nat) : vp_in (s 7 3 x) 4 := (h x).2.1
theorem opOK.w {s : S3} (h : opOK s) (x : Nat) : zb (s 7 2 x) := (h x).2.2
/-! the roles of the class, in the order of their making; their addresses -/
def sB (i : Nat) : List (Nat × Nat) := [(1, i), (6, i), (8, i), (9, i), (13, i), (14, i), (7, i)]
def lB (j : Nat) : List (Nat × Nat) := [(5, j), (6, 8 + j), (7, 8 + j), (8, 8 + j), (9, 8 + j), (13, 8 + j), (14, 8 + j)]
def cB (c : Nat) : List (Nat × Nat) := [(2, c), (7, 5 + c)]
def cRL (n : Nat) : List (Nat × Nat) := [(0, 0), (10, 0)] ++ ((List.range n).flatMap sB ++ ([(11, 0)] ++ ((List.range 3).flatMap cB ++ ([(3, 0), (6, 7), (15, 0), (4, 0), (12, 0)] ++ (lB 33 ++ (List.range 33).flatMap lB)))))
section RLM
variable {n i j c : Nat} {q : Nat × Nat}
theorem rl_S (h : i < n) (hq : q ∈ sB i) : q ∈ cRL n := List.mem_append_right _ (List.mem_append_left _ (List.mem_flatMap.mpr ⟨i, List.mem_range.mpr h, hq⟩))
theorem rl_C (h : c < 3) (hq : q ∈ cB c) : q ∈ cRL n := List.mem_append_right _ (List.mem_append_right _ (List.mem_append_right _ (List.mem_append_left _ (List.mem_flatMap.mpr ⟨c, List.mem_range.mpr h, hq⟩))))
theorem rl_F (hq : q ∈ [(3, 0), (6, 7), (15, 0), (4, 0), (12, 0)]) : q ∈ cRL n := List.mem_append_right _ (List.mem_append_right _ (List.mem_append_right _ (List.mem_append_right _ (List.mem_append_left _ hq))))
theorem rl_L (h : j < 34) (hq : q ∈ lB j) : q ∈ cRL n := by
  by_cases hj : j = 33
  · subst hj
    exact List.mem_append_right _ (List.mem_append_right _ (List.mem_append_right _ (List.mem_append_right _ (List.mem_append_right _ (List.mem_append_left _ hq)))))
  · exact List.mem_append_right _ (List.mem_append_right _ (List.mem_append_right _ (List.mem_append_right _ (List.mem_append_right _ (List.mem_append_right _ (List.mem_flatMap.mpr ⟨j, List.mem_range.mpr (by omega), hq⟩))))))
theorem rl_cases (h : q ∈ cRL n) : q = (0, 0) ∨ q = (10, 0) ∨ (∃ i, i < n ∧ q ∈ sB i) ∨ q = (11, 0) ∨ (∃ c, c < 3 ∧ q ∈ cB c) ∨ q ∈ [(3, 0), (6, 7), (15, 0), (4, 0), (12, 0)] ∨ ∃ j, j < 34 ∧ q ∈ lB j := by
  unfold cRL at h
  rcases List.mem_append.mp h with h | h
  · simp at h; rcases h with h | h
    · exact Or.inl h
    · exact Or.inr (Or.inl h)
  rcases List.mem_append.mp h with h | h
  · obtain ⟨i, hi, hq⟩ := List.mem_flatMap.mp h
    exact Or.inr (Or.inr (Or.inl ⟨i, List.mem_range.mp hi, hq⟩))
  rcases List.mem_append.mp h with h | h
  · simp at h
    exact Or.inr (Or.inr (Or.inr (Or.inl h)))
  rcases List.mem_append.mp h with h | h
  · obtain ⟨i, hi, hq⟩ := List.mem_flatMap.mp h
    exact Or.inr (Or.inr (Or.inr (Or.inr (Or.inl ⟨i, List.mem_range.mp hi, hq⟩))))
  rcases List.mem_append.mp h with h | h
  · exact Or.inr (Or.inr (Or.inr (Or.inr (Or.inr (Or.inl h)))))
  rcases List.mem_append.mp h with h | h
  · exact Or.inr (Or.inr (Or.inr (Or.inr (Or.inr (Or.inr ⟨33, by omega, h⟩)))))
  · obtain ⟨i, hi, hq⟩ := List.mem_flatMap.mp h
    have := List.mem_range.mp hi
    exact Or.inr (Or.inr (Or.inr (Or.inr (Or.inr (Or.inr ⟨i, by omega, hq⟩)))))
theorem rl_srv (h : i < n) : (1, i) ∈ cRL n := rl_S h (by simp [sB])
theorem rl_cli (h : c < 3) : (2, c) ∈ cRL n := rl_C h (by simp [cB])
theorem rl_let (h : j < 34) : (5, j) ∈ cRL n := rl_L h (by simp [lB])
theorem rl_1 (h : (1, i) ∈ cRL n) : i < n := by
  rcases rl_cases h with h | h | ⟨j, hj, h⟩ | h | ⟨j, hj, h⟩ | h | ⟨j, hj, h⟩ <;> simp [sB, cB, lB] at h
  omega
theorem rl_2 (h : (2, c) ∈ cRL n) : c < 3 := by
  rcases rl_cases h with h | h | ⟨j, hj, h⟩ | h | ⟨j, hj, h⟩ | h | ⟨j, hj, h⟩ <;> simp [sB, cB, lB] at h
  omega
theorem rl_5 (h : (5, j) ∈ cRL n) : j < 34 := by
  rcases rl_cases h with h | h | ⟨i, hi, h⟩ | h | ⟨i, hi, h⟩ | h | ⟨i, hi, h⟩ <;> simp [sB, cB, lB] at h
  omega
theorem rl_8 (h : (8, i) ∈ cRL n) : i < n ∨ ∃ j, j < 34 ∧ i = 8 + j := by
  rcases rl_cases h with h | h | ⟨j, hj, h⟩ | h | ⟨j, hj, h⟩ | h | ⟨j, hj, h⟩ <;> simp [sB, cB, lB] at h
  · exact Or.inl (by omega)
  · exact Or.inr ⟨j, hj, h⟩
theorem rl_0 : (0, 0) ∈ cRL n := List.mem_append_left _ (by simp)
theorem rl_10 : (10, 0) ∈ cRL n := List.mem_append_left _ (by simp)
theorem rl_11 : (11, 0) ∈ cRL n := List.mem_append_right _ (List.mem_append_right _ (List.mem_append_left _ (by simp)))
theorem rl_3 : (3, 0) ∈ cRL n := rl_F (by simp)
theorem rl_67 : (6, 7) ∈ cRL n := rl_F (by simp)
theorem rl_15 : (15, 0) ∈ cRL n := rl_F (by simp)
theorem rl_4 : (4, 0) ∈ cRL n := rl_F (by simp)
theorem rl_12 : (12, 0) ∈ cRL n := rl_F (by simp)
theorem rl_533 : (5, 33) ∈ cRL n := rl_L (j := 33) (by omega) (by simp [lB])
theorem rl_sv (h : (1, i) ∈ cRL n) : (6, i) ∈ cRL n := rl_S (rl_1 h) (by simp [sB])
theorem rl_ss (h : (1, i) ∈ cRL n) : (8, i) ∈ cRL n := rl_S (rl_1 h) (by simp [sB])
theorem rl_so (h : (1, i) ∈ cRL n) : (7, i) ∈ cRL n := rl_S (rl_1 h) (by simp [sB])
theorem rl_co (h : (2, c) ∈ cRL n) : (7, 5 + c) ∈ cRL n := rl_C (rl_2 h) (by simp [cB])
theorem rl_lv (h : (5, j) ∈ cRL n) : (6, 8 + j) ∈ cRL n := rl_L (rl_5 h) (by simp [lB])
theorem rl_lo (h : (5, j) ∈ cRL n) : (7, 8 + j) ∈ cRL n := rl_L (rl_5 h) (by simp [lB])
theorem rl_ls (h : (5, j) ∈ cRL n) : (8, 8 + j) ∈ cRL n := rl_L (rl_5 h) (by simp [lB])
theorem rl_s9 (h : (8, i) ∈ cRL n) : (9, i) ∈ cRL n := by
  rcases rl_8 h with h | ⟨j, hj, rfl⟩
  · exact rl_S h (by simp [sB])
  · exact rl_L hj (by simp [lB])
theorem rl_s13 (h : (8, i) ∈ cRL n) : (13, i) ∈ cRL n := by
  rcases rl_8 h with h | ⟨j, hj, rfl⟩
  · exact rl_S h (by simp [sB])
  · exact rl_L hj (by simp [lB])
theorem rl_s14 (h : (8, i) ∈ cRL n) : (14, i) ∈ cRL n := by
  rcases rl_8 h with h | ⟨j, hj, rfl⟩
  · exact rl_S h (by simp [sB])
  · exact rl_L hj (by simp [lB])
end RLM

