/-! the memory: what each kind's fields and places hold -/
abbrev Mem : Type := (Nat → Nat → Int → Int → Int) × (Nat → Nat → Int → Int → Int64)
abbrev Ad : Type := Nat → Int → Nat
def RM (M : Mem) : Prop := ∀ (k f : Nat) (i j : Int), rng (M.1 k f i j)
def setI (M : Mem) (k f : Nat) (i j v : Int) : Mem := (fun k' f' i' j' => if k' = k ∧ f' = f ∧ i' = i ∧ j' = j then v else M.1 k' f' i' j', M.2)
def setL (M : Mem) (k f : Nat) (i j : Int) (v : Int64) : Mem := (M.1, fun k' f' i' j' => if k' = k ∧ f' = f ∧ i' = i ∧ j' = j then v else M.2 k' f' i' j')
theorem setI_1 (M : Mem) (k f : Nat) (i j v : Int) (k' f' : Nat) (i' j' : Int) : (setI M k f i j v).1 k' f' i' j' = if k' = k ∧ f' = f ∧ i' = i ∧ j' = j then v else M.1 k' f' i' j' := rfl
theorem setI_2 (M : Mem) (k f : Nat) (i j v : Int) : (setI M k f i j v).2 = M.2 := rfl
theorem setL_1 (M : Mem) (k f : Nat) (i j : Int) (v : Int64) : (setL M k f i j v).1 = M.1 := rfl
theorem setL_2 (M : Mem) (k f : Nat) (i j : Int) (v : Int64) (k' f' : Nat) (i' j' : Int) : (setL M k f i j v).2 k' f' i' j' = if k' = k ∧ f' = f ∧ i' = i ∧ j' = j then v else M.2 k' f' i' j' := rfl
theorem RM_setI {M : Mem} (h : RM M) {k f : Nat} {i j v : Int} (hv : rng v) : RM (setI M k f i j v) := by
  intro k' f' i' j'
  rw [setI_1]
  split
  · exact hv
  · exact h _ _ _ _
theorem RM_setL {M : Mem} (h : RM M) {k f : Nat} {i j : Int} {v : Int64} : RM (setL M k f i j v) := h
abbrev tysO (c : Nat → ClassId) : List (ClassId × FieldType) := [(c 0, .int), (c 1, .long), (c 2, .boolean), (c 3, .double), (c 4, .object RX8), (c 5, .object RX10), (c 6, .object RX3), (c 7, .array .int)]
/-- a cell by its kind, its number and the slice of the memory that is its own -/
def entK (c : Nat → ClassId) (ad : Ad) (i : Int) (S1 : Nat → Int → Int) (S2 : Nat → Int → Int64) : Nat → va_E
  | 0 => .inr (11, [.ref (ad 1 i), .int (iI (S1 1 0)), .int (iI (S1 2 0)), .int (iI (S1 3 0)), .ref (ad 2 i), .ref (ad 5 i), .int (iI (S1 6 0)), .int (iI (S1 7 0)), .ref (ad 6 i), .ref (ad 10 i)])
  | 1 => .inl (c 4, 12, .inr (.inr (.inr (.inr (fun j : Nat => some (ad 16 (j : Int)))))))
  | 2 => .inr (6, [.ref (ad 3 i)])
  | 3 => .inl (c 7, 61, .inr (.inr (.inr (.inr (fun j : Nat => some (ad 4 (j : Int)))))))
  | 4 => .inl (c 0, 61, .inl (fun j : Nat => iI (S1 0 (j : Int))))
  | 5 => .inl (c 5, 6, .inr (.inr (.inr (.inr (fun j : Nat => some (ad 22 (j : Int)))))))
  | 6 => .inr (9, [.int (iI (S1 0 0)), .ref (ad 7 i), .ref (ad 8 i), .ref (ad 9 i)])
  | 7 => .inl (c 0, 100, .inl (fun j : Nat => iI (S1 0 (j : Int))))
  | 8 => .inl (c 0, 100, .inl (fun j : Nat => iI (S1 0 (j : Int))))
  | 9 => .inl (c 0, 10, .inl (fun j : Nat => iI (S1 0 (j : Int))))
  | 10 => .inr (2, [.int (iI (S1 0 0)), .int (iI (S1 1 0)), .ref (ad 11 i), .ref (ad 12 i)])
  | 11 => .inl (c 6, 120, .inr (.inr (.inr (.inr (fun j : Nat => some (ad 31 (j : Int)))))))
  | 12 => .inr (0, [.int (iI (S1 0 0)), .ref (ad 13 i), .ref (ad 14 i), .ref (ad 15 i)])
  | 13 => .inl (c 0, (S1 1 0).toNat, .inl (fun j : Nat => iI (S1 0 (j : Int))))
  | 14 => .inl (c 1, (S1 1 0).toNat, .inr (.inl (fun j : Nat => S2 0 (j : Int))))
  | 15 => .inl (c 0, (S1 1 0).toNat, .inl (fun j : Nat => iI (S1 0 (j : Int))))
  | 16 => .inr (8, [.int (iI (S1 0 0)), .int (iI (S1 1 0)), .int (iI (S1 2 0)), .int (iI (S1 3 0)), .int (iI (S1 4 0)), .int (iI (S1 5 0)), .int (iI (S1 6 0)), .int (iI (S1 7 0)), .int (iI (S1 8 0)), .int (iI (S1 9 0)), .ref (ad 17 i), .ref (ad 18 i), .ref (ad 19 i), .ref (ad 20 i), .ref (ad 21 i)])
  | 17 => .inl (c 0, 60, .inl (fun j : Nat => iI (S1 0 (j : Int))))
  | 18 => .inl (c 1, 60, .inr (.inl (fun j : Nat => S2 0 (j : Int))))
  | 19 => .inl (c 2, 60, .inl (fun j : Nat => iI (S1 0 (j : Int))))
  | 20 => .inl (c 0, 1000, .inl (fun j : Nat => iI (S1 0 (j : Int))))
  | 21 => .inl (c 2, 1000, .inl (fun j : Nat => iI (S1 0 (j : Int))))
  | 22 => .inr (10, [.int (iI (S1 0 0)), .int (iI (S1 1 0)), .int (iI (S1 2 0)), .int (iI (S1 3 0)), .int (iI (S1 4 0)), .ref (ad 23 i), .ref (ad 24 i), .ref (ad 25 i), .int (iI (S1 8 0)), .ref (ad 26 i), .ref (ad 27 i), .ref (ad 28 i), .ref (ad 29 i), .ref (ad 30 i)])
  | 23 => .inl (c 0, 10, .inl (fun j : Nat => iI (S1 0 (j : Int))))
  | 24 => .inl (c 0, 10, .inl (fun j : Nat => iI (S1 0 (j : Int))))
  | 25 => .inl (c 0, 10, .inl (fun j : Nat => iI (S1 0 (j : Int))))
  | 26 => .inl (c 0, 40, .inl (fun j : Nat => iI (S1 0 (j : Int))))
  | 27 => .inl (c 0, 40, .inl (fun j : Nat => iI (S1 0 (j : Int))))
  | 28 => .inl (c 0, 40, .inl (fun j : Nat => iI (S1 0 (j : Int))))
  | 29 => .inl (c 0, 40, .inl (fun j : Nat => iI (S1 0 (j : Int))))
  | 30 => .inl (c 2, 10, .inl (fun j : Nat => iI (S1 0 (j : Int))))
  | 31 => .inr (3, [.int (iI (S1 0 0)), .int (iI (S1 1 0)), .int (iI (S1 2 0)), .long (S2 3 0), .long (S2 4 0), .int (iI (S1 5 0)), .int (iI (S1 6 0)), .int (iI (S1 7 0))])
  | 40 => .inr (12, [.ref (ad 41 i), .ref (ad 42 i), .ref (ad 43 i), .ref (ad 44 i), .ref (ad 45 i), .ref (ad 46 i), .ref (ad 47 i), .ref (ad 48 i), .ref (ad 49 i), .ref (ad 50 i), .int (iI (S1 10 0)), .int (iI (S1 11 0)), .int (iI (S1 12 0)), .ref (ad 51 i), .ref (ad 52 i), .ref (ad 53 i), .ref (ad 54 i), .ref (ad 55 i), .ref (ad 56 i), .ref (ad 57 i), .ref (ad 58 i), .ref (ad 59 i), .int (iI (S1 22 0)), .ref (ad 60 i), .ref (ad 61 i), .int (iI (S1 25 0)), .ref (ad 62 i), .ref (ad 63 i), .ref (ad 64 i), .ref (ad 65 i), .ref (ad 66 i), .int (iI (S1 31 0)), .ref (ad 67 i), .ref (ad 68 i), .ref (ad 69 i), .ref (ad 70 i), .ref (ad 71 i), .ref (ad 72 i), .ref (ad 73 i), .int (iI (S1 39 0)), .int (iI (S1 40 0)), .ref (ad 74 i), .ref (ad 75 i), .ref (ad 76 i), .int (iI (S1 44 0)), .ref (ad 77 i), .int (iI (S1 46 0)), .ref (ad 78 i), .ref (ad 79 i)])
  | 41 => .inl (c 0, 12, .inl (fun j : Nat => iI (S1 0 (j : Int))))
  | 42 => .inl (c 0, 12, .inl (fun j : Nat => iI (S1 0 (j : Int))))
  | 43 => .inl (c 0, 12, .inl (fun j : Nat => iI (S1 0 (j : Int))))
  | 44 => .inl (c 0, 12, .inl (fun j : Nat => iI (S1 0 (j : Int))))
  | 45 => .inl (c 0, 12, .inl (fun j : Nat => iI (S1 0 (j : Int))))
  | 46 => .inl (c 0, 12, .inl (fun j : Nat => iI (S1 0 (j : Int))))
  | 47 => .inl (c 0, 12, .inl (fun j : Nat => iI (S1 0 (j : Int))))
  | 48 => .inl (c 0, 720, .inl (fun j : Nat => iI (S1 0 (j : Int))))
  | 49 => .inl (c 1, 720, .inr (.inl (fun j : Nat => S2 0 (j : Int))))
  | 50 => .inl (c 0, 720, .inl (fun j : Nat => iI (S1 0 (j : Int))))
  | 51 => .inl (c 0, 3721, .inl (fun j : Nat => iI (S1 0 (j : Int))))
  | 52 => .inl (c 0, 6, .inl (fun j : Nat => iI (S1 0 (j : Int))))
  | 53 => .inl (c 0, 6, .inl (fun j : Nat => iI (S1 0 (j : Int))))
  | 54 => .inl (c 0, 6, .inl (fun j : Nat => iI (S1 0 (j : Int))))
  | 55 => .inl (c 0, 6, .inl (fun j : Nat => iI (S1 0 (j : Int))))
  | 56 => .inl (c 0, 60, .inl (fun j : Nat => iI (S1 0 (j : Int))))
  | 57 => .inl (c 0, 60, .inl (fun j : Nat => iI (S1 0 (j : Int))))
  | 58 => .inl (c 0, 60, .inl (fun j : Nat => iI (S1 0 (j : Int))))
  | 59 => .inl (c 0, 6, .inl (fun j : Nat => iI (S1 0 (j : Int))))
  | 60 => .inl (c 0, 100, .inl (fun j : Nat => iI (S1 0 (j : Int))))
  | 61 => .inl (c 0, 100, .inl (fun j : Nat => iI (S1 0 (j : Int))))
  | 62 => .inl (c 0, 40, .inl (fun j : Nat => iI (S1 0 (j : Int))))
  | 63 => .inl (c 0, 40, .inl (fun j : Nat => iI (S1 0 (j : Int))))
  | 64 => .inl (c 0, 40, .inl (fun j : Nat => iI (S1 0 (j : Int))))
  | 65 => .inl (c 0, 40, .inl (fun j : Nat => iI (S1 0 (j : Int))))
  | 66 => .inl (c 0, 40, .inl (fun j : Nat => iI (S1 0 (j : Int))))
  | 67 => .inl (c 0, 120, .inl (fun j : Nat => iI (S1 0 (j : Int))))
  | 68 => .inl (c 0, 120, .inl (fun j : Nat => iI (S1 0 (j : Int))))
  | 69 => .inl (c 0, 120, .inl (fun j : Nat => iI (S1 0 (j : Int))))
  | 70 => .inl (c 1, 120, .inr (.inl (fun j : Nat => S2 0 (j : Int))))
  | 71 => .inl (c 1, 120, .inr (.inl (fun j : Nat => S2 0 (j : Int))))
  | 72 => .inl (c 0, 120, .inl (fun j : Nat => iI (S1 0 (j : Int))))
  | 73 => .inl (c 1, 120, .inr (.inl (fun j : Nat => S2 0 (j : Int))))
  | 74 => .inl (c 0, 62000, .inl (fun j : Nat => iI (S1 0 (j : Int))))
  | 75 => .inl (c 1, 62000, .inr (.inl (fun j : Nat => S2 0 (j : Int))))
  | 76 => .inl (c 0, 62000, .inl (fun j : Nat => iI (S1 0 (j : Int))))
  | 77 => .inl (c 0, 10, .inl (fun j : Nat => iI (S1 0 (j : Int))))
  | 78 => .inl (c 2, 1000, .inl (fun j : Nat => iI (S1 0 (j : Int))))
  | 79 => .inl (c 2, 1000, .inl (fun j : Nat => iI (S1 0 (j : Int))))
  | 90 => .inl (c 1, 1, .inr (.inl (fun j : Nat => S2 0 (j : Int))))
  | 91 => .inl (c 3, 1, .inr (.inr (.inr (.inl (fun j : Nat => (S2 0 (j : Int)).toUInt64)))))
  | 95 => .inr (1, [.int (iI (S1 0 0))])
  | 96 => .inr (4, [])
  | _ => .inr (0, [])
def ent (c : Nat → ClassId) (ad : Ad) (M : Mem) (k : Nat) (i : Int) : va_E := entK c ad i (fun f j => M.1 k f i j) (fun f j => M.2 k f i j) k
theorem ent_slice {c : Nat → ClassId} {ad : Ad} {M M' : Mem} {k : Nat} {i : Int} (h1 : ∀ f j, M'.1 k f i j = M.1 k f i j) (h2 : ∀ f j, M'.2 k f i j = M.2 k f i j) : ent c ad M' k i = ent c ad M k i := by
  unfold ent
  rw [show (fun f j => M'.1 k f i j) = (fun f j => M.1 k f i j) from funext fun f => funext fun j => h1 f j, show (fun f j => M'.2 k f i j) = (fun f j => M.2 k f i j) from funext fun f => funext fun j => h2 f j]
theorem en0 (c : Nat → ClassId) (ad : Ad) (M : Mem) (i : Int) : ent c ad M 0 i = .inr (11, [.ref (ad 1 i), .int (iI (M.1 0 1 i 0)), .int (iI (M.1 0 2 i 0)), .int (iI (M.1 0 3 i 0)), .ref (ad 2 i), .ref (ad 5 i), .int (iI (M.1 0 6 i 0)), .int (iI (M.1 0 7 i 0)), .ref (ad 6 i), .ref (ad 10 i)]) := rfl
theorem en1 (c : Nat → ClassId) (ad : Ad) (M : Mem) (i : Int) : ent c ad M 1 i = .inl (c 4, 12, .inr (.inr (.inr (.inr (fun j : Nat => some (ad 16 (j : Int))))))) := rfl
theorem en2 (c : Nat → ClassId) (ad : Ad) (M : Mem) (i : Int) : ent c ad M 2 i = .inr (6, [.ref (ad 3 i)]) := rfl
theorem en3 (c : Nat → ClassId) (ad : Ad) (M : Mem) (i : Int) : ent c ad M 3 i = .inl (c 7, 61, .inr (.inr (.inr (.inr (fun j : Nat => some (ad 4 (j : Int))))))) := rfl
theorem en4 (c : Nat → ClassId) (ad : Ad) (M : Mem) (i : Int) : ent c ad M 4 i = .inl (c 0, 61, .inl (fun j : Nat => iI (M.1 4 0 i (j : Int)))) := rfl
theorem en5 (c : Nat → ClassId) (ad : Ad) (M : Mem) (i : Int) : ent c ad M 5 i = .inl (c 5, 6, .inr (.inr (.inr (.inr (fun j : Nat => some (ad 22 (j : Int))))))) := rfl
theorem en6 (c : Nat → ClassId) (ad : Ad) (M : Mem) (i : Int) : ent c ad M 6 i = .inr (9, [.int (iI (M.1 6 0 i 0)), .ref (ad 7 i), .ref (ad 8 i), .ref (ad 9 i)]) := rfl
theorem en7 (c : Nat → ClassId) (ad : Ad) (M : Mem) (i : Int) : ent c ad M 7 i = .inl (c 0, 100, .inl (fun j : Nat => iI (M.1 7 0 i (j : Int)))) := rfl
theorem en8 (c : Nat → ClassId) (ad : Ad) (M : Mem) (i : Int) : ent c ad M 8 i = .inl (c 0, 100, .inl (fun j : Nat => iI (M.1 8 0 i (j : Int)))) := rfl
theorem en9 (c : Nat → ClassId) (ad : Ad) (M : Mem) (i : Int) : ent c ad M 9 i = .inl (c 0, 10, .inl (fun j : Nat => iI (M.1 9 0 i (j : Int)))) := rfl
theorem en10 (c : Nat → ClassId) (ad : Ad) (M : Mem) (i : Int) : ent c ad M 10 i = .inr (2, [.int (iI (M.1 10 0 i 0)), .int (iI (M.1 10 1 i 0)), .ref (ad 11 i), .ref (ad 12 i)]) := rfl
theorem en11 (c : Nat → ClassId) (ad : Ad) (M : Mem) (i : Int) : ent c ad M 11 i = .inl (c 6, 120, .inr (.inr (.inr (.inr (fun j : Nat => some (ad 31 (j : Int))))))) := rfl
theorem en12 (c : Nat → ClassId) (ad : Ad) (M : Mem) (i : Int) : ent c ad M 12 i = .inr (0, [.int (iI (M.1 12 0 i 0)), .ref (ad 13 i), .ref (ad 14 i), .ref (ad 15 i)]) := rfl
theorem en13 (c : Nat → ClassId) (ad : Ad) (M : Mem) (i : Int) : ent c ad M 13 i = .inl (c 0, (M.1 13 1 i 0).toNat, .inl (fun j : Nat => iI (M.1 13 0 i (j : Int)))) := rfl
theorem en14 (c : Nat → ClassId) (ad : Ad) (M : Mem) (i : Int) : ent c ad M 14 i = .inl (c 1, (M.1 14 1 i 0).toNat, .inr (.inl (fun j : Nat => M.2 14 0 i (j : Int)))) := rfl
theorem en15 (c : Nat → ClassId) (ad : Ad) (M : Mem) (i : Int) : ent c ad M 15 i = .inl (c 0, (M.1 15 1 i 0).toNat, .inl (fun j : Nat => iI (M.1 15 0 i (j : Int)))) := rfl
theorem en16 (c : Nat → ClassId) (ad : Ad) (M : Mem) (i : Int) : ent c ad M 16 i = .inr (8, [.int (iI (M.1 16 0 i 0)), .int (iI (M.1 16 1 i 0)), .int (iI (M.1 16 2 i 0)), .int (iI (M.1 16 3 i 0)), .int (iI (M.1 16 4 i 0)), .int (iI (M.1 16 5 i 0)), .int (iI (M.1 16 6 i 0)), .int (iI (M.1 16 7 i 0)), .int (iI (M.1 16 8 i 0)), .int (iI (M.1 16 9 i 0)), .ref (ad 17 i), .ref (ad 18 i), .ref (ad 19 i), .ref (ad 20 i), .ref (ad 21 i)]) := rfl
theorem en17 (c : Nat → ClassId) (ad : Ad) (M : Mem) (i : Int) : ent c ad M 17 i = .inl (c 0, 60, .inl (fun j : Nat => iI (M.1 17 0 i (j : Int)))) := rfl
theorem en18 (c : Nat → ClassId) (ad : Ad) (M : Mem) (i : Int) : ent c ad M 18 i = .inl (c 1, 60, .inr (.inl (fun j : Nat => M.2 18 0 i (j : Int)))) := rfl
theorem en19 (c : Nat → ClassId) (ad : Ad) (M : Mem) (i : Int) : ent c ad M 19 i = .inl (c 2, 60, .inl (fun j : Nat => iI (M.1 19 0 i (j : Int)))) := rfl
theorem en20 (c : Nat → ClassId) (ad : Ad) (M : Mem) (i : Int) : ent c ad M 20 i = .inl (c 0, 1000, .inl (fun j : Nat => iI (M.1 20 0 i (j : Int)))) := rfl
theorem en21 (c : Nat → ClassId) (ad : Ad) (M : Mem) (i : Int) : ent c ad M 21 i = .inl (c 2, 1000, .inl (fun j : Nat => iI (M.1 21 0 i (j : Int)))) := rfl
theorem en22 (c : Nat → ClassId) (ad : Ad) (M : Mem) (i : Int) : ent c ad M 22 i = .inr (10, [.int (iI (M.1 22 0 i 0)), .int (iI (M.1 22 1 i 0)), .int (iI (M.1 22 2 i 0)), .int (iI (M.1 22 3 i 0)), .int (iI (M.1 22 4 i 0)), .ref (ad 23 i), .ref (ad 24 i), .ref (ad 25 i), .int (iI (M.1 22 8 i 0)), .ref (ad 26 i), .ref (ad 27 i), .ref (ad 28 i), .ref (ad 29 i), .ref (ad 30 i)]) := rfl
theorem en23 (c : Nat → ClassId) (ad : Ad) (M : Mem) (i : Int) : ent c ad M 23 i = .inl (c 0, 10, .inl (fun j : Nat => iI (M.1 23 0 i (j : Int)))) := rfl
theorem en24 (c : Nat → ClassId) (ad : Ad) (M : Mem) (i : Int) : ent c ad M 24 i = .inl (c 0, 10, .inl (fun j : Nat => iI (M.1 24 0 i (j : Int)))) := rfl
theorem en25 (c : Nat → ClassId) (ad : Ad) (M : Mem) (i : Int) : ent c ad M 25 i = .inl (c 0, 10, .inl (fun j : Nat => iI (M.1 25 0 i (j : Int)))) := rfl
theorem en26 (c : Nat → ClassId) (ad : Ad) (M : Mem) (i : Int) : ent c ad M 26 i = .inl (c 0, 40, .inl (fun j : Nat => iI (M.1 26 0 i (j : Int)))) := rfl
theorem en27 (c : Nat → ClassId) (ad : Ad) (M : Mem) (i : Int) : ent c ad M 27 i = .inl (c 0, 40, .inl (fun j : Nat => iI (M.1 27 0 i (j : Int)))) := rfl
theorem en28 (c : Nat → ClassId) (ad : Ad) (M : Mem) (i : Int) : ent c ad M 28 i = .inl (c 0, 40, .inl (fun j : Nat => iI (M.1 28 0 i (j : Int)))) := rfl
theorem en29 (c : Nat → ClassId) (ad : Ad) (M : Mem) (i : Int) : ent c ad M 29 i = .inl (c 0, 40, .inl (fun j : Nat => iI (M.1 29 0 i (j : Int)))) := rfl
theorem en30 (c : Nat → ClassId) (ad : Ad) (M : Mem) (i : Int) : ent c ad M 30 i = .inl (c 2, 10, .inl (fun j : Nat => iI (M.1 30 0 i (j : Int)))) := rfl
theorem en31 (c : Nat → ClassId) (ad : Ad) (M : Mem) (i : Int) : ent c ad M 31 i = .inr (3, [.int (iI (M.1 31 0 i 0)), .int (iI (M.1 31 1 i 0)), .int (iI (M.1 31 2 i 0)), .long (M.2 31 3 i 0), .long (M.2 31 4 i 0), .int (iI (M.1 31 5 i 0)), .int (iI (M.1 31 6 i 0)), .int (iI (M.1 31 7 i 0))]) := rfl
theorem en40 (c : Nat → ClassId) (ad : Ad) (M : Mem) (i : Int) : ent c ad M 40 i = .inr (12, [.ref (ad 41 i), .ref (ad 42 i), .ref (ad 43 i), .ref (ad 44 i), .ref (ad 45 i), .ref (ad 46 i), .ref (ad 47 i), .ref (ad 48 i), .ref (ad 49 i), .ref (ad 50 i), .int (iI (M.1 40 10 i 0)), .int (iI (M.1 40 11 i 0)), .int (iI (M.1 40 12 i 0)), .ref (ad 51 i), .ref (ad 52 i), .ref (ad 53 i), .ref (ad 54 i), .ref (ad 55 i), .ref (ad 56 i), .ref (ad 57 i), .ref (ad 58 i), .ref (ad 59 i), .int (iI (M.1 40 22 i 0)), .ref (ad 60 i), .ref (ad 61 i), .int (iI (M.1 40 25 i 0)), .ref (ad 62 i), .ref (ad 63 i), .ref (ad 64 i), .ref (ad 65 i), .ref (ad 66 i), .int (iI (M.1 40 31 i 0)), .ref (ad 67 i), .ref (ad 68 i), .ref (ad 69 i), .ref (ad 70 i), .ref (ad 71 i), .ref (ad 72 i), .ref (ad 73 i), .int (iI (M.1 40 39 i 0)), .int (iI (M.1 40 40 i 0)), .ref (ad 74 i), .ref (ad 75 i), .ref (ad 76 i), .int (iI (M.1 40 44 i 0)), .ref (ad 77 i), .int (iI (M.1 40 46 i 0)), .ref (ad 78 i), .ref (ad 79 i)]) := rfl
theorem en41 (c : Nat → ClassId) (ad : Ad) (M : Mem) (i : Int) : ent c ad M 41 i = .inl (c 0, 12, .inl (fun j : Nat => iI (M.1 41 0 i (j : Int)))) := rfl
theorem en42 (c : Nat → ClassId) (ad : Ad) (M : Mem) (i : Int) : ent c ad M 42 i = .inl (c 0, 12, .inl (fun j : Nat => iI (M.1 42 0 i (j : Int)))) := rfl
theorem en43 (c : Nat → ClassId) (ad : Ad) (M : Mem) (i : Int) : ent c ad M 43 i = .inl (c 0, 12, .inl (fun j : Nat => iI (M.1 43 0 i (j : Int)))) := rfl
theorem en44 (c : Nat → ClassId) (ad : Ad) (M : Mem) (i : Int) : ent c ad M 44 i = .inl (c 0, 12, .inl (fun j : Nat => iI (M.1 44 0 i (j : Int)))) := rfl
theorem en45 (c : Nat → ClassId) (ad : Ad) (M : Mem) (i : Int) : ent c ad M 45 i = .inl (c 0, 12, .inl (fun j : Nat => iI (M.1 45 0 i (j : Int)))) := rfl
theorem en46 (c : Nat → ClassId) (ad : Ad) (M : Mem) (i : Int) : ent c ad M 46 i = .inl (c 0, 12, .inl (fun j : Nat => iI (M.1 46 0 i (j : Int)))) := rfl
theorem en47 (c : Nat → ClassId) (ad : Ad) (M : Mem) (i : Int) : ent c ad M 47 i = .inl (c 0, 12, .inl (fun j : Nat => iI (M.1 47 0 i (j : Int)))) := rfl
theorem en48 (c : Nat → ClassId) (ad : Ad) (M : Mem) (i : Int) : ent c ad M 48 i = .inl (c 0, 720, .inl (fun j : Nat => iI (M.1 48 0 i (j : Int)))) := rfl
theorem en49 (c : Nat → ClassId) (ad : Ad) (M : Mem) (i : Int) : ent c ad M 49 i = .inl (c 1, 720, .inr (.inl (fun j : Nat => M.2 49 0 i (j : Int)))) := rfl
theorem en50 (c : Nat → ClassId) (ad : Ad) (M : Mem) (i : Int) : ent c ad M 50 i = .inl (c 0, 720, .inl (fun j : Nat => iI (M.1 50 0 i (j : Int)))) := rfl
theorem en51 (c : Nat → ClassId) (ad : Ad) (M : Mem) (i : Int) : ent c ad M 51 i = .inl (c 0, 3721, .inl (fun j : Nat => iI (M.1 51 0 i (j : Int)))) := rfl
theorem en52 (c : Nat → ClassId) (ad : Ad) (M : Mem) (i : Int) : ent c ad M 52 i = .inl (c 0, 6, .inl (fun j : Nat => iI (M.1 52 0 i (j : Int)))) := rfl
theorem en53 (c : Nat → ClassId) (ad : Ad) (M : Mem) (i : Int) : ent c ad M 53 i = .inl (c 0, 6, .inl (fun j : Nat => iI (M.1 53 0 i (j : Int)))) := rfl
theorem en54 (c : Nat → ClassId) (ad : Ad) (M : Mem) (i : Int) : ent c ad M 54 i = .inl (c 0, 6, .inl (fun j : Nat => iI (M.1 54 0 i (j : Int)))) := rfl
theorem en55 (c : Nat → ClassId) (ad : Ad) (M : Mem) (i : Int) : ent c ad M 55 i = .inl (c 0, 6, .inl (fun j : Nat => iI (M.1 55 0 i (j : Int)))) := rfl
theorem en56 (c : Nat → ClassId) (ad : Ad) (M : Mem) (i : Int) : ent c ad M 56 i = .inl (c 0, 60, .inl (fun j : Nat => iI (M.1 56 0 i (j : Int)))) := rfl
theorem en57 (c : Nat → ClassId) (ad : Ad) (M : Mem) (i : Int) : ent c ad M 57 i = .inl (c 0, 60, .inl (fun j : Nat => iI (M.1 57 0 i (j : Int)))) := rfl
theorem en58 (c : Nat → ClassId) (ad : Ad) (M : Mem) (i : Int) : ent c ad M 58 i = .inl (c 0, 60, .inl (fun j : Nat => iI (M.1 58 0 i (j : Int)))) := rfl
theorem en59 (c : Nat → ClassId) (ad : Ad) (M : Mem) (i : Int) : ent c ad M 59 i = .inl (c 0, 6, .inl (fun j : Nat => iI (M.1 59 0 i (j : Int)))) := rfl
theorem en60 (c : Nat → ClassId) (ad : Ad) (M : Mem) (i : Int) : ent c ad M 60 i = .inl (c 0, 100, .inl (fun j : Nat => iI (M.1 60 0 i (j : Int)))) := rfl
theorem en61 (c : Nat → ClassId) (ad : Ad) (M : Mem) (i : Int) : ent c ad M 61 i = .inl (c 0, 100, .inl (fun j : Nat => iI (M.1 61 0 i (j : Int)))) := rfl
theorem en62 (c : Nat → ClassId) (ad : Ad) (M : Mem) (i : Int) : ent c ad M 62 i = .inl (c 0, 40, .inl (fun j : Nat => iI (M.1 62 0 i (j : Int)))) := rfl
theorem en63 (c : Nat → ClassId) (ad : Ad) (M : Mem) (i : Int) : ent c ad M 63 i = .inl (c 0, 40, .inl (fun j : Nat => iI (M.1 63 0 i (j : Int)))) := rfl
theorem en64 (c : Nat → ClassId) (ad : Ad) (M : Mem) (i : Int) : ent c ad M 64 i = .inl (c 0, 40, .inl (fun j : Nat => iI (M.1 64 0 i (j : Int)))) := rfl
theorem en65 (c : Nat → ClassId) (ad : Ad) (M : Mem) (i : Int) : ent c ad M 65 i = .inl (c 0, 40, .inl (fun j : Nat => iI (M.1 65 0 i (j : Int)))) := rfl
theorem en66 (c : Nat → ClassId) (ad : Ad) (M : Mem) (i : Int) : ent c ad M 66 i = .inl (c 0, 40, .inl (fun j : Nat => iI (M.1 66 0 i (j : Int)))) := rfl
theorem en67 (c : Nat → ClassId) (ad : Ad) (M : Mem) (i : Int) : ent c ad M 67 i = .inl (c 0, 120, .inl (fun j : Nat => iI (M.1 67 0 i (j : Int)))) := rfl
theorem en68 (c : Nat → ClassId) (ad : Ad) (M : Mem) (i : Int) : ent c ad M 68 i = .inl (c 0, 120, .inl (fun j : Nat => iI (M.1 68 0 i (j : Int)))) := rfl
theorem en69 (c : Nat → ClassId) (ad : Ad) (M : Mem) (i : Int) : ent c ad M 69 i = .inl (c 0, 120, .inl (fun j : Nat => iI (M.1 69 0 i (j : Int)))) := rfl
theorem en70 (c : Nat → ClassId) (ad : Ad) (M : Mem) (i : Int) : ent c ad M 70 i = .inl (c 1, 120, .inr (.inl (fun j : Nat => M.2 70 0 i (j : Int)))) := rfl
theorem en71 (c : Nat → ClassId) (ad : Ad) (M : Mem) (i : Int) : ent c ad M 71 i = .inl (c 1, 120, .inr (.inl (fun j : Nat => M.2 71 0 i (j : Int)))) := rfl
theorem en72 (c : Nat → ClassId) (ad : Ad) (M : Mem) (i : Int) : ent c ad M 72 i = .inl (c 0, 120, .inl (fun j : Nat => iI (M.1 72 0 i (j : Int)))) := rfl
theorem en73 (c : Nat → ClassId) (ad : Ad) (M : Mem) (i : Int) : ent c ad M 73 i = .inl (c 1, 120, .inr (.inl (fun j : Nat => M.2 73 0 i (j : Int)))) := rfl
theorem en74 (c : Nat → ClassId) (ad : Ad) (M : Mem) (i : Int) : ent c ad M 74 i = .inl (c 0, 62000, .inl (fun j : Nat => iI (M.1 74 0 i (j : Int)))) := rfl
theorem en75 (c : Nat → ClassId) (ad : Ad) (M : Mem) (i : Int) : ent c ad M 75 i = .inl (c 1, 62000, .inr (.inl (fun j : Nat => M.2 75 0 i (j : Int)))) := rfl
theorem en76 (c : Nat → ClassId) (ad : Ad) (M : Mem) (i : Int) : ent c ad M 76 i = .inl (c 0, 62000, .inl (fun j : Nat => iI (M.1 76 0 i (j : Int)))) := rfl
theorem en77 (c : Nat → ClassId) (ad : Ad) (M : Mem) (i : Int) : ent c ad M 77 i = .inl (c 0, 10, .inl (fun j : Nat => iI (M.1 77 0 i (j : Int)))) := rfl
theorem en78 (c : Nat → ClassId) (ad : Ad) (M : Mem) (i : Int) : ent c ad M 78 i = .inl (c 2, 1000, .inl (fun j : Nat => iI (M.1 78 0 i (j : Int)))) := rfl
theorem en79 (c : Nat → ClassId) (ad : Ad) (M : Mem) (i : Int) : ent c ad M 79 i = .inl (c 2, 1000, .inl (fun j : Nat => iI (M.1 79 0 i (j : Int)))) := rfl
theorem en90 (c : Nat → ClassId) (ad : Ad) (M : Mem) (i : Int) : ent c ad M 90 i = .inl (c 1, 1, .inr (.inl (fun j : Nat => M.2 90 0 i (j : Int)))) := rfl
theorem en91 (c : Nat → ClassId) (ad : Ad) (M : Mem) (i : Int) : ent c ad M 91 i = .inl (c 3, 1, .inr (.inr (.inr (.inl (fun j : Nat => (M.2 91 0 i (j : Int)).toUInt64))))) := rfl
theorem en95 (c : Nat → ClassId) (ad : Ad) (M : Mem) (i : Int) : ent c ad M 95 i = .inr (1, [.int (iI (M.1 95 0 i 0))]) := rfl
theorem en96 (c : Nat → ClassId) (ad : Ad) (M : Mem) (i : Int) : ent c ad M 96 i = .inr (4, []) := rfl
theorem ep0_1 (c : Nat → ClassId) (ad : Ad) (M : Mem) (i z : Int) : ent c ad (setI M 0 1 i 0 z) 0 i = .inr (11, ([.ref (ad 1 i), .int (iI (M.1 0 1 i 0)), .int (iI (M.1 0 2 i 0)), .int (iI (M.1 0 3 i 0)), .ref (ad 2 i), .ref (ad 5 i), .int (iI (M.1 0 6 i 0)), .int (iI (M.1 0 7 i 0)), .ref (ad 6 i), .ref (ad 10 i)] : List Value).set 1 (.int (iI z))) := by simp [en0, setI_1, setI_2]
theorem ep0_2 (c : Nat → ClassId) (ad : Ad) (M : Mem) (i z : Int) : ent c ad (setI M 0 2 i 0 z) 0 i = .inr (11, ([.ref (ad 1 i), .int (iI (M.1 0 1 i 0)), .int (iI (M.1 0 2 i 0)), .int (iI (M.1 0 3 i 0)), .ref (ad 2 i), .ref (ad 5 i), .int (iI (M.1 0 6 i 0)), .int (iI (M.1 0 7 i 0)), .ref (ad 6 i), .ref (ad 10 i)] : List Value).set 2 (.int (iI z))) := by simp [en0, setI_1, setI_2]
theorem ep0_3 (c : Nat → ClassId) (ad : Ad) (M : Mem) (i z : Int) : ent c ad (setI M 0 3 i 0 z) 0 i = .inr (11, ([.ref (ad 1 i), .int (iI (M.1 0 1 i 0)), .int (iI (M.1 0 2 i 0)), .int (iI (M.1 0 3 i 0)), .ref (ad 2 i), .ref (ad 5 i), .int (iI (M.1 0 6 i 0)), .int (iI (M.1 0 7 i 0)), .ref (ad 6 i), .ref (ad 10 i)] : List Value).set 3 (.int (iI z))) := by simp [en0, setI_1, setI_2]
theorem ep0_6 (c : Nat → ClassId) (ad : Ad) (M : Mem) (i z : Int) : ent c ad (setI M 0 6 i 0 z) 0 i = .inr (11, ([.ref (ad 1 i), .int (iI (M.1 0 1 i 0)), .int (iI (M.1 0 2 i 0)), .int (iI (M.1 0 3 i 0)), .ref (ad 2 i), .ref (ad 5 i), .int (iI (M.1 0 6 i 0)), .int (iI (M.1 0 7 i 0)), .ref (ad 6 i), .ref (ad 10 i)] : List Value).set 6 (.int (iI z))) := by simp [en0, setI_1, setI_2]
theorem ep0_7 (c : Nat → ClassId) (ad : Ad) (M : Mem) (i z : Int) : ent c ad (setI M 0 7 i 0 z) 0 i = .inr (11, ([.ref (ad 1 i), .int (iI (M.1 0 1 i 0)), .int (iI (M.1 0 2 i 0)), .int (iI (M.1 0 3 i 0)), .ref (ad 2 i), .ref (ad 5 i), .int (iI (M.1 0 6 i 0)), .int (iI (M.1 0 7 i 0)), .ref (ad 6 i), .ref (ad 10 i)] : List Value).set 7 (.int (iI z))) := by simp [en0, setI_1, setI_2]
theorem ep6_0 (c : Nat → ClassId) (ad : Ad) (M : Mem) (i z : Int) : ent c ad (setI M 6 0 i 0 z) 6 i = .inr (9, ([.int (iI (M.1 6 0 i 0)), .ref (ad 7 i), .ref (ad 8 i), .ref (ad 9 i)] : List Value).set 0 (.int (iI z))) := by simp [en6, setI_1, setI_2]
theorem ep10_0 (c : Nat → ClassId) (ad : Ad) (M : Mem) (i z : Int) : ent c ad (setI M 10 0 i 0 z) 10 i = .inr (2, ([.int (iI (M.1 10 0 i 0)), .int (iI (M.1 10 1 i 0)), .ref (ad 11 i), .ref (ad 12 i)] : List Value).set 0 (.int (iI z))) := by simp [en10, setI_1, setI_2]
theorem ep10_1 (c : Nat → ClassId) (ad : Ad) (M : Mem) (i z : Int) : ent c ad (setI M 10 1 i 0 z) 10 i = .inr (2, ([.int (iI (M.1 10 0 i 0)), .int (iI (M.1 10 1 i 0)), .ref (ad 11 i), .ref (ad 12 i)] : List Value).set 1 (.int (iI z))) := by simp [en10, setI_1, setI_2]
theorem ep12_0 (c : Nat → ClassId) (ad : Ad) (M : Mem) (i z : Int) : ent c ad (setI M 12 0 i 0 z) 12 i = .inr (0, ([.int (iI (M.1 12 0 i 0)), .ref (ad 13 i), .ref (ad 14 i), .ref (ad 15 i)] : List Value).set 0 (.int (iI z))) := by simp [en12, setI_1, setI_2]
theorem ep16_0 (c : Nat → ClassId) (ad : Ad) (M : Mem) (i z : Int) : ent c ad (setI M 16 0 i 0 z) 16 i = .inr (8, ([.int (iI (M.1 16 0 i 0)), .int (iI (M.1 16 1 i 0)), .int (iI (M.1 16 2 i 0)), .int (iI (M.1 16 3 i 0)), .int (iI (M.1 16 4 i 0)), .int (iI (M.1 16 5 i 0)), .int (iI (M.1 16 6 i 0)), .int (iI (M.1 16 7 i 0)), .int (iI (M.1 16 8 i 0)), .int (iI (M.1 16 9 i 0)), .ref (ad 17 i), .ref (ad 18 i), .ref (ad 19 i), .ref (ad 20 i), .ref (ad 21 i)] : List Value).set 0 (.int (iI z))) := by simp [en16, setI_1, setI_2]
theorem ep16_1 (c : Nat → ClassId) (ad : Ad) (M : Mem) (i z : Int) : ent c ad (setI M 16 1 i 0 z) 16 i = .inr (8, ([.int (iI (M.1 16 0 i 0)), .int (iI (M.1 16 1 i 0)), .int (iI (M.1 16 2 i 0)), .int (iI (M.1 16 3 i 0)), .int (iI (M.1 16 4 i 0)), .int (iI (M.1 16 5 i 0)), .int (iI (M.1 16 6 i 0)), .int (iI (M.1 16 7 i 0)), .int (iI (M.1 16 8 i 0)), .int (iI (M.1 16 9 i 0)), .ref (ad 17 i), .ref (ad 18 i), .ref (ad 19 i), .ref (ad 20 i), .ref (ad 21 i)] : List Value).set 1 (.int (iI z))) := by simp [en16, setI_1, setI_2]
theorem ep16_2 (c : Nat → ClassId) (ad : Ad) (M : Mem) (i z : Int) : ent c ad (setI M 16 2 i 0 z) 16 i = .inr (8, ([.int (iI (M.1 16 0 i 0)), .int (iI (M.1 16 1 i 0)), .int (iI (M.1 16 2 i 0)), .int (iI (M.1 16 3 i 0)), .int (iI (M.1 16 4 i 0)), .int (iI (M.1 16 5 i 0)), .int (iI (M.1 16 6 i 0)), .int (iI (M.1 16 7 i 0)), .int (iI (M.1 16 8 i 0)), .int (iI (M.1 16 9 i 0)), .ref (ad 17 i), .ref (ad 18 i), .ref (ad 19 i), .ref (ad 20 i), .ref (ad 21 i)] : List Value).set 2 (.int (iI z))) := by simp [en16, setI_1, setI_2]
theorem ep16_3 (c : Nat → ClassId) (ad : Ad) (M : Mem) (i z : Int) : ent c ad (setI M 16 3 i 0 z) 16 i = .inr (8, ([.int (iI (M.1 16 0 i 0)), .int (iI (M.1 16 1 i 0)), .int (iI (M.1 16 2 i 0)), .int (iI (M.1 16 3 i 0)), .int (iI (M.1 16 4 i 0)), .int (iI (M.1 16 5 i 0)), .int (iI (M.1 16 6 i 0)), .int (iI (M.1 16 7 i 0)), .int (iI (M.1 16 8 i 0)), .int (iI (M.1 16 9 i 0)), .ref (ad 17 i), .ref (ad 18 i), .ref (ad 19 i), .ref (ad 20 i), .ref (ad 21 i)] : List Value).set 3 (.int (iI z))) := by simp [en16, setI_1, setI_2]
theorem ep16_4 (c : Nat → ClassId) (ad : Ad) (M : Mem) (i z : Int) : ent c ad (setI M 16 4 i 0 z) 16 i = .inr (8, ([.int (iI (M.1 16 0 i 0)), .int (iI (M.1 16 1 i 0)), .int (iI (M.1 16 2 i 0)), .int (iI (M.1 16 3 i 0)), .int (iI (M.1 16 4 i 0)), .int (iI (M.1 16 5 i 0)), .int (iI (M.1 16 6 i 0)), .int (iI (M.1 16 7 i 0)), .int (iI (M.1 16 8 i 0)), .int (iI (M.1 16 9 i 0)), .ref (ad 17 i), .ref (ad 18 i), .ref (ad 19 i), .ref (ad 20 i), .ref (ad 21 i)] : List Value).set 4 (.int (iI z))) := by simp [en16, setI_1, setI_2]
theorem ep16_5 (c : Nat → ClassId) (ad : Ad) (M : Mem) (i z : Int) : ent c ad (setI M 16 5 i 0 z) 16 i = .inr (8, ([.int (iI (M.1 16 0 i 0)), .int (iI (M.1 16 1 i 0)), .int (iI (M.1 16 2 i 0)), .int (iI (M.1 16 3 i 0)), .int (iI (M.1 16 4 i 0)), .int (iI (M.1 16 5 i 0)), .int (iI (M.1 16 6 i 0)), .int (iI (M.1 16 7 i 0)), .int (iI (M.1 16 8 i 0)), .int (iI (M.1 16 9 i 0)), .ref (ad 17 i), .ref (ad 18 i), .ref (ad 19 i), .ref (ad 20 i), .ref (ad 21 i)] : List Value).set 5 (.int (iI z))) := by simp [en16, setI_1, setI_2]
theorem ep16_6 (c : Nat → ClassId) (ad : Ad) (M : Mem) (i z : Int) : ent c ad (setI M 16 6 i 0 z) 16 i = .inr (8, ([.int (iI (M.1 16 0 i 0)), .int (iI (M.1 16 1 i 0)), .int (iI (M.1 16 2 i 0)), .int (iI (M.1 16 3 i 0)), .int (iI (M.1 16 4 i 0)), .int (iI (M.1 16 5 i 0)), .int (iI (M.1 16 6 i 0)), .int (iI (M.1 16 7 i 0)), .int (iI (M.1 16 8 i 0)), .int (iI (M.1 16 9 i 0)), .ref (ad 17 i), .ref (ad 18 i), .ref (ad 19 i), .ref (ad 20 i), .ref (ad 21 i)] : List Value).set 6 (.int (iI z))) := by simp [en16, setI_1, setI_2]
theorem ep16_7 (c : Nat → ClassId) (ad : Ad) (M : Mem) (i z : Int) : ent c ad (setI M 16 7 i 0 z) 16 i = .inr (8, ([.int (iI (M.1 16 0 i 0)), .int (iI (M.1 16 1 i 0)), .int (iI (M.1 16 2 i 0)), .int (iI (M.1 16 3 i 0)), .int (iI (M.1 16 4 i 0)), .int (iI (M.1 16 5 i 0)), .int (iI (M.1 16 6 i 0)), .int (iI (M.1 16 7 i 0)), .int (iI (M.1 16 8 i 0)), .int (iI (M.1 16 9 i 0)), .ref (ad 17 i), .ref (ad 18 i), .ref (ad 19 i), .ref (ad 20 i), .ref (ad 21 i)] : List Value).set 7 (.int (iI z))) := by simp [en16, setI_1, setI_2]
theorem ep16_8 (c : Nat → ClassId) (ad : Ad) (M : Mem) (i z : Int) : ent c ad (setI M 16 8 i 0 z) 16 i = .inr (8, ([.int (iI (M.1 16 0 i 0)), .int (iI (M.1 16 1 i 0)), .int (iI (M.1 16 2 i 0)), .int (iI (M.1 16 3 i 0)), .int (iI (M.1 16 4 i 0)), .int (iI (M.1 16 5 i 0)), .int (iI (M.1 16 6 i 0)), .int (iI (M.1 16 7 i 0)), .int (iI (M.1 16 8 i 0)), .int (iI (M.1 16 9 i 0)), .ref (ad 17 i), .ref (ad 18 i), .ref (ad 19 i), .ref (ad 20 i), .ref (ad 21 i)] : List Value).set 8 (.int (iI z))) := by simp [en16, setI_1, setI_2]
theorem ep16_9 (c : Nat → ClassId) (ad : Ad) (M : Mem) (i z : Int) : ent c ad (setI M 16 9 i 0 z) 16 i = .inr (8, ([.int (iI (M.1 16 0 i 0)), .int (iI (M.1 16 1 i 0)), .int (iI (M.1 16 2 i 0)), .int (iI (M.1 16 3 i 0)), .int (iI (M.1 16 4 i 0)), .int (iI (M.1 16 5 i 0)), .int (iI (M.1 16 6 i 0)), .int (iI (M.1 16 7 i 0)), .int (iI (M.1 16 8 i 0)), .int (iI (M.1 16 9 i 0)), .ref (ad 17 i), .ref (ad 18 i), .ref (ad 19 i), .ref (ad 20 i), .ref (ad 21 i)] : List Value).set 9 (.int (iI z))) := by simp [en16, setI_1, setI_2]
theorem ep22_0 (c : Nat → ClassId) (ad : Ad) (M : Mem) (i z : Int) : ent c ad (setI M 22 0 i 0 z) 22 i = .inr (10, ([.int (iI (M.1 22 0 i 0)), .int (iI (M.1 22 1 i 0)), .int (iI (M.1 22 2 i 0)), .int (iI (M.1 22 3 i 0)), .int (iI (M.1 22 4 i 0)), .ref (ad 23 i), .ref (ad 24 i), .ref (ad 25 i), .int (iI (M.1 22 8 i 0)), .ref (ad 26 i), .ref (ad 27 i), .ref (ad 28 i), .ref (ad 29 i), .ref (ad 30 i)] : List Value).set 0 (.int (iI z))) := by simp [en22, setI_1, setI_2]
theorem ep22_1 (c : Nat → ClassId) (ad : Ad) (M : Mem) (i z : Int) : ent c ad (setI M 22 1 i 0 z) 22 i = .inr (10, ([.int (iI (M.1 22 0 i 0)), .int (iI (M.1 22 1 i 0)), .int (iI (M.1 22 2 i 0)), .int (iI (M.1 22 3 i 0)), .int (iI (M.1 22 4 i 0)), .ref (ad 23 i), .ref (ad 24 i), .ref (ad 25 i), .int (iI (M.1 22 8 i 0)), .ref (ad 26 i), .ref (ad 27 i), .ref (ad 28 i), .ref (ad 29 i), .ref (ad 30 i)] : List Value).set 1 (.int (iI z))) := by simp [en22, setI_1, setI_2]
theorem ep22_2 (c : Nat → ClassId) (ad : Ad) (M : Mem) (i z : Int) : ent c ad (setI M 22 2 i 0 z) 22 i = .inr (10, ([.int (iI (M.1 22 0 i 0)), .int (iI (M.1 22 1 i 0)), .int (iI (M.1 22 2 i 0)), .int (iI (M.1 22 3 i 0)), .int (iI (M.1 22 4 i 0)), .ref (ad 23 i), .ref (ad 24 i), .ref (ad 25 i), .int (iI (M.1 22 8 i 0)), .ref (ad 26 i), .ref (ad 27 i), .ref (ad 28 i), .ref (ad 29 i), .ref (ad 30 i)] : List Value).set 2 (.int (iI z))) := by simp [en22, setI_1, setI_2]
theorem ep22_3 (c : Nat → ClassId) (ad : Ad) (M : Mem) (i z : Int) : ent c ad (setI M 22 3 i 0 z) 22 i = .inr (10, ([.int (iI (M.1 22 0 i 0)), .int (iI (M.1 22 1 i 0)), .int (iI (M.1 22 2 i 0)), .int (iI (M.1 22 3 i 0)), .int (iI (M.1 22 4 i 0)), .ref (ad 23 i), .ref (ad 24 i), .ref (ad 25 i), .int (iI (M.1 22 8 i 0)), .ref (ad 26 i), .ref (ad 27 i), .ref (ad 28 i), .ref (ad 29 i), .ref (ad 30 i)] : List Value).set 3 (.int (iI z))) := by simp [en22, setI_1, setI_2]
theorem ep22_4 (c : Nat → ClassId) (ad : Ad) (M : Mem) (i z : Int) : ent c ad (setI M 22 4 i 0 z) 22 i = .inr (10, ([.int (iI (M.1 22 0 i 0)), .int (iI (M.1 22 1 i 0)), .int (iI (M.1 22 2 i 0)), .int (iI (M.1 22 3 i 0)), .int (iI (M.1 22 4 i 0)), .ref (ad 23 i), .ref (ad 24 i), .ref (ad 25 i), .int (iI (M.1 22 8 i 0)), .ref (ad 26 i), .ref (ad 27 i), .ref (ad 28 i), .ref (ad 29 i), .ref (ad 30 i)] : List Value).set 4 (.int (iI z))) := by simp [en22, setI_1, setI_2]
theorem ep22_8 (c : Nat → ClassId) (ad : Ad) (M : Mem) (i z : Int) : ent c ad (setI M 22 8 i 0 z) 22 i = .inr (10, ([.int (iI (M.1 22 0 i 0)), .int (iI (M.1 22 1 i 0)), .int (iI (M.1 22 2 i 0)), .int (iI (M.1 22 3 i 0)), .int (iI (M.1 22 4 i 0)), .ref (ad 23 i), .ref (ad 24 i), .ref (ad 25 i), .int (iI (M.1 22 8 i 0)), .ref (ad 26 i), .ref (ad 27 i), .ref (ad 28 i), .ref (ad 29 i), .ref (ad 30 i)] : List Value).set 8 (.int (iI z))) := by simp [en22, setI_1, setI_2]
theorem ep31_0 (c : Nat → ClassId) (ad : Ad) (M : Mem) (i z : Int) : ent c ad (setI M 31 0 i 0 z) 31 i = .inr (3, ([.int (iI (M.1 31 0 i 0)), .int (iI (M.1 31 1 i 0)), .int (iI (M.1 31 2 i 0)), .long (M.2 31 3 i 0), .long (M.2 31 4 i 0), .int (iI (M.1 31 5 i 0)), .int (iI (M.1 31 6 i 0)), .int (iI (M.1 31 7 i 0))] : List Value).set 0 (.int (iI z))) := by simp [en31, setI_1, setI_2]
theorem ep31_1 (c : Nat → ClassId) (ad : Ad) (M : Mem) (i z : Int) : ent c ad (setI M 31 1 i 0 z) 31 i = .inr (3, ([.int (iI (M.1 31 0 i 0)), .int (iI (M.1 31 1 i 0)), .int (iI (M.1 31 2 i 0)), .long (M.2 31 3 i 0), .long (M.2 31 4 i 0), .int (iI (M.1 31 5 i 0)), .int (iI (M.1 31 6 i 0)), .int (iI (M.1 31 7 i 0))] : List Value).set 1 (.int (iI z))) := by simp [en31, setI_1, setI_2]
theorem ep31_2 (c : Nat → ClassId) (ad : Ad) (M : Mem) (i z : Int) : ent c ad (setI M 31 2 i 0 z) 31 i = .inr (3, ([.int (iI (M.1 31 0 i 0)), .int (iI (M.1 31 1 i 0)), .int (iI (M.1 31 2 i 0)), .long (M.2 31 3 i 0), .long (M.2 31 4 i 0), .int (iI (M.1 31 5 i 0)), .int (iI (M.1 31 6 i 0)), .int (iI (M.1 31 7 i 0))] : List Value).set 2 (.int (iI z))) := by simp [en31, setI_1, setI_2]
theorem ep31_3 (c : Nat → ClassId) (ad : Ad) (M : Mem) (i : Int) (z : Int64) : ent c ad (setL M 31 3 i 0 z) 31 i = .inr (3, ([.int (iI (M.1 31 0 i 0)), .int (iI (M.1 31 1 i 0)), .int (iI (M.1 31 2 i 0)), .long (M.2 31 3 i 0), .long (M.2 31 4 i 0), .int (iI (M.1 31 5 i 0)), .int (iI (M.1 31 6 i 0)), .int (iI (M.1 31 7 i 0))] : List Value).set 3 (.long z)) := by simp [en31, setL_1, setL_2]
theorem ep31_4 (c : Nat → ClassId) (ad : Ad) (M : Mem) (i : Int) (z : Int64) : ent c ad (setL M 31 4 i 0 z) 31 i = .inr (3, ([.int (iI (M.1 31 0 i 0)), .int (iI (M.1 31 1 i 0)), .int (iI (M.1 31 2 i 0)), .long (M.2 31 3 i 0), .long (M.2 31 4 i 0), .int (iI (M.1 31 5 i 0)), .int (iI (M.1 31 6 i 0)), .int (iI (M.1 31 7 i 0))] : List Value).set 4 (.long z)) := by simp [en31, setL_1, setL_2]
theorem ep31_5 (c : Nat → ClassId) (ad : Ad) (M : Mem) (i z : Int) : ent c ad (setI M 31 5 i 0 z) 31 i = .inr (3, ([.int (iI (M.1 31 0 i 0)), .int (iI (M.1 31 1 i 0)), .int (iI (M.1 31 2 i 0)), .long (M.2 31 3 i 0), .long (M.2 31 4 i 0), .int (iI (M.1 31 5 i 0)), .int (iI (M.1 31 6 i 0)), .int (iI (M.1 31 7 i 0))] : List Value).set 5 (.int (iI z))) := by simp [en31, setI_1, setI_2]
theorem ep31_6 (c : Nat → ClassId) (ad : Ad) (M : Mem) (i z : Int) : ent c ad (setI M 31 6 i 0 z) 31 i = .inr (3, ([.int (iI (M.1 31 0 i 0)), .int (iI (M.1 31 1 i 0)), .int (iI (M.1 31 2 i 0)), .long (M.2 31 3 i 0), .long (M.2 31 4 i 0), .int (iI (M.1 31 5 i 0)), .int (iI (M.1 31 6 i 0)), .int (iI (M.1 31 7 i 0))] : List Value).set 6 (.int (iI z))) := by simp [en31, setI_1, setI_2]
theorem ep31_7 (c : Nat → ClassId) (ad : Ad) (M : Mem) (i z : Int) : ent c ad (setI M 31 7 i 0 z) 31 i = .inr (3, ([.int (iI (M.1 31 0 i 0)), .int (iI (M.1 31 1 i 0)), .int (iI (M.1 31 2 i 0)), .long (M.2 31 3 i 0), .long (M.2 31 4 i 0), .int (iI (M.1 31 5 i 0)), .int (iI (M.1 31 6 i 0)), .int (iI (M.1 31 7 i 0))] : List Value).set 7 (.int (iI z))) := by simp [en31, setI_1, setI_2]
theorem ep40_10 (c : Nat → ClassId) (ad : Ad) (M : Mem) (i z : Int) : ent c ad (setI M 40 10 i 0 z) 40 i = .inr (12, ([.ref (ad 41 i), .ref (ad 42 i), .ref (ad 43 i), .ref (ad 44 i), .ref (ad 45 i), .ref (ad 46 i), .ref (ad 47 i), .ref (ad 48 i), .ref (ad 49 i), .ref (ad 50 i), .int (iI (M.1 40 10 i 0)), .int (iI (M.1 40 11 i 0)), .int (iI (M.1 40 12 i 0)), .ref (ad 51 i), .ref (ad 52 i), .ref (ad 53 i), .ref (ad 54 i), .ref (ad 55 i), .ref (ad 56 i), .ref (ad 57 i), .ref (ad 58 i), .ref (ad 59 i), .int (iI (M.1 40 22 i 0)), .ref (ad 60 i), .ref (ad 61 i), .int (iI (M.1 40 25 i 0)), .ref (ad 62 i), .ref (ad 63 i), .ref (ad 64 i), .ref (ad 65 i), .ref (ad 66 i), .int (iI (M.1 40 31 i 0)), .ref (ad 67 i), .ref (ad 68 i), .ref (ad 69 i), .ref (ad 70 i), .ref (ad 71 i), .ref (ad 72 i), .ref (ad 73 i), .int (iI (M.1 40 39 i 0)), .int (iI (M.1 40 40 i 0)), .ref (ad 74 i), .ref (ad 75 i), .ref (ad 76 i), .int (iI (M.1 40 44 i 0)), .ref (ad 77 i), .int (iI (M.1 40 46 i 0)), .ref (ad 78 i), .ref (ad 79 i)] : List Value).set 10 (.int (iI z))) := by simp [en40, setI_1, setI_2]
theorem ep40_11 (c : Nat → ClassId) (ad : Ad) (M : Mem) (i z : Int) : ent c ad (setI M 40 11 i 0 z) 40 i = .inr (12, ([.ref (ad 41 i), .ref (ad 42 i), .ref (ad 43 i), .ref (ad 44 i), .ref (ad 45 i), .ref (ad 46 i), .ref (ad 47 i), .ref (ad 48 i), .ref (ad 49 i), .ref (ad 50 i), .int (iI (M.1 40 10 i 0)), .int (iI (M.1 40 11 i 0)), .int (iI (M.1 40 12 i 0)), .ref (ad 51 i), .ref (ad 52 i), .ref (ad 53 i), .ref (ad 54 i), .ref (ad 55 i), .ref (ad 56 i), .ref (ad 57 i), .ref (ad 58 i), .ref (ad 59 i), .int (iI (M.1 40 22 i 0)), .ref (ad 60 i), .ref (ad 61 i), .int (iI (M.1 40 25 i 0)), .ref (ad 62 i), .ref (ad 63 i), .ref (ad 64 i), .ref (ad 65 i), .ref (ad 66 i), .int (iI (M.1 40 31 i 0)), .ref (ad 67 i), .ref (ad 68 i), .ref (ad 69 i), .ref (ad 70 i), .ref (ad 71 i), .ref (ad 72 i), .ref (ad 73 i), .int (iI (M.1 40 39 i 0)), .int (iI (M.1 40 40 i 0)), .ref (ad 74 i), .ref (ad 75 i), .ref (ad 76 i), .int (iI (M.1 40 44 i 0)), .ref (ad 77 i), .int (iI (M.1 40 46 i 0)), .ref (ad 78 i), .ref (ad 79 i)] : List Value).set 11 (.int (iI z))) := by simp [en40, setI_1, setI_2]
theorem ep40_12 (c : Nat → ClassId) (ad : Ad) (M : Mem) (i z : Int) : ent c ad (setI M 40 12 i 0 z) 40 i = .inr (12, ([.ref (ad 41 i), .ref (ad 42 i), .ref (ad 43 i), .ref (ad 44 i), .ref (ad 45 i), .ref (ad 46 i), .ref (ad 47 i), .ref (ad 48 i), .ref (ad 49 i), .ref (ad 50 i), .int (iI (M.1 40 10 i 0)), .int (iI (M.1 40 11 i 0)), .int (iI (M.1 40 12 i 0)), .ref (ad 51 i), .ref (ad 52 i), .ref (ad 53 i), .ref (ad 54 i), .ref (ad 55 i), .ref (ad 56 i), .ref (ad 57 i), .ref (ad 58 i), .ref (ad 59 i), .int (iI (M.1 40 22 i 0)), .ref (ad 60 i), .ref (ad 61 i), .int (iI (M.1 40 25 i 0)), .ref (ad 62 i), .ref (ad 63 i), .ref (ad 64 i), .ref (ad 65 i), .ref (ad 66 i), .int (iI (M.1 40 31 i 0)), .ref (ad 67 i), .ref (ad 68 i), .ref (ad 69 i), .ref (ad 70 i), .ref (ad 71 i), .ref (ad 72 i), .ref (ad 73 i), .int (iI (M.1 40 39 i 0)), .int (iI (M.1 40 40 i 0)), .ref (ad 74 i), .ref (ad 75 i), .ref (ad 76 i), .int (iI (M.1 40 44 i 0)), .ref (ad 77 i), .int (iI (M.1 40 46 i 0)), .ref (ad 78 i), .ref (ad 79 i)] : List Value).set 12 (.int (iI z))) := by simp [en40, setI_1, setI_2]
theorem ep40_22 (c : Nat → ClassId) (ad : Ad) (M : Mem) (i z : Int) : ent c ad (setI M 40 22 i 0 z) 40 i = .inr (12, ([.ref (ad 41 i), .ref (ad 42 i), .ref (ad 43 i), .ref (ad 44 i), .ref (ad 45 i), .ref (ad 46 i), .ref (ad 47 i), .ref (ad 48 i), .ref (ad 49 i), .ref (ad 50 i), .int (iI (M.1 40 10 i 0)), .int (iI (M.1 40 11 i 0)), .int (iI (M.1 40 12 i 0)), .ref (ad 51 i), .ref (ad 52 i), .ref (ad 53 i), .ref (ad 54 i), .ref (ad 55 i), .ref (ad 56 i), .ref (ad 57 i), .ref (ad 58 i), .ref (ad 59 i), .int (iI (M.1 40 22 i 0)), .ref (ad 60 i), .ref (ad 61 i), .int (iI (M.1 40 25 i 0)), .ref (ad 62 i), .ref (ad 63 i), .ref (ad 64 i), .ref (ad 65 i), .ref (ad 66 i), .int (iI (M.1 40 31 i 0)), .ref (ad 67 i), .ref (ad 68 i), .ref (ad 69 i), .ref (ad 70 i), .ref (ad 71 i), .ref (ad 72 i), .ref (ad 73 i), .int (iI (M.1 40 39 i 0)), .int (iI (M.1 40 40 i 0)), .ref (ad 74 i), .ref (ad 75 i), .ref (ad 76 i), .int (iI (M.1 40 44 i 0)), .ref (ad 77 i), .int (iI (M.1 40 46 i 0)), .ref (ad 78 i), .ref (ad 79 i)] : List Value).set 22 (.int (iI z))) := by simp [en40, setI_1, setI_2]
theorem ep40_25 (c : Nat → ClassId) (ad : Ad) (M : Mem) (i z : Int) : ent c ad (setI M 40 25 i 0 z) 40 i = .inr (12, ([.ref (ad 41 i), .ref (ad 42 i), .ref (ad 43 i), .ref (ad 44 i), .ref (ad 45 i), .ref (ad 46 i), .ref (ad 47 i), .ref (ad 48 i), .ref (ad 49 i), .ref (ad 50 i), .int (iI (M.1 40 10 i 0)), .int (iI (M.1 40 11 i 0)), .int (iI (M.1 40 12 i 0)), .ref (ad 51 i), .ref (ad 52 i), .ref (ad 53 i), .ref (ad 54 i), .ref (ad 55 i), .ref (ad 56 i), .ref (ad 57 i), .ref (ad 58 i), .ref (ad 59 i), .int (iI (M.1 40 22 i 0)), .ref (ad 60 i), .ref (ad 61 i), .int (iI (M.1 40 25 i 0)), .ref (ad 62 i), .ref (ad 63 i), .ref (ad 64 i), .ref (ad 65 i), .ref (ad 66 i), .int (iI (M.1 40 31 i 0)), .ref (ad 67 i), .ref (ad 68 i), .ref (ad 69 i), .ref (ad 70 i), .ref (ad 71 i), .ref (ad 72 i), .ref (ad 73 i), .int (iI (M.1 40 39 i 0)), .int (iI (M.1 40 40 i 0)), .ref (ad 74 i), .ref (ad 75 i), .ref (ad 76 i), .int (iI (M.1 40 44 i 0)), .ref (ad 77 i), .int (iI (M.1 40 46 i 0)), .ref (ad 78 i), .ref (ad 79 i)] : List Value).set 25 (.int (iI z))) := by simp [en40, setI_1, setI_2]
theorem ep40_31 (c : Nat → ClassId) (ad : Ad) (M : Mem) (i z : Int) : ent c ad (setI M 40 31 i 0 z) 40 i = .inr (12, ([.ref (ad 41 i), .ref (ad 42 i), .ref (ad 43 i), .ref (ad 44 i), .ref (ad 45 i), .ref (ad 46 i), .ref (ad 47 i), .ref (ad 48 i), .ref (ad 49 i), .ref (ad 50 i), .int (iI (M.1 40 10 i 0)), .int (iI (M.1 40 11 i 0)), .int (iI (M.1 40 12 i 0)), .ref (ad 51 i), .ref (ad 52 i), .ref (ad 53 i), .ref (ad 54 i), .ref (ad 55 i), .ref (ad 56 i), .ref (ad 57 i), .ref (ad 58 i), .ref (ad 59 i), .int (iI (M.1 40 22 i 0)), .ref (ad 60 i), .ref (ad 61 i), .int (iI (M.1 40 25 i 0)), .ref (ad 62 i), .ref (ad 63 i), .ref (ad 64 i), .ref (ad 65 i), .ref (ad 66 i), .int (iI (M.1 40 31 i 0)), .ref (ad 67 i), .ref (ad 68 i), .ref (ad 69 i), .ref (ad 70 i), .ref (ad 71 i), .ref (ad 72 i), .ref (ad 73 i), .int (iI (M.1 40 39 i 0)), .int (iI (M.1 40 40 i 0)), .ref (ad 74 i), .ref (ad 75 i), .ref (ad 76 i), .int (iI (M.1 40 44 i 0)), .ref (ad 77 i), .int (iI (M.1 40 46 i 0)), .ref (ad 78 i), .ref (ad 79 i)] : List Value).set 31 (.int (iI z))) := by simp [en40, setI_1, setI_2]
theorem ep40_39 (c : Nat → ClassId) (ad : Ad) (M : Mem) (i z : Int) : ent c ad (setI M 40 39 i 0 z) 40 i = .inr (12, ([.ref (ad 41 i), .ref (ad 42 i), .ref (ad 43 i), .ref (ad 44 i), .ref (ad 45 i), .ref (ad 46 i), .ref (ad 47 i), .ref (ad 48 i), .ref (ad 49 i), .ref (ad 50 i), .int (iI (M.1 40 10 i 0)), .int (iI (M.1 40 11 i 0)), .int (iI (M.1 40 12 i 0)), .ref (ad 51 i), .ref (ad 52 i), .ref (ad 53 i), .ref (ad 54 i), .ref (ad 55 i), .ref (ad 56 i), .ref (ad 57 i), .ref (ad 58 i), .ref (ad 59 i), .int (iI (M.1 40 22 i 0)), .ref (ad 60 i), .ref (ad 61 i), .int (iI (M.1 40 25 i 0)), .ref (ad 62 i), .ref (ad 63 i), .ref (ad 64 i), .ref (ad 65 i), .ref (ad 66 i), .int (iI (M.1 40 31 i 0)), .ref (ad 67 i), .ref (ad 68 i), .ref (ad 69 i), .ref (ad 70 i), .ref (ad 71 i), .ref (ad 72 i), .ref (ad 73 i), .int (iI (M.1 40 39 i 0)), .int (iI (M.1 40 40 i 0)), .ref (ad 74 i), .ref (ad 75 i), .ref (ad 76 i), .int (iI (M.1 40 44 i 0)), .ref (ad 77 i), .int (iI (M.1 40 46 i 0)), .ref (ad 78 i), .ref (ad 79 i)] : List Value).set 39 (.int (iI z))) := by simp [en40, setI_1, setI_2]
theorem ep40_40 (c : Nat → ClassId) (ad : Ad) (M : Mem) (i z : Int) : ent c ad (setI M 40 40 i 0 z) 40 i = .inr (12, ([.ref (ad 41 i), .ref (ad 42 i), .ref (ad 43 i), .ref (ad 44 i), .ref (ad 45 i), .ref (ad 46 i), .ref (ad 47 i), .ref (ad 48 i), .ref (ad 49 i), .ref (ad 50 i), .int (iI (M.1 40 10 i 0)), .int (iI (M.1 40 11 i 0)), .int (iI (M.1 40 12 i 0)), .ref (ad 51 i), .ref (ad 52 i), .ref (ad 53 i), .ref (ad 54 i), .ref (ad 55 i), .ref (ad 56 i), .ref (ad 57 i), .ref (ad 58 i), .ref (ad 59 i), .int (iI (M.1 40 22 i 0)), .ref (ad 60 i), .ref (ad 61 i), .int (iI (M.1 40 25 i 0)), .ref (ad 62 i), .ref (ad 63 i), .ref (ad 64 i), .ref (ad 65 i), .ref (ad 66 i), .int (iI (M.1 40 31 i 0)), .ref (ad 67 i), .ref (ad 68 i), .ref (ad 69 i), .ref (ad 70 i), .ref (ad 71 i), .ref (ad 72 i), .ref (ad 73 i), .int (iI (M.1 40 39 i 0)), .int (iI (M.1 40 40 i 0)), .ref (ad 74 i), .ref (ad 75 i), .ref (ad 76 i), .int (iI (M.1 40 44 i 0)), .ref (ad 77 i), .int (iI (M.1 40 46 i 0)), .ref (ad 78 i), .ref (ad 79 i)] : List Value).set 40 (.int (iI z))) := by simp [en40, setI_1, setI_2]
theorem ep40_44 (c : Nat → ClassId) (ad : Ad) (M : Mem) (i z : Int) : ent c ad (setI M 40 44 i 0 z) 40 i = .inr (12, ([.ref (ad 41 i), .ref (ad 42 i), .ref (ad 43 i), .ref (ad 44 i), .ref (ad 45 i), .ref (ad 46 i), .ref (ad 47 i), .ref (ad 48 i), .ref (ad 49 i), .ref (ad 50 i), .int (iI (M.1 40 10 i 0)), .int (iI (M.1 40 11 i 0)), .int (iI (M.1 40 12 i 0)), .ref (ad 51 i), .ref (ad 52 i), .ref (ad 53 i), .ref (ad 54 i), .ref (ad 55 i), .ref (ad 56 i), .ref (ad 57 i), .ref (ad 58 i), .ref (ad 59 i), .int (iI (M.1 40 22 i 0)), .ref (ad 60 i), .ref (ad 61 i), .int (iI (M.1 40 25 i 0)), .ref (ad 62 i), .ref (ad 63 i), .ref (ad 64 i), .ref (ad 65 i), .ref (ad 66 i), .int (iI (M.1 40 31 i 0)), .ref (ad 67 i), .ref (ad 68 i), .ref (ad 69 i), .ref (ad 70 i), .ref (ad 71 i), .ref (ad 72 i), .ref (ad 73 i), .int (iI (M.1 40 39 i 0)), .int (iI (M.1 40 40 i 0)), .ref (ad 74 i), .ref (ad 75 i), .ref (ad 76 i), .int (iI (M.1 40 44 i 0)), .ref (ad 77 i), .int (iI (M.1 40 46 i 0)), .ref (ad 78 i), .ref (ad 79 i)] : List Value).set 44 (.int (iI z))) := by simp [en40, setI_1, setI_2]
theorem ep40_46 (c : Nat → ClassId) (ad : Ad) (M : Mem) (i z : Int) : ent c ad (setI M 40 46 i 0 z) 40 i = .inr (12, ([.ref (ad 41 i), .ref (ad 42 i), .ref (ad 43 i), .ref (ad 44 i), .ref (ad 45 i), .ref (ad 46 i), .ref (ad 47 i), .ref (ad 48 i), .ref (ad 49 i), .ref (ad 50 i), .int (iI (M.1 40 10 i 0)), .int (iI (M.1 40 11 i 0)), .int (iI (M.1 40 12 i 0)), .ref (ad 51 i), .ref (ad 52 i), .ref (ad 53 i), .ref (ad 54 i), .ref (ad 55 i), .ref (ad 56 i), .ref (ad 57 i), .ref (ad 58 i), .ref (ad 59 i), .int (iI (M.1 40 22 i 0)), .ref (ad 60 i), .ref (ad 61 i), .int (iI (M.1 40 25 i 0)), .ref (ad 62 i), .ref (ad 63 i), .ref (ad 64 i), .ref (ad 65 i), .ref (ad 66 i), .int (iI (M.1 40 31 i 0)), .ref (ad 67 i), .ref (ad 68 i), .ref (ad 69 i), .ref (ad 70 i), .ref (ad 71 i), .ref (ad 72 i), .ref (ad 73 i), .int (iI (M.1 40 39 i 0)), .int (iI (M.1 40 40 i 0)), .ref (ad 74 i), .ref (ad 75 i), .ref (ad 76 i), .int (iI (M.1 40 44 i 0)), .ref (ad 77 i), .int (iI (M.1 40 46 i 0)), .ref (ad 78 i), .ref (ad 79 i)] : List Value).set 46 (.int (iI z))) := by simp [en40, setI_1, setI_2]
theorem ep95_0 (c : Nat → ClassId) (ad : Ad) (M : Mem) (i z : Int) : ent c ad (setI M 95 0 i 0 z) 95 i = .inr (1, ([.int (iI (M.1 95 0 i 0))] : List Value).set 0 (.int (iI z))) := by simp [en95, setI_1, setI_2]
/-- the world: the cells of the names nm -/
def wl (c : Nat → ClassId) (nm : List (Nat × Int)) (ad : Ad) (M : Mem) : va_W := nm.map (fun n => (ad n.1 n.2, ent c ad M n.1 n.2))
theorem wl_get {c : Nat → ClassId} {nm : List (Nat × Int)} {ad : Ad} {M : Mem} {k : Nat} {i : Int} (h : (k, i) ∈ nm) : ∃ q0 : Nat, nm[q0]? = some (k, i) ∧ (wl c nm ad M)[q0]? = some (ad k i, ent c ad M k i) := by
  obtain ⟨q0, h0⟩ := List.getElem?_of_mem h
  exact ⟨q0, h0, by simp [wl, h0]⟩
theorem wl_set {c : Nat → ClassId} {nm : List (Nat × Int)} {ad : Ad} {M M' : Mem} {A : Nat → Prop} {k q0 : Nat} {i : Int} {e : va_E} (hD : va_D A (wl c nm ad M)) (h : nm[q0]? = some (k, i)) (he : ent c ad M' k i = e) (ho : ∀ k' i', (k', i') ≠ (k, i) → ent c ad M' k' i' = ent c ad M k' i') : (wl c nm ad M).set q0 (ad k i, e) = wl c nm ad M' := by
  have hl : q0 < nm.length := (List.getElem?_eq_some_iff.mp h).1
  apply List.ext_getElem?
  intro j
  by_cases e1 : j = q0
  · subst e1
    rw [List.getElem?_set_self (by simpa [wl] using hl)]
    simp [wl, h, he]
  · rw [List.getElem?_set_ne (fun z => e1 z.symm)]
    cases hj : nm[j]? with
    | none => simp [wl, hj]
    | some n =>
      obtain ⟨k', i'⟩ := n
      have h1 : (wl c nm ad M)[j]? = some (ad k' i', ent c ad M k' i') := by simp [wl, hj]
      have h2 : (wl c nm ad M)[q0]? = some (ad k i, ent c ad M k i) := by simp [wl, h]
      have hne : (k', i') ≠ (k, i) := fun z => e1 (hD.1 j q0 _ _ h1 h2 (by
        have z1 := congrArg Prod.fst z
        have z2 := congrArg Prod.snd z
        simp only at z1 z2
        rw [z1, z2]))
      rw [h1]
      simp [wl, hj, ho k' i' hne]
theorem ent_setI_ne {c : Nat → ClassId} {ad : Ad} {M : Mem} {k f : Nat} {i j v : Int} : ∀ k' i', (k', i') ≠ (k, i) → ent c ad (setI M k f i j v) k' i' = ent c ad M k' i' := by
  intro k' i' h
  refine ent_slice (fun f' j' => ?_) (fun f' j' => rfl)
  rw [setI_1, if_neg]
  rintro ⟨a, -, b, -⟩
  exact h (by rw [a, b])
theorem ent_setL_ne {c : Nat → ClassId} {ad : Ad} {M : Mem} {k f : Nat} {i j : Int} {v : Int64} : ∀ k' i', (k', i') ≠ (k, i) → ent c ad (setL M k f i j v) k' i' = ent c ad M k' i' := by
  intro k' i' h
  refine ent_slice (fun f' j' => rfl) (fun f' j' => ?_)
  rw [setL_2, if_neg]
  rintro ⟨a, -, b, -⟩
  exact h (by rw [a, b])
theorem va_AOA.moved {t : FieldType} {u U : State} (hvm : u.vm.Alike U.vm) (h : va_AOA t u) : va_AOA t U := by
  obtain ⟨comp, c, k, h1, h2, h3, h4, h5⟩ := arrayOverA_spec h
  obtain ⟨k', hk', he⟩ := hvm.2.2 _ _ h3
  have e1 := va_idx_bare U.vm comp
  have e2 := va_idx_bare u.vm comp
  first | rw [hvm.bare_eq] at e2 | rw [← hvm.bare_eq] at e2
  have hi := e1.symm.trans (e2.trans h2)
  have hkind : k'.kind = .array comp (.array t) := by rw [he]; exact h4
  have f1 : U.vm.findClass (FieldType.array t).toString = some comp := by rw [hvm.findClass]; exact h1
  have f2 : U.vm.findClass ("[" ++ (FieldType.array t).toString) = some c := by rw [hvm.findClass]; exact h5
  unfold va_AOA Cond.before Cond.holds
  simp only [Cond.value]
  rw [f1, Option.bind_some]
  refine (congrArg (fun o : Option Nat => (o.bind (fun c => (U.vm.classes[c]?).map fun (k : Class) => match k.kind with | .array _ ty => decide (ty = FieldType.array t) && decide (U.vm.findClass ("[" ++ (FieldType.array t).toString) = some c) | _ => false) == some true)) hi).trans ?_
  simp [hk', hkind, f2]
def exN : List String := ["java/lang/IndexOutOfBoundsException", "java/lang/IllegalArgumentException", "java/lang/IllegalStateException"]
/-- what the tables say beside the good words: four texts, links to nest mates, casts, rows of rows -/
def Ty (s : State) : Prop := (∃ a, vk_R RX11 142 "no such what" a s) ∧ (∃ a, vk_R RX11 313 "out of range" a s) ∧ (∃ a, vk_R RX11 317 "not possible now" a s) ∧ (∃ a, vk_R RX11 322 "no such place" a s) ∧ (∀ (a : String) (i : Nat) (x : MethodName) (h : String), Cond.methodLinkNest a i x h ∈ lw_tbl → va_Nw (.methodLinkNest a i x h) s) ∧ (∀ E ∈ exN, va_Nw (.castable E E) s) ∧ (∀ E ∈ exN, ∀ F ∈ exN, E ≠ F → va_Nc E F s) ∧ (∀ C : String, Cond.arrayOver (.object C) ∈ lw_tbl → va_AO C s) ∧ va_AOA .int s ∧ (∀ x : MethodName, Cond.declares x ∈ lw_tbl → va_Nw (.declares x) s)
theorem Ty.on {s U : State} (h : Ty s) (hW : s.WarmedH U.vm) : Ty U := by
  obtain ⟨⟨a3, h3⟩, ⟨a4, h4⟩, ⟨a5, h5⟩, ⟨a6, h6⟩, h7, h8, h9, h10, h11, h12⟩ := h
  exact ⟨⟨a3, h3.warm hW⟩, ⟨a4, h4.warm hW⟩, ⟨a5, h5.warm hW⟩, ⟨a6, h6.warm hW⟩, fun a i x h q => va_Nw.warmM hW (h7 a i x h q), fun E hE => va_Nw.warmC hW (h8 E hE), fun E hE F hF n => (h9 E hE F hF n).moved hW.alike, fun C hC => (h10 C hC).moved hW.alike, h11.moved hW.alike, fun x hx => va_Nw.warmD hW (h12 x hx)⟩
/-- what a throw needs of the start: two statics of Throwable; and the tables -/
def Zz (A : Nat → Prop) (s : State) : Prop := vx_Zq Bundle.tN "UNASSIGNED_STACK" Bundle.steD A s s.heap ∧ vx_Zq Bundle.tN "SUPPRESSED_SENTINEL" Bundle.listD A s s.heap ∧ Ty s
theorem Zz.on {A : Nat → Prop} {s U : State} {locs : List Loc} {H : Heap} (h : Zz A s) (hS : va_S A s.heap H locs) (hU : U.heap = H) (hW : s.WarmedH U.vm) : Zz A U := by
  obtain ⟨h1, h2, h3⟩ := h
  have hk : ∀ a : Nat, a < s.heap.size → ¬ A a → U.heap[a]? = s.heap[a]? := fun a x y => by rw [hU]; exact hS.2.1 a x y
  exact ⟨(h1.kept hk).moved hW.alike, (h2.kept hk).moved hW.alike, h3.on hW⟩
abbrev Kx : Type := (Program × Launch × Env × Room × State × MethodId) × (Array Value × List Frame × Method × Code × (State → Prop)) × (va_G × (Nat → ClassId) × (Nat → Prop) × Nat)
abbrev kp (κ : Kx) : Program := κ.1.1
abbrev kl (κ : Kx) : Launch := κ.1.2.1
abbrev ke (κ : Kx) : Env := κ.1.2.2.1
abbrev kR (κ : Kx) : Room := κ.1.2.2.2.1
abbrev ks (κ : Kx) : State := κ.1.2.2.2.2.1
abbrev km (κ : Kx) : MethodId := κ.1.2.2.2.2.2
abbrev ka (κ : Kx) : Array Value := κ.2.1.1
abbrev kb (κ : Kx) : List Frame := κ.2.1.2.1
abbrev kme (κ : Kx) : Method := κ.2.1.2.2.1
abbrev kc (κ : Kx) : Code := κ.2.1.2.2.2.1
abbrev kQ (κ : Kx) : State → Prop := κ.2.1.2.2.2.2
abbrev kD (κ : Kx) : va_G := κ.2.2.1
abbrev kC (κ : Kx) : Nat → ClassId := κ.2.2.2.1
abbrev kA (κ : Kx) : Nat → Prop := κ.2.2.2.2.1
abbrev kN (κ : Kx) : Nat := κ.2.2.2.2.2
/-- from this place on, over every heap that holds the world, the method comes to its end -/
def G (κ : Kx) (nm : List (Nat × Int)) (ad : Ad) (M : Mem) (pc : Nat) (lv : List (Option Value)) (st : List Value) (cl sl : Nat) : Prop :=
  RM M → ∀ (H : Heap) (locs : List Loc) (ls : Array Slot), va_P (kD κ) vwCl (wl (kC κ) nm ad M) H → va_D (kA κ) (wl (kC κ) nm ad M) → va_S (kA κ) (ks κ).heap H locs → lv_has ls (kN κ) (lvl 0 lv) →
    W (kp κ) (kl κ) (ke κ) (kR κ) (ks κ) (km κ) (ka κ) (kb κ) (kme κ) (kc κ) H locs cl sl (kQ κ) (F0 (km κ) pc ls st)
/-- what a method knows of itself -/
def Cx (κ : Kx) (cc : ByteArray) (own : String) (rm : Room) : Prop :=
  (kp κ).tables.exec = Jvm.exec ∧ (kc κ).code = cc ∧ (kc κ).maxLocals = kN κ ∧ (ks κ).vm.findClass own = some (km κ).cls ∧ (∀ w ∈ Tb, w.before (ka κ) (ks κ) = true) ∧ va_K (kD κ) vwCl (tysO (kC κ)) (ks κ) ∧ (∀ q, (ks κ).heap.size ≤ q → kA κ q) ∧ kR κ = rm ∧ (kl κ).stackTraces = false ∧ (kme κ).locks = false ∧ Zz (kA κ) (ks κ)
theorem lv_pv {lv : List (Option Value)} {k : Nat} {a : Option Value} (h : lv[k]? = some a) (hp : c1 a = true) : ∀ i, i + 1 = k + 1 → ∀ u, lv[i]? = some (some u) → c1 (some u) = true := fun i hi u hu => by
  have e : i = k := by omega
  subst e
  rw [h] at hu
  rw [← Option.some.inj hu]
  exact hp
section GR
variable {κ : Kx} {cc : ByteArray} {own : String} {rm : Room} {nm : List (Nat × Int)} {ad : Ad} {M : Mem} {pc pc' : Nat} {lv : List (Option Value)} {st : List Value} {cl sl : Nat}
theorem g_of {a : List (Option Value)} (hs : ∀ (k : Nat) (v : Value), a[k]? = some (some v) → lv[k]? = some (some v)) (k : G κ nm ad M pc a st cl sl) : G κ nm ad M pc lv st cl sl := by
  intro hM H locs ls hP hD hS hl
  refine k hM H locs ls hP hD hS (lvl_sub hl fun q hq => ?_)
  obtain ⟨j, h1, h2⟩ := (lvl_mem _ _ _).mp hq
  exact (lvl_mem _ _ _).mpr ⟨j, hs _ _ h1, h2⟩
theorem g_rm (k : RM M → G κ nm ad M pc lv st cl sl) : G κ nm ad M pc lv st cl sl := fun hM => k hM hM
theorem g_widen {cl' sl' : Nat} (h1 : cl ≤ cl') (h2 : sl ≤ sl') (k : G κ nm ad M pc lv st cl' sl') : G κ nm ad M pc lv st cl sl := fun hM H locs ls hP hD hS hl => W.widen h1 h2 (k hM H locs ls hP hD hS hl)
theorem g_iconst (X : Cx κ cc own rm) {n : Int} (d : decode cc pc = .ok (.iconst n, 1)) (e : pc + 1 = pc')  (k : G κ nm ad M pc' lv (.int (iI n) :: st) cl sl) : G κ nm ad M pc lv st cl sl := by
  subst e; intro hM H locs ls hP hD hS hl
  exact lv_iconst X.1 X.2.1 d rfl (k hM H locs ls hP hD hS hl)
theorem g_bipush (X : Cx κ cc own rm) {n : Int} (d : decode cc pc = .ok (.bipush n, 2)) (e : pc + 2 = pc') (hn : (Int8.ofInt n).toInt32 = iI n) (k : G κ nm ad M pc' lv (.int (iI n) :: st) cl sl) : G κ nm ad M pc lv st cl sl := by
  subst e; intro hM H locs ls hP hD hS hl
  exact lv_bipush X.1 X.2.1 d hn (k hM H locs ls hP hD hS hl)
theorem g_sipush (X : Cx κ cc own rm) {n : Int} (d : decode cc pc = .ok (.sipush n, 3)) (e : pc + 3 = pc') (hn : (Int16.ofInt n).toInt32 = iI n) (k : G κ nm ad M pc' lv (.int (iI n) :: st) cl sl) : G κ nm ad M pc lv st cl sl := by
  subst e; intro hM H locs ls hP hD hS hl
  exact lv_sipush X.1 X.2.1 d hn (k hM H locs ls hP hD hS hl)
theorem g_ldc (X : Cx κ cc own rm) {ix : Nat} {n : Int} (d : decode cc pc = .ok (.ldc ix, 2)) (e : pc + 2 = pc') (hc : Cond.constant own ix (iI n) ∈ Tb) (k : G κ nm ad M pc' lv (.int (iI n) :: st) cl sl) : G κ nm ad M pc lv st cl sl := by
  subst e; intro hM H locs ls hP hD hS hl
  exact lv_ldc X.1 X.2.1 X.2.2.2.1 (X.2.2.2.2.1 _ hc) d (k hM H locs ls hP hD hS hl)
theorem g_ldcw (X : Cx κ cc own rm) {ix : Nat} {n : Int} (d : decode cc pc = .ok (.ldc_w ix, 3)) (e : pc + 3 = pc') (hc : Cond.constant own ix (iI n) ∈ Tb) (k : G κ nm ad M pc' lv (.int (iI n) :: st) cl sl) : G κ nm ad M pc lv st cl sl := by
  subst e; intro hM H locs ls hP hD hS hl
  exact lv_ldcw X.1 X.2.1 X.2.2.2.1 (X.2.2.2.2.1 _ hc) d (k hM H locs ls hP hD hS hl)
theorem g_lconst (X : Cx κ cc own rm) {n : Fin 2} {v : Int64} (d : decode cc pc = .ok (.lconst n, 1)) (e : pc + 1 = pc') (hv : Int64.ofNat (n : Nat) = v) (k : G κ nm ad M pc' lv (.long v :: st) cl sl) : G κ nm ad M pc lv st cl sl := by
  subst e; intro hM H locs ls hP hD hS hl
  exact lv_lconst X.1 X.2.1 d hv (k hM H locs ls hP hD hS hl)
theorem g_ldc2 (X : Cx κ cc own rm) {ix : Nat} {v : Int64} (d : decode cc pc = .ok (.ldc2_w ix, 3)) (e : pc + 3 = pc') (hc : Cond.constantLong own ix v ∈ Tb) (k : G κ nm ad M pc' lv (.long v :: st) cl sl) : G κ nm ad M pc lv st cl sl := by
  subst e; intro hM H locs ls hP hD hS hl
  exact lv_ldc2 X.1 X.2.1 X.2.2.2.1 (X.2.2.2.2.1 _ hc) d (k hM H locs ls hP hD hS hl)
theorem g_fconst1 (X : Cx κ cc own rm) (d : decode cc pc = .ok (.fconst 1, 1)) (e : pc + 1 = pc')  (k : G κ nm ad M pc' lv (.float FP.fconst1 :: st) cl sl) : G κ nm ad M pc lv st cl sl := by
  subst e; intro hM H locs ls hP hD hS hl
  exact lv_fconst1 X.1 X.2.1 d (k hM H locs ls hP hD hS hl)
theorem g_ldcf (X : Cx κ cc own rm) {ix : Nat} {v : UInt32} (d : decode cc pc = .ok (.ldc ix, 2)) (e : pc + 2 = pc') (hc : Cond.constantFloat own ix v ∈ Tb) (k : G κ nm ad M pc' lv (.float v :: st) cl sl) : G κ nm ad M pc lv st cl sl := by
  subst e; intro hM H locs ls hP hD hS hl
  exact lv_ldcf X.1 X.2.1 X.2.2.2.1 (X.2.2.2.2.1 _ hc) d (k hM H locs ls hP hD hS hl)
theorem g_iload_n (X : Cx κ cc own rm) {j : Fin 4} {x : Int32} (d : decode cc pc = .ok (.iload_n j, 1)) (e : pc + 1 = pc') (h : lv[(j : Nat)]? = some (some (.int x))) (k : G κ nm ad M pc' lv (.int x :: st) cl sl) : G κ nm ad M pc lv st cl sl := by
  subst e; intro hM H locs ls hP hD hS hl
  exact lv_iload_n X.1 X.2.1 d rfl (lvl_at hl h) (k hM H locs ls hP hD hS hl)
theorem g_iload (X : Cx κ cc own rm) {j : Nat} {x : Int32} (d : decode cc pc = .ok (.iload j, 2)) (e : pc + 2 = pc') (h : lv[j]? = some (some (.int x))) (k : G κ nm ad M pc' lv (.int x :: st) cl sl) : G κ nm ad M pc lv st cl sl := by
  subst e; intro hM H locs ls hP hD hS hl
  exact lv_iload X.1 X.2.1 d (lvl_at hl h) (k hM H locs ls hP hD hS hl)
theorem g_lload_n (X : Cx κ cc own rm) {j : Fin 4} {x : Int64} (d : decode cc pc = .ok (.lload_n j, 1)) (e : pc + 1 = pc') (h : lv[(j : Nat)]? = some (some (.long x))) (k : G κ nm ad M pc' lv (.long x :: st) cl sl) : G κ nm ad M pc lv st cl sl := by
  subst e; intro hM H locs ls hP hD hS hl
  exact lv_lload_n X.1 X.2.1 d rfl (lvl_at hl h) (k hM H locs ls hP hD hS hl)
theorem g_lload (X : Cx κ cc own rm) {j : Nat} {x : Int64} (d : decode cc pc = .ok (.lload j, 2)) (e : pc + 2 = pc') (h : lv[j]? = some (some (.long x))) (k : G κ nm ad M pc' lv (.long x :: st) cl sl) : G κ nm ad M pc lv st cl sl := by
  subst e; intro hM H locs ls hP hD hS hl
  exact lv_lload X.1 X.2.1 d (lvl_at hl h) (k hM H locs ls hP hD hS hl)
theorem g_aload_n (X : Cx κ cc own rm) {j : Fin 4} {x : Nat} (d : decode cc pc = .ok (.aload_n j, 1)) (e : pc + 1 = pc') (h : lv[(j : Nat)]? = some (some (.ref x))) (k : G κ nm ad M pc' lv (.ref x :: st) cl sl) : G κ nm ad M pc lv st cl sl := by
  subst e; intro hM H locs ls hP hD hS hl
  exact lv_aload_n X.1 X.2.1 d rfl (lvl_at hl h) (k hM H locs ls hP hD hS hl)
theorem g_aload (X : Cx κ cc own rm) {j : Nat} {x : Nat} (d : decode cc pc = .ok (.aload j, 2)) (e : pc + 2 = pc') (h : lv[j]? = some (some (.ref x))) (k : G κ nm ad M pc' lv (.ref x :: st) cl sl) : G κ nm ad M pc lv st cl sl := by
  subst e; intro hM H locs ls hP hD hS hl
  exact lv_aload X.1 X.2.1 d (lvl_at hl h) (k hM H locs ls hP hD hS hl)
theorem g_fload_n (X : Cx κ cc own rm) {j : Fin 4} {x : UInt32} (d : decode cc pc = .ok (.fload_n j, 1)) (e : pc + 1 = pc') (h : lv[(j : Nat)]? = some (some (.float x))) (k : G κ nm ad M pc' lv (.float x :: st) cl sl) : G κ nm ad M pc lv st cl sl := by
  subst e; intro hM H locs ls hP hD hS hl
  exact lv_fload_n X.1 X.2.1 d rfl (lvl_at hl h) (k hM H locs ls hP hD hS hl)
theorem g_fload (X : Cx κ cc own rm) {j : Nat} {x : UInt32} (d : decode cc pc = .ok (.fload j, 2)) (e : pc + 2 = pc') (h : lv[j]? = some (some (.float x))) (k : G κ nm ad M pc' lv (.float x :: st) cl sl) : G κ nm ad M pc lv st cl sl := by
  subst e; intro hM H locs ls hP hD hS hl
  exact lv_fload X.1 X.2.1 d (lvl_at hl h) (k hM H locs ls hP hD hS hl)
theorem g_istore_n0 (X : Cx κ cc own rm) {j : Fin 4} {x : Int32} (d : decode cc pc = .ok (.istore_n j, 1)) (e : pc + 1 = pc') (hn : (j : Nat) < kN κ) (hc : ∀ i, i + 1 = (j : Nat) → ∀ u, lv[i]? = some (some u) → c1 (some u) = true) (k : G κ nm ad M pc' (lv.set (j : Nat) (some (.int x))) st cl sl) : G κ nm ad M pc lv (.int x :: st) cl sl := by
  subst e; intro hM H locs ls hP hD hS hl
  exact lv_istore_n X.1 X.2.1 d rfl hl hn rfl (fun ls1 h1 => k hM H locs ls1 hP hD hS (lvl_st1 h1 hc))
theorem g_istore0 (X : Cx κ cc own rm) {j : Nat} {x : Int32} (d : decode cc pc = .ok (.istore j, 2)) (e : pc + 2 = pc') (hn : j < kN κ) (hc : ∀ i, i + 1 = j → ∀ u, lv[i]? = some (some u) → c1 (some u) = true) (k : G κ nm ad M pc' (lv.set j (some (.int x))) st cl sl) : G κ nm ad M pc lv (.int x :: st) cl sl := by
  subst e; intro hM H locs ls hP hD hS hl
  exact lv_istore X.1 X.2.1 d hl hn rfl (fun ls1 h1 => k hM H locs ls1 hP hD hS (lvl_st1 h1 hc))
theorem g_astore_n0 (X : Cx κ cc own rm) {j : Fin 4} {x : Nat} (d : decode cc pc = .ok (.astore_n j, 1)) (e : pc + 1 = pc') (hn : (j : Nat) < kN κ) (hc : ∀ i, i + 1 = (j : Nat) → ∀ u, lv[i]? = some (some u) → c1 (some u) = true) (k : G κ nm ad M pc' (lv.set (j : Nat) (some (.ref x))) st cl sl) : G κ nm ad M pc lv (.ref x :: st) cl sl := by
  subst e; intro hM H locs ls hP hD hS hl
  exact lv_astore_n X.1 X.2.1 d rfl hl hn rfl (fun ls1 h1 => k hM H locs ls1 hP hD hS (lvl_st1 h1 hc))
theorem g_astore0 (X : Cx κ cc own rm) {j : Nat} {x : Nat} (d : decode cc pc = .ok (.astore j, 2)) (e : pc + 2 = pc') (hn : j < kN κ) (hc : ∀ i, i + 1 = j → ∀ u, lv[i]? = some (some u) → c1 (some u) = true) (k : G κ nm ad M pc' (lv.set j (some (.ref x))) st cl sl) : G κ nm ad M pc lv (.ref x :: st) cl sl := by
  subst e; intro hM H locs ls hP hD hS hl
  exact lv_astore X.1 X.2.1 d hl hn rfl (fun ls1 h1 => k hM H locs ls1 hP hD hS (lvl_st1 h1 hc))
theorem g_fstore_n0 (X : Cx κ cc own rm) {j : Fin 4} {x : UInt32} (d : decode cc pc = .ok (.fstore_n j, 1)) (e : pc + 1 = pc') (hn : (j : Nat) < kN κ) (hc : ∀ i, i + 1 = (j : Nat) → ∀ u, lv[i]? = some (some u) → c1 (some u) = true) (k : G κ nm ad M pc' (lv.set (j : Nat) (some (.float x))) st cl sl) : G κ nm ad M pc lv (.float x :: st) cl sl := by
  subst e; intro hM H locs ls hP hD hS hl
  exact lv_fstore_n X.1 X.2.1 d rfl hl hn rfl (fun ls1 h1 => k hM H locs ls1 hP hD hS (lvl_st1 h1 hc))
theorem g_fstore0 (X : Cx κ cc own rm) {j : Nat} {x : UInt32} (d : decode cc pc = .ok (.fstore j, 2)) (e : pc + 2 = pc') (hn : j < kN κ) (hc : ∀ i, i + 1 = j → ∀ u, lv[i]? = some (some u) → c1 (some u) = true) (k : G κ nm ad M pc' (lv.set j (some (.float x))) st cl sl) : G κ nm ad M pc lv (.float x :: st) cl sl := by
  subst e; intro hM H locs ls hP hD hS hl
  exact lv_fstore X.1 X.2.1 d hl hn rfl (fun ls1 h1 => k hM H locs ls1 hP hD hS (lvl_st1 h1 hc))
theorem g_lstore_n0 (X : Cx κ cc own rm) {j : Fin 4} {x : Int64} (d : decode cc pc = .ok (.lstore_n j, 1)) (e : pc + 1 = pc') (hn : (j : Nat) + 1 < kN κ) (hc : ∀ i, i + 1 = (j : Nat) → ∀ u, lv[i]? = some (some u) → c1 (some u) = true) (k : G κ nm ad M pc' ((lv.set (j : Nat) (some (.long x))).set ((j : Nat) + 1) none) st cl sl) : G κ nm ad M pc lv (.long x :: st) cl sl := by
  subst e; intro hM H locs ls hP hD hS hl
  exact lv_lstore_n X.1 X.2.1 d rfl hl hn rfl (fun ls1 h1 => k hM H locs ls1 hP hD hS (lvl_st2 h1 hc))
theorem g_lstore0 (X : Cx κ cc own rm) {j : Nat} {x : Int64} (d : decode cc pc = .ok (.lstore j, 2)) (e : pc + 2 = pc') (hn : j + 1 < kN κ) (hc : ∀ i, i + 1 = j → ∀ u, lv[i]? = some (some u) → c1 (some u) = true) (k : G κ nm ad M pc' ((lv.set j (some (.long x))).set (j + 1) none) st cl sl) : G κ nm ad M pc lv (.long x :: st) cl sl := by
  subst e; intro hM H locs ls hP hD hS hl
  exact lv_lstore X.1 X.2.1 d hl hn rfl (fun ls1 h1 => k hM H locs ls1 hP hD hS (lvl_st2 h1 hc))
theorem g_iinc0 (X : Cx κ cc own rm) {j : Nat} {n x : Int} (d : decode cc pc = .ok (.iinc j n, 3)) (e : pc + 3 = pc') (hn : j < kN κ) (h : lv[j]? = some (some (.int (iI x)))) (hc : ∀ i, i + 1 = j → ∀ u, lv[i]? = some (some u) → c1 (some u) = true) (k : G κ nm ad M pc' (lv.set j (some (.int (iI (x + n))))) st cl sl) : G κ nm ad M pc lv st cl sl := by
  subst e; intro hM H locs ls hP hD hS hl
  obtain ⟨q, hq⟩ := List.getElem?_of_mem ((lvl_mem lv 0 (j, .int (iI x))).mpr ⟨j, h, (Nat.zero_add j).symm⟩)
  exact lv_iinc X.1 X.2.1 d hl hq (show iI x + Int32.ofInt n = iI (x + n) from iI_add x n) hn rfl (fun ls1 h1 => k hM H locs ls1 hP hD hS (lvl_st1 h1 hc))
theorem g_istore_0 (X : Cx κ cc own rm) {y : Option Value} {rest : List (Option Value)} {x : Int32} (d : decode cc pc = .ok (.istore_n 0, 1)) (e : pc + 1 = pc') (hn : 0 < kN κ) (k : G κ nm ad M pc' (some (.int x) :: rest) st cl sl) : G κ nm ad M pc (y :: rest) (.int x :: st) cl sl :=
  g_istore_n0 X d e hn (fun i hi u hu => by omega) k
theorem g_astore_0 (X : Cx κ cc own rm) {y : Option Value} {rest : List (Option Value)} {x : Nat} (d : decode cc pc = .ok (.astore_n 0, 1)) (e : pc + 1 = pc') (hn : 0 < kN κ) (k : G κ nm ad M pc' (some (.ref x) :: rest) st cl sl) : G κ nm ad M pc (y :: rest) (.ref x :: st) cl sl :=
  g_astore_n0 X d e hn (fun i hi u hu => by omega) k
theorem g_iinc_0 (X : Cx κ cc own rm) {y : Option Value} {rest : List (Option Value)} {n x : Int} (d : decode cc pc = .ok (.iinc 0 n, 3)) (e : pc + 3 = pc') (hn : 0 < kN κ) (k : G κ nm ad M pc' (some (.int (iI (x + n))) :: rest) st cl sl) : G κ nm ad M pc (some (.int (iI x)) :: rest) st cl sl :=
  g_iinc0 X d e hn rfl (fun i hi u hu => by omega) k
theorem g_lstore_0 (X : Cx κ cc own rm) {y z : Option Value} {rest : List (Option Value)} {x : Int64} (d : decode cc pc = .ok (.lstore_n 0, 1)) (e : pc + 1 = pc') (hn : 0 + 1 < kN κ) (k : G κ nm ad M pc' (some (.long x) :: none :: rest) st cl sl) : G κ nm ad M pc (y :: z :: rest) (.long x :: st) cl sl :=
  g_lstore_n0 X d e hn (fun i hi u hu => by omega) k
theorem g_drop_0 {y : Option Value} {rest : List (Option Value)} (k : G κ nm ad M pc (none :: rest) st cl sl) : G κ nm ad M pc (y :: rest) st cl sl := g_of (fun q v h => by
  rcases Nat.lt_trichotomy q 0 with h1 | h1 | h1
  · rw [← h]; omega
  · subst h1; cases h
  · obtain ⟨q, rfl⟩ : ∃ z, q = 0 + 1 + z := ⟨q - 0 - 1, by omega⟩
    rw [show 0 + 1 + q = q + 1 by omega] at h ⊢; exact h) k
theorem g_istore_1 (X : Cx κ cc own rm) {a0 y : Option Value} {rest : List (Option Value)} {x : Int32} (d : decode cc pc = .ok (.istore_n 1, 1)) (e : pc + 1 = pc') (hn : 1 < kN κ) (hp : c1 a0 = true) (k : G κ nm ad M pc' (a0 :: some (.int x) :: rest) st cl sl) : G κ nm ad M pc (a0 :: y :: rest) (.int x :: st) cl sl :=
  g_istore_n0 X d e hn (lv_pv (k := 0) rfl hp) k
theorem g_astore_1 (X : Cx κ cc own rm) {a0 y : Option Value} {rest : List (Option Value)} {x : Nat} (d : decode cc pc = .ok (.astore_n 1, 1)) (e : pc + 1 = pc') (hn : 1 < kN κ) (hp : c1 a0 = true) (k : G κ nm ad M pc' (a0 :: some (.ref x) :: rest) st cl sl) : G κ nm ad M pc (a0 :: y :: rest) (.ref x :: st) cl sl :=
  g_astore_n0 X d e hn (lv_pv (k := 0) rfl hp) k
theorem g_iinc_1 (X : Cx κ cc own rm) {a0 : Option Value} {rest : List (Option Value)} {n x : Int} (d : decode cc pc = .ok (.iinc 1 n, 3)) (e : pc + 3 = pc') (hn : 1 < kN κ) (hp : c1 a0 = true) (k : G κ nm ad M pc' (a0 :: some (.int (iI (x + n))) :: rest) st cl sl) : G κ nm ad M pc (a0 :: some (.int (iI x)) :: rest) st cl sl :=
  g_iinc0 X d e hn rfl (lv_pv (k := 0) rfl hp) k
theorem g_lstore_1 (X : Cx κ cc own rm) {a0 y z : Option Value} {rest : List (Option Value)} {x : Int64} (d : decode cc pc = .ok (.lstore_n 1, 1)) (e : pc + 1 = pc') (hn : 1 + 1 < kN κ) (hp : c1 a0 = true) (k : G κ nm ad M pc' (a0 :: some (.long x) :: none :: rest) st cl sl) : G κ nm ad M pc (a0 :: y :: z :: rest) (.long x :: st) cl sl :=
  g_lstore_n0 X d e hn (lv_pv (k := 0) rfl hp) k
theorem g_drop_1 {a0 y : Option Value} {rest : List (Option Value)} (k : G κ nm ad M pc (a0 :: none :: rest) st cl sl) : G κ nm ad M pc (a0 :: y :: rest) st cl sl := g_of (fun q v h => by
  rcases Nat.lt_trichotomy q 1 with h1 | h1 | h1
  · rw [← h]; match q, h1 with
    | 0, _ => rfl
  · subst h1; cases h
  · obtain ⟨q, rfl⟩ : ∃ z, q = 1 + 1 + z := ⟨q - 1 - 1, by omega⟩
    rw [show 1 + 1 + q = q + 2 by omega] at h ⊢; exact h) k
theorem g_istore_2 (X : Cx κ cc own rm) {a0 a1 y : Option Value} {rest : List (Option Value)} {x : Int32} (d : decode cc pc = .ok (.istore_n 2, 1)) (e : pc + 1 = pc') (hn : 2 < kN κ) (hp : c1 a1 = true) (k : G κ nm ad M pc' (a0 :: a1 :: some (.int x) :: rest) st cl sl) : G κ nm ad M pc (a0 :: a1 :: y :: rest) (.int x :: st) cl sl :=
  g_istore_n0 X d e hn (lv_pv (k := 1) rfl hp) k
theorem g_astore_2 (X : Cx κ cc own rm) {a0 a1 y : Option Value} {rest : List (Option Value)} {x : Nat} (d : decode cc pc = .ok (.astore_n 2, 1)) (e : pc + 1 = pc') (hn : 2 < kN κ) (hp : c1 a1 = true) (k : G κ nm ad M pc' (a0 :: a1 :: some (.ref x) :: rest) st cl sl) : G κ nm ad M pc (a0 :: a1 :: y :: rest) (.ref x :: st) cl sl :=
  g_astore_n0 X d e hn (lv_pv (k := 1) rfl hp) k
theorem g_iinc_2 (X : Cx κ cc own rm) {a0 a1 : Option Value} {rest : List (Option Value)} {n x : Int} (d : decode cc pc = .ok (.iinc 2 n, 3)) (e : pc + 3 = pc') (hn : 2 < kN κ) (hp : c1 a1 = true) (k : G κ nm ad M pc' (a0 :: a1 :: some (.int (iI (x + n))) :: rest) st cl sl) : G κ nm ad M pc (a0 :: a1 :: some (.int (iI x)) :: rest) st cl sl :=
  g_iinc0 X d e hn rfl (lv_pv (k := 1) rfl hp) k
theorem g_lstore_2 (X : Cx κ cc own rm) {a0 a1 y z : Option Value} {rest : List (Option Value)} {x : Int64} (d : decode cc pc = .ok (.lstore_n 2, 1)) (e : pc + 1 = pc') (hn : 2 + 1 < kN κ) (hp : c1 a1 = true) (k : G κ nm ad M pc' (a0 :: a1 :: some (.long x) :: none :: rest) st cl sl) : G κ nm ad M pc (a0 :: a1 :: y :: z :: rest) (.long x :: st) cl sl :=
  g_lstore_n0 X d e hn (lv_pv (k := 1) rfl hp) k
theorem g_drop_2 {a0 a1 y : Option Value} {rest : List (Option Value)} (k : G κ nm ad M pc (a0 :: a1 :: none :: rest) st cl sl) : G κ nm ad M pc (a0 :: a1 :: y :: rest) st cl sl := g_of (fun q v h => by
  rcases Nat.lt_trichotomy q 2 with h1 | h1 | h1
  · rw [← h]; match q, h1 with
    | 0, _ => rfl
    | 1, _ => rfl
  · subst h1; cases h
  · obtain ⟨q, rfl⟩ : ∃ z, q = 2 + 1 + z := ⟨q - 2 - 1, by omega⟩
    rw [show 2 + 1 + q = q + 3 by omega] at h ⊢; exact h) k
theorem g_istore_3 (X : Cx κ cc own rm) {a0 a1 a2 y : Option Value} {rest : List (Option Value)} {x : Int32} (d : decode cc pc = .ok (.istore_n 3, 1)) (e : pc + 1 = pc') (hn : 3 < kN κ) (hp : c1 a2 = true) (k : G κ nm ad M pc' (a0 :: a1 :: a2 :: some (.int x) :: rest) st cl sl) : G κ nm ad M pc (a0 :: a1 :: a2 :: y :: rest) (.int x :: st) cl sl :=
  g_istore_n0 X d e hn (lv_pv (k := 2) rfl hp) k
theorem g_astore_3 (X : Cx κ cc own rm) {a0 a1 a2 y : Option Value} {rest : List (Option Value)} {x : Nat} (d : decode cc pc = .ok (.astore_n 3, 1)) (e : pc + 1 = pc') (hn : 3 < kN κ) (hp : c1 a2 = true) (k : G κ nm ad M pc' (a0 :: a1 :: a2 :: some (.ref x) :: rest) st cl sl) : G κ nm ad M pc (a0 :: a1 :: a2 :: y :: rest) (.ref x :: st) cl sl :=
  g_astore_n0 X d e hn (lv_pv (k := 2) rfl hp) k
theorem g_iinc_3 (X : Cx κ cc own rm) {a0 a1 a2 : Option Value} {rest : List (Option Value)} {n x : Int} (d : decode cc pc = .ok (.iinc 3 n, 3)) (e : pc + 3 = pc') (hn : 3 < kN κ) (hp : c1 a2 = true) (k : G κ nm ad M pc' (a0 :: a1 :: a2 :: some (.int (iI (x + n))) :: rest) st cl sl) : G κ nm ad M pc (a0 :: a1 :: a2 :: some (.int (iI x)) :: rest) st cl sl :=
  g_iinc0 X d e hn rfl (lv_pv (k := 2) rfl hp) k
theorem g_lstore_3 (X : Cx κ cc own rm) {a0 a1 a2 y z : Option Value} {rest : List (Option Value)} {x : Int64} (d : decode cc pc = .ok (.lstore_n 3, 1)) (e : pc + 1 = pc') (hn : 3 + 1 < kN κ) (hp : c1 a2 = true) (k : G κ nm ad M pc' (a0 :: a1 :: a2 :: some (.long x) :: none :: rest) st cl sl) : G κ nm ad M pc (a0 :: a1 :: a2 :: y :: z :: rest) (.long x :: st) cl sl :=
  g_lstore_n0 X d e hn (lv_pv (k := 2) rfl hp) k
theorem g_drop_3 {a0 a1 a2 y : Option Value} {rest : List (Option Value)} (k : G κ nm ad M pc (a0 :: a1 :: a2 :: none :: rest) st cl sl) : G κ nm ad M pc (a0 :: a1 :: a2 :: y :: rest) st cl sl := g_of (fun q v h => by
  rcases Nat.lt_trichotomy q 3 with h1 | h1 | h1
  · rw [← h]; match q, h1 with
    | 0, _ => rfl
    | 1, _ => rfl
    | 2, _ => rfl
  · subst h1; cases h
  · obtain ⟨q, rfl⟩ : ∃ z, q = 3 + 1 + z := ⟨q - 3 - 1, by omega⟩
    rw [show 3 + 1 + q = q + 4 by omega] at h ⊢; exact h) k
theorem g_istore_4 (X : Cx κ cc own rm) {a0 a1 a2 a3 y : Option Value} {rest : List (Option Value)} {x : Int32} (d : decode cc pc = .ok (.istore 4, 2)) (e : pc + 2 = pc') (hn : 4 < kN κ) (hp : c1 a3 = true) (k : G κ nm ad M pc' (a0 :: a1 :: a2 :: a3 :: some (.int x) :: rest) st cl sl) : G κ nm ad M pc (a0 :: a1 :: a2 :: a3 :: y :: rest) (.int x :: st) cl sl :=
  g_istore0 X d e hn (lv_pv (k := 3) rfl hp) k
theorem g_astore_4 (X : Cx κ cc own rm) {a0 a1 a2 a3 y : Option Value} {rest : List (Option Value)} {x : Nat} (d : decode cc pc = .ok (.astore 4, 2)) (e : pc + 2 = pc') (hn : 4 < kN κ) (hp : c1 a3 = true) (k : G κ nm ad M pc' (a0 :: a1 :: a2 :: a3 :: some (.ref x) :: rest) st cl sl) : G κ nm ad M pc (a0 :: a1 :: a2 :: a3 :: y :: rest) (.ref x :: st) cl sl :=
  g_astore0 X d e hn (lv_pv (k := 3) rfl hp) k
theorem g_iinc_4 (X : Cx κ cc own rm) {a0 a1 a2 a3 : Option Value} {rest : List (Option Value)} {n x : Int} (d : decode cc pc = .ok (.iinc 4 n, 3)) (e : pc + 3 = pc') (hn : 4 < kN κ) (hp : c1 a3 = true) (k : G κ nm ad M pc' (a0 :: a1 :: a2 :: a3 :: some (.int (iI (x + n))) :: rest) st cl sl) : G κ nm ad M pc (a0 :: a1 :: a2 :: a3 :: some (.int (iI x)) :: rest) st cl sl :=
  g_iinc0 X d e hn rfl (lv_pv (k := 3) rfl hp) k
theorem g_lstore_4 (X : Cx κ cc own rm) {a0 a1 a2 a3 y z : Option Value} {rest : List (Option Value)} {x : Int64} (d : decode cc pc = .ok (.lstore 4, 2)) (e : pc + 2 = pc') (hn : 4 + 1 < kN κ) (hp : c1 a3 = true) (k : G κ nm ad M pc' (a0 :: a1 :: a2 :: a3 :: some (.long x) :: none :: rest) st cl sl) : G κ nm ad M pc (a0 :: a1 :: a2 :: a3 :: y :: z :: rest) (.long x :: st) cl sl :=
  g_lstore0 X d e hn (lv_pv (k := 3) rfl hp) k
theorem g_drop_4 {a0 a1 a2 a3 y : Option Value} {rest : List (Option Value)} (k : G κ nm ad M pc (a0 :: a1 :: a2 :: a3 :: none :: rest) st cl sl) : G κ nm ad M pc (a0 :: a1 :: a2 :: a3 :: y :: rest) st cl sl := g_of (fun q v h => by
  rcases Nat.lt_trichotomy q 4 with h1 | h1 | h1
  · rw [← h]; match q, h1 with
    | 0, _ => rfl
    | 1, _ => rfl
    | 2, _ => rfl
    | 3, _ => rfl
  · subst h1; cases h
  · obtain ⟨q, rfl⟩ : ∃ z, q = 4 + 1 + z := ⟨q - 4 - 1, by omega⟩
    rw [show 4 + 1 + q = q + 5 by omega] at h ⊢; exact h) k
theorem g_istore_5 (X : Cx κ cc own rm) {a0 a1 a2 a3 a4 y : Option Value} {rest : List (Option Value)} {x : Int32} (d : decode cc pc = .ok (.istore 5, 2)) (e : pc + 2 = pc') (hn : 5 < kN κ) (hp : c1 a4 = true) (k : G κ nm ad M pc' (a0 :: a1 :: a2 :: a3 :: a4 :: some (.int x) :: rest) st cl sl) : G κ nm ad M pc (a0 :: a1 :: a2 :: a3 :: a4 :: y :: rest) (.int x :: st) cl sl :=
  g_istore0 X d e hn (lv_pv (k := 4) rfl hp) k
theorem g_astore_5 (X : Cx κ cc own rm) {a0 a1 a2 a3 a4 y : Option Value} {rest : List (Option Value)} {x : Nat} (d : decode cc pc = .ok (.astore 5, 2)) (e : pc + 2 = pc') (hn : 5 < kN κ) (hp : c1 a4 = true) (k : G κ nm ad M pc' (a0 :: a1 :: a2 :: a3 :: a4 :: some (.ref x) :: rest) st cl sl) : G κ nm ad M pc (a0 :: a1 :: a2 :: a3 :: a4 :: y :: rest) (.ref x :: st) cl sl :=
  g_astore0 X d e hn (lv_pv (k := 4) rfl hp) k
theorem g_iinc_5 (X : Cx κ cc own rm) {a0 a1 a2 a3 a4 : Option Value} {rest : List (Option Value)} {n x : Int} (d : decode cc pc = .ok (.iinc 5 n, 3)) (e : pc + 3 = pc') (hn : 5 < kN κ) (hp : c1 a4 = true) (k : G κ nm ad M pc' (a0 :: a1 :: a2 :: a3 :: a4 :: some (.int (iI (x + n))) :: rest) st cl sl) : G κ nm ad M pc (a0 :: a1 :: a2 :: a3 :: a4 :: some (.int (iI x)) :: rest) st cl sl :=
  g_iinc0 X d e hn rfl (lv_pv (k := 4) rfl hp) k
theorem g_lstore_5 (X : Cx κ cc own rm) {a0 a1 a2 a3 a4 y z : Option Value} {rest : List (Option Value)} {x : Int64} (d : decode cc pc = .ok (.lstore 5, 2)) (e : pc + 2 = pc') (hn : 5 + 1 < kN κ) (hp : c1 a4 = true) (k : G κ nm ad M pc' (a0 :: a1 :: a2 :: a3 :: a4 :: some (.long x) :: none :: rest) st cl sl) : G κ nm ad M pc (a0 :: a1 :: a2 :: a3 :: a4 :: y :: z :: rest) (.long x :: st) cl sl :=
  g_lstore0 X d e hn (lv_pv (k := 4) rfl hp) k
theorem g_drop_5 {a0 a1 a2 a3 a4 y : Option Value} {rest : List (Option Value)} (k : G κ nm ad M pc (a0 :: a1 :: a2 :: a3 :: a4 :: none :: rest) st cl sl) : G κ nm ad M pc (a0 :: a1 :: a2 :: a3 :: a4 :: y :: rest) st cl sl := g_of (fun q v h => by
  rcases Nat.lt_trichotomy q 5 with h1 | h1 | h1
  · rw [← h]; match q, h1 with
    | 0, _ => rfl
    | 1, _ => rfl
    | 2, _ => rfl
    | 3, _ => rfl
    | 4, _ => rfl
  · subst h1; cases h
  · obtain ⟨q, rfl⟩ : ∃ z, q = 5 + 1 + z := ⟨q - 5 - 1, by omega⟩
    rw [show 5 + 1 + q = q + 6 by omega] at h ⊢; exact h) k
theorem g_istore_6 (X : Cx κ cc own rm) {a0 a1 a2 a3 a4 a5 y : Option Value} {rest : List (Option Value)} {x : Int32} (d : decode cc pc = .ok (.istore 6, 2)) (e : pc + 2 = pc') (hn : 6 < kN κ) (hp : c1 a5 = true) (k : G κ nm ad M pc' (a0 :: a1 :: a2 :: a3 :: a4 :: a5 :: some (.int x) :: rest) st cl sl) : G κ nm ad M pc (a0 :: a1 :: a2 :: a3 :: a4 :: a5 :: y :: rest) (.int x :: st) cl sl :=
  g_istore0 X d e hn (lv_pv (k := 5) rfl hp) k
theorem g_astore_6 (X : Cx κ cc own rm) {a0 a1 a2 a3 a4 a5 y : Option Value} {rest : List (Option Value)} {x : Nat} (d : decode cc pc = .ok (.astore 6, 2)) (e : pc + 2 = pc') (hn : 6 < kN κ) (hp : c1 a5 = true) (k : G κ nm ad M pc' (a0 :: a1 :: a2 :: a3 :: a4 :: a5 :: some (.ref x) :: rest) st cl sl) : G κ nm ad M pc (a0 :: a1 :: a2 :: a3 :: a4 :: a5 :: y :: rest) (.ref x :: st) cl sl :=
  g_astore0 X d e hn (lv_pv (k := 5) rfl hp) k
theorem g_fstore_6 (X : Cx κ cc own rm) {a0 a1 a2 a3 a4 a5 y : Option Value} {rest : List (Option Value)} {x : UInt32} (d : decode cc pc = .ok (.fstore 6, 2)) (e : pc + 2 = pc') (hn : 6 < kN κ) (hp : c1 a5 = true) (k : G κ nm ad M pc' (a0 :: a1 :: a2 :: a3 :: a4 :: a5 :: some (.float x) :: rest) st cl sl) : G κ nm ad M pc (a0 :: a1 :: a2 :: a3 :: a4 :: a5 :: y :: rest) (.float x :: st) cl sl :=
  g_fstore0 X d e hn (lv_pv (k := 5) rfl hp) k
theorem g_iinc_6 (X : Cx κ cc own rm) {a0 a1 a2 a3 a4 a5 : Option Value} {rest : List (Option Value)} {n x : Int} (d : decode cc pc = .ok (.iinc 6 n, 3)) (e : pc + 3 = pc') (hn : 6 < kN κ) (hp : c1 a5 = true) (k : G κ nm ad M pc' (a0 :: a1 :: a2 :: a3 :: a4 :: a5 :: some (.int (iI (x + n))) :: rest) st cl sl) : G κ nm ad M pc (a0 :: a1 :: a2 :: a3 :: a4 :: a5 :: some (.int (iI x)) :: rest) st cl sl :=
  g_iinc0 X d e hn rfl (lv_pv (k := 5) rfl hp) k
theorem g_lstore_6 (X : Cx κ cc own rm) {a0 a1 a2 a3 a4 a5 y z : Option Value} {rest : List (Option Value)} {x : Int64} (d : decode cc pc = .ok (.lstore 6, 2)) (e : pc + 2 = pc') (hn : 6 + 1 < kN κ) (hp : c1 a5 = true) (k : G κ nm ad M pc' (a0 :: a1 :: a2 :: a3 :: a4 :: a5 :: some (.long x) :: none :: rest) st cl sl) : G κ nm ad M pc (a0 :: a1 :: a2 :: a3 :: a4 :: a5 :: y :: z :: rest) (.long x :: st) cl sl :=
  g_lstore0 X d e hn (lv_pv (k := 5) rfl hp) k
theorem g_drop_6 {a0 a1 a2 a3 a4 a5 y : Option Value} {rest : List (Option Value)} (k : G κ nm ad M pc (a0 :: a1 :: a2 :: a3 :: a4 :: a5 :: none :: rest) st cl sl) : G κ nm ad M pc (a0 :: a1 :: a2 :: a3 :: a4 :: a5 :: y :: rest) st cl sl := g_of (fun q v h => by
  rcases Nat.lt_trichotomy q 6 with h1 | h1 | h1
  · rw [← h]; match q, h1 with
    | 0, _ => rfl
    | 1, _ => rfl
    | 2, _ => rfl
    | 3, _ => rfl
    | 4, _ => rfl
    | 5, _ => rfl
  · subst h1; cases h
  · obtain ⟨q, rfl⟩ : ∃ z, q = 6 + 1 + z := ⟨q - 6 - 1, by omega⟩
    rw [show 6 + 1 + q = q + 7 by omega] at h ⊢; exact h) k
theorem g_istore_7 (X : Cx κ cc own rm) {a0 a1 a2 a3 a4 a5 a6 y : Option Value} {rest : List (Option Value)} {x : Int32} (d : decode cc pc = .ok (.istore 7, 2)) (e : pc + 2 = pc') (hn : 7 < kN κ) (hp : c1 a6 = true) (k : G κ nm ad M pc' (a0 :: a1 :: a2 :: a3 :: a4 :: a5 :: a6 :: some (.int x) :: rest) st cl sl) : G κ nm ad M pc (a0 :: a1 :: a2 :: a3 :: a4 :: a5 :: a6 :: y :: rest) (.int x :: st) cl sl :=
  g_istore0 X d e hn (lv_pv (k := 6) rfl hp) k
theorem g_astore_7 (X : Cx κ cc own rm) {a0 a1 a2 a3 a4 a5 a6 y : Option Value} {rest : List (Option Value)} {x : Nat} (d : decode cc pc = .ok (.astore 7, 2)) (e : pc + 2 = pc') (hn : 7 < kN κ) (hp : c1 a6 = true) (k : G κ nm ad M pc' (a0 :: a1 :: a2 :: a3 :: a4 :: a5 :: a6 :: some (.ref x) :: rest) st cl sl) : G κ nm ad M pc (a0 :: a1 :: a2 :: a3 :: a4 :: a5 :: a6 :: y :: rest) (.ref x :: st) cl sl :=
  g_astore0 X d e hn (lv_pv (k := 6) rfl hp) k
theorem g_fstore_7 (X : Cx κ cc own rm) {a0 a1 a2 a3 a4 a5 a6 y : Option Value} {rest : List (Option Value)} {x : UInt32} (d : decode cc pc = .ok (.fstore 7, 2)) (e : pc + 2 = pc') (hn : 7 < kN κ) (hp : c1 a6 = true) (k : G κ nm ad M pc' (a0 :: a1 :: a2 :: a3 :: a4 :: a5 :: a6 :: some (.float x) :: rest) st cl sl) : G κ nm ad M pc (a0 :: a1 :: a2 :: a3 :: a4 :: a5 :: a6 :: y :: rest) (.float x :: st) cl sl :=
  g_fstore0 X d e hn (lv_pv (k := 6) rfl hp) k
theorem g_iinc_7 (X : Cx κ cc own rm) {a0 a1 a2 a3 a4 a5 a6 : Option Value} {rest : List (Option Value)} {n x : Int} (d : decode cc pc = .ok (.iinc 7 n, 3)) (e : pc + 3 = pc') (hn : 7 < kN κ) (hp : c1 a6 = true) (k : G κ nm ad M pc' (a0 :: a1 :: a2 :: a3 :: a4 :: a5 :: a6 :: some (.int (iI (x + n))) :: rest) st cl sl) : G κ nm ad M pc (a0 :: a1 :: a2 :: a3 :: a4 :: a5 :: a6 :: some (.int (iI x)) :: rest) st cl sl :=
  g_iinc0 X d e hn rfl (lv_pv (k := 6) rfl hp) k
theorem g_lstore_7 (X : Cx κ cc own rm) {a0 a1 a2 a3 a4 a5 a6 y z : Option Value} {rest : List (Option Value)} {x : Int64} (d : decode cc pc = .ok (.lstore 7, 2)) (e : pc + 2 = pc') (hn : 7 + 1 < kN κ) (hp : c1 a6 = true) (k : G κ nm ad M pc' (a0 :: a1 :: a2 :: a3 :: a4 :: a5 :: a6 :: some (.long x) :: none :: rest) st cl sl) : G κ nm ad M pc (a0 :: a1 :: a2 :: a3 :: a4 :: a5 :: a6 :: y :: z :: rest) (.long x :: st) cl sl :=
  g_lstore0 X d e hn (lv_pv (k := 6) rfl hp) k
theorem g_drop_7 {a0 a1 a2 a3 a4 a5 a6 y : Option Value} {rest : List (Option Value)} (k : G κ nm ad M pc (a0 :: a1 :: a2 :: a3 :: a4 :: a5 :: a6 :: none :: rest) st cl sl) : G κ nm ad M pc (a0 :: a1 :: a2 :: a3 :: a4 :: a5 :: a6 :: y :: rest) st cl sl := g_of (fun q v h => by
  rcases Nat.lt_trichotomy q 7 with h1 | h1 | h1
  · rw [← h]; match q, h1 with
    | 0, _ => rfl
    | 1, _ => rfl
    | 2, _ => rfl
    | 3, _ => rfl
    | 4, _ => rfl
    | 5, _ => rfl
    | 6, _ => rfl
  · subst h1; cases h
  · obtain ⟨q, rfl⟩ : ∃ z, q = 7 + 1 + z := ⟨q - 7 - 1, by omega⟩
    rw [show 7 + 1 + q = q + 8 by omega] at h ⊢; exact h) k
theorem g_istore_8 (X : Cx κ cc own rm) {a0 a1 a2 a3 a4 a5 a6 a7 y : Option Value} {rest : List (Option Value)} {x : Int32} (d : decode cc pc = .ok (.istore 8, 2)) (e : pc + 2 = pc') (hn : 8 < kN κ) (hp : c1 a7 = true) (k : G κ nm ad M pc' (a0 :: a1 :: a2 :: a3 :: a4 :: a5 :: a6 :: a7 :: some (.int x) :: rest) st cl sl) : G κ nm ad M pc (a0 :: a1 :: a2 :: a3 :: a4 :: a5 :: a6 :: a7 :: y :: rest) (.int x :: st) cl sl :=
  g_istore0 X d e hn (lv_pv (k := 7) rfl hp) k
theorem g_astore_8 (X : Cx κ cc own rm) {a0 a1 a2 a3 a4 a5 a6 a7 y : Option Value} {rest : List (Option Value)} {x : Nat} (d : decode cc pc = .ok (.astore 8, 2)) (e : pc + 2 = pc') (hn : 8 < kN κ) (hp : c1 a7 = true) (k : G κ nm ad M pc' (a0 :: a1 :: a2 :: a3 :: a4 :: a5 :: a6 :: a7 :: some (.ref x) :: rest) st cl sl) : G κ nm ad M pc (a0 :: a1 :: a2 :: a3 :: a4 :: a5 :: a6 :: a7 :: y :: rest) (.ref x :: st) cl sl :=
  g_astore0 X d e hn (lv_pv (k := 7) rfl hp) k
theorem g_fstore_8 (X : Cx κ cc own rm) {a0 a1 a2 a3 a4 a5 a6 a7 y : Option Value} {rest : List (Option Value)} {x : UInt32} (d : decode cc pc = .ok (.fstore 8, 2)) (e : pc + 2 = pc') (hn : 8 < kN κ) (hp : c1 a7 = true) (k : G κ nm ad M pc' (a0 :: a1 :: a2 :: a3 :: a4 :: a5 :: a6 :: a7 :: some (.float x) :: rest) st cl sl) : G κ nm ad M pc (a0 :: a1 :: a2 :: a3 :: a4 :: a5 :: a6 :: a7 :: y :: rest) (.float x :: st) cl sl :=
  g_fstore0 X d e hn (lv_pv (k := 7) rfl hp) k
theorem g_iinc_8 (X : Cx κ cc own rm) {a0 a1 a2 a3 a4 a5 a6 a7 : Option Value} {rest : List (Option Value)} {n x : Int} (d : decode cc pc = .ok (.iinc 8 n, 3)) (e : pc + 3 = pc') (hn : 8 < kN κ) (hp : c1 a7 = true) (k : G κ nm ad M pc' (a0 :: a1 :: a2 :: a3 :: a4 :: a5 :: a6 :: a7 :: some (.int (iI (x + n))) :: rest) st cl sl) : G κ nm ad M pc (a0 :: a1 :: a2 :: a3 :: a4 :: a5 :: a6 :: a7 :: some (.int (iI x)) :: rest) st cl sl :=
  g_iinc0 X d e hn rfl (lv_pv (k := 7) rfl hp) k
theorem g_lstore_8 (X : Cx κ cc own rm) {a0 a1 a2 a3 a4 a5 a6 a7 y z : Option Value} {rest : List (Option Value)} {x : Int64} (d : decode cc pc = .ok (.lstore 8, 2)) (e : pc + 2 = pc') (hn : 8 + 1 < kN κ) (hp : c1 a7 = true) (k : G κ nm ad M pc' (a0 :: a1 :: a2 :: a3 :: a4 :: a5 :: a6 :: a7 :: some (.long x) :: none :: rest) st cl sl) : G κ nm ad M pc (a0 :: a1 :: a2 :: a3 :: a4 :: a5 :: a6 :: a7 :: y :: z :: rest) (.long x :: st) cl sl :=
  g_lstore0 X d e hn (lv_pv (k := 7) rfl hp) k
theorem g_drop_8 {a0 a1 a2 a3 a4 a5 a6 a7 y : Option Value} {rest : List (Option Value)} (k : G κ nm ad M pc (a0 :: a1 :: a2 :: a3 :: a4 :: a5 :: a6 :: a7 :: none :: rest) st cl sl) : G κ nm ad M pc (a0 :: a1 :: a2 :: a3 :: a4 :: a5 :: a6 :: a7 :: y :: rest) st cl sl := g_of (fun q v h => by
  rcases Nat.lt_trichotomy q 8 with h1 | h1 | h1
  · rw [← h]; match q, h1 with
    | 0, _ => rfl
    | 1, _ => rfl
    | 2, _ => rfl
    | 3, _ => rfl
    | 4, _ => rfl
    | 5, _ => rfl
    | 6, _ => rfl
    | 7, _ => rfl
  · subst h1; cases h
  · obtain ⟨q, rfl⟩ : ∃ z, q = 8 + 1 + z := ⟨q - 8 - 1, by omega⟩
    rw [show 8 + 1 + q = q + 9 by omega] at h ⊢; exact h) k
theorem g_istore_9 (X : Cx κ cc own rm) {a0 a1 a2 a3 a4 a5 a6 a7 a8 y : Option Value} {rest : List (Option Value)} {x : Int32} (d : decode cc pc = .ok (.istore 9, 2)) (e : pc + 2 = pc') (hn : 9 < kN κ) (hp : c1 a8 = true) (k : G κ nm ad M pc' (a0 :: a1 :: a2 :: a3 :: a4 :: a5 :: a6 :: a7 :: a8 :: some (.int x) :: rest) st cl sl) : G κ nm ad M pc (a0 :: a1 :: a2 :: a3 :: a4 :: a5 :: a6 :: a7 :: a8 :: y :: rest) (.int x :: st) cl sl :=
  g_istore0 X d e hn (lv_pv (k := 8) rfl hp) k
theorem g_astore_9 (X : Cx κ cc own rm) {a0 a1 a2 a3 a4 a5 a6 a7 a8 y : Option Value} {rest : List (Option Value)} {x : Nat} (d : decode cc pc = .ok (.astore 9, 2)) (e : pc + 2 = pc') (hn : 9 < kN κ) (hp : c1 a8 = true) (k : G κ nm ad M pc' (a0 :: a1 :: a2 :: a3 :: a4 :: a5 :: a6 :: a7 :: a8 :: some (.ref x) :: rest) st cl sl) : G κ nm ad M pc (a0 :: a1 :: a2 :: a3 :: a4 :: a5 :: a6 :: a7 :: a8 :: y :: rest) (.ref x :: st) cl sl :=
  g_astore0 X d e hn (lv_pv (k := 8) rfl hp) k
theorem g_iinc_9 (X : Cx κ cc own rm) {a0 a1 a2 a3 a4 a5 a6 a7 a8 : Option Value} {rest : List (Option Value)} {n x : Int} (d : decode cc pc = .ok (.iinc 9 n, 3)) (e : pc + 3 = pc') (hn : 9 < kN κ) (hp : c1 a8 = true) (k : G κ nm ad M pc' (a0 :: a1 :: a2 :: a3 :: a4 :: a5 :: a6 :: a7 :: a8 :: some (.int (iI (x + n))) :: rest) st cl sl) : G κ nm ad M pc (a0 :: a1 :: a2 :: a3 :: a4 :: a5 :: a6 :: a7 :: a8 :: some (.int (iI x)) :: rest) st cl sl :=
  g_iinc0 X d e hn rfl (lv_pv (k := 8) rfl hp) k
theorem g_lstore_9 (X : Cx κ cc own rm) {a0 a1 a2 a3 a4 a5 a6 a7 a8 y z : Option Value} {rest : List (Option Value)} {x : Int64} (d : decode cc pc = .ok (.lstore 9, 2)) (e : pc + 2 = pc') (hn : 9 + 1 < kN κ) (hp : c1 a8 = true) (k : G κ nm ad M pc' (a0 :: a1 :: a2 :: a3 :: a4 :: a5 :: a6 :: a7 :: a8 :: some (.long x) :: none :: rest) st cl sl) : G κ nm ad M pc (a0 :: a1 :: a2 :: a3 :: a4 :: a5 :: a6 :: a7 :: a8 :: y :: z :: rest) (.long x :: st) cl sl :=
  g_lstore0 X d e hn (lv_pv (k := 8) rfl hp) k
theorem g_drop_9 {a0 a1 a2 a3 a4 a5 a6 a7 a8 y : Option Value} {rest : List (Option Value)} (k : G κ nm ad M pc (a0 :: a1 :: a2 :: a3 :: a4 :: a5 :: a6 :: a7 :: a8 :: none :: rest) st cl sl) : G κ nm ad M pc (a0 :: a1 :: a2 :: a3 :: a4 :: a5 :: a6 :: a7 :: a8 :: y :: rest) st cl sl := g_of (fun q v h => by
  rcases Nat.lt_trichotomy q 9 with h1 | h1 | h1
  · rw [← h]; match q, h1 with
    | 0, _ => rfl
    | 1, _ => rfl
    | 2, _ => rfl
    | 3, _ => rfl
    | 4, _ => rfl
    | 5, _ => rfl
    | 6, _ => rfl
    | 7, _ => rfl
    | 8, _ => rfl
  · subst h1; cases h
  · obtain ⟨q, rfl⟩ : ∃ z, q = 9 + 1 + z := ⟨q - 9 - 1, by omega⟩
    rw [show 9 + 1 + q = q + 10 by omega] at h ⊢; exact h) k
theorem g_istore_10 (X : Cx κ cc own rm) {a0 a1 a2 a3 a4 a5 a6 a7 a8 a9 y : Option Value} {rest : List (Option Value)} {x : Int32} (d : decode cc pc = .ok (.istore 10, 2)) (e : pc + 2 = pc') (hn : 10 < kN κ) (hp : c1 a9 = true) (k : G κ nm ad M pc' (a0 :: a1 :: a2 :: a3 :: a4 :: a5 :: a6 :: a7 :: a8 :: a9 :: some (.int x) :: rest) st cl sl) : G κ nm ad M pc (a0 :: a1 :: a2 :: a3 :: a4 :: a5 :: a6 :: a7 :: a8 :: a9 :: y :: rest) (.int x :: st) cl sl :=
  g_istore0 X d e hn (lv_pv (k := 9) rfl hp) k
theorem g_astore_10 (X : Cx κ cc own rm) {a0 a1 a2 a3 a4 a5 a6 a7 a8 a9 y : Option Value} {rest : List (Option Value)} {x : Nat} (d : decode cc pc = .ok (.astore 10, 2)) (e : pc + 2 = pc') (hn : 10 < kN κ) (hp : c1 a9 = true) (k : G κ nm ad M pc' (a0 :: a1 :: a2 :: a3 :: a4 :: a5 :: a6 :: a7 :: a8 :: a9 :: some (.ref x) :: rest) st cl sl) : G κ nm ad M pc (a0 :: a1 :: a2 :: a3 :: a4 :: a5 :: a6 :: a7 :: a8 :: a9 :: y :: rest) (.ref x :: st) cl sl :=
  g_astore0 X d e hn (lv_pv (k := 9) rfl hp) k
theorem g_iinc_10 (X : Cx κ cc own rm) {a0 a1 a2 a3 a4 a5 a6 a7 a8 a9 : Option Value} {rest : List (Option Value)} {n x : Int} (d : decode cc pc = .ok (.iinc 10 n, 3)) (e : pc + 3 = pc') (hn : 10 < kN κ) (hp : c1 a9 = true) (k : G κ nm ad M pc' (a0 :: a1 :: a2 :: a3 :: a4 :: a5 :: a6 :: a7 :: a8 :: a9 :: some (.int (iI (x + n))) :: rest) st cl sl) : G κ nm ad M pc (a0 :: a1 :: a2 :: a3 :: a4 :: a5 :: a6 :: a7 :: a8 :: a9 :: some (.int (iI x)) :: rest) st cl sl :=
  g_iinc0 X d e hn rfl (lv_pv (k := 9) rfl hp) k
theorem g_lstore_10 (X : Cx κ cc own rm) {a0 a1 a2 a3 a4 a5 a6 a7 a8 a9 y z : Option Value} {rest : List (Option Value)} {x : Int64} (d : decode cc pc = .ok (.lstore 10, 2)) (e : pc + 2 = pc') (hn : 10 + 1 < kN κ) (hp : c1 a9 = true) (k : G κ nm ad M pc' (a0 :: a1 :: a2 :: a3 :: a4 :: a5 :: a6 :: a7 :: a8 :: a9 :: some (.long x) :: none :: rest) st cl sl) : G κ nm ad M pc (a0 :: a1 :: a2 :: a3 :: a4 :: a5 :: a6 :: a7 :: a8 :: a9 :: y :: z :: rest) (.long x :: st) cl sl :=
  g_lstore0 X d e hn (lv_pv (k := 9) rfl hp) k
theorem g_drop_10 {a0 a1 a2 a3 a4 a5 a6 a7 a8 a9 y : Option Value} {rest : List (Option Value)} (k : G κ nm ad M pc (a0 :: a1 :: a2 :: a3 :: a4 :: a5 :: a6 :: a7 :: a8 :: a9 :: none :: rest) st cl sl) : G κ nm ad M pc (a0 :: a1 :: a2 :: a3 :: a4 :: a5 :: a6 :: a7 :: a8 :: a9 :: y :: rest) st cl sl := g_of (fun q v h => by
  rcases Nat.lt_trichotomy q 10 with h1 | h1 | h1
  · rw [← h]; match q, h1 with
    | 0, _ => rfl
    | 1, _ => rfl
    | 2, _ => rfl
    | 3, _ => rfl
    | 4, _ => rfl
    | 5, _ => rfl
    | 6, _ => rfl
    | 7, _ => rfl
    | 8, _ => rfl
    | 9, _ => rfl
  · subst h1; cases h
  · obtain ⟨q, rfl⟩ : ∃ z, q = 10 + 1 + z := ⟨q - 10 - 1, by omega⟩
    rw [show 10 + 1 + q = q + 11 by omega] at h ⊢; exact h) k
theorem g_istore_11 (X : Cx κ cc own rm) {a0 a1 a2 a3 a4 a5 a6 a7 a8 a9 a10 y : Option Value} {rest : List (Option Value)} {x : Int32} (d : decode cc pc = .ok (.istore 11, 2)) (e : pc + 2 = pc') (hn : 11 < kN κ) (hp : c1 a10 = true) (k : G κ nm ad M pc' (a0 :: a1 :: a2 :: a3 :: a4 :: a5 :: a6 :: a7 :: a8 :: a9 :: a10 :: some (.int x) :: rest) st cl sl) : G κ nm ad M pc (a0 :: a1 :: a2 :: a3 :: a4 :: a5 :: a6 :: a7 :: a8 :: a9 :: a10 :: y :: rest) (.int x :: st) cl sl :=
  g_istore0 X d e hn (lv_pv (k := 10) rfl hp) k
theorem g_astore_11 (X : Cx κ cc own rm) {a0 a1 a2 a3 a4 a5 a6 a7 a8 a9 a10 y : Option Value} {rest : List (Option Value)} {x : Nat} (d : decode cc pc = .ok (.astore 11, 2)) (e : pc + 2 = pc') (hn : 11 < kN κ) (hp : c1 a10 = true) (k : G κ nm ad M pc' (a0 :: a1 :: a2 :: a3 :: a4 :: a5 :: a6 :: a7 :: a8 :: a9 :: a10 :: some (.ref x) :: rest) st cl sl) : G κ nm ad M pc (a0 :: a1 :: a2 :: a3 :: a4 :: a5 :: a6 :: a7 :: a8 :: a9 :: a10 :: y :: rest) (.ref x :: st) cl sl :=
  g_astore0 X d e hn (lv_pv (k := 10) rfl hp) k
theorem g_iinc_11 (X : Cx κ cc own rm) {a0 a1 a2 a3 a4 a5 a6 a7 a8 a9 a10 : Option Value} {rest : List (Option Value)} {n x : Int} (d : decode cc pc = .ok (.iinc 11 n, 3)) (e : pc + 3 = pc') (hn : 11 < kN κ) (hp : c1 a10 = true) (k : G κ nm ad M pc' (a0 :: a1 :: a2 :: a3 :: a4 :: a5 :: a6 :: a7 :: a8 :: a9 :: a10 :: some (.int (iI (x + n))) :: rest) st cl sl) : G κ nm ad M pc (a0 :: a1 :: a2 :: a3 :: a4 :: a5 :: a6 :: a7 :: a8 :: a9 :: a10 :: some (.int (iI x)) :: rest) st cl sl :=
  g_iinc0 X d e hn rfl (lv_pv (k := 10) rfl hp) k
theorem g_lstore_11 (X : Cx κ cc own rm) {a0 a1 a2 a3 a4 a5 a6 a7 a8 a9 a10 y z : Option Value} {rest : List (Option Value)} {x : Int64} (d : decode cc pc = .ok (.lstore 11, 2)) (e : pc + 2 = pc') (hn : 11 + 1 < kN κ) (hp : c1 a10 = true) (k : G κ nm ad M pc' (a0 :: a1 :: a2 :: a3 :: a4 :: a5 :: a6 :: a7 :: a8 :: a9 :: a10 :: some (.long x) :: none :: rest) st cl sl) : G κ nm ad M pc (a0 :: a1 :: a2 :: a3 :: a4 :: a5 :: a6 :: a7 :: a8 :: a9 :: a10 :: y :: z :: rest) (.long x :: st) cl sl :=
  g_lstore0 X d e hn (lv_pv (k := 10) rfl hp) k
theorem g_drop_11 {a0 a1 a2 a3 a4 a5 a6 a7 a8 a9 a10 y : Option Value} {rest : List (Option Value)} (k : G κ nm ad M pc (a0 :: a1 :: a2 :: a3 :: a4 :: a5 :: a6 :: a7 :: a8 :: a9 :: a10 :: none :: rest) st cl sl) : G κ nm ad M pc (a0 :: a1 :: a2 :: a3 :: a4 :: a5 :: a6 :: a7 :: a8 :: a9 :: a10 :: y :: rest) st cl sl := g_of (fun q v h => by
  rcases Nat.lt_trichotomy q 11 with h1 | h1 | h1
  · rw [← h]; match q, h1 with
    | 0, _ => rfl
    | 1, _ => rfl
    | 2, _ => rfl
    | 3, _ => rfl
    | 4, _ => rfl
    | 5, _ => rfl
    | 6, _ => rfl
    | 7, _ => rfl
    | 8, _ => rfl
    | 9, _ => rfl
    | 10, _ => rfl
  · subst h1; cases h
  · obtain ⟨q, rfl⟩ : ∃ z, q = 11 + 1 + z := ⟨q - 11 - 1, by omega⟩
    rw [show 11 + 1 + q = q + 12 by omega] at h ⊢; exact h) k
theorem g_istore_12 (X : Cx κ cc own rm) {a0 a1 a2 a3 a4 a5 a6 a7 a8 a9 a10 a11 y : Option Value} {rest : List (Option Value)} {x : Int32} (d : decode cc pc = .ok (.istore 12, 2)) (e : pc + 2 = pc') (hn : 12 < kN κ) (hp : c1 a11 = true) (k : G κ nm ad M pc' (a0 :: a1 :: a2 :: a3 :: a4 :: a5 :: a6 :: a7 :: a8 :: a9 :: a10 :: a11 :: some (.int x) :: rest) st cl sl) : G κ nm ad M pc (a0 :: a1 :: a2 :: a3 :: a4 :: a5 :: a6 :: a7 :: a8 :: a9 :: a10 :: a11 :: y :: rest) (.int x :: st) cl sl :=
  g_istore0 X d e hn (lv_pv (k := 11) rfl hp) k
theorem g_astore_12 (X : Cx κ cc own rm) {a0 a1 a2 a3 a4 a5 a6 a7 a8 a9 a10 a11 y : Option Value} {rest : List (Option Value)} {x : Nat} (d : decode cc pc = .ok (.astore 12, 2)) (e : pc + 2 = pc') (hn : 12 < kN κ) (hp : c1 a11 = true) (k : G κ nm ad M pc' (a0 :: a1 :: a2 :: a3 :: a4 :: a5 :: a6 :: a7 :: a8 :: a9 :: a10 :: a11 :: some (.ref x) :: rest) st cl sl) : G κ nm ad M pc (a0 :: a1 :: a2 :: a3 :: a4 :: a5 :: a6 :: a7 :: a8 :: a9 :: a10 :: a11 :: y :: rest) (.ref x :: st) cl sl :=
  g_astore0 X d e hn (lv_pv (k := 11) rfl hp) k
theorem g_iinc_12 (X : Cx κ cc own rm) {a0 a1 a2 a3 a4 a5 a6 a7 a8 a9 a10 a11 : Option Value} {rest : List (Option Value)} {n x : Int} (d : decode cc pc = .ok (.iinc 12 n, 3)) (e : pc + 3 = pc') (hn : 12 < kN κ) (hp : c1 a11 = true) (k : G κ nm ad M pc' (a0 :: a1 :: a2 :: a3 :: a4 :: a5 :: a6 :: a7 :: a8 :: a9 :: a10 :: a11 :: some (.int (iI (x + n))) :: rest) st cl sl) : G κ nm ad M pc (a0 :: a1 :: a2 :: a3 :: a4 :: a5 :: a6 :: a7 :: a8 :: a9 :: a10 :: a11 :: some (.int (iI x)) :: rest) st cl sl :=
  g_iinc0 X d e hn rfl (lv_pv (k := 11) rfl hp) k
theorem g_lstore_12 (X : Cx κ cc own rm) {a0 a1 a2 a3 a4 a5 a6 a7 a8 a9 a10 a11 y z : Option Value} {rest : List (Option Value)} {x : Int64} (d : decode cc pc = .ok (.lstore 12, 2)) (e : pc + 2 = pc') (hn : 12 + 1 < kN κ) (hp : c1 a11 = true) (k : G κ nm ad M pc' (a0 :: a1 :: a2 :: a3 :: a4 :: a5 :: a6 :: a7 :: a8 :: a9 :: a10 :: a11 :: some (.long x) :: none :: rest) st cl sl) : G κ nm ad M pc (a0 :: a1 :: a2 :: a3 :: a4 :: a5 :: a6 :: a7 :: a8 :: a9 :: a10 :: a11 :: y :: z :: rest) (.long x :: st) cl sl :=
  g_lstore0 X d e hn (lv_pv (k := 11) rfl hp) k
theorem g_drop_12 {a0 a1 a2 a3 a4 a5 a6 a7 a8 a9 a10 a11 y : Option Value} {rest : List (Option Value)} (k : G κ nm ad M pc (a0 :: a1 :: a2 :: a3 :: a4 :: a5 :: a6 :: a7 :: a8 :: a9 :: a10 :: a11 :: none :: rest) st cl sl) : G κ nm ad M pc (a0 :: a1 :: a2 :: a3 :: a4 :: a5 :: a6 :: a7 :: a8 :: a9 :: a10 :: a11 :: y :: rest) st cl sl := g_of (fun q v h => by
  rcases Nat.lt_trichotomy q 12 with h1 | h1 | h1
  · rw [← h]; match q, h1 with
    | 0, _ => rfl
    | 1, _ => rfl
    | 2, _ => rfl
    | 3, _ => rfl
    | 4, _ => rfl
    | 5, _ => rfl
    | 6, _ => rfl
    | 7, _ => rfl
    | 8, _ => rfl
    | 9, _ => rfl
    | 10, _ => rfl
    | 11, _ => rfl
  · subst h1; cases h
  · obtain ⟨q, rfl⟩ : ∃ z, q = 12 + 1 + z := ⟨q - 12 - 1, by omega⟩
    rw [show 12 + 1 + q = q + 13 by omega] at h ⊢; exact h) k
theorem g_istore_13 (X : Cx κ cc own rm) {a0 a1 a2 a3 a4 a5 a6 a7 a8 a9 a10 a11 a12 y : Option Value} {rest : List (Option Value)} {x : Int32} (d : decode cc pc = .ok (.istore 13, 2)) (e : pc + 2 = pc') (hn : 13 < kN κ) (hp : c1 a12 = true) (k : G κ nm ad M pc' (a0 :: a1 :: a2 :: a3 :: a4 :: a5 :: a6 :: a7 :: a8 :: a9 :: a10 :: a11 :: a12 :: some (.int x) :: rest) st cl sl) : G κ nm ad M pc (a0 :: a1 :: a2 :: a3 :: a4 :: a5 :: a6 :: a7 :: a8 :: a9 :: a10 :: a11 :: a12 :: y :: rest) (.int x :: st) cl sl :=
  g_istore0 X d e hn (lv_pv (k := 12) rfl hp) k
theorem g_astore_13 (X : Cx κ cc own rm) {a0 a1 a2 a3 a4 a5 a6 a7 a8 a9 a10 a11 a12 y : Option Value} {rest : List (Option Value)} {x : Nat} (d : decode cc pc = .ok (.astore 13, 2)) (e : pc + 2 = pc') (hn : 13 < kN κ) (hp : c1 a12 = true) (k : G κ nm ad M pc' (a0 :: a1 :: a2 :: a3 :: a4 :: a5 :: a6 :: a7 :: a8 :: a9 :: a10 :: a11 :: a12 :: some (.ref x) :: rest) st cl sl) : G κ nm ad M pc (a0 :: a1 :: a2 :: a3 :: a4 :: a5 :: a6 :: a7 :: a8 :: a9 :: a10 :: a11 :: a12 :: y :: rest) (.ref x :: st) cl sl :=
  g_astore0 X d e hn (lv_pv (k := 12) rfl hp) k
theorem g_iinc_13 (X : Cx κ cc own rm) {a0 a1 a2 a3 a4 a5 a6 a7 a8 a9 a10 a11 a12 : Option Value} {rest : List (Option Value)} {n x : Int} (d : decode cc pc = .ok (.iinc 13 n, 3)) (e : pc + 3 = pc') (hn : 13 < kN κ) (hp : c1 a12 = true) (k : G κ nm ad M pc' (a0 :: a1 :: a2 :: a3 :: a4 :: a5 :: a6 :: a7 :: a8 :: a9 :: a10 :: a11 :: a12 :: some (.int (iI (x + n))) :: rest) st cl sl) : G κ nm ad M pc (a0 :: a1 :: a2 :: a3 :: a4 :: a5 :: a6 :: a7 :: a8 :: a9 :: a10 :: a11 :: a12 :: some (.int (iI x)) :: rest) st cl sl :=
  g_iinc0 X d e hn rfl (lv_pv (k := 12) rfl hp) k
theorem g_lstore_13 (X : Cx κ cc own rm) {a0 a1 a2 a3 a4 a5 a6 a7 a8 a9 a10 a11 a12 y z : Option Value} {rest : List (Option Value)} {x : Int64} (d : decode cc pc = .ok (.lstore 13, 2)) (e : pc + 2 = pc') (hn : 13 + 1 < kN κ) (hp : c1 a12 = true) (k : G κ nm ad M pc' (a0 :: a1 :: a2 :: a3 :: a4 :: a5 :: a6 :: a7 :: a8 :: a9 :: a10 :: a11 :: a12 :: some (.long x) :: none :: rest) st cl sl) : G κ nm ad M pc (a0 :: a1 :: a2 :: a3 :: a4 :: a5 :: a6 :: a7 :: a8 :: a9 :: a10 :: a11 :: a12 :: y :: z :: rest) (.long x :: st) cl sl :=
  g_lstore0 X d e hn (lv_pv (k := 12) rfl hp) k
theorem g_drop_13 {a0 a1 a2 a3 a4 a5 a6 a7 a8 a9 a10 a11 a12 y : Option Value} {rest : List (Option Value)} (k : G κ nm ad M pc (a0 :: a1 :: a2 :: a3 :: a4 :: a5 :: a6 :: a7 :: a8 :: a9 :: a10 :: a11 :: a12 :: none :: rest) st cl sl) : G κ nm ad M pc (a0 :: a1 :: a2 :: a3 :: a4 :: a5 :: a6 :: a7 :: a8 :: a9 :: a10 :: a11 :: a12 :: y :: rest) st cl sl := g_of (fun q v h => by
  rcases Nat.lt_trichotomy q 13 with h1 | h1 | h1
  · rw [← h]; match q, h1 with
    | 0, _ => rfl
    | 1, _ => rfl
    | 2, _ => rfl
    | 3, _ => rfl
    | 4, _ => rfl
    | 5, _ => rfl
    | 6, _ => rfl
    | 7, _ => rfl
    | 8, _ => rfl
    | 9, _ => rfl
    | 10, _ => rfl
    | 11, _ => rfl
    | 12, _ => rfl
  · subst h1; cases h
  · obtain ⟨q, rfl⟩ : ∃ z, q = 13 + 1 + z := ⟨q - 13 - 1, by omega⟩
    rw [show 13 + 1 + q = q + 14 by omega] at h ⊢; exact h) k
theorem g_iadd (X : Cx κ cc own rm) {a b : Int} (d : decode cc pc = .ok (.iadd, 1)) (e : pc + 1 = pc')  (k : G κ nm ad M pc' lv (.int (iI (a + b)) :: st) cl sl) : G κ nm ad M pc lv (.int (iI b) :: .int (iI a) :: st) cl sl := by
  subst e; intro hM H locs ls hP hD hS hl
  exact lv_iadd X.1 X.2.1 d (by rw [iI_add]; exact k hM H locs ls hP hD hS hl)
theorem g_isub (X : Cx κ cc own rm) {a b : Int} (d : decode cc pc = .ok (.isub, 1)) (e : pc + 1 = pc')  (k : G κ nm ad M pc' lv (.int (iI (a - b)) :: st) cl sl) : G κ nm ad M pc lv (.int (iI b) :: .int (iI a) :: st) cl sl := by
  subst e; intro hM H locs ls hP hD hS hl
  exact lv_isub X.1 X.2.1 d (by rw [iI_sub]; exact k hM H locs ls hP hD hS hl)
theorem g_imul (X : Cx κ cc own rm) {a b : Int} (d : decode cc pc = .ok (.imul, 1)) (e : pc + 1 = pc')  (k : G κ nm ad M pc' lv (.int (iI (a * b)) :: st) cl sl) : G κ nm ad M pc lv (.int (iI b) :: .int (iI a) :: st) cl sl := by
  subst e; intro hM H locs ls hP hD hS hl
  exact lv_imul X.1 X.2.1 d (by rw [iI_mul]; exact k hM H locs ls hP hD hS hl)
theorem g_ineg (X : Cx κ cc own rm) {a : Int} (d : decode cc pc = .ok (.ineg, 1)) (e : pc + 1 = pc')  (k : G κ nm ad M pc' lv (.int (iI (-a)) :: st) cl sl) : G κ nm ad M pc lv (.int (iI a) :: st) cl sl := by
  subst e; intro hM H locs ls hP hD hS hl
  exact lv_ineg X.1 X.2.1 d (by rw [iI_neg]; exact k hM H locs ls hP hD hS hl)
theorem g_idiv (X : Cx κ cc own rm) {a b : Int} (d : decode cc pc = .ok (.idiv, 1)) (e : pc + 1 = pc') (ha : -2147483647 ≤ a ∧ a ≤ 2147483647) (hb : rng b) (h0 : b ≠ 0) (h1 : b ≠ -1) (k : G κ nm ad M pc' lv (.int (iI (a.tdiv b)) :: st) cl sl) : G κ nm ad M pc lv (.int (iI b) :: .int (iI a) :: st) cl sl := by
  subst e; intro hM H locs ls hP hD hS hl
  exact lv_idiv X.1 X.2.1 d (fun h => h0 ((iI_eq hb (by decide)).mp h)) (by rw [iI_div ha hb h0 h1]; exact k hM H locs ls hP hD hS hl)
theorem g_iand (X : Cx κ cc own rm) {a b z : Int} (d : decode cc pc = .ok (.iand, 1)) (e : pc + 1 = pc') (hz : iI a &&& iI b = iI z) (k : G κ nm ad M pc' lv (.int (iI z) :: st) cl sl) : G κ nm ad M pc lv (.int (iI b) :: .int (iI a) :: st) cl sl := by
  subst e; intro hM H locs ls hP hD hS hl
  exact lv_iand X.1 X.2.1 d (by rw [hz]; exact k hM H locs ls hP hD hS hl)
theorem g_ior (X : Cx κ cc own rm) {a b z : Int} (d : decode cc pc = .ok (.ior, 1)) (e : pc + 1 = pc') (hz : iI a ||| iI b = iI z) (k : G κ nm ad M pc' lv (.int (iI z) :: st) cl sl) : G κ nm ad M pc lv (.int (iI b) :: .int (iI a) :: st) cl sl := by
  subst e; intro hM H locs ls hP hD hS hl
  exact lv_ior X.1 X.2.1 d (by rw [hz]; exact k hM H locs ls hP hD hS hl)
theorem g_ixor (X : Cx κ cc own rm) {a b z : Int} (d : decode cc pc = .ok (.ixor, 1)) (e : pc + 1 = pc') (hz : iI a ^^^ iI b = iI z) (k : G κ nm ad M pc' lv (.int (iI z) :: st) cl sl) : G κ nm ad M pc lv (.int (iI b) :: .int (iI a) :: st) cl sl := by
  subst e; intro hM H locs ls hP hD hS hl
  exact lv_ixor X.1 X.2.1 d (by rw [hz]; exact k hM H locs ls hP hD hS hl)
theorem g_ishl (X : Cx κ cc own rm) {a b z : Int} (d : decode cc pc = .ok (.ishl, 1)) (e : pc + 1 = pc') (hz : iI a <<< (iI b &&& 31) = iI z) (k : G κ nm ad M pc' lv (.int (iI z) :: st) cl sl) : G κ nm ad M pc lv (.int (iI b) :: .int (iI a) :: st) cl sl := by
  subst e; intro hM H locs ls hP hD hS hl
  exact lv_ishl X.1 X.2.1 d (by rw [hz]; exact k hM H locs ls hP hD hS hl)
theorem g_ishr (X : Cx κ cc own rm) {a b z : Int} (d : decode cc pc = .ok (.ishr, 1)) (e : pc + 1 = pc') (hz : iI a >>> (iI b &&& 31) = iI z) (k : G κ nm ad M pc' lv (.int (iI z) :: st) cl sl) : G κ nm ad M pc lv (.int (iI b) :: .int (iI a) :: st) cl sl := by
  subst e; intro hM H locs ls hP hD hS hl
  exact lv_ishr X.1 X.2.1 d (by rw [hz]; exact k hM H locs ls hP hD hS hl)
theorem g_lmul (X : Cx κ cc own rm) {a b : Int64} (d : decode cc pc = .ok (.lmul, 1)) (e : pc + 1 = pc')  (k : G κ nm ad M pc' lv (.long (a * b) :: st) cl sl) : G κ nm ad M pc lv (.long b :: .long a :: st) cl sl := by
  subst e; intro hM H locs ls hP hD hS hl
  exact lv_lmul X.1 X.2.1 d (k hM H locs ls hP hD hS hl)
theorem g_land (X : Cx κ cc own rm) {a b : Int64} (d : decode cc pc = .ok (.land, 1)) (e : pc + 1 = pc')  (k : G κ nm ad M pc' lv (.long (a &&& b) :: st) cl sl) : G κ nm ad M pc lv (.long b :: .long a :: st) cl sl := by
  subst e; intro hM H locs ls hP hD hS hl
  exact lv_land X.1 X.2.1 d (k hM H locs ls hP hD hS hl)
theorem g_lor (X : Cx κ cc own rm) {a b : Int64} (d : decode cc pc = .ok (.lor, 1)) (e : pc + 1 = pc')  (k : G κ nm ad M pc' lv (.long (a ||| b) :: st) cl sl) : G κ nm ad M pc lv (.long b :: .long a :: st) cl sl := by
  subst e; intro hM H locs ls hP hD hS hl
  exact lv_lor X.1 X.2.1 d (k hM H locs ls hP hD hS hl)
theorem g_lxor (X : Cx κ cc own rm) {a b : Int64} (d : decode cc pc = .ok (.lxor, 1)) (e : pc + 1 = pc')  (k : G κ nm ad M pc' lv (.long (a ^^^ b) :: st) cl sl) : G κ nm ad M pc lv (.long b :: .long a :: st) cl sl := by
  subst e; intro hM H locs ls hP hD hS hl
  exact lv_lxor X.1 X.2.1 d (k hM H locs ls hP hD hS hl)
theorem g_lushr (X : Cx κ cc own rm) {a : Int64} {b : Int32} (d : decode cc pc = .ok (.lushr, 1)) (e : pc + 1 = pc')  (k : G κ nm ad M pc' lv (.long ((a.toUInt64 >>> (b.toInt64.toUInt64 &&& Int64.toUInt64 63)).toInt64) :: st) cl sl) : G κ nm ad M pc lv (.int b :: .long a :: st) cl sl := by
  subst e; intro hM H locs ls hP hD hS hl
  exact lv_lushr X.1 X.2.1 d rfl (k hM H locs ls hP hD hS hl)
theorem g_lshl (X : Cx κ cc own rm) {a : Int64} {b : Int32} (d : decode cc pc = .ok (.lshl, 1)) (e : pc + 1 = pc')  (k : G κ nm ad M pc' lv (.long (a <<< (b.toInt64 &&& 63)) :: st) cl sl) : G κ nm ad M pc lv (.int b :: .long a :: st) cl sl := by
  subst e; intro hM H locs ls hP hD hS hl
  exact lv_lshl X.1 X.2.1 d rfl (k hM H locs ls hP hD hS hl)
theorem g_i2l (X : Cx κ cc own rm) {a : Int32} (d : decode cc pc = .ok (.i2l, 1)) (e : pc + 1 = pc')  (k : G κ nm ad M pc' lv (.long a.toInt64 :: st) cl sl) : G κ nm ad M pc lv (.int a :: st) cl sl := by
  subst e; intro hM H locs ls hP hD hS hl
  exact lv_i2l X.1 X.2.1 d rfl (k hM H locs ls hP hD hS hl)
theorem g_l2i (X : Cx κ cc own rm) {a : Int64} {z : Int} (d : decode cc pc = .ok (.l2i, 1)) (e : pc + 1 = pc') (hz : a.toInt32 = iI z) (k : G κ nm ad M pc' lv (.int (iI z) :: st) cl sl) : G κ nm ad M pc lv (.long a :: st) cl sl := by
  subst e; intro hM H locs ls hP hD hS hl
  exact lv_l2i X.1 X.2.1 d hz (k hM H locs ls hP hD hS hl)
theorem g_dup (X : Cx κ cc own rm) {v : Value} (d : decode cc pc = .ok (.dup, 1)) (e : pc + 1 = pc') (hv : v.category = 1) (k : G κ nm ad M pc' lv (v :: v :: st) cl sl) : G κ nm ad M pc lv (v :: st) cl sl := by
  subst e; intro hM H locs ls hP hD hS hl
  exact lv_dup X.1 X.2.1 d hv (k hM H locs ls hP hD hS hl)
theorem g_pop (X : Cx κ cc own rm) {v : Value} (d : decode cc pc = .ok (.pop, 1)) (e : pc + 1 = pc') (hv : v.category = 1) (k : G κ nm ad M pc' lv st cl sl) : G κ nm ad M pc lv (v :: st) cl sl := by
  subst e; intro hM H locs ls hP hD hS hl
  exact lv_pop X.1 X.2.1 d hv (k hM H locs ls hP hD hS hl)
theorem g_dup2 (X : Cx κ cc own rm) {v u : Value} (d : decode cc pc = .ok (.dup2, 1)) (e : pc + 1 = pc') (hv : v.category = 1) (hu : u.category = 1) (k : G κ nm ad M pc' lv (v :: u :: v :: u :: st) cl sl) : G κ nm ad M pc lv (v :: u :: st) cl sl := by
  subst e; intro hM H locs ls hP hD hS hl
  exact lv_dup2_11 X.1 X.2.1 d hv hu (k hM H locs ls hP hD hS hl)
theorem g_goto (X : Cx κ cc own rm) {off : Int} (d : decode cc pc = .ok (.goto off, 3)) (e : (pc : Int) + off = (pc' : Int)) (k : G κ nm ad M pc' lv st cl sl) : G κ nm ad M pc lv st cl sl := by
  intro hM H locs ls hP hD hS hl
  exact lv_goto X.1 X.2.1 d e (k hM H locs ls hP hD hS hl)
theorem g_icmp_eq (X : Cx κ cc own rm) {off : Int} {tgt : Nat} {a b : Int} (d : decode cc pc = .ok (.if_icmp .eq off, 3)) (et : (pc : Int) + off = (tgt : Int)) (e : pc + 3 = pc')  (ra : rng a) (rb : rng b) (kt : a = b → G κ nm ad M tgt lv st cl sl) (kf : a ≠ b → G κ nm ad M pc' lv st cl sl) : G κ nm ad M pc lv (.int (iI b) :: .int (iI a) :: st) cl sl := by
  subst e; intro hM H locs ls hP hD hS hl
  exact lv_icmp_eq X.1 X.2.1 d et (fun h => kt ((iI_eq ra rb).mp h) hM H locs ls hP hD hS hl) (fun h => kf (fun q => h ((iI_eq ra rb).mpr q)) hM H locs ls hP hD hS hl)
theorem g_icmp_ne (X : Cx κ cc own rm) {off : Int} {tgt : Nat} {a b : Int} (d : decode cc pc = .ok (.if_icmp .ne off, 3)) (et : (pc : Int) + off = (tgt : Int)) (e : pc + 3 = pc')  (ra : rng a) (rb : rng b) (kt : a ≠ b → G κ nm ad M tgt lv st cl sl) (kf : a = b → G κ nm ad M pc' lv st cl sl) : G κ nm ad M pc lv (.int (iI b) :: .int (iI a) :: st) cl sl := by
  subst e; intro hM H locs ls hP hD hS hl
  exact lv_icmp_ne X.1 X.2.1 d et (fun h => kt (fun q => h ((iI_eq ra rb).mpr q)) hM H locs ls hP hD hS hl) (fun h => kf ((iI_eq ra rb).mp h) hM H locs ls hP hD hS hl)
theorem g_icmp_lt (X : Cx κ cc own rm) {off : Int} {tgt : Nat} {a b : Int} (d : decode cc pc = .ok (.if_icmp .lt off, 3)) (et : (pc : Int) + off = (tgt : Int)) (e : pc + 3 = pc')  (ra : rng a) (rb : rng b) (kt : a < b → G κ nm ad M tgt lv st cl sl) (kf : b ≤ a → G κ nm ad M pc' lv st cl sl) : G κ nm ad M pc lv (.int (iI b) :: .int (iI a) :: st) cl sl := by
  subst e; intro hM H locs ls hP hD hS hl
  exact lv_icmp_lt X.1 X.2.1 d et (fun h => kt ((iI_lt ra rb).mp h) hM H locs ls hP hD hS hl) (fun h => kf (Int.not_lt.mp fun q => h ((iI_lt ra rb).mpr q)) hM H locs ls hP hD hS hl)
theorem g_icmp_ge (X : Cx κ cc own rm) {off : Int} {tgt : Nat} {a b : Int} (d : decode cc pc = .ok (.if_icmp .ge off, 3)) (et : (pc : Int) + off = (tgt : Int)) (e : pc + 3 = pc')  (ra : rng a) (rb : rng b) (kt : b ≤ a → G κ nm ad M tgt lv st cl sl) (kf : a < b → G κ nm ad M pc' lv st cl sl) : G κ nm ad M pc lv (.int (iI b) :: .int (iI a) :: st) cl sl := by
  subst e; intro hM H locs ls hP hD hS hl
  exact lv_icmp_ge X.1 X.2.1 d et (fun h => kt ((iI_le rb ra).mp h) hM H locs ls hP hD hS hl) (fun h => kf (Int.not_le.mp fun q => h ((iI_le rb ra).mpr q)) hM H locs ls hP hD hS hl)
theorem g_icmp_gt (X : Cx κ cc own rm) {off : Int} {tgt : Nat} {a b : Int} (d : decode cc pc = .ok (.if_icmp .gt off, 3)) (et : (pc : Int) + off = (tgt : Int)) (e : pc + 3 = pc')  (ra : rng a) (rb : rng b) (kt : b < a → G κ nm ad M tgt lv st cl sl) (kf : a ≤ b → G κ nm ad M pc' lv st cl sl) : G κ nm ad M pc lv (.int (iI b) :: .int (iI a) :: st) cl sl := by
  subst e; intro hM H locs ls hP hD hS hl
  exact lv_icmp_gt X.1 X.2.1 d et (fun h => kt ((iI_lt rb ra).mp h) hM H locs ls hP hD hS hl) (fun h => kf (Int.not_lt.mp fun q => h ((iI_lt rb ra).mpr q)) hM H locs ls hP hD hS hl)
theorem g_icmp_le (X : Cx κ cc own rm) {off : Int} {tgt : Nat} {a b : Int} (d : decode cc pc = .ok (.if_icmp .le off, 3)) (et : (pc : Int) + off = (tgt : Int)) (e : pc + 3 = pc')  (ra : rng a) (rb : rng b) (kt : a ≤ b → G κ nm ad M tgt lv st cl sl) (kf : b < a → G κ nm ad M pc' lv st cl sl) : G κ nm ad M pc lv (.int (iI b) :: .int (iI a) :: st) cl sl := by
  subst e; intro hM H locs ls hP hD hS hl
  exact lv_icmp_le X.1 X.2.1 d et (fun h => kt ((iI_le ra rb).mp h) hM H locs ls hP hD hS hl) (fun h => kf (Int.not_le.mp fun q => h ((iI_le ra rb).mpr q)) hM H locs ls hP hD hS hl)
theorem g_if_eq (X : Cx κ cc own rm) {off : Int} {tgt : Nat} {a : Int} (d : decode cc pc = .ok (.ifCond .eq off, 3)) (et : (pc : Int) + off = (tgt : Int)) (e : pc + 3 = pc')  (ra : rng a) (kt : a = 0 → G κ nm ad M tgt lv st cl sl) (kf : a ≠ 0 → G κ nm ad M pc' lv st cl sl) : G κ nm ad M pc lv (.int (iI a) :: st) cl sl := by
  subst e; intro hM H locs ls hP hD hS hl
  exact lv_if_eq X.1 X.2.1 d et (fun h => kt ((iI_eq ra (by decide : rng 0)).mp h) hM H locs ls hP hD hS hl) (fun h => kf (fun q => h ((iI_eq ra (by decide : rng 0)).mpr q)) hM H locs ls hP hD hS hl)
theorem g_if_ne (X : Cx κ cc own rm) {off : Int} {tgt : Nat} {a : Int} (d : decode cc pc = .ok (.ifCond .ne off, 3)) (et : (pc : Int) + off = (tgt : Int)) (e : pc + 3 = pc')  (ra : rng a) (kt : a ≠ 0 → G κ nm ad M tgt lv st cl sl) (kf : a = 0 → G κ nm ad M pc' lv st cl sl) : G κ nm ad M pc lv (.int (iI a) :: st) cl sl := by
  subst e; intro hM H locs ls hP hD hS hl
  exact lv_if_ne X.1 X.2.1 d et (fun h => kt (fun q => h ((iI_eq ra (by decide : rng 0)).mpr q)) hM H locs ls hP hD hS hl) (fun h => kf ((iI_eq ra (by decide : rng 0)).mp h) hM H locs ls hP hD hS hl)
theorem g_if_lt (X : Cx κ cc own rm) {off : Int} {tgt : Nat} {a : Int} (d : decode cc pc = .ok (.ifCond .lt off, 3)) (et : (pc : Int) + off = (tgt : Int)) (e : pc + 3 = pc')  (ra : rng a) (kt : a < 0 → G κ nm ad M tgt lv st cl sl) (kf : 0 ≤ a → G κ nm ad M pc' lv st cl sl) : G κ nm ad M pc lv (.int (iI a) :: st) cl sl := by
  subst e; intro hM H locs ls hP hD hS hl
  exact lv_if_lt X.1 X.2.1 d et (fun h => kt ((iI_lt ra (by decide : rng 0)).mp h) hM H locs ls hP hD hS hl) (fun h => kf (Int.not_lt.mp fun q => h ((iI_lt ra (by decide : rng 0)).mpr q)) hM H locs ls hP hD hS hl)
theorem g_if_ge (X : Cx κ cc own rm) {off : Int} {tgt : Nat} {a : Int} (d : decode cc pc = .ok (.ifCond .ge off, 3)) (et : (pc : Int) + off = (tgt : Int)) (e : pc + 3 = pc')  (ra : rng a) (kt : 0 ≤ a → G κ nm ad M tgt lv st cl sl) (kf : a < 0 → G κ nm ad M pc' lv st cl sl) : G κ nm ad M pc lv (.int (iI a) :: st) cl sl := by
  subst e; intro hM H locs ls hP hD hS hl
  exact lv_if_ge X.1 X.2.1 d et (fun h => kt ((iI_le (by decide : rng 0) ra).mp h) hM H locs ls hP hD hS hl) (fun h => kf (Int.not_le.mp fun q => h ((iI_le (by decide : rng 0) ra).mpr q)) hM H locs ls hP hD hS hl)
theorem g_if_gt (X : Cx κ cc own rm) {off : Int} {tgt : Nat} {a : Int} (d : decode cc pc = .ok (.ifCond .gt off, 3)) (et : (pc : Int) + off = (tgt : Int)) (e : pc + 3 = pc')  (ra : rng a) (kt : 0 < a → G κ nm ad M tgt lv st cl sl) (kf : a ≤ 0 → G κ nm ad M pc' lv st cl sl) : G κ nm ad M pc lv (.int (iI a) :: st) cl sl := by
  subst e; intro hM H locs ls hP hD hS hl
  exact lv_if_gt X.1 X.2.1 d et (fun h => kt ((iI_lt (by decide : rng 0) ra).mp h) hM H locs ls hP hD hS hl) (fun h => kf (Int.not_lt.mp fun q => h ((iI_lt (by decide : rng 0) ra).mpr q)) hM H locs ls hP hD hS hl)
theorem g_if_le (X : Cx κ cc own rm) {off : Int} {tgt : Nat} {a : Int} (d : decode cc pc = .ok (.ifCond .le off, 3)) (et : (pc : Int) + off = (tgt : Int)) (e : pc + 3 = pc')  (ra : rng a) (kt : a ≤ 0 → G κ nm ad M tgt lv st cl sl) (kf : 0 < a → G κ nm ad M pc' lv st cl sl) : G κ nm ad M pc lv (.int (iI a) :: st) cl sl := by
  subst e; intro hM H locs ls hP hD hS hl
  exact lv_if_le X.1 X.2.1 d et (fun h => kt ((iI_le ra (by decide : rng 0)).mp h) hM H locs ls hP hD hS hl) (fun h => kf (Int.not_le.mp fun q => h ((iI_le ra (by decide : rng 0)).mpr q)) hM H locs ls hP hD hS hl)
theorem g_ifB_eq (X : Cx κ cc own rm) {off : Int} {tgt : Nat} {P : Prop} (d : decode cc pc = .ok (.ifCond .eq off, 3)) (et : (pc : Int) + off = (tgt : Int)) (e : pc + 3 = pc') (kt : ¬ P → G κ nm ad M tgt lv st cl sl) (kf : P → G κ nm ad M pc' lv st cl sl) : G κ nm ad M pc lv (.int (iI (bI P)) :: st) cl sl :=
  g_if_eq X d et e (bI_rng P) (fun h => kt (fun q => by rw [bI_t q] at h; cases h)) (fun h => kf (Classical.byContradiction fun q => h (bI_f q)))
theorem g_ifB_ne (X : Cx κ cc own rm) {off : Int} {tgt : Nat} {P : Prop} (d : decode cc pc = .ok (.ifCond .ne off, 3)) (et : (pc : Int) + off = (tgt : Int)) (e : pc + 3 = pc') (kt : P → G κ nm ad M tgt lv st cl sl) (kf : ¬ P → G κ nm ad M pc' lv st cl sl) : G κ nm ad M pc lv (.int (iI (bI P)) :: st) cl sl :=
  g_if_ne X d et e (bI_rng P) (fun h => kt (Classical.byContradiction fun q => h (bI_f q))) (fun h => kf (fun q => by rw [bI_t q] at h; cases h))
theorem g_cut {v : Value} (j : Nat) (a : (v : Value) → Prop) (k1 : ∀ u, a u → G κ nm ad M j lv (u :: st) cl sl) (k2 : (∀ u, a u → G κ nm ad M j lv (u :: st) cl sl) → G κ nm ad M pc lv st cl sl) : G κ nm ad M pc lv st cl sl := k2 k1
theorem g_cutB (j : Nat) (P : Prop) (k2 : (P → G κ nm ad M j lv (.int (iI 1) :: st) cl sl) → (¬ P → G κ nm ad M j lv (.int (iI 0) :: st) cl sl) → G κ nm ad M pc lv st cl sl) (k1 : G κ nm ad M j lv (.int (iI (bI P)) :: st) cl sl) : G κ nm ad M pc lv st cl sl := k2 (fun h => by rw [bI_t h] at k1; exact k1) (fun h => by rw [bI_f h] at k1; exact k1)
theorem g_cutI (j : Nat) (z : Int) (k2 : (∀ y, y = z → G κ nm ad M j lv (.int (iI y) :: st) cl sl) → G κ nm ad M pc lv st cl sl) (k1 : G κ nm ad M j lv (.int (iI z) :: st) cl sl) : G κ nm ad M pc lv st cl sl := k2 (fun y h => by rw [h]; exact k1)
theorem g_lng {a b : Int64} (h : a = b) (k : G κ nm ad M pc lv (.long b :: st) cl sl) : G κ nm ad M pc lv (.long a :: st) cl sl := by rw [h]; exact k
theorem g_int {a b : Int} (h : a = b) (k : G κ nm ad M pc lv (.int (iI b) :: st) cl sl) : G κ nm ad M pc lv (.int (iI a) :: st) cl sl := by rw [h]; exact k
end GR
