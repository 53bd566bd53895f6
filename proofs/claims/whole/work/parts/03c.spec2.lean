
theorem Ex.fillI {p : Nat → Bool} {M M' : Mem} (h : Ex p M M') {k : Nat} {i n v : Int} (hk : p k = true) : Ex p M (fillI M' k i n v) := by
  intro k' f' i' j' hp
  refine ⟨?_, (h k' f' i' j' hp).2⟩
  rw [fillI_1, if_neg (fun q => by rw [q.1, hk] at hp; cases hp)]
  exact (h k' f' i' j' hp).1
/-! mending -/
def absI (z : Int) : Int := if 0 ≤ z then z else 0 - z
def drtP (t a h b : Int) : Prop := t < absI (h - a) ∧ t < absI (h - b) ∧ absI (a - b) ≤ t
noncomputable def mdD (t : Int) (a h b : Int64) : Nat → Int64
  | 0 => h
  | n + 1 => cif (drtP t (pt a n) (pt h n) (pt b n)) (ptSet (mdD t a h b n) n ((pt a n + pt b n).tdiv 2)) (mdD t a h b n)
theorem mdD_s (t : Int) (a h b : Int64) {k : Int} (h0 : 0 ≤ k) : mdD t a h b (k + 1).toNat = cif (drtP t (pt a k) (pt h k) (pt b k)) (ptSet (mdD t a h b k.toNat) k ((pt a k + pt b k).tdiv 2)) (mdD t a h b k.toNat) := by
  obtain ⟨n, rfl⟩ : ∃ n : Nat, k = n := ⟨k.toNat, by omega⟩
  rw [show ((n : Int) + 1).toNat = n + 1 by omega, show ((n : Int)).toNat = n by omega]
  rfl
def cl255 (v : Int) : Int := if v < 0 then 0 else if 255 < v then 255 else v
def flk (a h b : Int64) : Int := (((tot a + tot b).tdiv 2) - tot h).tdiv 8
def mfF (m : Int) (h : Int64) : Nat → Int64
  | 0 => h
  | n + 1 => ptSet (mfF m h n) n (cl255 (pt h n + m))
theorem mfF_s (m : Int) (h : Int64) {k : Int} (h0 : 0 ≤ k) : mfF m h (k + 1).toNat = ptSet (mfF m h k.toNat) k (cl255 (pt h k + m)) := by
  obtain ⟨n, rfl⟩ : ∃ n : Nat, k = n := ⟨k.toNat, by omega⟩
  rw [show ((n : Int) + 1).toNat = n + 1 by omega, show ((n : Int)).toNat = n by omega]
  rfl
theorem flk_b (a h b : Int64) : -2040 ≤ flk a h b ∧ flk a h b ≤ 2040 := by
  have h1 := tot_b a
  have h2 := tot_b h
  have h3 := tot_b b
  have h4 := tdiv_b (a := tot a + tot b) (b := 2) (by omega) (by decide)
  have h5 : (tot a + tot b).tdiv 2 ≤ 2040 := by
    have q : (tot a + tot b).tdiv 2 = (tot a + tot b) / 2 := Int.tdiv_eq_ediv_of_nonneg (by omega)
    omega
  have h6 : (flk a h b).natAbs ≤ (((tot a + tot b).tdiv 2) - tot h).natAbs := by
    unfold flk
    rw [Int.natAbs_tdiv]
    exact Nat.div_le_self _ _
  omega
/-! the edition -/
def begM (M : Mem) (k c r p : Int) (x : Int64) : Mem := setI (setI (setI (setL (setL (setI (setI (setI M 31 0 k 0 c) 31 1 k 0 r) 31 2 k 0 p) 31 3 k 0 x) 31 4 k 0 x) 31 5 k 0 0) 31 6 k 0 0) 31 7 k 0 (-1)
def takeM (M : Mem) (c r p : Int) (x : Int64) : Mem := setI (begM M (M.1 10 0 0 0) c r p x) 10 0 0 0 ((M.1 10 0 0 0) + 1)
noncomputable def gapT (M : Mem) (k : Int) : Int := bI ((M.1 31 1 k 0) = -1)
noncomputable def gapN (M : Mem) : Int := sm (gapT M) 0 (M.1 10 0 0 0)
def mayB (M : Mem) (k : Int) : Prop := (M.1 31 5 k 0) = 0 ∧ (M.1 31 1 k 0) ≠ -1
def maxI (a b : Int) : Int := if a < b then b else a
def scrP (x : Int64) (p t : Int) : Prop := t < pt x p - maxI (pt x (p - 1)) (pt x (p + 1))
def undoM (M : Mem) (c : Int) : Mem := setI (setI (setL M 31 4 (M.1 13 0 0 c) 0 (M.2 14 0 0 c)) 31 7 (M.1 13 0 0 c) 0 (M.1 15 0 0 c)) 31 6 (M.1 13 0 0 c) 0 ((M.1 31 6 ((M.1 13 0 0 c)) 0) - 1)
def csm (M : Mem) (b : Int) : Nat → Int64
  | 0 => 1469598103934665603
  | n + 1 => (csm M b n ^^^ (if b = 0 then (M.2 31 3 ((n : Int)) 0) else (M.2 31 4 ((n : Int)) 0))) * 1099511628211
theorem csm_s (M : Mem) (b : Int) {k : Int} (h0 : 0 ≤ k) : csm M b (k + 1).toNat = (csm M b k.toNat ^^^ (if b = 0 then (M.2 31 3 k 0) else (M.2 31 4 k 0))) * 1099511628211 := by
  obtain ⟨n, rfl⟩ : ∃ n : Nat, k = n := ⟨k.toNat, by omega⟩
  rw [show ((n : Int) + 1).toNat = n + 1 by omega, show ((n : Int)).toNat = n by omega]
  rfl
/-! reels that are written -/
def beginR (M : Mem) (i b y l g d : Int) : Mem := fillI (setI (setI (setI (setI (setI (setI (setI M 16 0 i 0 b) 16 1 i 0 y) 16 2 i 0 l) 16 3 i 0 g) 16 4 i 0 d) 16 8 i 0 1000) 16 9 i 0 (-1)) 20 i 1000 (-1)
def addF (M : Mem) (i c : Int) (x : Int64) : Mem :=
  setI (setI (setI (if (M.1 20 0 i c) = -1 then setI (setL (setI M 17 0 i (M.1 16 6 i 0) c) 18 0 i (M.1 16 6 i 0) x) 20 0 i c (M.1 16 6 i 0) else setL (setI M 17 0 i (M.1 16 6 i 0) c) 18 0 i (M.1 16 6 i 0) x) 16 8 i 0 (if c < (M.1 16 8 i 0) then c else (M.1 16 8 i 0))) 16 9 i 0 (if (M.1 16 9 i 0) < c then c else (M.1 16 9 i 0))) 16 6 i 0 ((M.1 16 6 i 0) + 1)
def addS (M : Mem) (i p : Int) : Mem := if (M.1 19 0 i p) = 0 then setI (setI (setI M 19 0 i p 1) 21 0 i (M.1 17 0 i p) 1) 16 7 i 0 ((M.1 16 7 i 0) + 1) else M
/-! of all reels -/
def btr (M : Mem) (i o : Int) : Prop := (M.1 16 4 i 0) < (M.1 16 4 o 0) ∨ ((M.1 16 4 i 0) = (M.1 16 4 o 0) ∧ (M.1 16 3 i 0) < (M.1 16 3 o 0))
noncomputable def bst (M : Mem) (c : Int) : Nat → Int
  | 0 => -1
  | n + 1 => cif ((M.1 16 4 ((n : Int)) 0) < 300 ∧ (M.1 20 0 ((n : Int)) c) ≠ -1 ∧ (bst M c n = -1 ∨ btr M n (bst M c n))) (n : Int) (bst M c n)
theorem bst_s (M : Mem) (c : Int) {k : Int} (h0 : 0 ≤ k) : bst M c (k + 1).toNat = cif ((M.1 16 4 k 0) < 300 ∧ (M.1 20 0 k c) ≠ -1 ∧ (bst M c k.toNat = -1 ∨ btr M k (bst M c k.toNat))) k (bst M c k.toNat) := by
  obtain ⟨n, rfl⟩ : ∃ n : Nat, k = n := ⟨k.toNat, by omega⟩
  rw [show ((n : Int) + 1).toNat = n + 1 by omega, show ((n : Int)).toNat = n by omega]
  rfl
theorem bst_b (M : Mem) (c : Int) : ∀ n : Nat, -1 ≤ bst M c n ∧ bst M c n < n
  | 0 => ⟨Int.le_refl _, by show (-1 : Int) < 0; decide⟩
  | n + 1 => by
    have h := bst_b M c n
    show -1 ≤ cif _ (n : Int) (bst M c n) ∧ cif _ (n : Int) (bst M c n) < ((n + 1 : Nat) : Int)
    by_cases q : ((M.1 16 4 ((n : Int)) 0) < 300 ∧ (M.1 20 0 ((n : Int)) c) ≠ -1 ∧ (bst M c n = -1 ∨ btr M n (bst M c n)))
    · rw [cif_t q]; omega
    · rw [cif_f q]; omega
noncomputable def best (M : Mem) (c : Int) : Int := bst M c ((M.1 0 1 0 0)).toNat
theorem best_b (M : Mem) (c : Int) (h : 0 ≤ (M.1 0 1 0 0)) : -1 ≤ best M c ∧ best M c < (M.1 0 1 0 0) := by
  have := bst_b M c ((M.1 0 1 0 0)).toNat
  unfold best
  omega
def erl (M : Mem) (i r : Int) : Prop := (M.1 16 1 i 0) < (M.1 16 1 r 0) ∨ ((M.1 16 1 i 0) = (M.1 16 1 r 0) ∧ i < r)
noncomputable def gps (M : Mem) (r : Int) : Nat → Int
  | 0 => -1
  | n + 1 => cif (erl M n r ∧ hasFs M r n ∧ (if gps M r n = -1 then -1 else faults M (gps M r n)) < faults M n) (n : Int) (gps M r n)
theorem gps_s (M : Mem) (r : Int) {k : Int} (h0 : 0 ≤ k) : gps M r (k + 1).toNat = cif (erl M k r ∧ hasFs M r k ∧ (if gps M r k.toNat = -1 then -1 else faults M (gps M r k.toNat)) < faults M k) k (gps M r k.toNat) := by
  obtain ⟨n, rfl⟩ : ∃ n : Nat, k = n := ⟨k.toNat, by omega⟩
  rw [show ((n : Int) + 1).toNat = n + 1 by omega, show ((n : Int)).toNat = n by omega]
  rfl
theorem gps_b (M : Mem) (r : Int) : ∀ n : Nat, -1 ≤ gps M r n ∧ gps M r n < n
  | 0 => ⟨Int.le_refl _, by show (-1 : Int) < 0; decide⟩
  | n + 1 => by
    have h := gps_b M r n
    show -1 ≤ cif _ (n : Int) (gps M r n) ∧ cif _ (n : Int) (gps M r n) < ((n + 1 : Nat) : Int)
    by_cases q : (erl M n r ∧ hasFs M r n ∧ (if gps M r n = -1 then -1 else faults M (gps M r n)) < faults M n)
    · rw [cif_t q]; omega
    · rw [cif_f q]; omega
noncomputable def rdT (M : Mem) (c : Int) : Int := bI (best M c ≠ -1)
noncomputable def rdS (M : Mem) (v s : Int) : Int := sm (rdT M) (M.1 23 0 v s) ((M.1 24 0 v s) + 1)
noncomputable def rdN (M : Mem) (v : Int) : Int := sm (rdS M v) 0 (M.1 22 3 v 0)
theorem faults_b (M : Mem) (i : Int) (h0 : 0 ≤ (M.1 16 8 i 0)) (h1 : (M.1 16 9 i 0) ≤ 999) : 0 ≤ faults M i ∧ faults M i ≤ 1000 := by
  unfold faults
  rcases Int.lt_or_le (M.1 16 9 i 0) (M.1 16 8 i 0) with h | h
  · rw [sm_0 _ (by omega)]; decide
  · have := sm_b1 (f := fterm M i) (lo := (M.1 16 8 i 0)) (hi := (M.1 16 9 i 0) + 1) (by omega) (fun k _ _ => bI_b _)
    omega
