
/-! memories alike but for some kinds -/
def Ex (p : Nat → Bool) (M M' : Mem) : Prop := ∀ (k f : Nat) (i j : Int), p k = false → M'.1 k f i j = M.1 k f i j ∧ M'.2 k f i j = M.2 k f i j
theorem Ex.rf {p : Nat → Bool} (M : Mem) : Ex p M M := fun _ _ _ _ _ => ⟨rfl, rfl⟩
theorem Ex.setI {p : Nat → Bool} {M M' : Mem} (h : Ex p M M') {k f : Nat} {i j v : Int} (hk : p k = true) : Ex p M (setI M' k f i j v) := by
  intro k' f' i' j' hp
  refine ⟨?_, (h k' f' i' j' hp).2⟩
  rw [setI_1, if_neg (fun q => by rw [q.1, hk] at hp; cases hp)]
  exact (h k' f' i' j' hp).1
theorem Ex.setL {p : Nat → Bool} {M M' : Mem} (h : Ex p M M') {k f : Nat} {i j : Int} {v : Int64} (hk : p k = true) : Ex p M (setL M' k f i j v) := by
  intro k' f' i' j' hp
  refine ⟨(h k' f' i' j' hp).1, ?_⟩
  rw [setL_2, if_neg (fun q => by rw [q.1, hk] at hp; cases hp)]
  exact (h k' f' i' j' hp).2
theorem Ex.tr {p : Nat → Bool} {M M' M'' : Mem} (h : Ex p M M') (h2 : Ex p M' M'') : Ex p M M'' := fun k f i j hp => ⟨((h2 k f i j hp).1).trans (h k f i j hp).1, ((h2 k f i j hp).2).trans (h k f i j hp).2⟩
theorem Ex.mono {p q : Nat → Bool} {M M' : Mem} (h : Ex p M M') (hpq : ∀ k, q k = false → p k = false) : Ex q M M' := fun k f i j hq => h k f i j (hpq k hq)
theorem Ex.i {p : Nat → Bool} {M M' : Mem} (h : Ex p M M') (k f : Nat) (i j : Int) (hk : p k = false) : M'.1 k f i j = M.1 k f i j := (h k f i j hk).1
theorem Ex.l {p : Nat → Bool} {M M' : Mem} (h : Ex p M M') (k f : Nat) (i j : Int) (hk : p k = false) : M'.2 k f i j = M.2 k f i j := (h k f i j hk).2
/-- the first n places of an int array hold v -/
def fillI (M : Mem) (k : Nat) (i n v : Int) : Mem := (fun k' f' i' j' => if k' = k ∧ f' = 0 ∧ i' = i ∧ 0 ≤ j' ∧ j' < n then v else M.1 k' f' i' j', M.2)
theorem fillI_1 (M : Mem) (k : Nat) (i n v : Int) (k' f' : Nat) (i' j' : Int) : (fillI M k i n v).1 k' f' i' j' = if k' = k ∧ f' = 0 ∧ i' = i ∧ 0 ≤ j' ∧ j' < n then v else M.1 k' f' i' j' := rfl
theorem fillI_2 (M : Mem) (k : Nat) (i n v : Int) : (fillI M k i n v).2 = M.2 := rfl
theorem fillI_0 (M : Mem) (k : Nat) (i v : Int) : fillI M k i 0 v = M := by
  refine Prod.ext (funext fun k' => funext fun f' => funext fun i' => funext fun j' => ?_) rfl
  rw [fillI_1, if_neg (by omega)]
theorem fillI_s (M : Mem) (k : Nat) (i n v : Int) (hn : 0 ≤ n) : setI (fillI M k i n v) k 0 i n v = fillI M k i (n + 1) v := by
  refine Prod.ext (funext fun k' => funext fun f' => funext fun i' => funext fun j' => ?_) rfl
  rw [setI_1, fillI_1, fillI_1]
  by_cases h : k' = k ∧ f' = 0 ∧ i' = i ∧ j' = n
  · rw [if_pos h, if_pos (by omega)]
  · rw [if_neg h]
    by_cases h2 : k' = k ∧ f' = 0 ∧ i' = i ∧ 0 ≤ j' ∧ j' < n
    · rw [if_pos h2, if_pos (by omega)]
    · rw [if_neg h2, if_neg (by omega)]
/-! pairing -/
noncomputable def cif {α : Sort _} (P : Prop) (a b : α) : α := @ite α P (Classical.propDecidable P) a b
theorem cif_t {α : Sort _} {P : Prop} {a b : α} (h : P) : cif P a b = a := @if_pos P (Classical.propDecidable P) h α a b
theorem cif_f {α : Sort _} {P : Prop} {a b : α} (h : ¬ P) : cif P a b = b := @if_neg P (Classical.propDecidable P) h α a b
noncomputable def dpr (p : Int → Int → Prop) (i : Nat) (row : Nat → Int) : Nat → Int
  | 0 => 0
  | j + 1 => cif (p i j) (row j + 1) (if row (j + 1) < dpr p i row j then dpr p i row j else row (j + 1))
noncomputable def dp (p : Int → Int → Prop) : Nat → Nat → Int
  | 0 => fun _ => 0
  | i + 1 => dpr p i (dp p i)
theorem dp_0 (p : Int → Int → Prop) (j : Nat) : dp p 0 j = 0 := rfl
theorem dp_z (p : Int → Int → Prop) (i : Nat) : dp p i 0 = 0 := by cases i <;> rfl
theorem dp_s (p : Int → Int → Prop) (i j : Nat) : dp p (i + 1) (j + 1) = cif (p i j) (dp p i j + 1) (if dp p i (j + 1) < dp p (i + 1) j then dp p (i + 1) j else dp p i (j + 1)) := rfl
theorem dp_v (p : Int → Int → Prop) (i : Nat) (h : ∀ j, dp p i j ≤ dp p i (j + 1) ∧ dp p i (j + 1) ≤ dp p i j + 1) : ∀ j, (dp p i j ≤ dp p (i + 1) j ∧ dp p (i + 1) j ≤ dp p i j + 1) ∧ (dp p (i + 1) j ≤ dp p (i + 1) (j + 1) ∧ dp p (i + 1) (j + 1) ≤ dp p (i + 1) j + 1)
  | 0 => by
    have h0 := h 0
    have e1 := dp_z p i
    have e2 := dp_z p (i + 1)
    refine ⟨by omega, ?_⟩
    rw [dp_s]
    by_cases q : p i (0 : Nat)
    · rw [cif_t q]; omega
    · rw [cif_f q]; split <;> omega
  | j + 1 => by
    have h1 := dp_v p i h j
    have h2 := h j
    have h3 := h (j + 1)
    have a : dp p i (j + 1) ≤ dp p (i + 1) (j + 1) ∧ dp p (i + 1) (j + 1) ≤ dp p i (j + 1) + 1 := by
      rw [dp_s]
      by_cases q : p i j
      · rw [cif_t q]; omega
      · rw [cif_f q]; split <;> omega
    refine ⟨a, ?_⟩
    rw [dp_s p i (j + 1)]
    by_cases q : p i ((j + 1 : Nat) : Int)
    · rw [cif_t q]; omega
    · rw [cif_f q]; split <;> omega
theorem dp_h (p : Int → Int → Prop) : ∀ i j, dp p i j ≤ dp p i (j + 1) ∧ dp p i (j + 1) ≤ dp p i j + 1
  | 0, j => by rw [dp_0, dp_0]; decide
  | i + 1, j => (dp_v p i (dp_h p i) j).2
theorem dp_u (p : Int → Int → Prop) (i j : Nat) : dp p i j ≤ dp p (i + 1) j ∧ dp p (i + 1) j ≤ dp p i j + 1 := (dp_v p i (dp_h p i) j).1
theorem dp_b (p : Int → Int → Prop) (i : Nat) : ∀ j : Nat, 0 ≤ dp p i j ∧ dp p i j ≤ j
  | 0 => by rw [dp_z]; decide
  | j + 1 => by
    have h1 := dp_b p i j
    have h2 := dp_h p i j
    omega
/-- the same at ints -/
noncomputable def dz (p : Int → Int → Prop) (i j : Int) : Int := dp p i.toNat j.toNat
theorem dz_0 (p : Int → Int → Prop) {j : Int} : dz p 0 j = 0 := dp_0 p _
theorem dz_z (p : Int → Int → Prop) {i : Int} : dz p i 0 = 0 := dp_z p _
theorem dz_b (p : Int → Int → Prop) {i j : Int} (h : 0 ≤ j) : 0 ≤ dz p i j ∧ dz p i j ≤ j := by
  have := dp_b p i.toNat j.toNat
  unfold dz
  omega
theorem dz_s (p : Int → Int → Prop) {i j : Int} (hi : 1 ≤ i) (hj : 1 ≤ j) : dz p i j = cif (p (i - 1) (j - 1)) (dz p (i - 1) (j - 1) + 1) (if dz p (i - 1) j < dz p i (j - 1) then dz p i (j - 1) else dz p (i - 1) j) := by
  obtain ⟨a, rfl⟩ : ∃ a : Nat, i = (a : Int) + 1 := ⟨(i - 1).toNat, by omega⟩
  obtain ⟨b, rfl⟩ : ∃ b : Nat, j = (b : Int) + 1 := ⟨(j - 1).toNat, by omega⟩
  have e1 : ((a : Int) + 1).toNat = a + 1 := by omega
  have e2 : ((b : Int) + 1).toNat = b + 1 := by omega
  have e3 : (a : Int) + 1 - 1 = a := by omega
  have e4 : (b : Int) + 1 - 1 = b := by omega
  unfold dz
  rw [e1, e2, e3, e4, dp_s]
  rfl
theorem dz_u (p : Int → Int → Prop) {i j : Int} (hi : 1 ≤ i) (hj : 0 ≤ j) : dz p (i - 1) j ≤ dz p i j ∧ dz p i j ≤ dz p (i - 1) j + 1 := by
  have := dp_u p (i - 1).toNat j.toNat
  unfold dz
  rw [show i.toNat = (i - 1).toNat + 1 by omega]
  exact this
theorem dz_h (p : Int → Int → Prop) {i j : Int} (hi : 0 ≤ i) (hj : 1 ≤ j) : dz p i (j - 1) ≤ dz p i j ∧ dz p i j ≤ dz p i (j - 1) + 1 := by
  have := dp_h p i.toNat (j - 1).toNat
  unfold dz
  rw [show j.toNat = (j - 1).toNat + 1 by omega]
  exact this
/-- the partner of a place: the walk back from the ends -/
noncomputable def pw (p : Int → Int → Prop) (place : Int) : Nat → Int → Int → Int
  | 0, _, _ => -1
  | n + 1, i, j => if place < i ∧ 0 < j then cif (p (i - 1) (j - 1)) (if i - 1 = place then j - 1 else pw p place n (i - 1) (j - 1)) (if dz p (i - 1) j = dz p i j then pw p place n (i - 1) j else pw p place n i (j - 1)) else -1
theorem pw_s (p : Int → Int → Prop) (place : Int) (n : Nat) (i j : Int) : pw p place (n + 1) i j = if place < i ∧ 0 < j then cif (p (i - 1) (j - 1)) (if i - 1 = place then j - 1 else pw p place n (i - 1) (j - 1)) (if dz p (i - 1) j = dz p i j then pw p place n (i - 1) j else pw p place n i (j - 1)) else -1 := rfl
def canP (M : Mem) (r o t a b : Int) : Prop := dist (M.2 18 0 r a) (M.2 18 0 o b) ≤ t
/-- the borders of the table are zero -/
def Bz (M : Mem) : Prop := (∀ j, (M.1 4 0 0 j) = 0) ∧ (∀ i, (M.1 4 0 i 0) = 0)
theorem Bz.set {M : Mem} {i j v : Int} (h : Bz M) (h1 : 1 ≤ i) (h2 : 1 ≤ j) : Bz (setI M 4 0 i j v) := ⟨fun b => by rw [setI_1, if_neg (by omega)]; exact h.1 b, fun b => by rw [setI_1, if_neg (by omega)]; exact h.2 b⟩
/-! versions, scraps -/
def durT (M : Mem) (v s : Int) : Int := (((M.1 24 0 v s) - (M.1 23 0 v s) + 1) * 1000).tdiv (M.1 25 0 v s)
def dur (M : Mem) (v : Int) : Int := sm (durT M v) 0 (M.1 22 3 v 0)
def freeIn (M : Mem) (v l y : Int) : Prop := ∀ k, 0 ≤ k → k < (M.1 22 8 v 0) → (M.1 27 0 v k) = l → (M.1 28 0 v k) ≤ y → y ≤ (M.1 29 0 v k) → (M.1 30 0 v ((M.1 26 0 v k))) ≠ 0
def addShotM (M : Mem) (v f t : Int) : Mem := setI (setI (setI (setI (setI M 23 0 v (M.1 22 3 v 0) f) 24 0 v (M.1 22 3 v 0) t) 25 0 v (M.1 22 3 v 0) 16) 22 3 v 0 ((M.1 22 3 v 0) + 1)) 22 4 v 0 ((M.1 22 4 v 0) + (t - f + 1))
def addRightM (M : Mem) (v h l f t : Int) : Mem := setI (setI (setI (setI (setI M 26 0 v (M.1 22 8 v 0) h) 27 0 v (M.1 22 8 v 0) l) 28 0 v (M.1 22 8 v 0) f) 29 0 v (M.1 22 8 v 0) t) 22 8 v 0 ((M.1 22 8 v 0) + 1)
noncomputable def scT (M : Mem) (c j : Int) : Int := bI ((M.1 7 0 0 j) = c)
noncomputable def scN (M : Mem) (c : Int) : Int := sm (scT M c) 0 (M.1 6 0 0 0)
noncomputable def vtT (M : Mem) (f t k j : Int) : Int := bI ((f ≤ (M.1 7 0 0 j) ∧ (M.1 7 0 0 j) ≤ t) ∧ (M.1 8 0 0 j) = k)
noncomputable def vt (M : Mem) (f t k : Int) : Int := sm (vtT M f t k) 0 (M.1 6 0 0 0)
/-- the first of the greatest, of those above 0 -/
def win (g : Int → Int) : Nat → Int
  | 0 => -1
  | n + 1 => if (if win g n < 0 then 0 else g (win g n)) < g n then n else win g n
theorem win_b (g : Int → Int) : ∀ n : Nat, -1 ≤ win g n ∧ win g n < n
  | 0 => ⟨Int.le_refl _, by show (-1 : Int) < 0; decide⟩
  | n + 1 => by
    have := win_b g n
    unfold win
    split <;> omega
theorem tdiv_b {a b : Int} (ha : 0 ≤ a) (hb : 1 ≤ b) : 0 ≤ a.tdiv b ∧ a.tdiv b ≤ a := ⟨Int.tdiv_nonneg ha (by omega), by
  have h := Int.natAbs_tdiv a b
  have h2 : a.natAbs / b.natAbs ≤ a.natAbs := Nat.div_le_self _ _
  have h3 : (a.tdiv b).natAbs = a.natAbs / b.natAbs := h
  omega⟩
