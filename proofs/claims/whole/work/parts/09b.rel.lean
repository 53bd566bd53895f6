/-- memories alike at the kinds and fields that p names -/
def Ag (p : Nat → Nat → Bool) (M M' : Mem) : Prop := ∀ (k f : Nat) (i j : Int), p k f = true → M'.1 k f i j = M.1 k f i j ∧ M'.2 k f i j = M.2 k f i j
theorem Ag.rf {p : Nat → Nat → Bool} (M : Mem) : Ag p M M := fun _ _ _ _ _ => ⟨rfl, rfl⟩
theorem Ag.setI {p : Nat → Nat → Bool} {M M' : Mem} (h : Ag p M M') {k f : Nat} {i j v : Int} (hk : p k f = false) : Ag p M (setI M' k f i j v) := by
  intro k' f' i' j' hp
  refine ⟨?_, (h k' f' i' j' hp).2⟩
  rw [setI_1, if_neg (fun q => by rw [q.1, q.2.1, hk] at hp; cases hp)]
  exact (h k' f' i' j' hp).1
theorem Ag.setL {p : Nat → Nat → Bool} {M M' : Mem} (h : Ag p M M') {k f : Nat} {i j : Int} {v : Int64} (hk : p k f = false) : Ag p M (setL M' k f i j v) := by
  intro k' f' i' j' hp
  refine ⟨(h k' f' i' j' hp).1, ?_⟩
  rw [setL_2, if_neg (fun q => by rw [q.1, q.2.1, hk] at hp; cases hp)]
  exact (h k' f' i' j' hp).2
theorem Ag.tr {p : Nat → Nat → Bool} {M M' M'' : Mem} (h : Ag p M M') (h2 : Ag p M' M'') : Ag p M M'' := fun k f i j hp => ⟨((h2 k f i j hp).1).trans (h k f i j hp).1, ((h2 k f i j hp).2).trans (h k f i j hp).2⟩
theorem Ag.mono {p q : Nat → Nat → Bool} {M M' : Mem} (h : Ag p M M') (hpq : ∀ k f, q k f = true → p k f = true) : Ag q M M' := fun k f i j hq => h k f i j (hpq k f hq)
theorem Ag.i {p : Nat → Nat → Bool} {M M' : Mem} (h : Ag p M M') (k f : Nat) (i j : Int) (hk : p k f = true) : M'.1 k f i j = M.1 k f i j := (h k f i j hk).1
theorem Ag.l {p : Nat → Nat → Bool} {M M' : Mem} (h : Ag p M M') (k f : Nat) (i j : Int) (hk : p k f = true) : M'.2 k f i j = M.2 k f i j := (h k f i j hk).2
theorem Ag.ex {p : Nat → Nat → Bool} {q : Nat → Bool} {M M' : Mem} (h : Ex q M M') (hpq : ∀ k f, p k f = true → q k = false) : Ag p M M' := fun k f i j hp => h k f i j (hpq k f hp)
/-- bit h of a row of truths -/
def abit (x h : Int) : Int := ((iI x >>> (iI h &&& 31)) &&& iI 1).toInt
/-- the last of the first n that is named, -1: none -/
noncomputable def lst (p : Int → Prop) : Nat → Int
  | 0 => -1
  | n + 1 => cif (p n) (n : Int) (lst p n)
theorem lst_s (p : Int → Prop) {k : Int} (h0 : 0 ≤ k) : lst p (k + 1).toNat = cif (p k) k (lst p k.toNat) := by
  obtain ⟨n, rfl⟩ : ∃ n : Nat, k = n := ⟨k.toNat, by omega⟩
  rw [show ((n : Int) + 1).toNat = n + 1 by omega, show ((n : Int)).toNat = n by omega]
  rfl
theorem lst_b (p : Int → Prop) : ∀ n : Nat, -1 ≤ lst p n ∧ lst p n < n
  | 0 => ⟨Int.le_refl _, by show (-1 : Int) < 0; decide⟩
  | n + 1 => by
    have h := lst_b p n
    show -1 ≤ cif _ (n : Int) (lst p n) ∧ cif _ (n : Int) (lst p n) < ((n + 1 : Nat) : Int)
    by_cases q : p n
    · rw [cif_t q]; omega
    · rw [cif_f q]; omega
theorem lst_c {p q : Int → Prop} : ∀ n : Nat, (∀ j, 0 ≤ j → j < n → (p j ↔ q j)) → lst p n = lst q n
  | 0, _ => rfl
  | n + 1, h => by
    have e := h n (by omega) (by omega)
    show cif (p n) (n : Int) (lst p n) = cif (q n) (n : Int) (lst q n)
    rw [lst_c n (fun j h0 h1 => h j h0 (by omega))]
    by_cases z : p n
    · rw [cif_t z, cif_t (e.mp z)]
    · rw [cif_f z, cif_f (fun y => z (e.mpr y))]
/-- at the last one: named, and none behind it is -/
theorem lst_at (p : Int → Prop) : ∀ (n : Nat) (c : Int), 0 ≤ c → lst p n = c → c < n ∧ p c ∧ ∀ j, c < j → j < n → ¬ p j
  | 0, c, h0, h => by
    have : (-1 : Int) = c := h
    omega
  | n + 1, c, h0, h => by
    have h : cif (p n) (n : Int) (lst p n) = c := h
    by_cases z : p n
    · rw [cif_t z] at h
      subst h
      exact ⟨by omega, z, fun j h1 h2 => by omega⟩
    · rw [cif_f z] at h
      obtain ⟨a, b, d⟩ := lst_at p n c h0 h
      refine ⟨by omega, b, fun j h1 h2 => ?_⟩
      by_cases e : j = n
      · rw [e]; exact z
      · exact d j h1 (by omega)
/-- where nothing is named between, the last one stays -/
theorem lst_gap (p : Int → Prop) {a : Nat} : ∀ (n : Nat), (∀ j, (a : Int) ≤ j → j < a + n → ¬ p j) → lst p (a + n) = lst p a
  | 0, _ => rfl
  | n + 1, h => by
    show cif (p (a + n : Nat)) ((a + n : Nat) : Int) (lst p (a + n)) = _
    rw [cif_f (h _ (by omega) (by omega))]
    exact lst_gap p n (fun j h0 h1 => h j h0 (by omega))
theorem lst_up (p : Int → Prop) {a b : Int} (h0 : 0 ≤ a) (h1 : a ≤ b) (h : ∀ j, a ≤ j → j < b → ¬ p j) : lst p b.toNat = lst p a.toNat := by
  have := lst_gap p (a := a.toNat) (b - a).toNat (fun j h2 h3 => h j (by omega) (by omega))
  rw [← this]
  congr 1
  omega
theorem lst_is (p : Int → Prop) {c n : Int} (h0 : 0 ≤ c) (h1 : c < n) (hc : p c) (h : ∀ j, c < j → j < n → ¬ p j) : lst p n.toNat = c := by
  rw [lst_up p (a := c + 1) (by omega) (by omega) (fun j h2 h3 => h j (by omega) h3), lst_s p h0, cif_t hc]
def qR (k f : Nat) : Bool := k == 4 || k == 16 || k == 17 || k == 18 || k == 19 || k == 20 || k == 21 || (k == 0 && (f == 1 || f == 2 || f == 3))
def pR (k f : Nat) : Bool := k == 41 || k == 42 || k == 43 || k == 44 || k == 45 || k == 46 || k == 47 || k == 48 || k == 49 || k == 50 || (k == 40 && (f == 10 || f == 11 || f == 12))
def RelR (C M : Mem) : Prop :=
  (0 ≤ (C.1 0 1 0 0) ∧ (C.1 0 1 0 0) ≤ 12) ∧
  (2000 ≤ (C.1 0 2 0 0) ∧ (C.1 0 2 0 0) ≤ 2200) ∧
  (0 ≤ (C.1 0 3 0 0) ∧ (C.1 0 3 0 0) ≤ 2040) ∧
  (∀ i, 0 ≤ i → i < (C.1 0 1 0 0) → RD C i) ∧
  (∀ i, 0 ≤ i → i < (C.1 0 1 0 0) → (0 ≤ (C.1 16 3 i 0) ∧ (C.1 16 3 i 0) ≤ i) ∧ (0 ≤ (C.1 16 4 i 0) ∧ (C.1 16 4 i 0) ≤ 299 + 3 * ((C.1 0 2 0 0) - 2000)) ∧ ((C.1 16 5 i 0) = 0 ∨ (C.1 16 5 i 0) = 1)) ∧
  (∀ i, (C.1 0 1 0 0) ≤ i → i < 12 → RF C i) ∧
  (Bz C) ∧
  ((M.1 40 10 0 0) = (C.1 0 1 0 0) ∧ (M.1 40 11 0 0) = (C.1 0 3 0 0) ∧ (M.1 40 12 0 0) = (C.1 0 2 0 0)) ∧
  (∀ i, 0 ≤ i → i < (C.1 0 1 0 0) → (M.1 41 0 0 i) = (C.1 16 0 i 0) ∧ (M.1 42 0 0 i) = (C.1 16 1 i 0) ∧ (M.1 43 0 0 i) = (C.1 16 2 i 0) ∧ (M.1 44 0 0 i) = (C.1 16 3 i 0) ∧ (M.1 45 0 0 i) = (C.1 16 4 i 0) ∧ (M.1 46 0 0 i) = (C.1 16 5 i 0) ∧ (M.1 47 0 0 i) = (C.1 16 6 i 0)) ∧
  (∀ i, (C.1 0 1 0 0) ≤ i → i < 12 → (M.1 46 0 0 i) = 0 ∧ (M.1 47 0 0 i) = 0) ∧
  (∀ i k, 0 ≤ i → i < (C.1 0 1 0 0) → 0 ≤ k → k < (C.1 16 6 i 0) → (M.1 48 0 0 (60 * i + k)) = (C.1 17 0 i k) ∧ (M.2 49 0 0 (60 * i + k)) = (C.2 18 0 i k)) ∧
  (∀ i k, 0 ≤ i → i < 12 → 0 ≤ k → k < 60 → (M.1 50 0 0 (60 * i + k)) = (C.1 19 0 i k))
theorem RelR.rc {C M : Mem} (h : RelR C M) : 0 ≤ (C.1 0 1 0 0) ∧ (C.1 0 1 0 0) ≤ 12 := h.1
theorem RelR.yr {C M : Mem} (h : RelR C M) : 2000 ≤ (C.1 0 2 0 0) ∧ (C.1 0 2 0 0) ≤ 2200 := h.2.1
theorem RelR.tl {C M : Mem} (h : RelR C M) : 0 ≤ (C.1 0 3 0 0) ∧ (C.1 0 3 0 0) ≤ 2040 := h.2.2.1
theorem RelR.rd {C M : Mem} (h : RelR C M) : ∀ i, 0 ≤ i → i < (C.1 0 1 0 0) → RD C i := h.2.2.2.1
theorem RelR.gn {C M : Mem} (h : RelR C M) : ∀ i, 0 ≤ i → i < (C.1 0 1 0 0) → (0 ≤ (C.1 16 3 i 0) ∧ (C.1 16 3 i 0) ≤ i) ∧ (0 ≤ (C.1 16 4 i 0) ∧ (C.1 16 4 i 0) ≤ 299 + 3 * ((C.1 0 2 0 0) - 2000)) ∧ ((C.1 16 5 i 0) = 0 ∨ (C.1 16 5 i 0) = 1) := h.2.2.2.2.1
theorem RelR.rf {C M : Mem} (h : RelR C M) : ∀ i, (C.1 0 1 0 0) ≤ i → i < 12 → RF C i := h.2.2.2.2.2.1
theorem RelR.bz {C M : Mem} (h : RelR C M) : Bz C := h.2.2.2.2.2.2.1
theorem RelR.e {C M : Mem} (h : RelR C M) : (M.1 40 10 0 0) = (C.1 0 1 0 0) ∧ (M.1 40 11 0 0) = (C.1 0 3 0 0) ∧ (M.1 40 12 0 0) = (C.1 0 2 0 0) := h.2.2.2.2.2.2.2.1
theorem RelR.mi {C M : Mem} (h : RelR C M) : ∀ i, 0 ≤ i → i < (C.1 0 1 0 0) → (M.1 41 0 0 i) = (C.1 16 0 i 0) ∧ (M.1 42 0 0 i) = (C.1 16 1 i 0) ∧ (M.1 43 0 0 i) = (C.1 16 2 i 0) ∧ (M.1 44 0 0 i) = (C.1 16 3 i 0) ∧ (M.1 45 0 0 i) = (C.1 16 4 i 0) ∧ (M.1 46 0 0 i) = (C.1 16 5 i 0) ∧ (M.1 47 0 0 i) = (C.1 16 6 i 0) := h.2.2.2.2.2.2.2.2.1
theorem RelR.mf {C M : Mem} (h : RelR C M) : ∀ i, (C.1 0 1 0 0) ≤ i → i < 12 → (M.1 46 0 0 i) = 0 ∧ (M.1 47 0 0 i) = 0 := h.2.2.2.2.2.2.2.2.2.1
theorem RelR.fr {C M : Mem} (h : RelR C M) : ∀ i k, 0 ≤ i → i < (C.1 0 1 0 0) → 0 ≤ k → k < (C.1 16 6 i 0) → (M.1 48 0 0 (60 * i + k)) = (C.1 17 0 i k) ∧ (M.2 49 0 0 (60 * i + k)) = (C.2 18 0 i k) := h.2.2.2.2.2.2.2.2.2.2.1
theorem RelR.fs {C M : Mem} (h : RelR C M) : ∀ i k, 0 ≤ i → i < 12 → 0 ≤ k → k < 60 → (M.1 50 0 0 (60 * i + k)) = (C.1 19 0 i k) := h.2.2.2.2.2.2.2.2.2.2.2
theorem RelR.ag {C C' M M' : Mem} (h : RelR C M) (hC : Ag qR C C') (hM : Ag pR M M') : RelR C' M' := by
  have a4 : ∀ i j : Int, C'.1 4 0 i j = C.1 4 0 i j := fun i j => (hC 4 0 i j rfl).1
  have a16_0 : ∀ i : Int, C'.1 16 0 i 0 = C.1 16 0 i 0 := fun i => (hC 16 0 i 0 rfl).1
  have a16_1 : ∀ i : Int, C'.1 16 1 i 0 = C.1 16 1 i 0 := fun i => (hC 16 1 i 0 rfl).1
  have a16_2 : ∀ i : Int, C'.1 16 2 i 0 = C.1 16 2 i 0 := fun i => (hC 16 2 i 0 rfl).1
  have a16_3 : ∀ i : Int, C'.1 16 3 i 0 = C.1 16 3 i 0 := fun i => (hC 16 3 i 0 rfl).1
  have a16_4 : ∀ i : Int, C'.1 16 4 i 0 = C.1 16 4 i 0 := fun i => (hC 16 4 i 0 rfl).1
  have a16_5 : ∀ i : Int, C'.1 16 5 i 0 = C.1 16 5 i 0 := fun i => (hC 16 5 i 0 rfl).1
  have a16_6 : ∀ i : Int, C'.1 16 6 i 0 = C.1 16 6 i 0 := fun i => (hC 16 6 i 0 rfl).1
  have a16_7 : ∀ i : Int, C'.1 16 7 i 0 = C.1 16 7 i 0 := fun i => (hC 16 7 i 0 rfl).1
  have a16_8 : ∀ i : Int, C'.1 16 8 i 0 = C.1 16 8 i 0 := fun i => (hC 16 8 i 0 rfl).1
  have a16_9 : ∀ i : Int, C'.1 16 9 i 0 = C.1 16 9 i 0 := fun i => (hC 16 9 i 0 rfl).1
  have a17 : ∀ i j : Int, C'.1 17 0 i j = C.1 17 0 i j := fun i j => (hC 17 0 i j rfl).1
  have b18 : ∀ i j : Int, C'.2 18 0 i j = C.2 18 0 i j := fun i j => (hC 18 0 i j rfl).2
  have a19 : ∀ i j : Int, C'.1 19 0 i j = C.1 19 0 i j := fun i j => (hC 19 0 i j rfl).1
  have a20 : ∀ i j : Int, C'.1 20 0 i j = C.1 20 0 i j := fun i j => (hC 20 0 i j rfl).1
  have a21 : ∀ i j : Int, C'.1 21 0 i j = C.1 21 0 i j := fun i j => (hC 21 0 i j rfl).1
  have c0_1 : C'.1 0 1 0 0 = C.1 0 1 0 0 := (hC 0 1 0 0 rfl).1
  have c0_2 : C'.1 0 2 0 0 = C.1 0 2 0 0 := (hC 0 2 0 0 rfl).1
  have c0_3 : C'.1 0 3 0 0 = C.1 0 3 0 0 := (hC 0 3 0 0 rfl).1
  have a41 : ∀ i j : Int, M'.1 41 0 i j = M.1 41 0 i j := fun i j => (hM 41 0 i j rfl).1
  have a42 : ∀ i j : Int, M'.1 42 0 i j = M.1 42 0 i j := fun i j => (hM 42 0 i j rfl).1
  have a43 : ∀ i j : Int, M'.1 43 0 i j = M.1 43 0 i j := fun i j => (hM 43 0 i j rfl).1
  have a44 : ∀ i j : Int, M'.1 44 0 i j = M.1 44 0 i j := fun i j => (hM 44 0 i j rfl).1
  have a45 : ∀ i j : Int, M'.1 45 0 i j = M.1 45 0 i j := fun i j => (hM 45 0 i j rfl).1
  have a46 : ∀ i j : Int, M'.1 46 0 i j = M.1 46 0 i j := fun i j => (hM 46 0 i j rfl).1
  have a47 : ∀ i j : Int, M'.1 47 0 i j = M.1 47 0 i j := fun i j => (hM 47 0 i j rfl).1
  have a48 : ∀ i j : Int, M'.1 48 0 i j = M.1 48 0 i j := fun i j => (hM 48 0 i j rfl).1
  have b49 : ∀ i j : Int, M'.2 49 0 i j = M.2 49 0 i j := fun i j => (hM 49 0 i j rfl).2
  have a50 : ∀ i j : Int, M'.1 50 0 i j = M.1 50 0 i j := fun i j => (hM 50 0 i j rfl).1
  have c40_10 : M'.1 40 10 0 0 = M.1 40 10 0 0 := (hM 40 10 0 0 rfl).1
  have c40_11 : M'.1 40 11 0 0 = M.1 40 11 0 0 := (hM 40 11 0 0 rfl).1
  have c40_12 : M'.1 40 12 0 0 = M.1 40 12 0 0 := (hM 40 12 0 0 rfl).1
  unfold RelR at h ⊢
  unfold RD RF Bz at h ⊢
  simp only [a4, a16_0, a16_1, a16_2, a16_3, a16_4, a16_5, a16_6, a16_7, a16_8, a16_9, a17, b18, a19, a20, a21, c0_1, c0_2, c0_3, a41, a42, a43, a44, a45, a46, a47, a48, b49, a50, c40_10, c40_11, c40_12]
  exact h
def qV (k f : Nat) : Bool := k == 22 || k == 23 || k == 24 || k == 25 || k == 26 || k == 30 || (k == 0 && (f == 6 || f == 7))
def pV_ (k f : Nat) : Bool := k == 52 || k == 53 || k == 54 || k == 55 || k == 56 || k == 57 || k == 58 || k == 59 || (k == 40 && (f == 22))
def RelV (n : Int) (C M : Mem) : Prop :=
  (0 ≤ (C.1 0 6 0 0) ∧ (C.1 0 6 0 0) ≤ 6) ∧
  (∀ v, 0 ≤ v → v < (C.1 0 6 0 0) → VOk C v) ∧
  (∀ v, 0 ≤ v → v < 6 → 0 ≤ (C.1 22 2 v 0) ∧ (C.1 22 2 v 0) ≤ n) ∧
  (∀ v, (C.1 0 6 0 0) ≤ v → v < 6 → (C.1 22 2 v 0) = 0 ∧ (C.1 22 3 v 0) = 0 ∧ (C.1 22 4 v 0) = 0 ∧ (C.1 22 8 v 0) = 0 ∧ ∀ h, 0 ≤ h → h < 10 → (C.1 30 0 v h) = 0) ∧
  ((M.1 40 22 0 0) = (C.1 0 6 0 0)) ∧
  (∀ v, 0 ≤ v → v < (C.1 0 6 0 0) → (M.1 52 0 0 v) = (C.1 22 0 v 0) ∧ (M.1 53 0 0 v) = (C.1 22 1 v 0) ∧ (M.1 54 0 0 v) = (C.1 22 2 v 0) ∧ (M.1 55 0 0 v) = (C.1 22 3 v 0)) ∧
  (∀ v, (C.1 0 6 0 0) ≤ v → v < 6 → (M.1 54 0 0 v) = 0 ∧ (M.1 55 0 0 v) = 0) ∧
  (∀ v s, 0 ≤ v → v < (C.1 0 6 0 0) → 0 ≤ s → s < (C.1 22 3 v 0) → (M.1 56 0 0 (10 * v + s)) = (C.1 23 0 v s) ∧ (M.1 57 0 0 (10 * v + s)) = (C.1 24 0 v s) ∧ (M.1 58 0 0 (10 * v + s)) = (C.1 25 0 v s)) ∧
  (∀ v h, 0 ≤ v → v < 6 → 0 ≤ h → h < 10 → abit (M.1 59 0 0 v) h = (C.1 30 0 v h))
theorem RelV.vc {C M : Mem} {n : Int} (h : RelV n C M) : 0 ≤ (C.1 0 6 0 0) ∧ (C.1 0 6 0 0) ≤ 6 := h.1
theorem RelV.ok {C M : Mem} {n : Int} (h : RelV n C M) : ∀ v, 0 ≤ v → v < (C.1 0 6 0 0) → VOk C v := h.2.1
theorem RelV.pn {C M : Mem} {n : Int} (h : RelV n C M) : ∀ v, 0 ≤ v → v < 6 → 0 ≤ (C.1 22 2 v 0) ∧ (C.1 22 2 v 0) ≤ n := h.2.2.1
theorem RelV.new {C M : Mem} {n : Int} (h : RelV n C M) : ∀ v, (C.1 0 6 0 0) ≤ v → v < 6 → (C.1 22 2 v 0) = 0 ∧ (C.1 22 3 v 0) = 0 ∧ (C.1 22 4 v 0) = 0 ∧ (C.1 22 8 v 0) = 0 ∧ ∀ h, 0 ≤ h → h < 10 → (C.1 30 0 v h) = 0 := h.2.2.2.1
theorem RelV.e {C M : Mem} {n : Int} (h : RelV n C M) : (M.1 40 22 0 0) = (C.1 0 6 0 0) := h.2.2.2.2.1
theorem RelV.mv {C M : Mem} {n : Int} (h : RelV n C M) : ∀ v, 0 ≤ v → v < (C.1 0 6 0 0) → (M.1 52 0 0 v) = (C.1 22 0 v 0) ∧ (M.1 53 0 0 v) = (C.1 22 1 v 0) ∧ (M.1 54 0 0 v) = (C.1 22 2 v 0) ∧ (M.1 55 0 0 v) = (C.1 22 3 v 0) := h.2.2.2.2.2.1
theorem RelV.mn {C M : Mem} {n : Int} (h : RelV n C M) : ∀ v, (C.1 0 6 0 0) ≤ v → v < 6 → (M.1 54 0 0 v) = 0 ∧ (M.1 55 0 0 v) = 0 := h.2.2.2.2.2.2.1
theorem RelV.sh {C M : Mem} {n : Int} (h : RelV n C M) : ∀ v s, 0 ≤ v → v < (C.1 0 6 0 0) → 0 ≤ s → s < (C.1 22 3 v 0) → (M.1 56 0 0 (10 * v + s)) = (C.1 23 0 v s) ∧ (M.1 57 0 0 (10 * v + s)) = (C.1 24 0 v s) ∧ (M.1 58 0 0 (10 * v + s)) = (C.1 25 0 v s) := h.2.2.2.2.2.2.2.1
theorem RelV.al {C M : Mem} {n : Int} (h : RelV n C M) : ∀ v h, 0 ≤ v → v < 6 → 0 ≤ h → h < 10 → abit (M.1 59 0 0 v) h = (C.1 30 0 v h) := h.2.2.2.2.2.2.2.2
theorem RelV.ag {C C' M M' : Mem} {n : Int} (h : RelV n C M) (hC : Ag qV C C') (hM : Ag pV_ M M') : RelV n C' M' := by
  have a22_0 : ∀ i : Int, C'.1 22 0 i 0 = C.1 22 0 i 0 := fun i => (hC 22 0 i 0 rfl).1
  have a22_1 : ∀ i : Int, C'.1 22 1 i 0 = C.1 22 1 i 0 := fun i => (hC 22 1 i 0 rfl).1
  have a22_2 : ∀ i : Int, C'.1 22 2 i 0 = C.1 22 2 i 0 := fun i => (hC 22 2 i 0 rfl).1
  have a22_3 : ∀ i : Int, C'.1 22 3 i 0 = C.1 22 3 i 0 := fun i => (hC 22 3 i 0 rfl).1
  have a22_4 : ∀ i : Int, C'.1 22 4 i 0 = C.1 22 4 i 0 := fun i => (hC 22 4 i 0 rfl).1
  have a22_8 : ∀ i : Int, C'.1 22 8 i 0 = C.1 22 8 i 0 := fun i => (hC 22 8 i 0 rfl).1
  have a23 : ∀ i j : Int, C'.1 23 0 i j = C.1 23 0 i j := fun i j => (hC 23 0 i j rfl).1
  have a24 : ∀ i j : Int, C'.1 24 0 i j = C.1 24 0 i j := fun i j => (hC 24 0 i j rfl).1
  have a25 : ∀ i j : Int, C'.1 25 0 i j = C.1 25 0 i j := fun i j => (hC 25 0 i j rfl).1
  have a26 : ∀ i j : Int, C'.1 26 0 i j = C.1 26 0 i j := fun i j => (hC 26 0 i j rfl).1
  have a30 : ∀ i j : Int, C'.1 30 0 i j = C.1 30 0 i j := fun i j => (hC 30 0 i j rfl).1
  have c0_6 : C'.1 0 6 0 0 = C.1 0 6 0 0 := (hC 0 6 0 0 rfl).1
  have c0_7 : C'.1 0 7 0 0 = C.1 0 7 0 0 := (hC 0 7 0 0 rfl).1
  have a52 : ∀ i j : Int, M'.1 52 0 i j = M.1 52 0 i j := fun i j => (hM 52 0 i j rfl).1
  have a53 : ∀ i j : Int, M'.1 53 0 i j = M.1 53 0 i j := fun i j => (hM 53 0 i j rfl).1
  have a54 : ∀ i j : Int, M'.1 54 0 i j = M.1 54 0 i j := fun i j => (hM 54 0 i j rfl).1
  have a55 : ∀ i j : Int, M'.1 55 0 i j = M.1 55 0 i j := fun i j => (hM 55 0 i j rfl).1
  have a56 : ∀ i j : Int, M'.1 56 0 i j = M.1 56 0 i j := fun i j => (hM 56 0 i j rfl).1
  have a57 : ∀ i j : Int, M'.1 57 0 i j = M.1 57 0 i j := fun i j => (hM 57 0 i j rfl).1
  have a58 : ∀ i j : Int, M'.1 58 0 i j = M.1 58 0 i j := fun i j => (hM 58 0 i j rfl).1
  have a59 : ∀ i j : Int, M'.1 59 0 i j = M.1 59 0 i j := fun i j => (hM 59 0 i j rfl).1
  have c40_22 : M'.1 40 22 0 0 = M.1 40 22 0 0 := (hM 40 22 0 0 rfl).1
  unfold RelV at h ⊢
  unfold VOk at h ⊢
  simp only [a22_0, a22_1, a22_2, a22_3, a22_4, a22_8, a23, a24, a25, a26, a30, c0_6, c0_7, a52, a53, a54, a55, a56, a57, a58, a59, c40_22]
  exact h
def qZ (k f : Nat) : Bool := k == 6 || k == 7 || k == 8
def pZ (k f : Nat) : Bool := k == 60 || k == 61 || (k == 40 && (f == 25))
def RelZ (C M : Mem) : Prop :=
  (0 ≤ (C.1 6 0 0 0) ∧ (C.1 6 0 0 0) ≤ 100) ∧
  (∀ j, 0 ≤ j → j < (C.1 6 0 0 0) → 0 ≤ (C.1 8 0 0 j) ∧ (C.1 8 0 0 j) ≤ 9) ∧
  ((M.1 40 25 0 0) = (C.1 6 0 0 0)) ∧
  (∀ j, 0 ≤ j → j < (C.1 6 0 0 0) → (M.1 60 0 0 j) = (C.1 7 0 0 j) ∧ (M.1 61 0 0 j) = (C.1 8 0 0 j))
theorem RelZ.sc {C M : Mem} (h : RelZ C M) : 0 ≤ (C.1 6 0 0 0) ∧ (C.1 6 0 0 0) ≤ 100 := h.1
theorem RelZ.tn {C M : Mem} (h : RelZ C M) : ∀ j, 0 ≤ j → j < (C.1 6 0 0 0) → 0 ≤ (C.1 8 0 0 j) ∧ (C.1 8 0 0 j) ≤ 9 := h.2.1
theorem RelZ.e {C M : Mem} (h : RelZ C M) : (M.1 40 25 0 0) = (C.1 6 0 0 0) := h.2.2.1
theorem RelZ.mz {C M : Mem} (h : RelZ C M) : ∀ j, 0 ≤ j → j < (C.1 6 0 0 0) → (M.1 60 0 0 j) = (C.1 7 0 0 j) ∧ (M.1 61 0 0 j) = (C.1 8 0 0 j) := h.2.2.2
theorem RelZ.ag {C C' M M' : Mem} (h : RelZ C M) (hC : Ag qZ C C') (hM : Ag pZ M M') : RelZ C' M' := by
  have a6_0 : ∀ i : Int, C'.1 6 0 i 0 = C.1 6 0 i 0 := fun i => (hC 6 0 i 0 rfl).1
  have a7 : ∀ i j : Int, C'.1 7 0 i j = C.1 7 0 i j := fun i j => (hC 7 0 i j rfl).1
  have a8 : ∀ i j : Int, C'.1 8 0 i j = C.1 8 0 i j := fun i j => (hC 8 0 i j rfl).1
  have a60 : ∀ i j : Int, M'.1 60 0 i j = M.1 60 0 i j := fun i j => (hM 60 0 i j rfl).1
  have a61 : ∀ i j : Int, M'.1 61 0 i j = M.1 61 0 i j := fun i j => (hM 61 0 i j rfl).1
  have c40_25 : M'.1 40 25 0 0 = M.1 40 25 0 0 := (hM 40 25 0 0 rfl).1
  unfold RelZ at h ⊢
  simp only [a6_0, a7, a8, a60, a61, c40_25]
  exact h
def qH (k f : Nat) : Bool := k == 26 || k == 27 || k == 28 || k == 29 || (k == 0 && (f == 6 || f == 7)) || (k == 22 && (f == 8))
def pH (k f : Nat) : Bool := k == 62 || k == 63 || k == 64 || k == 65 || k == 66 || (k == 40 && (f == 31))
def RelH (C M : Mem) : Prop :=
  (0 ≤ (C.1 0 7 0 0) ∧ (C.1 0 7 0 0) ≤ 40) ∧
  ((M.1 40 31 0 0) = (C.1 0 7 0 0)) ∧
  (∀ v, 0 ≤ v → v < 6 → (C.1 22 8 v 0) = sm (fun g => bI ((M.1 62 0 0 g) = v)) 0 (C.1 0 7 0 0)) ∧
  (∀ g, 0 ≤ g → g < (C.1 0 7 0 0) → (0 ≤ (M.1 62 0 0 g) ∧ (M.1 62 0 0 g) < (C.1 0 6 0 0)) ∧ (0 ≤ (M.1 63 0 0 g) ∧ (M.1 63 0 0 g) ≤ 9) ∧ ∃ k, 0 ≤ k ∧ k < (C.1 22 8 ((M.1 62 0 0 g)) 0) ∧ (C.1 26 0 ((M.1 62 0 0 g)) k) = (M.1 63 0 0 g) ∧ (C.1 27 0 ((M.1 62 0 0 g)) k) = (M.1 64 0 0 g) ∧ (C.1 28 0 ((M.1 62 0 0 g)) k) = (M.1 65 0 0 g) ∧ (C.1 29 0 ((M.1 62 0 0 g)) k) = (M.1 66 0 0 g)) ∧
  (∀ v k, 0 ≤ v → v < 6 → 0 ≤ k → k < (C.1 22 8 v 0) → ∃ g, 0 ≤ g ∧ g < (C.1 0 7 0 0) ∧ (M.1 62 0 0 g) = v ∧ (C.1 26 0 v k) = (M.1 63 0 0 g) ∧ (C.1 27 0 v k) = (M.1 64 0 0 g) ∧ (C.1 28 0 v k) = (M.1 65 0 0 g) ∧ (C.1 29 0 v k) = (M.1 66 0 0 g))
theorem RelH.rc {C M : Mem} (h : RelH C M) : 0 ≤ (C.1 0 7 0 0) ∧ (C.1 0 7 0 0) ≤ 40 := h.1
theorem RelH.e {C M : Mem} (h : RelH C M) : (M.1 40 31 0 0) = (C.1 0 7 0 0) := h.2.1
theorem RelH.vr {C M : Mem} (h : RelH C M) : ∀ v, 0 ≤ v → v < 6 → (C.1 22 8 v 0) = sm (fun g => bI ((M.1 62 0 0 g) = v)) 0 (C.1 0 7 0 0) := h.2.2.1
theorem RelH.gv {C M : Mem} (h : RelH C M) : ∀ g, 0 ≤ g → g < (C.1 0 7 0 0) → (0 ≤ (M.1 62 0 0 g) ∧ (M.1 62 0 0 g) < (C.1 0 6 0 0)) ∧ (0 ≤ (M.1 63 0 0 g) ∧ (M.1 63 0 0 g) ≤ 9) ∧ ∃ k, 0 ≤ k ∧ k < (C.1 22 8 ((M.1 62 0 0 g)) 0) ∧ (C.1 26 0 ((M.1 62 0 0 g)) k) = (M.1 63 0 0 g) ∧ (C.1 27 0 ((M.1 62 0 0 g)) k) = (M.1 64 0 0 g) ∧ (C.1 28 0 ((M.1 62 0 0 g)) k) = (M.1 65 0 0 g) ∧ (C.1 29 0 ((M.1 62 0 0 g)) k) = (M.1 66 0 0 g) := h.2.2.2.1
theorem RelH.vg {C M : Mem} (h : RelH C M) : ∀ v k, 0 ≤ v → v < 6 → 0 ≤ k → k < (C.1 22 8 v 0) → ∃ g, 0 ≤ g ∧ g < (C.1 0 7 0 0) ∧ (M.1 62 0 0 g) = v ∧ (C.1 26 0 v k) = (M.1 63 0 0 g) ∧ (C.1 27 0 v k) = (M.1 64 0 0 g) ∧ (C.1 28 0 v k) = (M.1 65 0 0 g) ∧ (C.1 29 0 v k) = (M.1 66 0 0 g) := h.2.2.2.2
theorem RelH.ag {C C' M M' : Mem} (h : RelH C M) (hC : Ag qH C C') (hM : Ag pH M M') : RelH C' M' := by
  have a26 : ∀ i j : Int, C'.1 26 0 i j = C.1 26 0 i j := fun i j => (hC 26 0 i j rfl).1
  have a27 : ∀ i j : Int, C'.1 27 0 i j = C.1 27 0 i j := fun i j => (hC 27 0 i j rfl).1
  have a28 : ∀ i j : Int, C'.1 28 0 i j = C.1 28 0 i j := fun i j => (hC 28 0 i j rfl).1
  have a29 : ∀ i j : Int, C'.1 29 0 i j = C.1 29 0 i j := fun i j => (hC 29 0 i j rfl).1
  have c0_6 : C'.1 0 6 0 0 = C.1 0 6 0 0 := (hC 0 6 0 0 rfl).1
  have c0_7 : C'.1 0 7 0 0 = C.1 0 7 0 0 := (hC 0 7 0 0 rfl).1
  have c22_8 : ∀ i : Int, C'.1 22 8 i 0 = C.1 22 8 i 0 := fun i => (hC 22 8 i 0 rfl).1
  have a62 : ∀ i j : Int, M'.1 62 0 i j = M.1 62 0 i j := fun i j => (hM 62 0 i j rfl).1
  have a63 : ∀ i j : Int, M'.1 63 0 i j = M.1 63 0 i j := fun i j => (hM 63 0 i j rfl).1
  have a64 : ∀ i j : Int, M'.1 64 0 i j = M.1 64 0 i j := fun i j => (hM 64 0 i j rfl).1
  have a65 : ∀ i j : Int, M'.1 65 0 i j = M.1 65 0 i j := fun i j => (hM 65 0 i j rfl).1
  have a66 : ∀ i j : Int, M'.1 66 0 i j = M.1 66 0 i j := fun i j => (hM 66 0 i j rfl).1
  have c40_31 : M'.1 40 31 0 0 = M.1 40 31 0 0 := (hM 40 31 0 0 rfl).1
  unfold RelH at h ⊢
  simp only [a26, a27, a28, a29, c0_6, c0_7, c22_8, a62, a63, a64, a65, a66, c40_31]
  exact h
def qE (k f : Nat) : Bool := (k == 10 && (f == 0 || f == 1)) || (k == 31 && (f == 0 || f == 1 || f == 2 || f == 3 || f == 4 || f == 5))
def pE (k f : Nat) : Bool := k == 67 || k == 68 || k == 69 || k == 70 || k == 71 || k == 72 || (k == 40 && (f == 39 || f == 40))
def RelE (C M : Mem) : Prop :=
  (0 ≤ (C.1 10 0 0 0) ∧ (C.1 10 0 0 0) ≤ 120) ∧
  (0 ≤ (C.1 10 1 0 0) ∧ (C.1 10 1 0 0) ≤ 8) ∧
  (∀ k, 0 ≤ k → k < (C.1 10 0 0 0) → ((C.1 31 5 k 0) = 0 ∨ (C.1 31 5 k 0) = 1) ∧ -1 ≤ (C.1 31 1 k 0)) ∧
  ((M.1 40 39 0 0) = (C.1 10 0 0 0) ∧ (M.1 40 40 0 0) = (C.1 10 1 0 0)) ∧
  (∀ k, 0 ≤ k → k < (C.1 10 0 0 0) → (M.1 67 0 0 k) = (C.1 31 0 k 0) ∧ (M.1 68 0 0 k) = (C.1 31 1 k 0) ∧ (M.1 69 0 0 k) = (C.1 31 2 k 0) ∧ (M.2 70 0 0 k) = (C.2 31 3 k 0) ∧ (M.2 71 0 0 k) = (C.2 31 4 k 0) ∧ (M.1 72 0 0 k) = (C.1 31 5 k 0))
theorem RelE.ec {C M : Mem} (h : RelE C M) : 0 ≤ (C.1 10 0 0 0) ∧ (C.1 10 0 0 0) ≤ 120 := h.1
theorem RelE.li {C M : Mem} (h : RelE C M) : 0 ≤ (C.1 10 1 0 0) ∧ (C.1 10 1 0 0) ≤ 8 := h.2.1
theorem RelE.pr {C M : Mem} (h : RelE C M) : ∀ k, 0 ≤ k → k < (C.1 10 0 0 0) → ((C.1 31 5 k 0) = 0 ∨ (C.1 31 5 k 0) = 1) ∧ -1 ≤ (C.1 31 1 k 0) := h.2.2.1
theorem RelE.e {C M : Mem} (h : RelE C M) : (M.1 40 39 0 0) = (C.1 10 0 0 0) ∧ (M.1 40 40 0 0) = (C.1 10 1 0 0) := h.2.2.2.1
theorem RelE.me {C M : Mem} (h : RelE C M) : ∀ k, 0 ≤ k → k < (C.1 10 0 0 0) → (M.1 67 0 0 k) = (C.1 31 0 k 0) ∧ (M.1 68 0 0 k) = (C.1 31 1 k 0) ∧ (M.1 69 0 0 k) = (C.1 31 2 k 0) ∧ (M.2 70 0 0 k) = (C.2 31 3 k 0) ∧ (M.2 71 0 0 k) = (C.2 31 4 k 0) ∧ (M.1 72 0 0 k) = (C.1 31 5 k 0) := h.2.2.2.2
theorem RelE.ag {C C' M M' : Mem} (h : RelE C M) (hC : Ag qE C C') (hM : Ag pE M M') : RelE C' M' := by
  have c10_0 : C'.1 10 0 0 0 = C.1 10 0 0 0 := (hC 10 0 0 0 rfl).1
  have c10_1 : C'.1 10 1 0 0 = C.1 10 1 0 0 := (hC 10 1 0 0 rfl).1
  have c31_0 : ∀ i : Int, C'.1 31 0 i 0 = C.1 31 0 i 0 := fun i => (hC 31 0 i 0 rfl).1
  have c31_1 : ∀ i : Int, C'.1 31 1 i 0 = C.1 31 1 i 0 := fun i => (hC 31 1 i 0 rfl).1
  have c31_2 : ∀ i : Int, C'.1 31 2 i 0 = C.1 31 2 i 0 := fun i => (hC 31 2 i 0 rfl).1
  have c31_3 : ∀ i : Int, C'.2 31 3 i 0 = C.2 31 3 i 0 := fun i => (hC 31 3 i 0 rfl).2
  have c31_4 : ∀ i : Int, C'.2 31 4 i 0 = C.2 31 4 i 0 := fun i => (hC 31 4 i 0 rfl).2
  have c31_5 : ∀ i : Int, C'.1 31 5 i 0 = C.1 31 5 i 0 := fun i => (hC 31 5 i 0 rfl).1
  have a67 : ∀ i j : Int, M'.1 67 0 i j = M.1 67 0 i j := fun i j => (hM 67 0 i j rfl).1
  have a68 : ∀ i j : Int, M'.1 68 0 i j = M.1 68 0 i j := fun i j => (hM 68 0 i j rfl).1
  have a69 : ∀ i j : Int, M'.1 69 0 i j = M.1 69 0 i j := fun i j => (hM 69 0 i j rfl).1
  have b70 : ∀ i j : Int, M'.2 70 0 i j = M.2 70 0 i j := fun i j => (hM 70 0 i j rfl).2
  have b71 : ∀ i j : Int, M'.2 71 0 i j = M.2 71 0 i j := fun i j => (hM 71 0 i j rfl).2
  have a72 : ∀ i j : Int, M'.1 72 0 i j = M.1 72 0 i j := fun i j => (hM 72 0 i j rfl).1
  have c40_39 : M'.1 40 39 0 0 = M.1 40 39 0 0 := (hM 40 39 0 0 rfl).1
  have c40_40 : M'.1 40 40 0 0 = M.1 40 40 0 0 := (hM 40 40 0 0 rfl).1
  unfold RelE at h ⊢
  simp only [c10_0, c10_1, c31_0, c31_1, c31_2, c31_3, c31_4, c31_5, a67, a68, a69, b70, b71, a72, c40_39, c40_40]
  exact h
def liv (M : Mem) (k j : Int) : Prop := (M.1 76 0 0 j) = 0 ∧ (M.1 74 0 0 j) = k
def qK (k f : Nat) : Bool := k == 12 || k == 13 || k == 14 || k == 15 || (k == 10 && (f == 0)) || (k == 31 && (f == 6 || f == 7))
def pK (k f : Nat) : Bool := k == 74 || k == 75 || k == 76 || (k == 40 && (f == 44))
def RelK (n : Int) (C M : Mem) : Prop :=
  (CapOk C) ∧
  (0 ≤ (C.1 12 0 0 0) ∧ (C.1 12 0 0 0) ≤ 120 * n) ∧
  (∀ k, 0 ≤ k → k < 120 → 0 ≤ (C.1 31 6 k 0) ∧ (C.1 31 6 k 0) ≤ n) ∧
  ((M.1 40 44 0 0) = (C.1 12 0 0 0)) ∧
  (∀ j, 0 ≤ j → j < (C.1 12 0 0 0) → (0 ≤ (C.1 13 0 0 j) ∧ (C.1 13 0 0 j) < (C.1 10 0 0 0)) ∧ (M.1 74 0 0 j) = (C.1 13 0 0 j) ∧ (M.2 75 0 0 j) = (C.2 14 0 0 j) ∧ ((M.1 76 0 0 j) = 0 ∨ (M.1 76 0 0 j) = 1) ∧ ((M.1 76 0 0 j) = 0 → (C.1 15 0 0 j) = lst (liv M (M.1 74 0 0 j)) j.toNat)) ∧
  (∀ k, 0 ≤ k → k < (C.1 10 0 0 0) → (C.1 31 6 k 0) = sm (fun j => bI (liv M k j)) 0 (C.1 12 0 0 0) ∧ (C.1 31 7 k 0) = lst (liv M k) ((C.1 12 0 0 0)).toNat)
theorem RelK.cap {C M : Mem} {n : Int} (h : RelK n C M) : CapOk C := h.1
theorem RelK.cc {C M : Mem} {n : Int} (h : RelK n C M) : 0 ≤ (C.1 12 0 0 0) ∧ (C.1 12 0 0 0) ≤ 120 * n := h.2.1
theorem RelK.nb {C M : Mem} {n : Int} (h : RelK n C M) : ∀ k, 0 ≤ k → k < 120 → 0 ≤ (C.1 31 6 k 0) ∧ (C.1 31 6 k 0) ≤ n := h.2.2.1
theorem RelK.e {C M : Mem} {n : Int} (h : RelK n C M) : (M.1 40 44 0 0) = (C.1 12 0 0 0) := h.2.2.2.1
theorem RelK.mj {C M : Mem} {n : Int} (h : RelK n C M) : ∀ j, 0 ≤ j → j < (C.1 12 0 0 0) → (0 ≤ (C.1 13 0 0 j) ∧ (C.1 13 0 0 j) < (C.1 10 0 0 0)) ∧ (M.1 74 0 0 j) = (C.1 13 0 0 j) ∧ (M.2 75 0 0 j) = (C.2 14 0 0 j) ∧ ((M.1 76 0 0 j) = 0 ∨ (M.1 76 0 0 j) = 1) ∧ ((M.1 76 0 0 j) = 0 → (C.1 15 0 0 j) = lst (liv M (M.1 74 0 0 j)) j.toNat) := h.2.2.2.2.1
theorem RelK.nk {C M : Mem} {n : Int} (h : RelK n C M) : ∀ k, 0 ≤ k → k < (C.1 10 0 0 0) → (C.1 31 6 k 0) = sm (fun j => bI (liv M k j)) 0 (C.1 12 0 0 0) ∧ (C.1 31 7 k 0) = lst (liv M k) ((C.1 12 0 0 0)).toNat := h.2.2.2.2.2
theorem RelK.ag {C C' M M' : Mem} {n : Int} (h : RelK n C M) (hC : Ag qK C C') (hM : Ag pK M M') : RelK n C' M' := by
  have a12_0 : ∀ i : Int, C'.1 12 0 i 0 = C.1 12 0 i 0 := fun i => (hC 12 0 i 0 rfl).1
  have a13 : ∀ i j : Int, C'.1 13 0 i j = C.1 13 0 i j := fun i j => (hC 13 0 i j rfl).1
  have l13 : C'.1 13 1 0 0 = C.1 13 1 0 0 := (hC 13 1 0 0 rfl).1
  have b14 : ∀ i j : Int, C'.2 14 0 i j = C.2 14 0 i j := fun i j => (hC 14 0 i j rfl).2
  have l14 : C'.1 14 1 0 0 = C.1 14 1 0 0 := (hC 14 1 0 0 rfl).1
  have a15 : ∀ i j : Int, C'.1 15 0 i j = C.1 15 0 i j := fun i j => (hC 15 0 i j rfl).1
  have l15 : C'.1 15 1 0 0 = C.1 15 1 0 0 := (hC 15 1 0 0 rfl).1
  have c10_0 : C'.1 10 0 0 0 = C.1 10 0 0 0 := (hC 10 0 0 0 rfl).1
  have c31_6 : ∀ i : Int, C'.1 31 6 i 0 = C.1 31 6 i 0 := fun i => (hC 31 6 i 0 rfl).1
  have c31_7 : ∀ i : Int, C'.1 31 7 i 0 = C.1 31 7 i 0 := fun i => (hC 31 7 i 0 rfl).1
  have a74 : ∀ i j : Int, M'.1 74 0 i j = M.1 74 0 i j := fun i j => (hM 74 0 i j rfl).1
  have b75 : ∀ i j : Int, M'.2 75 0 i j = M.2 75 0 i j := fun i j => (hM 75 0 i j rfl).2
  have a76 : ∀ i j : Int, M'.1 76 0 i j = M.1 76 0 i j := fun i j => (hM 76 0 i j rfl).1
  have c40_44 : M'.1 40 44 0 0 = M.1 40 44 0 0 := (hM 40 44 0 0 rfl).1
  unfold RelK at h ⊢
  unfold CapOk liv at h ⊢
  simp only [a12_0, a13, l13, b14, l14, a15, l15, c10_0, c31_6, c31_7, a74, b75, a76, c40_44]
  exact h
