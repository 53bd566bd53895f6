
abbrev rng (z : Int) : Prop := -2147483648 ≤ z ∧ z ≤ 2147483647
theorem iI_toInt {z : Int} (h : rng z) : (iI z).toInt = z := Int32.toInt_ofInt_of_le (by have := h.1; omega) (by have := h.2; omega)
theorem iI_of (x : Int32) : iI x.toInt = x := Int32.ofInt_toInt x
theorem rng_of (x : Int32) : rng x.toInt := ⟨by have := Int32.le_toInt x; omega, by have := Int32.toInt_lt x; omega⟩
theorem iI_add (a b : Int) : iI a + iI b = iI (a + b) := (Int32.ofInt_add a b).symm
theorem iI_sub (a b : Int) : iI a - iI b = iI (a - b) := (Int32.ofInt_sub a b).symm
theorem iI_mul (a b : Int) : iI a * iI b = iI (a * b) := (Int32.ofInt_mul a b).symm
theorem iI_neg (a : Int) : -iI a = iI (-a) := (Int32.ofInt_neg a).symm
theorem iI_div {a b : Int} (ha : -2147483647 ≤ a ∧ a ≤ 2147483647) (hb : rng b) (h0 : b ≠ 0) (h1 : b ≠ -1) : iI a / iI b = iI (a.tdiv b) := by
  apply Int32.toInt_inj.mp
  have h2 : (a.tdiv b).natAbs = a.natAbs / b.natAbs := Int.natAbs_tdiv a b
  have h3 : a.natAbs / b.natAbs ≤ a.natAbs := Nat.div_le_self _ _
  have h4 := ha.1
  have h5 := ha.2
  rw [Int32.toInt_div_of_ne_right _ _ (fun h => h1 (by have h2 := congrArg Int32.toInt h; rw [iI_toInt hb] at h2; rw [h2]; rfl)), iI_toInt ⟨by omega, by omega⟩, iI_toInt hb, iI_toInt ⟨by omega, by omega⟩]
theorem iI_le {a b : Int} (ha : rng a) (hb : rng b) : iI a ≤ iI b ↔ a ≤ b := by rw [Int32.le_iff_toInt_le, iI_toInt ha, iI_toInt hb]
theorem iI_lt {a b : Int} (ha : rng a) (hb : rng b) : iI a < iI b ↔ a < b := by rw [Int32.lt_iff_toInt_lt, iI_toInt ha, iI_toInt hb]
theorem iI_eq {a b : Int} (ha : rng a) (hb : rng b) : iI a = iI b ↔ a = b := ⟨fun h => by have h2 := congrArg Int32.toInt h; rwa [iI_toInt ha, iI_toInt hb] at h2, fun h => by rw [h]⟩
theorem iI_cl {z : Int} (h0 : 0 ≤ z) (h : z ≤ 2147483647) : (iI z).toNatClampNeg = z.toNat := Int32.toNatClampNeg_ofInt_of_le (by omega) (by omega)
theorem iI_in {z : Int} {n : Nat} (h0 : 0 ≤ z) (h : z < n) (hn : n ≤ 2147483647) : vp_in (iI z) n := by
  refine vp_in_iff.mpr ?_
  rw [iI_toInt ⟨by omega, by omega⟩]
  exact ⟨h0, h⟩
/-- a truth as an int -/
noncomputable def bI (P : Prop) : Int := @ite Int P (Classical.propDecidable P) 1 0
theorem bI_t {P : Prop} (h : P) : bI P = 1 := @if_pos P (Classical.propDecidable P) h Int 1 0
theorem bI_f {P : Prop} (h : ¬ P) : bI P = 0 := @if_neg P (Classical.propDecidable P) h Int 1 0
theorem bI_01 (P : Prop) : bI P = 0 ∨ bI P = 1 := by
  by_cases h : P
  · exact Or.inr (bI_t h)
  · exact Or.inl (bI_f h)
theorem bI_rng (P : Prop) : rng (bI P) := by rcases bI_01 P with h | h <;> rw [h] <;> decide
theorem bI_c {P Q : Prop} (h : P ↔ Q) : bI P = bI Q := by rw [propext h]
theorem bI_b (P : Prop) : 0 ≤ bI P ∧ bI P ≤ 1 := by rcases bI_01 P with h | h <;> rw [h] <;> decide
theorem bI_1 {P : Prop} : bI P = 1 ↔ P := ⟨fun h => Classical.byContradiction fun q => (by rw [bI_f q] at h; cases h), bI_t⟩
theorem bI_0 {P : Prop} : bI P = 0 ↔ ¬ P := ⟨fun h q => (by rw [bI_t q] at h; cases h), bI_f⟩
/-! locals -/
def lvl : Nat → List (Option Value) → List (Nat × Value)
  | _, [] => []
  | n, some v :: t => (n, v) :: lvl (n + 1) t
  | n, none :: t => lvl (n + 1) t
theorem lvl_mem : ∀ (l : List (Option Value)) (n : Nat) (q : Nat × Value), q ∈ lvl n l ↔ ∃ j, l[j]? = some (some q.2) ∧ q.1 = n + j
  | [], n, q => by simp [lvl]
  | some v :: t, n, q => by
    rw [lvl, List.mem_cons, lvl_mem t (n + 1) q]
    constructor
    · rintro (h | ⟨j, h1, h2⟩)
      · subst h; exact ⟨0, rfl, rfl⟩
      · exact ⟨j + 1, h1, by omega⟩
    · rintro ⟨j, h1, h2⟩
      cases j with
      | zero =>
        left
        obtain ⟨a, b⟩ := q
        simp only [List.getElem?_cons_zero, Option.some.injEq] at h1
        simp only at h2
        rw [h1, h2]; rfl
      | succ j => exact Or.inr ⟨j, h1, by omega⟩
  | none :: t, n, q => by
    rw [lvl, lvl_mem t (n + 1) q]
    constructor
    · rintro ⟨j, h1, h2⟩
      exact ⟨j + 1, h1, by omega⟩
    · rintro ⟨j, h1, h2⟩
      cases j with
      | zero => simp at h1
      | succ j => exact ⟨j, h1, by omega⟩
theorem lvl_at {ls : Array Slot} {nL i : Nat} {lv : List (Option Value)} {v : Value} (h : lv_has ls nL (lvl 0 lv)) (hi : lv[i]? = some (some v)) : ls[i]? = some (.val v) := h.2.2 (i, v) ((lvl_mem lv 0 (i, v)).mpr ⟨i, hi, (Nat.zero_add i).symm⟩)
theorem lvl_sub {ls : Array Slot} {nL : Nat} {l l' : List (Nat × Value)} (h : lv_has ls nL l) (hs : ∀ q ∈ l', q ∈ l) : lv_has ls nL l' := ⟨h.1, h.2.1, fun q hq => h.2.2 q (hs q hq)⟩
def c1 : Option Value → Bool
  | some v => v.category == 1
  | none => true
/-- a store of one word at place k: what stands behind -/
theorem lvl_st1 {ls : Array Slot} {nL k : Nat} {lv : List (Option Value)} {v : Value} (h : lv_has ls nL ((k, v) :: (lvl 0 lv).filter (fun q => !(q.1 == k) && !(q.1 + 1 == k && q.2.category == 2)))) (hc : ∀ j, j + 1 = k → ∀ u, lv[j]? = some (some u) → c1 (some u) = true) : lv_has ls nL (lvl 0 (lv.set k (some v))) := by
  refine lvl_sub h fun q hq => ?_
  obtain ⟨j, h1, h2⟩ := (lvl_mem _ _ _).mp hq
  rw [Nat.zero_add] at h2
  by_cases e : j = k
  · subst e
    rw [List.getElem?_set_self'] at h1
    obtain ⟨a, b⟩ := q
    have hb : v = b := by
      cases hl : lv[j]? with
      | none => rw [hl] at h1; simp at h1
      | some x => rw [hl] at h1; simpa using h1
    rw [show (a, b) = (j, v) by rw [hb]; exact congrArg (fun z => (z, b)) h2]
    exact List.mem_cons_self
  · rw [List.getElem?_set_ne (fun z => e z.symm)] at h1
    refine List.mem_cons_of_mem _ (List.mem_filter.mpr ⟨(lvl_mem _ _ _).mpr ⟨j, h1, by omega⟩, ?_⟩)
    rw [h2]
    have e1 : (j == k) = false := by simpa using e
    rw [e1]
    by_cases e2 : j + 1 = k
    · have := hc j e2 _ h1
      have h3 : q.2.category = 1 := by simpa [c1] using this
      simp [h3]
    · have e3 : (j + 1 == k) = false := by simpa using e2
      simp [e3]
theorem lvl_st2 {ls : Array Slot} {nL k : Nat} {lv : List (Option Value)} {v : Value} (h : lv_has ls nL ((k, v) :: (lvl 0 lv).filter (fun q => !(q.1 == k) && (!(q.1 == k + 1) && !(q.1 + 1 == k && q.2.category == 2))))) (hc : ∀ j, j + 1 = k → ∀ u, lv[j]? = some (some u) → c1 (some u) = true) : lv_has ls nL (lvl 0 ((lv.set k (some v)).set (k + 1) none)) := by
  refine lvl_sub h fun q hq => ?_
  obtain ⟨j, h1, h2⟩ := (lvl_mem _ _ _).mp hq
  rw [Nat.zero_add] at h2
  by_cases e0 : j = k + 1
  · subst e0
    rw [List.getElem?_set_self'] at h1
    cases hl : (lv.set k (some v))[k + 1]? with
    | none => rw [hl] at h1; simp at h1
    | some x => rw [hl] at h1; simp at h1
  rw [List.getElem?_set_ne (fun z => e0 z.symm)] at h1
  by_cases e : j = k
  · subst e
    rw [List.getElem?_set_self'] at h1
    obtain ⟨a, b⟩ := q
    have hb : v = b := by
      cases hl : lv[j]? with
      | none => rw [hl] at h1; simp at h1
      | some x => rw [hl] at h1; simpa using h1
    rw [show (a, b) = (j, v) by rw [hb]; exact congrArg (fun z => (z, b)) h2]
    exact List.mem_cons_self
  · rw [List.getElem?_set_ne (fun z => e z.symm)] at h1
    refine List.mem_cons_of_mem _ (List.mem_filter.mpr ⟨(lvl_mem _ _ _).mpr ⟨j, h1, by omega⟩, ?_⟩)
    rw [h2]
    have e1 : (j == k) = false := by simpa using e
    have e4 : (j == k + 1) = false := by simpa using e0
    rw [e1, e4]
    by_cases e2 : j + 1 = k
    · have := hc j e2 _ h1
      have h3 : q.2.category = 1 := by simpa [c1] using this
      simp [h3]
    · have e3 : (j + 1 == k) = false := by simpa using e2
      simp [e3]
