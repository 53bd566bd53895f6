/-- what a reel keeps beside its frames is as its frames say -/
def RD (M : Mem) (i : Int) : Prop :=
  (0 ≤ (M.1 16 6 i 0) ∧ (M.1 16 6 i 0) ≤ 60) ∧
  (∀ j, 0 ≤ j → j < (M.1 16 6 i 0) → 0 ≤ (M.1 17 0 i j) ∧ (M.1 17 0 i j) ≤ 999) ∧
  ((0 ≤ (M.1 16 8 i 0) ∧ (M.1 16 8 i 0) ≤ 1000) ∧ (-1 ≤ (M.1 16 9 i 0) ∧ (M.1 16 9 i 0) ≤ 999)) ∧
  (∀ j, 0 ≤ j → j < (M.1 16 6 i 0) → (M.1 16 8 i 0) ≤ (M.1 17 0 i j) ∧ (M.1 17 0 i j) ≤ (M.1 16 9 i 0)) ∧
  ((M.1 16 6 i 0) = 0 → (M.1 16 8 i 0) = 1000 ∧ (M.1 16 9 i 0) = -1) ∧
  (0 < (M.1 16 6 i 0) → (∃ j, 0 ≤ j ∧ j < (M.1 16 6 i 0) ∧ (M.1 17 0 i j) = (M.1 16 8 i 0)) ∧ (∃ j, 0 ≤ j ∧ j < (M.1 16 6 i 0) ∧ (M.1 17 0 i j) = (M.1 16 9 i 0))) ∧
  (∀ c, 0 ≤ c → c ≤ 999 → ((M.1 20 0 i c) = -1 ∧ ∀ j, 0 ≤ j → j < (M.1 16 6 i 0) → (M.1 17 0 i j) ≠ c) ∨ (0 ≤ (M.1 20 0 i c) ∧ (M.1 20 0 i c) < (M.1 16 6 i 0) ∧ (M.1 17 0 i ((M.1 20 0 i c))) = c ∧ ∀ j, 0 ≤ j → j < (M.1 20 0 i c) → (M.1 17 0 i j) ≠ c)) ∧
  (∀ j, 0 ≤ j → j < 60 → (M.1 19 0 i j) = 0 ∨ (M.1 19 0 i j) = 1) ∧
  (∀ j, (M.1 16 6 i 0) ≤ j → j < 60 → (M.1 19 0 i j) = 0) ∧
  ((M.1 16 7 i 0) = sm (fun j => bI ((M.1 19 0 i j) ≠ 0)) 0 60) ∧
  (∀ c, 0 ≤ c → c ≤ 999 → ((M.1 21 0 i c) ≠ 0 ↔ ∃ j, 0 ≤ j ∧ j < (M.1 16 6 i 0) ∧ (M.1 19 0 i j) ≠ 0 ∧ (M.1 17 0 i j) = c))
theorem RD.fc {M : Mem} {i : Int} (h : RD M i) : 0 ≤ (M.1 16 6 i 0) ∧ (M.1 16 6 i 0) ≤ 60 := h.1
theorem RD.cd {M : Mem} {i : Int} (h : RD M i) : ∀ j, 0 ≤ j → j < (M.1 16 6 i 0) → 0 ≤ (M.1 17 0 i j) ∧ (M.1 17 0 i j) ≤ 999 := h.2.1
theorem RD.lg {M : Mem} {i : Int} (h : RD M i) : (0 ≤ (M.1 16 8 i 0) ∧ (M.1 16 8 i 0) ≤ 1000) ∧ (-1 ≤ (M.1 16 9 i 0) ∧ (M.1 16 9 i 0) ≤ 999) := h.2.2.1
theorem RD.lb {M : Mem} {i : Int} (h : RD M i) : ∀ j, 0 ≤ j → j < (M.1 16 6 i 0) → (M.1 16 8 i 0) ≤ (M.1 17 0 i j) ∧ (M.1 17 0 i j) ≤ (M.1 16 9 i 0) := h.2.2.2.1
theorem RD.em {M : Mem} {i : Int} (h : RD M i) : (M.1 16 6 i 0) = 0 → (M.1 16 8 i 0) = 1000 ∧ (M.1 16 9 i 0) = -1 := h.2.2.2.2.1
theorem RD.at_ {M : Mem} {i : Int} (h : RD M i) : 0 < (M.1 16 6 i 0) → (∃ j, 0 ≤ j ∧ j < (M.1 16 6 i 0) ∧ (M.1 17 0 i j) = (M.1 16 8 i 0)) ∧ (∃ j, 0 ≤ j ∧ j < (M.1 16 6 i 0) ∧ (M.1 17 0 i j) = (M.1 16 9 i 0)) := h.2.2.2.2.2.1
theorem RD.ft {M : Mem} {i : Int} (h : RD M i) : ∀ c, 0 ≤ c → c ≤ 999 → ((M.1 20 0 i c) = -1 ∧ ∀ j, 0 ≤ j → j < (M.1 16 6 i 0) → (M.1 17 0 i j) ≠ c) ∨ (0 ≤ (M.1 20 0 i c) ∧ (M.1 20 0 i c) < (M.1 16 6 i 0) ∧ (M.1 17 0 i ((M.1 20 0 i c))) = c ∧ ∀ j, 0 ≤ j → j < (M.1 20 0 i c) → (M.1 17 0 i j) ≠ c) := h.2.2.2.2.2.2.1
theorem RD.sp {M : Mem} {i : Int} (h : RD M i) : ∀ j, 0 ≤ j → j < 60 → (M.1 19 0 i j) = 0 ∨ (M.1 19 0 i j) = 1 := h.2.2.2.2.2.2.2.1
theorem RD.s0 {M : Mem} {i : Int} (h : RD M i) : ∀ j, (M.1 16 6 i 0) ≤ j → j < 60 → (M.1 19 0 i j) = 0 := h.2.2.2.2.2.2.2.2.1
theorem RD.sn {M : Mem} {i : Int} (h : RD M i) : (M.1 16 7 i 0) = sm (fun j => bI ((M.1 19 0 i j) ≠ 0)) 0 60 := h.2.2.2.2.2.2.2.2.2.1
theorem RD.sc {M : Mem} {i : Int} (h : RD M i) : ∀ c, 0 ≤ c → c ≤ 999 → ((M.1 21 0 i c) ≠ 0 ↔ ∃ j, 0 ≤ j ∧ j < (M.1 16 6 i 0) ∧ (M.1 19 0 i j) ≠ 0 ∧ (M.1 17 0 i j) = c) := h.2.2.2.2.2.2.2.2.2.2
/-- a reel that was never begun -/
def RF (M : Mem) (i : Int) : Prop :=
  ((M.1 16 6 i 0) = 0) ∧
  ((M.1 16 7 i 0) = 0) ∧
  ((M.1 16 5 i 0) = 0) ∧
  (∀ j, 0 ≤ j → j < 60 → (M.1 19 0 i j) = 0) ∧
  (∀ c, 0 ≤ c → c ≤ 999 → (M.1 21 0 i c) = 0)
theorem RF.fc {M : Mem} {i : Int} (h : RF M i) : (M.1 16 6 i 0) = 0 := h.1
theorem RF.sn {M : Mem} {i : Int} (h : RF M i) : (M.1 16 7 i 0) = 0 := h.2.1
theorem RF.cold {M : Mem} {i : Int} (h : RF M i) : (M.1 16 5 i 0) = 0 := h.2.2.1
theorem RF.sp {M : Mem} {i : Int} (h : RF M i) : ∀ j, 0 ≤ j → j < 60 → (M.1 19 0 i j) = 0 := h.2.2.2.1
theorem RF.sc {M : Mem} {i : Int} (h : RF M i) : ∀ c, 0 ≤ c → c ≤ 999 → (M.1 21 0 i c) = 0 := h.2.2.2.2
/-- the same reel in both -/
def RE (M M' : Mem) (i : Int) : Prop := ∀ (k f : Nat) (j : Int), 16 ≤ k → k ≤ 21 → M'.1 k f i j = M.1 k f i j ∧ M'.2 k f i j = M.2 k f i j
theorem RE.rf (M : Mem) (i : Int) : RE M M i := fun _ _ _ _ _ => ⟨rfl, rfl⟩
theorem RE.tr {M M1 M2 : Mem} {i : Int} (h : RE M M1 i) (h2 : RE M1 M2 i) : RE M M2 i := fun k f j a b => ⟨(h2 k f j a b).1.trans (h k f j a b).1, (h2 k f j a b).2.trans (h k f j a b).2⟩
theorem RE.ex {p : Nat → Bool} {M M' : Mem} (h : Ex p M M') (hp : ∀ k, 16 ≤ k → k ≤ 21 → p k = false) (i : Int) : RE M M' i := fun k f j a b => h k f i j (hp k a b)
theorem RD.cong {M M' : Mem} {i : Int} (h : RD M i) (e : RE M M' i) : RD M' i := by
  have a16 : ∀ f, M'.1 16 f i 0 = M.1 16 f i 0 := fun f => (e 16 f 0 (by decide) (by decide)).1
  have a17 : ∀ j, M'.1 17 0 i j = M.1 17 0 i j := fun j => (e 17 0 j (by decide) (by decide)).1
  have a19 : ∀ j, M'.1 19 0 i j = M.1 19 0 i j := fun j => (e 19 0 j (by decide) (by decide)).1
  have a20 : ∀ j, M'.1 20 0 i j = M.1 20 0 i j := fun j => (e 20 0 j (by decide) (by decide)).1
  have a21 : ∀ j, M'.1 21 0 i j = M.1 21 0 i j := fun j => (e 21 0 j (by decide) (by decide)).1
  obtain ⟨h1, h2, h3, h4, h5, h6, h7, h8, h9, h10, h11⟩ := h
  refine ⟨?_, ?_, ?_, ?_, ?_, ?_, ?_, ?_, ?_, ?_, ?_⟩ <;> simp only [a16, a17, a19, a20, a21] <;> assumption
theorem RF.cong {M M' : Mem} {i : Int} (h : RF M i) (e : RE M M' i) : RF M' i := by
  have a16 : ∀ f, M'.1 16 f i 0 = M.1 16 f i 0 := fun f => (e 16 f 0 (by decide) (by decide)).1
  have a19 : ∀ j, M'.1 19 0 i j = M.1 19 0 i j := fun j => (e 19 0 j (by decide) (by decide)).1
  have a21 : ∀ j, M'.1 21 0 i j = M.1 21 0 i j := fun j => (e 21 0 j (by decide) (by decide)).1
  obtain ⟨h1, h2, h3, h4, h5⟩ := h
  refine ⟨?_, ?_, ?_, ?_, ?_⟩ <;> simp only [a16, a19, a21] <;> assumption
def exR (k : Nat) : Bool := k == 16 || k == 17 || k == 18 || k == 19 || k == 20 || k == 21
theorem sm_z0 {f : Int → Int} {lo hi : Int} (h : ∀ k, lo ≤ k → k < hi → f k = 0) : sm f lo hi = 0 := (sm_c (g := fun _ => 0) h).trans (sm_zero lo hi)
theorem RD.keepB {M : Mem} {i b y l g d : Int} (h : RF M i) : RD (beginR M i b y l g d) i := by
  have e6 : (beginR M i b y l g d).1 16 6 i 0 = 0 := by unfold beginR; simp [fillI_1, setI_1]; exact h.fc
  have e7 : (beginR M i b y l g d).1 16 7 i 0 = 0 := by unfold beginR; simp [fillI_1, setI_1]; exact h.sn
  have e8 : (beginR M i b y l g d).1 16 8 i 0 = 1000 := by unfold beginR; simp [fillI_1, setI_1]
  have e9 : (beginR M i b y l g d).1 16 9 i 0 = -1 := by unfold beginR; simp [fillI_1, setI_1]
  have e19 : ∀ j, (beginR M i b y l g d).1 19 0 i j = M.1 19 0 i j := fun j => by unfold beginR; simp [fillI_1, setI_1]
  have e21 : ∀ j, (beginR M i b y l g d).1 21 0 i j = M.1 21 0 i j := fun j => by unfold beginR; simp [fillI_1, setI_1]
  have e20 : ∀ c, 0 ≤ c → c ≤ 999 → (beginR M i b y l g d).1 20 0 i c = -1 := fun c h0 h1 => by unfold beginR; rw [fillI_1, if_pos ⟨rfl, rfl, rfl, h0, by omega⟩]
  refine ⟨?_, ?_, ?_, ?_, ?_, ?_, ?_, ?_, ?_, ?_, ?_⟩
  · rw [e6]; decide
  · intro j j0 j1; rw [e6] at j1; omega
  · rw [e8, e9]; decide
  · intro j j0 j1; rw [e6] at j1; omega
  · intro _; exact ⟨e8, e9⟩
  · intro q; rw [e6] at q; omega
  · intro c c0 c1; exact Or.inl ⟨e20 c c0 c1, fun j j0 j1 => by rw [e6] at j1; omega⟩
  · intro j j0 j1; rw [e19]; exact Or.inl (h.sp j j0 j1)
  · intro j j0 j1; rw [e6] at j0; rw [e19]; exact h.sp j j0 j1
  · rw [e7]; exact (sm_z0 (fun k k0 k1 => by show bI _ = 0; rw [e19, bI_f]; intro q; exact q (h.sp k k0 k1))).symm
  · intro c c0 c1; rw [e21, h.sc c c0 c1]; exact ⟨fun q => absurd rfl q, fun ⟨j, j0, j1, _⟩ => by rw [e6] at j1; omega⟩
theorem addF_sc {M : Mem} {i c : Int} {x : Int64} : (addF M i c x).1 16 6 i 0 = (M.1 16 6 i 0) + 1 ∧ (addF M i c x).1 16 7 i 0 = (M.1 16 7 i 0) ∧ (addF M i c x).1 16 8 i 0 = (if c < (M.1 16 8 i 0) then c else (M.1 16 8 i 0)) ∧ (addF M i c x).1 16 9 i 0 = (if (M.1 16 9 i 0) < c then c else (M.1 16 9 i 0)) ∧ (∀ f, f < 6 → (addF M i c x).1 16 f i 0 = M.1 16 f i 0) ∧ (∀ j, (addF M i c x).1 17 0 i j = if j = (M.1 16 6 i 0) then c else (M.1 17 0 i j)) ∧ (∀ j, (addF M i c x).2 18 0 i j = if j = (M.1 16 6 i 0) then x else (M.2 18 0 i j)) ∧ (∀ j, (addF M i c x).1 19 0 i j = (M.1 19 0 i j)) ∧ (∀ d, (addF M i c x).1 20 0 i d = if d = c ∧ (M.1 20 0 i c) = -1 then (M.1 16 6 i 0) else (M.1 20 0 i d)) ∧ (∀ j, (addF M i c x).1 21 0 i j = (M.1 21 0 i j)) := by
  unfold addF
  by_cases h : (M.1 20 0 i c) = -1
  · rw [if_pos h]
    refine ⟨?_, ?_, ?_, ?_, fun f hf => ?_, fun j => ?_, fun j => ?_, fun j => ?_, fun d => ?_, fun j => ?_⟩
    · simp [setI_1, setL_1]
    · simp [setI_1, setL_1]
    · simp [setI_1, setL_1]
    · simp [setI_1, setL_1]
    · have f1 : f ≠ 6 := by omega
      have f2 : f ≠ 8 := by omega
      have f3 : f ≠ 9 := by omega
      simp [setI_1, setL_1, f1, f2, f3]
    · simp [setI_1, setL_1]
    · simp [setI_2, setL_2]
    · simp [setI_1, setL_1]
    · simp [setI_1, setL_1, h]
    · simp [setI_1, setL_1]
  · rw [if_neg h]
    refine ⟨?_, ?_, ?_, ?_, fun f hf => ?_, fun j => ?_, fun j => ?_, fun j => ?_, fun d => ?_, fun j => ?_⟩
    · simp [setI_1, setL_1]
    · simp [setI_1, setL_1]
    · simp [setI_1, setL_1]
    · simp [setI_1, setL_1]
    · have f1 : f ≠ 6 := by omega
      have f2 : f ≠ 8 := by omega
      have f3 : f ≠ 9 := by omega
      simp [setI_1, setL_1, f1, f2, f3]
    · simp [setI_1, setL_1]
    · simp [setI_2, setL_2]
    · simp [setI_1, setL_1]
    · simp [setI_1, setL_1, h]
    · simp [setI_1, setL_1]
theorem RD.keepF {M : Mem} {i c : Int} {x : Int64} (h : RD M i) (hf : (M.1 16 6 i 0) < 60) (c0 : 0 ≤ c) (c1 : c ≤ 999) : RD (addF M i c x) i := by
  obtain ⟨e6, e7, e8, e9, -, e17, -, e19, e20, e21⟩ := addF_sc (M := M) (i := i) (c := c) (x := x)
  have f0 := h.fc
  have lg := h.lg
  have ec : ∀ j, j < (M.1 16 6 i 0) → (addF M i c x).1 17 0 i j = (M.1 17 0 i j) := fun j hj => by rw [e17, if_neg (by omega)]
  have en : (addF M i c x).1 17 0 i (M.1 16 6 i 0) = c := by rw [e17, if_pos rfl]
  refine ⟨?_, ?_, ?_, ?_, ?_, ?_, ?_, ?_, ?_, ?_, ?_⟩
  · rw [e6]; omega
  · intro j j0 j1
    rw [e6] at j1
    rw [e17]
    split
    · exact ⟨c0, c1⟩
    · exact h.cd j j0 (by omega)
  · rw [e8, e9]
    constructor <;> split <;> omega
  · intro j j0 j1
    rw [e6] at j1
    rw [e8, e9, e17]
    by_cases q : j = (M.1 16 6 i 0)
    · rw [if_pos q]
      constructor <;> split <;> omega
    · rw [if_neg q]
      have := h.lb j j0 (by omega)
      constructor <;> split <;> omega
  · intro q; rw [e6] at q; omega
  · intro _
    rw [e6, e8, e9]
    constructor
    · by_cases q : c < (M.1 16 8 i 0)
      · rw [if_pos q]; exact ⟨_, f0.1, by omega, en⟩
      · rw [if_neg q]
        by_cases z : (M.1 16 6 i 0) = 0
        · have := (h.em z).1
          exact absurd (show c < (M.1 16 8 i 0) by omega) q
        · obtain ⟨j, j0, j1, j2⟩ := (h.at_ (by omega)).1
          exact ⟨j, j0, by omega, by rw [ec j j1]; exact j2⟩
    · by_cases q : (M.1 16 9 i 0) < c
      · rw [if_pos q]; exact ⟨_, f0.1, by omega, en⟩
      · rw [if_neg q]
        by_cases z : (M.1 16 6 i 0) = 0
        · have := (h.em z).2
          exact absurd (show (M.1 16 9 i 0) < c by omega) q
        · obtain ⟨j, j0, j1, j2⟩ := (h.at_ (by omega)).2
          exact ⟨j, j0, by omega, by rw [ec j j1]; exact j2⟩
  · intro d d0 d1
    rw [e20, e6]
    by_cases q : d = c ∧ (M.1 20 0 i c) = -1
    · rw [if_pos q]
      obtain ⟨q1, q2⟩ := q
      subst q1
      rcases h.ft d d0 d1 with z | z
      · exact Or.inr ⟨f0.1, by omega, en, fun j j0 j1 => by rw [ec j j1]; exact z.2 j j0 j1⟩
      · omega
    · rw [if_neg q]
      rcases h.ft d d0 d1 with z | z
      · refine Or.inl ⟨z.1, fun j j0 j1 => ?_⟩
        rw [e17]
        split
        · intro y
          exact q ⟨y.symm, by rw [y]; exact z.1⟩
        · exact z.2 j j0 (by omega)
      · refine Or.inr ⟨z.1, by omega, ?_, fun j j0 j1 => ?_⟩
        · rw [ec _ z.2.1]; exact z.2.2.1
        · rw [ec j (by omega)]; exact z.2.2.2 j j0 j1
  · intro j j0 j1; rw [e19]; exact h.sp j j0 j1
  · intro j j0 j1; rw [e6] at j0; rw [e19]; exact h.s0 j (by omega) j1
  · rw [e7]; simp only [e19]; exact h.sn
  · intro d d0 d1
    rw [e21, h.sc d d0 d1, e6]
    constructor
    · rintro ⟨j, j0, j1, j2, j3⟩
      exact ⟨j, j0, by omega, by rw [e19]; exact j2, by rw [ec j j1]; exact j3⟩
    · rintro ⟨j, j0, j1, j2, j3⟩
      rw [e19] at j2
      have : j < (M.1 16 6 i 0) := by
        rcases Int.lt_or_eq_of_le (Int.le_of_lt_add_one j1) with y | y
        · exact y
        · exact absurd (h.s0 j (by omega) (by omega)) j2
      exact ⟨j, j0, this, j2, by rw [← ec j this]; exact j3⟩
theorem addS_sc {M : Mem} {i p : Int} (h : (M.1 19 0 i p) = 0) : (addS M i p).2 = M.2 ∧ (addS M i p).1 16 7 i 0 = (M.1 16 7 i 0) + 1 ∧ (∀ f, f ≠ 7 → (addS M i p).1 16 f i 0 = M.1 16 f i 0) ∧ (∀ j, (addS M i p).1 17 0 i j = (M.1 17 0 i j)) ∧ (∀ j, (addS M i p).1 19 0 i j = if j = p then 1 else (M.1 19 0 i j)) ∧ (∀ d, (addS M i p).1 20 0 i d = (M.1 20 0 i d)) ∧ (∀ d, (addS M i p).1 21 0 i d = if d = (M.1 17 0 i p) then 1 else (M.1 21 0 i d)) := by
  unfold addS
  rw [if_pos h]
  refine ⟨rfl, ?_, fun f hf => ?_, fun j => ?_, fun j => ?_, fun j => ?_, fun j => ?_⟩
  · simp [setI_1]
  · simp [setI_1, hf]
  · simp [setI_1]
  · simp [setI_1]
  · simp [setI_1]
  · simp [setI_1]
theorem sm_up {f g : Int → Int} {lo hi p : Int} (h0 : lo ≤ p) (h1 : p < hi) (hp : f p = g p + 1) (ho : ∀ k, k ≠ p → f k = g k) : sm f lo hi = sm g lo hi + 1 := by
  rw [sm_app f h0 (Int.le_of_lt h1), sm_app g h0 (Int.le_of_lt h1), sm_app f (lo := p) (mi := p + 1) (hi := hi) (by omega) (by omega), sm_app g (lo := p) (mi := p + 1) (hi := hi) (by omega) (by omega), sm_s f (Int.le_refl p), sm_s g (Int.le_refl p), sm_0 f (Int.le_refl p), sm_0 g (Int.le_refl p), hp, sm_c (f := f) (g := g) (lo := lo) (hi := p) (fun k _ k1 => ho k (by omega)), sm_c (f := f) (g := g) (lo := p + 1) (hi := hi) (fun k k0 _ => ho k (by omega))]
  omega
theorem RD.keepS {M : Mem} {i p : Int} (h : RD M i) (p0 : 0 ≤ p) (p1 : p < (M.1 16 6 i 0)) : RD (addS M i p) i := by
  by_cases hs : (M.1 19 0 i p) = 0
  · obtain ⟨-, e7, e16, e17, e19, e20, e21⟩ := addS_sc (M := M) (i := i) (p := p) hs
    have f0 := h.fc
    have e6 := e16 6 (by decide)
    have e8 := e16 8 (by decide)
    have e9 := e16 9 (by decide)
    refine ⟨?_, ?_, ?_, ?_, ?_, ?_, ?_, ?_, ?_, ?_, ?_⟩
    · rw [e6]; exact h.fc
    · intro j; rw [e6, e17]; exact h.cd j
    · rw [e8, e9]; exact h.lg
    · intro j; rw [e6, e8, e9, e17]; exact h.lb j
    · rw [e6, e8, e9]; exact h.em
    · simp only [e6, e8, e9, e17]; exact h.at_
    · intro d; simp only [e6, e17, e20]; exact h.ft d
    · intro j j0 j1
      rw [e19]
      split
      · exact Or.inr rfl
      · exact h.sp j j0 j1
    · intro j j0 j1
      rw [e6] at j0
      rw [e19, if_neg (by omega)]
      exact h.s0 j j0 j1
    · rw [e7, h.sn]
      refine (sm_up (p := p) p0 (by omega) ?_ (fun k hk => ?_)).symm
      · show bI _ = bI _ + 1
        rw [bI_t (by rw [e19, if_pos rfl]; decide), bI_f (fun q => q hs)]
        rfl
      · show bI _ = bI _
        rw [e19, if_neg hk]
    · intro d d0 d1
      rw [e21, e6]
      by_cases q : d = (M.1 17 0 i p)
      · rw [if_pos q]
        exact ⟨fun _ => ⟨p, p0, p1, by rw [e19, if_pos rfl]; decide, by rw [e17, q]⟩, fun _ => by decide⟩
      · rw [if_neg q, h.sc d d0 d1]
        constructor
        · rintro ⟨j, j0, j1, j2, j3⟩
          exact ⟨j, j0, j1, by rw [e19]; split <;> first | decide | exact j2, by rw [e17]; exact j3⟩
        · rintro ⟨j, j0, j1, j2, j3⟩
          rw [e17] at j3
          have : j ≠ p := fun y => q (by rw [← j3, y])
          rw [e19, if_neg this] at j2
          exact ⟨j, j0, j1, j2, j3⟩
  · unfold addS
    rw [if_neg hs]
    exact h
