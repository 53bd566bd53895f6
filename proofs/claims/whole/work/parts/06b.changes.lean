def adU (ad : Ad) (k0 : Nat) (b : Nat) : Ad := fun k i => if k = k0 ∧ i = 0 then b else ad k i
/-- the rows of changes, longer: what is new is 0 -/
def growI (M : Mem) (k : Nat) (z : Int) : Mem := (fun k' f' i' j' => if k' = k ∧ f' = 1 ∧ i' = 0 ∧ j' = 0 then z else if k' = k ∧ f' = 0 ∧ i' = 0 ∧ M.1 k 1 0 0 ≤ j' then 0 else M.1 k' f' i' j', M.2)
def growL (M : Mem) (k : Nat) (z : Int) : Mem := (fun k' f' i' j' => if k' = k ∧ f' = 1 ∧ i' = 0 ∧ j' = 0 then z else M.1 k' f' i' j', fun k' f' i' j' => if k' = k ∧ f' = 0 ∧ i' = 0 ∧ M.1 k 1 0 0 ≤ j' then 0 else M.2 k' f' i' j')
theorem growI_1 (M : Mem) (k : Nat) (z : Int) (k' f' : Nat) (i' j' : Int) : (growI M k z).1 k' f' i' j' = if k' = k ∧ f' = 1 ∧ i' = 0 ∧ j' = 0 then z else if k' = k ∧ f' = 0 ∧ i' = 0 ∧ M.1 k 1 0 0 ≤ j' then 0 else M.1 k' f' i' j' := rfl
theorem growI_2 (M : Mem) (k : Nat) (z : Int) : (growI M k z).2 = M.2 := rfl
theorem growL_1 (M : Mem) (k : Nat) (z : Int) (k' f' : Nat) (i' j' : Int) : (growL M k z).1 k' f' i' j' = if k' = k ∧ f' = 1 ∧ i' = 0 ∧ j' = 0 then z else M.1 k' f' i' j' := rfl
theorem growL_2 (M : Mem) (k : Nat) (z : Int) (k' f' : Nat) (i' j' : Int) : (growL M k z).2 k' f' i' j' = if k' = k ∧ f' = 0 ∧ i' = 0 ∧ M.1 k 1 0 0 ≤ j' then 0 else M.2 k' f' i' j' := rfl
theorem RM_growI {M : Mem} (h : RM M) {k : Nat} {z : Int} (hz : rng z) : RM (growI M k z) := by
  intro k' f' i' j'
  show rng (if _ then z else if _ then 0 else _)
  split
  · exact hz
  · split
    · decide
    · exact h _ _ _ _
theorem RM_growL {M : Mem} (h : RM M) {k : Nat} {z : Int} (hz : rng z) : RM (growL M k z) := by
  intro k' f' i' j'
  show rng (if _ then z else _)
  split
  · exact hz
  · exact h _ _ _ _
theorem Ex.growI {p : Nat → Bool} {M M' : Mem} (h : Ex p M M') {k : Nat} {z : Int} (hk : p k = true) : Ex p M (growI M' k z) := by
  intro k' f i j hp
  have hne : k' ≠ k := fun e => by rw [e, hk] at hp; cases hp
  refine ⟨?_, (h k' f i j hp).2⟩
  show (if _ then z else if _ then 0 else _) = _
  rw [if_neg (fun q => hne q.1), if_neg (fun q => hne q.1)]
  exact (h k' f i j hp).1
theorem Ex.growL {p : Nat → Bool} {M M' : Mem} (h : Ex p M M') {k : Nat} {z : Int} (hk : p k = true) : Ex p M (growL M' k z) := by
  intro k' f i j hp
  have hne : k' ≠ k := fun e => by rw [e, hk] at hp; cases hp
  constructor
  · show (if _ then z else _) = _
    rw [if_neg (fun q => hne q.1)]
    exact (h k' f i j hp).1
  · rw [growL_2, if_neg (fun q => hne q.1)]
    exact (h k' f i j hp).2
theorem wl_set2 {c : Nat → ClassId} {nm : List (Nat × Int)} {ad ad' : Ad} {M M' : Mem} {A : Nat → Prop} {k2 k3 q2 q3 : Nat} {i2 i3 : Int} {e2 e3 : Nat × va_E} (hD : va_D A (wl c nm ad M)) (h2 : nm[q2]? = some (k2, i2)) (h3 : nm[q3]? = some (k3, i3)) (hne : q2 ≠ q3) (he2 : (ad' k2 i2, ent c ad' M' k2 i2) = e2) (he3 : (ad' k3 i3, ent c ad' M' k3 i3) = e3) (ho : ∀ k i, (k, i) ≠ (k2, i2) → (k, i) ≠ (k3, i3) → ad' k i = ad k i ∧ ent c ad' M' k i = ent c ad M k i) : ((wl c nm ad M).set q2 e2).set q3 e3 = wl c nm ad' M' := by
  have l2 : q2 < nm.length := (List.getElem?_eq_some_iff.mp h2).1
  have l3 : q3 < nm.length := (List.getElem?_eq_some_iff.mp h3).1
  apply List.ext_getElem?
  intro j
  by_cases e1 : j = q3
  · subst e1
    rw [List.getElem?_set_self (by simpa [wl] using l3), ← he3]
    simp [wl, h3]
  · rw [List.getElem?_set_ne (fun z => e1 z.symm)]
    by_cases e1' : j = q2
    · subst e1'
      rw [List.getElem?_set_self (by simpa [wl] using l2), ← he2]
      simp [wl, h2]
    · rw [List.getElem?_set_ne (fun z => e1' z.symm)]
      cases hj : nm[j]? with
      | none => simp [wl, hj]
      | some n =>
        obtain ⟨k', i'⟩ := n
        have g1 : (wl c nm ad M)[j]? = some (ad k' i', ent c ad M k' i') := by simp [wl, hj]
        have g2 : (wl c nm ad M)[q2]? = some (ad k2 i2, ent c ad M k2 i2) := by simp [wl, h2]
        have g3 : (wl c nm ad M)[q3]? = some (ad k3 i3, ent c ad M k3 i3) := by simp [wl, h3]
        have ap : ∀ (q : Nat) (k : Nat) (i : Int), (wl c nm ad M)[q]? = some (ad k i, ent c ad M k i) → j ≠ q → (k', i') ≠ (k, i) := fun q k i g hq z => hq (hD.1 j q _ _ g1 g (by
          have z1 := congrArg Prod.fst z
          have z2 := congrArg Prod.snd z
          simp only at z1 z2
          rw [z1, z2]))
        obtain ⟨a1, a2⟩ := ho k' i' (ap q2 k2 i2 g2 e1') (ap q3 k3 i3 g3 e1)
        rw [g1]
        simp [wl, hj, a1, a2]
theorem ent_adU13 {c : Nat → ClassId} {ad : Ad} {M : Mem} {b k : Nat} {i : Int} (h : (k, i) ≠ (12, 0)) : ent c (adU ad 13 b) M k i = ent c ad M k i := by
  have h' : ∀ x : Nat, x = 12 → k = x → i ≠ 0 := fun x hx hk hi => h (by rw [hk, hx, hi])
  unfold ent entK
  split <;> first
    | rfl
    | (have hi := h' 12 rfl (by assumption); simp [adU, hi])
    | (have hi := h' 12 rfl rfl; simp [adU, hi])
    | simp [adU]
theorem ent_adU14 {c : Nat → ClassId} {ad : Ad} {M : Mem} {b k : Nat} {i : Int} (h : (k, i) ≠ (12, 0)) : ent c (adU ad 14 b) M k i = ent c ad M k i := by
  have h' : ∀ x : Nat, x = 12 → k = x → i ≠ 0 := fun x hx hk hi => h (by rw [hk, hx, hi])
  unfold ent entK
  split <;> first
    | rfl
    | (have hi := h' 12 rfl (by assumption); simp [adU, hi])
    | (have hi := h' 12 rfl rfl; simp [adU, hi])
    | simp [adU]
theorem ent_adU15 {c : Nat → ClassId} {ad : Ad} {M : Mem} {b k : Nat} {i : Int} (h : (k, i) ≠ (12, 0)) : ent c (adU ad 15 b) M k i = ent c ad M k i := by
  have h' : ∀ x : Nat, x = 12 → k = x → i ≠ 0 := fun x hx hk hi => h (by rw [hk, hx, hi])
  unfold ent entK
  split <;> first
    | rfl
    | (have hi := h' 12 rfl (by assumption); simp [adU, hi])
    | (have hi := h' 12 rfl rfl; simp [adU, hi])
    | simp [adU]
set_option maxHeartbeats 4000000 in
theorem g_grow13 {κ : Kx} {cc : ByteArray} {rm : Room} {nm : List (Nat × Int)} {ad : Ad} {M : Mem} {pc pc' : Nat} {lv : List (Option Value)} {st : List Value} {cl sl : Nat} (X : Cx κ cc RX0 rm) {z : Int} (hN : NmOk nm) (h0 : 0 ≤ M.1 13 1 0 0) (hz : M.1 13 1 0 0 < z) (hz2 : z ≤ 100000) (hr : Rmo rm md_J7_copyOf_59c91 1 z.toNat cl sl) (hcat : (((.ref (ad 12 0) :: st : List Value).map fun v => v.category)).sum ≤ 8) (d1 : decode cc pc = .ok (.invokestatic 33, 3)) (d2 : decode cc (pc + 3) = .ok (.putfield 9, 3)) (e : pc + 6 = pc') (k : ∀ b : Nat, G κ nm (adU ad 13 b) (growI M 13 z) pc' lv st (cl + 1) (sl + z.toNat)) : G κ nm ad M pc lv (.int (iI z) :: .ref (ad 13 0) :: .ref (ad 12 0) :: st) cl sl := by
  subst e
  refine g_h (fun hM => h_D (fun hD => ?_))
  obtain ⟨q3, h3, h3'⟩ := wl_get (c := kC κ) (ad := ad) (M := M) (n13 hN)
  obtain ⟨q2, h2, h2'⟩ := wl_get (c := kC κ) (ad := ad) (M := M) (n12 hN)
  rw [en13] at h3'
  rw [en12] at h2'
  have hne : q2 ≠ q3 := fun q => by rw [q, h3] at h2; cases h2
  have hl2 : q2 < (wl (kC κ) nm ad M).length := (List.getElem?_eq_some_iff.mp h2').1
  refine h_invS X w_J7_copyOf_59c91 ml_X0_33 hr d1 rfl (As := [.ref (ad 13 0), .int (iI z)]) (rest := .ref (ad 12 0) :: st) rfl rfl hcat (c_J7_copyOf_59c91 (δ := kδ κ) h3' (by omega) hz2) (fun v ws' hw => ?_)
  obtain ⟨b, hv, hw⟩ := hw
  subst hv
  subst hw
  refine h_put X ci0 (f := 1) ((List.getElem?_append_left hl2).trans h2') (by decide) rfl rfl rfl (by simp) fl_X0_9 d2 rfl ?_
  rw [List.set_append_left _ _ hl2]
  refine h_swap (q := q3) ?_
  refine h_eq ?_ (h_g (RM_growI hM (k := 13) (z := z) ⟨by omega, by omega⟩) (k b))
  refine wl_set2 hD h2 h3 hne ?_ ?_ (fun k' i' n2 n3 => ⟨?_, ?_⟩)
  · rw [en12]
    simp [adU, growI]
  · rw [en13]
    refine Prod.ext ?_ ?_
    · simp [adU]
    · simp only [growI]
      simp
      funext j
      by_cases hj : (j : Int) < M.1 13 1 0 0
      · rw [if_pos hj, if_neg (by omega)]
      · rw [if_neg hj, if_pos (by omega)]
        try rfl
  · show (if _ then b else _) = _
    rw [if_neg]
    rintro ⟨a, b'⟩
    exact n3 (by rw [a, b'])
  · rw [ent_adU13 n2]
    refine ent_slice (fun f' j' => ?_) (fun f' j' => ?_)
    · simp only [growI]
      have hk : ¬ (k' = 13 ∧ i' = 0) := fun q => n3 (by rw [q.1, q.2])
      repeat rw [if_neg (by intro q; exact hk ⟨q.1, q.2.2.1⟩)]
    · first | rfl | (simp only [growI]; have hk : ¬ (k' = 13 ∧ i' = 0) := (fun q => n3 (by rw [q.1, q.2])); repeat rw [if_neg (by intro q; exact hk ⟨q.1, q.2.2.1⟩)])
set_option maxHeartbeats 4000000 in
theorem g_grow14 {κ : Kx} {cc : ByteArray} {rm : Room} {nm : List (Nat × Int)} {ad : Ad} {M : Mem} {pc pc' : Nat} {lv : List (Option Value)} {st : List Value} {cl sl : Nat} (X : Cx κ cc RX0 rm) {z : Int} (hN : NmOk nm) (h0 : 0 ≤ M.1 14 1 0 0) (hz : M.1 14 1 0 0 < z) (hz2 : z ≤ 100000) (hr : Rmo rm md_J7_copyOf_c38d5 1 z.toNat cl sl) (hcat : (((.ref (ad 12 0) :: st : List Value).map fun v => v.category)).sum ≤ 8) (d1 : decode cc pc = .ok (.invokestatic 39, 3)) (d2 : decode cc (pc + 3) = .ok (.putfield 15, 3)) (e : pc + 6 = pc') (k : ∀ b : Nat, G κ nm (adU ad 14 b) (growL M 14 z) pc' lv st (cl + 1) (sl + z.toNat)) : G κ nm ad M pc lv (.int (iI z) :: .ref (ad 14 0) :: .ref (ad 12 0) :: st) cl sl := by
  subst e
  refine g_h (fun hM => h_D (fun hD => ?_))
  obtain ⟨q3, h3, h3'⟩ := wl_get (c := kC κ) (ad := ad) (M := M) (n14 hN)
  obtain ⟨q2, h2, h2'⟩ := wl_get (c := kC κ) (ad := ad) (M := M) (n12 hN)
  rw [en14] at h3'
  rw [en12] at h2'
  have hne : q2 ≠ q3 := fun q => by rw [q, h3] at h2; cases h2
  have hl2 : q2 < (wl (kC κ) nm ad M).length := (List.getElem?_eq_some_iff.mp h2').1
  refine h_invS X w_J7_copyOf_c38d5 ml_X0_39 hr d1 rfl (As := [.ref (ad 14 0), .int (iI z)]) (rest := .ref (ad 12 0) :: st) rfl rfl hcat (c_J7_copyOf_c38d5 (δ := kδ κ) h3' (by omega) hz2) (fun v ws' hw => ?_)
  obtain ⟨b, hv, hw⟩ := hw
  subst hv
  subst hw
  refine h_put X ci0 (f := 2) ((List.getElem?_append_left hl2).trans h2') (by decide) rfl rfl rfl (by simp) fl_X0_15 d2 rfl ?_
  rw [List.set_append_left _ _ hl2]
  refine h_swap (q := q3) ?_
  refine h_eq ?_ (h_g (RM_growL hM (k := 14) (z := z) ⟨by omega, by omega⟩) (k b))
  refine wl_set2 hD h2 h3 hne ?_ ?_ (fun k' i' n2 n3 => ⟨?_, ?_⟩)
  · rw [en12]
    simp [adU, growL]
  · rw [en14]
    refine Prod.ext ?_ ?_
    · simp [adU]
    · simp only [growL]
      simp
      funext j
      by_cases hj : (j : Int) < M.1 14 1 0 0
      · rw [if_pos hj, if_neg (by omega)]
      · rw [if_neg hj, if_pos (by omega)]
        try rfl
  · show (if _ then b else _) = _
    rw [if_neg]
    rintro ⟨a, b'⟩
    exact n3 (by rw [a, b'])
  · rw [ent_adU14 n2]
    refine ent_slice (fun f' j' => ?_) (fun f' j' => ?_)
    · simp only [growL]
      have hk : ¬ (k' = 14 ∧ i' = 0) := fun q => n3 (by rw [q.1, q.2])
      repeat rw [if_neg (by intro q; exact hk ⟨q.1, q.2.2.1⟩)]
    · first | rfl | (simp only [growL]; have hk : ¬ (k' = 14 ∧ i' = 0) := (fun q => n3 (by rw [q.1, q.2])); repeat rw [if_neg (by intro q; exact hk ⟨q.1, q.2.2.1⟩)])
set_option maxHeartbeats 4000000 in
theorem g_grow15 {κ : Kx} {cc : ByteArray} {rm : Room} {nm : List (Nat × Int)} {ad : Ad} {M : Mem} {pc pc' : Nat} {lv : List (Option Value)} {st : List Value} {cl sl : Nat} (X : Cx κ cc RX0 rm) {z : Int} (hN : NmOk nm) (h0 : 0 ≤ M.1 15 1 0 0) (hz : M.1 15 1 0 0 < z) (hz2 : z ≤ 100000) (hr : Rmo rm md_J7_copyOf_59c91 1 z.toNat cl sl) (hcat : (((.ref (ad 12 0) :: st : List Value).map fun v => v.category)).sum ≤ 8) (d1 : decode cc pc = .ok (.invokestatic 33, 3)) (d2 : decode cc (pc + 3) = .ok (.putfield 19, 3)) (e : pc + 6 = pc') (k : ∀ b : Nat, G κ nm (adU ad 15 b) (growI M 15 z) pc' lv st (cl + 1) (sl + z.toNat)) : G κ nm ad M pc lv (.int (iI z) :: .ref (ad 15 0) :: .ref (ad 12 0) :: st) cl sl := by
  subst e
  refine g_h (fun hM => h_D (fun hD => ?_))
  obtain ⟨q3, h3, h3'⟩ := wl_get (c := kC κ) (ad := ad) (M := M) (n15 hN)
  obtain ⟨q2, h2, h2'⟩ := wl_get (c := kC κ) (ad := ad) (M := M) (n12 hN)
  rw [en15] at h3'
  rw [en12] at h2'
  have hne : q2 ≠ q3 := fun q => by rw [q, h3] at h2; cases h2
  have hl2 : q2 < (wl (kC κ) nm ad M).length := (List.getElem?_eq_some_iff.mp h2').1
  refine h_invS X w_J7_copyOf_59c91 ml_X0_33 hr d1 rfl (As := [.ref (ad 15 0), .int (iI z)]) (rest := .ref (ad 12 0) :: st) rfl rfl hcat (c_J7_copyOf_59c91 (δ := kδ κ) h3' (by omega) hz2) (fun v ws' hw => ?_)
  obtain ⟨b, hv, hw⟩ := hw
  subst hv
  subst hw
  refine h_put X ci0 (f := 3) ((List.getElem?_append_left hl2).trans h2') (by decide) rfl rfl rfl (by simp) fl_X0_19 d2 rfl ?_
  rw [List.set_append_left _ _ hl2]
  refine h_swap (q := q3) ?_
  refine h_eq ?_ (h_g (RM_growI hM (k := 15) (z := z) ⟨by omega, by omega⟩) (k b))
  refine wl_set2 hD h2 h3 hne ?_ ?_ (fun k' i' n2 n3 => ⟨?_, ?_⟩)
  · rw [en12]
    simp [adU, growI]
  · rw [en15]
    refine Prod.ext ?_ ?_
    · simp [adU]
    · simp only [growI]
      simp
      funext j
      by_cases hj : (j : Int) < M.1 15 1 0 0
      · rw [if_pos hj, if_neg (by omega)]
      · rw [if_neg hj, if_pos (by omega)]
        try rfl
  · show (if _ then b else _) = _
    rw [if_neg]
    rintro ⟨a, b'⟩
    exact n3 (by rw [a, b'])
  · rw [ent_adU15 n2]
    refine ent_slice (fun f' j' => ?_) (fun f' j' => ?_)
    · simp only [growI]
      have hk : ¬ (k' = 15 ∧ i' = 0) := fun q => n3 (by rw [q.1, q.2])
      repeat rw [if_neg (by intro q; exact hk ⟨q.1, q.2.2.1⟩)]
    · first | rfl | (simp only [growI]; have hk : ¬ (k' = 15 ∧ i' = 0) := (fun q => n3 (by rw [q.1, q.2])); repeat rw [if_neg (by intro q; exact hk ⟨q.1, q.2.2.1⟩)])
/-- the rows of changes are of one length, of 120 times a power of two -/
def CapOk (M : Mem) : Prop := (M.1 14 1 0 0) = (M.1 13 1 0 0) ∧ (M.1 15 1 0 0) = (M.1 13 1 0 0) ∧ ((M.1 13 1 0 0) = 120 ∨ (M.1 13 1 0 0) = 240 ∨ (M.1 13 1 0 0) = 480 ∨ (M.1 13 1 0 0) = 960 ∨ (M.1 13 1 0 0) = 1920 ∨ (M.1 13 1 0 0) = 3840 ∨ (M.1 13 1 0 0) = 7680 ∨ (M.1 13 1 0 0) = 15360 ∨ (M.1 13 1 0 0) = 30720 ∨ (M.1 13 1 0 0) = 61440) ∧ 0 ≤ (M.1 12 0 0 0) ∧ (M.1 12 0 0 0) ≤ (M.1 13 1 0 0)
def AdG (ad ad' : Ad) : Prop := ∀ (k : Nat) (i : Int), k ≠ 13 → k ≠ 14 → k ≠ 15 → ad' k i = ad k i
def exC (k : Nat) : Bool := k == 12 || k == 13 || k == 14 || k == 15
def exC3 (k : Nat) : Bool := k == 13 || k == 14 || k == 15
/-- a change is added -/
def AddR (M : Mem) (p : Int) (b : Int64) (t : Int) (M' : Mem) : Prop := Ex exC M M' ∧ (M'.1 12 0 0 0) = (M.1 12 0 0 0) + 1 ∧ (M'.1 13 0 0 ((M.1 12 0 0 0))) = p ∧ (M'.2 14 0 0 ((M.1 12 0 0 0))) = b ∧ (M'.1 15 0 0 ((M.1 12 0 0 0))) = t ∧ (∀ j, 0 ≤ j → j < (M.1 12 0 0 0) → (M'.1 13 0 0 j) = (M.1 13 0 0 j) ∧ (M'.2 14 0 0 j) = (M.2 14 0 0 j) ∧ (M'.1 15 0 0 j) = (M.1 15 0 0 j)) ∧ CapOk M' ∧ ((M.1 12 0 0 0) < (M.1 13 1 0 0) → (M'.1 13 1 0 0) = (M.1 13 1 0 0)) ∧ ((M.1 13 1 0 0) ≤ (M.1 12 0 0 0) → (M'.1 13 1 0 0) = 2 * (M.1 13 1 0 0))
theorem addR_of {M M1 : Mem} {p t : Int} {b : Int64} (hc : CapOk M) (cm : (M.1 12 0 0 0) < 61440) (hE : Ex exC3 M M1) (hcp : (M1.1 14 1 0 0) = (M1.1 13 1 0 0) ∧ (M1.1 15 1 0 0) = (M1.1 13 1 0 0)) (hc6 : (M.1 12 0 0 0) < (M.1 13 1 0 0) → (M1.1 13 1 0 0) = (M.1 13 1 0 0)) (hc7 : (M.1 13 1 0 0) ≤ (M.1 12 0 0 0) → (M1.1 13 1 0 0) = 2 * (M.1 13 1 0 0)) (hk : ∀ j, 0 ≤ j → j < (M.1 12 0 0 0) → (M1.1 13 0 0 j) = (M.1 13 0 0 j) ∧ (M1.2 14 0 0 j) = (M.2 14 0 0 j) ∧ (M1.1 15 0 0 j) = (M.1 15 0 0 j)) :
    AddR M p b t (setI (setI (setL (setI M1 13 0 0 (M1.1 12 0 0 0) p) 14 0 0 (M1.1 12 0 0 0) b) 15 0 0 (M1.1 12 0 0 0) t) 12 0 0 0 ((M1.1 12 0 0 0) + 1)) := by
  have ecc : (M1.1 12 0 0 0) = (M.1 12 0 0 0) := hE.i 12 0 0 0 rfl
  rw [ecc]
  obtain ⟨hc1, hc2, hc3, hc4, hc5⟩ := hc
  have eP : ∀ c1 : Int, (setI (setI (setL (setI M1 13 0 0 (M.1 12 0 0 0) p) 14 0 0 (M.1 12 0 0 0) b) 15 0 0 (M.1 12 0 0 0) t) 12 0 0 0 c1).1 13 1 0 0 = (M1.1 13 1 0 0) := fun c1 => by simp [setI_1, setL_1]
  have eB : ∀ c1 : Int, (setI (setI (setL (setI M1 13 0 0 (M.1 12 0 0 0) p) 14 0 0 (M.1 12 0 0 0) b) 15 0 0 (M.1 12 0 0 0) t) 12 0 0 0 c1).1 14 1 0 0 = (M1.1 14 1 0 0) := fun c1 => by simp [setI_1, setL_1]
  have eL : ∀ c1 : Int, (setI (setI (setL (setI M1 13 0 0 (M.1 12 0 0 0) p) 14 0 0 (M.1 12 0 0 0) b) 15 0 0 (M.1 12 0 0 0) t) 12 0 0 0 c1).1 15 1 0 0 = (M1.1 15 1 0 0) := fun c1 => by simp [setI_1, setL_1]
  have eC : ∀ c1 : Int, (setI (setI (setL (setI M1 13 0 0 (M.1 12 0 0 0) p) 14 0 0 (M.1 12 0 0 0) b) 15 0 0 (M.1 12 0 0 0) t) 12 0 0 0 c1).1 12 0 0 0 = c1 := fun c1 => by simp [setI_1]
  refine ⟨((((hE.mono (fun k h => ?_)).setI rfl).setL rfl).setI rfl).setI rfl, eC _, ?_, ?_, ?_, fun j j0 j1 => ⟨?_, ?_, ?_⟩, ?_, ?_, ?_⟩
  · unfold exC at h
    unfold exC3
    simp at h ⊢
    exact ⟨⟨h.1.1.2, h.1.2⟩, h.2⟩
  · simp [setI_1, setL_1]
  · simp [setI_2, setL_2]
  · simp [setI_1, setL_1]
  · rw [← (hk j j0 j1).1]
    have hj : j ≠ (M.1 12 0 0 0) := by omega
    simp [setI_1, setL_1, hj]
  · rw [← (hk j j0 j1).2.1]
    have hj : j ≠ (M.1 12 0 0 0) := by omega
    simp [setI_2, setL_2, hj]
  · rw [← (hk j j0 j1).2.2]
    have hj : j ≠ (M.1 12 0 0 0) := by omega
    simp [setI_1, setL_1, hj]
  · unfold CapOk
    rw [eP, eB, eL, eC]
    have : (M.1 12 0 0 0) < (M.1 13 1 0 0) ∨ (M.1 13 1 0 0) ≤ (M.1 12 0 0 0) := by omega
    rcases this with q | q
    · have := hc6 q
      omega
    · have := hc7 q
      omega
  · rw [eP]; exact hc6
  · rw [eP]; exact hc7
set_option maxRecDepth 100000 in
set_option maxHeartbeats 4000000 in
theorem c_X0_add {δ : Dx} {nm : List (Nat × Int)} {ad : Ad} {M : Mem} {p t : Int} {b : Int64} {mc ms : Nat} (hN : NmOk nm) (rp : rng p) (rt : rng t) (hc : CapOk M) (cm : (M.1 12 0 0 0) < 61440) (hroom : (M.1 13 1 0 0) ≤ (M.1 12 0 0 0) → 3 ≤ mc ∧ 6 * (M.1 13 1 0 0) ≤ ms) : Ct δ md_X0_add mc ms nm ad M [.ref (ad 12 0), .int (iI p), .long b, .int (iI t)] (fun v ad' M' => v = some (.int (iI (M.1 12 0 0 0))) ∧ AdG ad ad' ∧ AddR M p b t M') := by
  refine Ct_of (ins := .ireturn) (ok := okI) [some (.ref (ad 12 0)), some (.int (iI p)), some (.long b), none, some (.int (iI t)), none] (by decide +kernel) rfl (Nat.le_of_ble_eq_true rfl) (fun κ s hs X hr hQ hδ => endI rfl hs X hr hQ hδ) (fun κ X hNL hδ Y => ?_)
  refine g_rm (fun hM => ?_)
  obtain ⟨hc1, hc2, hc3, hc4, hc5⟩ := id hc
  have lp64 : ∀ (ad1 : Ad) (M1 : Mem) (hA : AdG ad ad1) (hE : Ex exC3 M M1) (hcp : (M1.1 14 1 0 0) = (M1.1 13 1 0 0) ∧ (M1.1 15 1 0 0) = (M1.1 13 1 0 0)) (hc6 : (M.1 12 0 0 0) < (M.1 13 1 0 0) → (M1.1 13 1 0 0) = (M.1 13 1 0 0)) (hc7 : (M.1 13 1 0 0) ≤ (M.1 12 0 0 0) → (M1.1 13 1 0 0) = 2 * (M.1 13 1 0 0)) (hk : ∀ j, 0 ≤ j → j < (M.1 12 0 0 0) → (M1.1 13 0 0 j) = (M.1 13 0 0 j) ∧ (M1.2 14 0 0 j) = (M.2 14 0 0 j) ∧ (M1.1 15 0 0 j) = (M.1 15 0 0 j)), G κ nm ad1 M1 64 [some (.ref (ad1 12 0)), some (.int (iI p)), some (.long b), none, some (.int (iI t)), none] [] mc ms := by
    refine ind2 (fun ad1 M1 => 0) ?_
    intro ad1 M1 ih64 hA hE hcp hc6 hc7 hk
    refine g_rm (fun hM64 => ?_)
    have ecc : (M1.1 12 0 0 0) = (M.1 12 0 0 0) := hE.i 12 0 0 0 rfl
    have hlt : (M.1 12 0 0 0) < (M1.1 13 1 0 0) := by omega
    have hle : (M1.1 13 1 0 0) ≤ 61440 := by omega
    refine g_aload_n X dX0_add_64 rfl rfl ?_
    refine g_get X ci0 (n12 hN) (en12 _ _ _ _) (by decide) fl_X0_9 rfl dX0_add_65 rfl ?_
    refine g_aload_n X dX0_add_68 rfl rfl ?_
    refine g_getI X ci0 (n12 hN) (en12 _ _ _ _) (by decide) fl_X0_22 rfl dX0_add_69 rfl (fun r69 => ?_)
    refine g_iload_n X dX0_add_72 rfl rfl ?_
    refine g_iast X (n13 hN) (en13 _ _ _ _) (en13 _ _ _ _) (t0 := 0) rfl (by omega) (by omega) (by omega) (by omega) dX0_add_73 rfl ?_
    refine g_aload_n X dX0_add_74 rfl rfl ?_
    refine g_get X ci0 (n12 hN) (en12 _ _ _ _) (by decide) fl_X0_15 rfl dX0_add_75 rfl ?_
    refine g_aload_n X dX0_add_78 rfl rfl ?_
    refine g_getI X ci0 (n12 hN) (en12 _ _ _ _) (by decide) fl_X0_22 rfl dX0_add_79 rfl (fun r79 => ?_)
    refine g_int (b := M1.1 12 0 0 0) rfl ?_
    have r79x := hM64 12 0 0 0
    refine g_lload_n X dX0_add_82 rfl rfl ?_
    refine g_last X (n14 hN) (en14 _ _ _ _) (en14 _ _ _ _) (t0 := 1) rfl (by first | omega | (simp only [setI_1, setL_1, setI_2, setL_2]; omega) | (simp only [setI_1, setL_1, setI_2, setL_2]; simp; omega)) (by first | omega | (simp only [setI_1, setL_1, setI_2, setL_2]; omega) | (simp only [setI_1, setL_1, setI_2, setL_2]; simp; omega)) (by first | omega | (simp only [setI_1, setL_1, setI_2, setL_2]; omega) | (simp only [setI_1, setL_1, setI_2, setL_2]; simp; omega)) dX0_add_83 rfl ?_
    refine g_aload_n X dX0_add_84 rfl rfl ?_
    refine g_get X ci0 (n12 hN) (en12 _ _ _ _) (by decide) fl_X0_19 rfl dX0_add_85 rfl ?_
    refine g_aload_n X dX0_add_88 rfl rfl ?_
    refine g_getI X ci0 (n12 hN) (en12 _ _ _ _) (by decide) fl_X0_22 rfl dX0_add_89 rfl (fun r89 => ?_)
    refine g_int (b := M1.1 12 0 0 0) rfl ?_
    have r89x := hM64 12 0 0 0
    refine g_iload X dX0_add_92 rfl rfl ?_
    refine g_iast X (n15 hN) (en15 _ _ _ _) (en15 _ _ _ _) (t0 := 0) rfl (by first | omega | (simp only [setI_1, setL_1, setI_2, setL_2]; omega) | (simp only [setI_1, setL_1, setI_2, setL_2]; simp; omega)) (by first | omega | (simp only [setI_1, setL_1, setI_2, setL_2]; omega) | (simp only [setI_1, setL_1, setI_2, setL_2]; simp; omega)) (by first | omega | (simp only [setI_1, setL_1, setI_2, setL_2]; omega) | (simp only [setI_1, setL_1, setI_2, setL_2]; simp; omega)) (by first | omega | (simp only [setI_1, setL_1, setI_2, setL_2]; omega) | (simp only [setI_1, setL_1, setI_2, setL_2]; simp; omega)) dX0_add_94 rfl ?_
    refine g_aload_n X dX0_add_95 rfl rfl ?_
    refine g_dup X dX0_add_96 rfl rfl ?_
    refine g_getI X ci0 (n12 hN) (en12 _ _ _ _) (by decide) fl_X0_22 rfl dX0_add_97 rfl (fun r97 => ?_)
    refine g_int (b := M1.1 12 0 0 0) rfl ?_
    have r97x := hM64 12 0 0 0
    refine g_iconst X dX0_add_100 rfl ?_
    refine g_iadd X dX0_add_101 rfl ?_
    refine g_putI X ci0 (n12 hN) (en12 _ _ _ _) (ep12_0 _ _ _ _ _) (by first | omega | (simp only [setI_1, setL_1, setI_2, setL_2]; omega) | (simp only [setI_1, setL_1, setI_2, setL_2]; simp; omega)) (by decide) rfl rfl rfl (Nat.le_of_ble_eq_true rfl) fl_X0_22 dX0_add_102 rfl ?_
    refine g_aload_n X dX0_add_105 rfl rfl ?_
    refine g_getI X ci0 (n12 hN) (en12 _ _ _ _) (by decide) fl_X0_22 rfl dX0_add_106 rfl (fun r106 => ?_)
    refine g_int (b := (M1.1 12 0 0 0) + 1) (by simp [setI_1, setI_2, setL_1, setL_2]) ?_
    refine g_iconst X dX0_add_109 rfl ?_
    refine g_isub X dX0_add_110 rfl ?_
    exact g_ret Y dX0_add_111 ⟨_, rfl⟩ ⟨by rw [← ecc]; congr 2; congr 1; omega, hA, addR_of hc cm hE hcp hc6 hc7 hk⟩
  refine g_aload_n X dX0_add_0 rfl rfl ?_
  refine g_getI X ci0 (n12 hN) (en12 _ _ _ _) (by decide) fl_X0_22 rfl dX0_add_1 rfl (fun r1 => ?_)
  refine g_aload_n X dX0_add_4 rfl rfl ?_
  refine g_get X ci0 (n12 hN) (en12 _ _ _ _) (by decide) fl_X0_9 rfl dX0_add_5 rfl ?_
  refine g_alen X (n13 hN) (en13 _ _ _ _) (t0 := 0) rfl dX0_add_8 rfl ?_
  refine g_icmp_lt (tgt := 64) X dX0_add_9 rfl rfl (by omega) (by omega) (fun h9 => ?_) (fun h9 => ?_)
  · skip
    refine g_widen (cl' := mc) (sl' := ms) (Nat.zero_le _) (Nat.zero_le _) ?_
    exact lp64 ad M (fun _ _ _ _ _ => rfl) (Ex.rf M) ⟨hc1, hc2⟩ (fun _ => rfl) (fun h => absurd h (by omega)) (fun _ _ _ => ⟨rfl, rfl, rfl⟩)
  · skip
    refine g_iconst X dX0_add_12 rfl ?_
    refine g_aload_n X dX0_add_13 rfl rfl ?_
    refine g_getI X ci0 (n12 hN) (en12 _ _ _ _) (by decide) fl_X0_22 rfl dX0_add_14 rfl (fun r14 => ?_)
    refine g_imul X dX0_add_17 rfl ?_
    refine g_ldc X dX0_add_18 rfl kc_X0_26 ?_
    refine g_mmin X wm_min ml_X0_27 dX0_add_20 rfl ⟨Nat.le_of_ble_eq_true rfl, Nat.le_of_ble_eq_true rfl, Nat.le_of_ble_eq_true rfl⟩ (Nat.le_of_ble_eq_true rfl) (by omega) (by omega) ?_
    refine g_int (b := 2 * (M.1 13 1 0 0)) (by rw [if_neg (by omega)]; omega) ?_
    have em : (M.1 13 1 0 0) = (M.1 12 0 0 0) := by omega
    obtain ⟨gm, gs⟩ := hroom (by omega)
    refine g_istore0 X dX0_add_23 rfl (lt_kN hNL rfl) (fun i hi u hu => by
      have e1 : i = 4 := by omega
      subst e1
      cases hu; rfl) ?_
    refine g_aload_n X dX0_add_25 rfl rfl ?_
    refine g_aload_n X dX0_add_26 rfl rfl ?_
    refine g_get X ci0 (n12 hN) (en12 _ _ _ _) (by decide) fl_X0_9 rfl dX0_add_27 rfl ?_
    refine g_iload X dX0_add_30 rfl rfl ?_
    refine g_grow13 X hN (by omega) (by omega) (by omega) ⟨⟨Nat.le_of_ble_eq_true rfl, Nat.le_of_ble_eq_true rfl⟩, by show 0 + 1 ≤ mc; omega, by show 0 + (2 * (M.1 13 1 0 0)).toNat ≤ ms; omega⟩ (Nat.le_of_ble_eq_true rfl) dX0_add_32 dX0_add_35 rfl (fun b1 => ?_)
    refine g_aload_n X dX0_add_38 rfl rfl ?_
    refine g_aload_n X dX0_add_39 rfl rfl ?_
    refine g_get X ci0 (n12 hN) (en12 _ _ _ _) (by decide) fl_X0_15 rfl dX0_add_40 rfl ?_
    refine g_iload X dX0_add_43 rfl rfl ?_
    have ec2 : (growI M 13 (2 * (M.1 13 1 0 0))).1 14 1 0 0 = M.1 14 1 0 0 := rfl
    refine g_grow14 (ad := adU ad 13 b1) (M := growI M 13 (2 * (M.1 13 1 0 0))) X hN (by rw [ec2]; omega) (by rw [ec2]; omega) (by omega) ⟨⟨Nat.le_of_ble_eq_true rfl, Nat.le_of_ble_eq_true rfl⟩, by show 0 + 1 + 1 ≤ mc; omega, by show 0 + (2 * (M.1 13 1 0 0)).toNat + (2 * (M.1 13 1 0 0)).toNat ≤ ms; omega⟩ (Nat.le_of_ble_eq_true rfl) dX0_add_45 dX0_add_48 rfl (fun b2 => ?_)
    refine g_aload_n X dX0_add_51 rfl rfl ?_
    refine g_aload_n X dX0_add_52 rfl rfl ?_
    refine g_get X ci0 (n12 hN) (en12 _ _ _ _) (by decide) fl_X0_19 rfl dX0_add_53 rfl ?_
    refine g_iload X dX0_add_56 rfl rfl ?_
    have ec3 : (growL (growI M 13 (2 * (M.1 13 1 0 0))) 14 (2 * (M.1 13 1 0 0))).1 15 1 0 0 = M.1 15 1 0 0 := rfl
    refine g_grow15 (ad := adU (adU ad 13 b1) 14 b2) (M := growL (growI M 13 (2 * (M.1 13 1 0 0))) 14 (2 * (M.1 13 1 0 0))) X hN (by rw [ec3]; omega) (by rw [ec3]; omega) (by omega) ⟨⟨Nat.le_of_ble_eq_true rfl, Nat.le_of_ble_eq_true rfl⟩, by show 0 + 1 + 1 + 1 ≤ mc; omega, by show 0 + (2 * (M.1 13 1 0 0)).toNat + (2 * (M.1 13 1 0 0)).toNat + (2 * (M.1 13 1 0 0)).toNat ≤ ms; omega⟩ (Nat.le_of_ble_eq_true rfl) dX0_add_58 dX0_add_61 rfl (fun b3 => ?_)
    refine g_widen (cl' := mc) (sl' := ms) (by omega) (by omega) ?_
    refine g_drop_5 ?_
    exact lp64 (adU (adU (adU ad 13 b1) 14 b2) 15 b3) (growI (growL (growI M 13 (2 * (M.1 13 1 0 0))) 14 (2 * (M.1 13 1 0 0))) 15 (2 * (M.1 13 1 0 0))) (fun k i h1 h2 h3 => by simp [adU, h1, h2, h3]) (((Ex.growI (Ex.rf M) rfl).growL rfl).growI rfl) ⟨rfl, rfl⟩ (fun h => absurd h (by omega)) (fun _ => rfl) (fun j j0 j1 => by
      have t1 : ¬ (M.1 13 1 0 0 ≤ j) := by omega
      have t2 : ¬ (M.1 14 1 0 0 ≤ j) := by omega
      have t3 : ¬ (M.1 15 1 0 0 ≤ j) := by omega
      exact ⟨by simp [growI_1, growL_1, t1], by simp [growI_2, growL_2, growI_1, t2], by simp [growI_1, growL_1, t3]⟩)
