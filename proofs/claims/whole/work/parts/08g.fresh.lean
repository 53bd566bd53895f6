theorem h_new {κ : Kx} {cc : ByteArray} {own : String} {rm : Room} {ws : va_W} {pc pc' : Nat} {lv : List (Option Value)} {st : List Value} {cl sl : Nat} (X : Cx κ cc own rm) {ci N ix : Nat} {C : String} {T : u_T} {ty : Nat → FieldType} {fs : List Value} (c : CI ci C T N ty) (hcl : Cond.classLink own ix C ∈ Tb) (hinst : Cond.instantiable C N ∈ Tb) (hini : Cond.initialized C ∈ Tb) (hfs : ∀ j, j < N → defaultValue (ty j) = vp_V fs j) (hr : cl + 1 ≤ rm.cells ∧ sl + N ≤ rm.slots) (d : decode cc pc = .ok (.new ix, 3)) (e : pc + 3 = pc') (k : ∀ q : Nat, GW κ (ws ++ [(q, .inr (ci, fs))]) pc' lv (.ref q :: st) (cl + 1) (sl + N)) : GW κ ws pc lv st cl sl := by
  subst e; intro H locs ls hP hD hS hl
  exact va_new X.1 X.2.1 X.2.2.2.2.1 c.2.1 ty c.2.2.1 X.2.2.2.1 (X.2.2.2.2.1 _ hcl) (X.2.2.2.2.1 _ hinst) (X.2.2.2.2.1 _ hini) X.2.2.2.2.2.1 hP hD hS X.2.2.2.2.2.2.1 c.1 hfs (by rw [X.2.2.2.2.2.2.2.1]; exact hr.1) (by rw [X.2.2.2.2.2.2.2.1]; exact hr.2) d (fun q H1 hP1 hD1 hS1 => k q H1 locs ls hP1 hD1 hS1 hl)
theorem wl_push {c : Nat → ClassId} {nm : List (Nat × Int)} {ad ad' : Ad} {M M' : Mem} {n : Nat × Int} {x : Nat × va_E} (hx : (ad' n.1 n.2, ent c ad' M' n.1 n.2) = x) (ho : ∀ z ∈ nm, ad' z.1 z.2 = ad z.1 z.2 ∧ ent c ad' M' z.1 z.2 = ent c ad M z.1 z.2) : wl c nm ad M ++ [x] = wl c (nm ++ [n]) ad' M' := by
  unfold wl
  rw [List.map_append, ← hx]
  congr 1
  exact List.map_congr_left (fun z hz => by rw [(ho z hz).1, (ho z hz).2])
theorem ent_adU95 {c : Nat → ClassId} {ad : Ad} {M : Mem} {k0 b k : Nat} {i : Int} (hk : k0 = 95 ∨ k0 = 96) : ent c (adU ad k0 b) M k i = ent c ad M k i := by
  rcases hk with h | h <;> subst h <;> unfold ent entK <;> split <;> first | rfl | simp [adU]
theorem g_less {κ : Kx} {nm l : List (Nat × Int)} {ad : Ad} {M : Mem} {pc : Nat} {lv : List (Option Value)} {st : List Value} {cl sl : Nat} (k : G κ nm ad M pc lv st cl sl) : G κ (nm ++ l) ad M pc lv st cl sl := by
  intro hM H locs ls hP hD hS hl
  have e : wl (kC κ) (nm ++ l) ad M = wl (kC κ) nm ad M ++ wl (kC κ) l ad M := by unfold wl; rw [List.map_append]
  rw [e] at hP hD
  refine k hM H locs ls (hP.sub2 (fun x hx => List.mem_append_left _ hx)) ⟨fun i j p q hi hj hpq => ?_, fun i q hi => ?_⟩ hS hl
  · exact hD.1 i j p q (by rw [List.getElem?_append_left (List.getElem?_eq_some_iff.mp hi).1]; exact hi) (by rw [List.getElem?_append_left (List.getElem?_eq_some_iff.mp hj).1]; exact hj) hpq
  · exact hD.2 i q (by rw [List.getElem?_append_left (List.getElem?_eq_some_iff.mp hi).1]; exact hi)
/-- names but those of mendings -/
def NmM (nm : List (Nat × Int)) : Prop := ∀ z ∈ nm, z.1 ≠ 95 ∧ z.1 ≠ 96
theorem g_new95 {κ : Kx} {cc : ByteArray} {rm : Room} {nm : List (Nat × Int)} {ad : Ad} {M : Mem} {pc pc' : Nat} {lv : List (Option Value)} {st : List Value} {cl sl : Nat} (X : Cx κ cc RX11 rm) (hm : NmM nm) (hr : cl + 1 ≤ rm.cells ∧ sl + 1 ≤ rm.slots) (d : decode cc pc = .ok (.new 254, 3)) (e : pc + 3 = pc') (k : ∀ q : Nat, G κ (nm ++ [(95, 0)]) (adU ad 95 q) (setI M 95 0 0 0 0) pc' lv (.ref (adU ad 95 q 95 0) :: st) (cl + 1) (sl + 1)) : G κ nm ad M pc lv st cl sl := by
  refine g_h (fun hM => h_new X ci1 (fs := [.int (iI 0)]) kl_X11_254 it_X1 ini_X1 (fun j hj => by
    have e1 : j = 0 := by omega
    subst e1
    rfl) hr d e (fun q => ?_))
  refine h_eq (wl_push (n := (95, 0)) (ad' := adU ad 95 q) (M' := setI M 95 0 0 0 0) ?_ (fun z hz => ⟨?_, ?_⟩)) (h_g (RM_setI hM (by decide)) ?_)
  · show (adU ad 95 q 95 0, ent _ _ _ 95 0) = _
    rw [en95]
    simp [adU, setI_1]
  · show (if _ then q else _) = _
    rw [if_neg (fun y => (hm z hz).1 y.1)]
  · rw [ent_adU95 (Or.inl rfl)]
    exact ent_setI_ne z.1 z.2 (fun y => (hm z hz).1 (congrArg Prod.fst y))
  · have := k q
    have eq : adU ad 95 q 95 0 = q := by simp [adU]
    rw [eq] at this
    exact this
theorem g_new96 {κ : Kx} {cc : ByteArray} {rm : Room} {nm : List (Nat × Int)} {ad : Ad} {M : Mem} {pc pc' : Nat} {lv : List (Option Value)} {st : List Value} {cl sl : Nat} (X : Cx κ cc RX11 rm) (hm : NmM nm) (hr : cl + 1 ≤ rm.cells ∧ sl + 0 ≤ rm.slots) (d : decode cc pc = .ok (.new 267, 3)) (e : pc + 3 = pc') (k : ∀ q : Nat, G κ (nm ++ [(96, 0)]) (adU ad 96 q) M pc' lv (.ref (adU ad 96 q 96 0) :: st) (cl + 1) (sl + 0)) : G κ nm ad M pc lv st cl sl := by
  refine g_h (fun hM => h_new X ci4 (fs := []) kl_X11_267 it_X4 ini_X4 (fun j hj => absurd hj (by omega)) hr d e (fun q => ?_))
  refine h_eq (wl_push (n := (96, 0)) (ad' := adU ad 96 q) (M' := M) ?_ (fun z hz => ⟨?_, ?_⟩)) (h_g hM ?_)
  · show (adU ad 96 q 96 0, ent _ _ _ 96 0) = _
    rw [en96]
    simp [adU]
  · show (if _ then q else _) = _
    rw [if_neg (fun y => (hm z hz).2 y.1)]
  · exact ent_adU95 (Or.inr rfl)
  · have := k q
    have eq : adU ad 96 q 96 0 = q := by simp [adU]
    rw [eq] at this
    exact this
