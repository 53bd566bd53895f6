/-- as G, over a world by its list -/
def GW (κ : Kx) (ws : va_W) (pc : Nat) (lv : List (Option Value)) (st : List Value) (cl sl : Nat) : Prop :=
  ∀ (H : Heap) (locs : List Loc) (ls : Array Slot), va_P (kD κ) vwCl ws H → va_D (kA κ) ws → va_S (kA κ) (ks κ).heap H locs → lv_has ls (kN κ) (lvl 0 lv) →
    W (kp κ) (kl κ) (ke κ) (kR κ) (ks κ) (km κ) (ka κ) (kb κ) (kme κ) (kc κ) H locs cl sl (kQ κ) (F0 (km κ) pc ls st)
section HR
variable {κ : Kx} {cc : ByteArray} {own : String} {rm : Room} {ws : va_W} {nm : List (Nat × Int)} {ad : Ad} {M : Mem} {pc pc' : Nat} {lv : List (Option Value)} {st rest : List Value} {cl sl : Nat}
theorem g_h (k : RM M → GW κ (wl (kC κ) nm ad M) pc lv st cl sl) : G κ nm ad M pc lv st cl sl := k
theorem h_g (hM : RM M) (k : G κ nm ad M pc lv st cl sl) : GW κ (wl (kC κ) nm ad M) pc lv st cl sl := k hM
theorem va_P.sub2 {D : va_G} {cl : List vw_C} {w1 w2 : va_W} {H : Heap} (h : va_P D cl w1 H) (hs : ∀ x ∈ w2, x ∈ w1) : va_P D cl w2 H := fun k q hq => by
  obtain ⟨j, hj⟩ := List.getElem?_of_mem (hs q (List.mem_of_getElem? hq))
  exact h j q hj
theorem va_D.sub2 {A : Nat → Prop} {w1 w2 : va_W} (h : va_D A w1) (hs : ∀ x ∈ w2, x ∈ w1) (hn : ∀ (i j : Nat) (p q : Nat × va_E), w2[i]? = some p → w2[j]? = some q → p.1 = q.1 → i = j) : va_D A w2 := ⟨hn, fun k q hq => by
  obtain ⟨j, hj⟩ := List.getElem?_of_mem (hs q (List.mem_of_getElem? hq))
  exact h.2 j q hj⟩
/-- the last cell takes the place of another, which is forgotten -/
theorem swap_in {q : Nat} {e : Nat × va_E} : ∀ x ∈ ws.set q e, x ∈ ws ++ [e] := fun x hx => (List.mem_or_eq_of_mem_set hx).elim (fun h => List.mem_append_left _ h) (fun h => by rw [h]; simp)
theorem swap_ap {A : Nat → Prop} {q : Nat} {e : Nat × va_E} (h : va_D A (ws ++ [e])) : va_D A (ws.set q e) := by
  refine h.sub2 swap_in (fun i j x y hi hj hxy => ?_)
  have key : ∀ (i : Nat) (x : Nat × va_E), (ws.set q e)[i]? = some x → (i = q ∧ x = e ∧ i < ws.length) ∨ (i ≠ q ∧ ws[i]? = some x) := by
    intro i x hi
    by_cases e1 : i = q
    · subst e1
      have hl : i < ws.length := by have := (List.getElem?_eq_some_iff.mp hi).1; simpa using this
      rw [List.getElem?_set_self hl] at hi
      exact Or.inl ⟨rfl, (Option.some.inj hi).symm, hl⟩
    · rw [List.getElem?_set_ne (fun z => e1 z.symm)] at hi
      exact Or.inr ⟨e1, hi⟩
  have up : ∀ (i : Nat) (x : Nat × va_E), ws[i]? = some x → (ws ++ [e])[i]? = some x ∧ i < ws.length := fun i x hi => by
    have hl := (List.getElem?_eq_some_iff.mp hi).1
    rw [List.getElem?_append_left hl]
    exact ⟨hi, hl⟩
  have la : (ws ++ [e])[ws.length]? = some e := by simp
  rcases key i x hi with ⟨a, b, l⟩ | ⟨a, b⟩ <;> rcases key j y hj with ⟨c, d, l'⟩ | ⟨c, d⟩
  · omega
  · obtain ⟨h1, h2⟩ := up j y d
    have := h.1 _ _ _ _ la h1 (by rw [← b]; exact hxy)
    omega
  · obtain ⟨h1, h2⟩ := up i x b
    have := h.1 _ _ _ _ h1 la (by rw [← d]; exact hxy)
    omega
  · exact h.1 _ _ _ _ (up i x b).1 (up j y d).1 hxy
theorem h_swap {q : Nat} {e : Nat × va_E} (k : GW κ (ws.set q e) pc lv st cl sl) : GW κ (ws ++ [e]) pc lv st cl sl := fun H locs ls hP hD hS hl => k H locs ls (hP.sub2 swap_in) (swap_ap hD) hS hl
theorem h_eq {ws' : va_W} (h : ws = ws') (k : GW κ ws' pc lv st cl sl) : GW κ ws pc lv st cl sl := by rw [h]; exact k
theorem h_of {a : List (Option Value)} (hs : ∀ (k : Nat) (v : Value), a[k]? = some (some v) → lv[k]? = some (some v)) (k : GW κ ws pc a st cl sl) : GW κ ws pc lv st cl sl := by
  intro H locs ls hP hD hS hl
  refine k H locs ls hP hD hS (lvl_sub hl fun q hq => ?_)
  obtain ⟨j, h1, h2⟩ := (lvl_mem _ _ _).mp hq
  exact (lvl_mem _ _ _).mpr ⟨j, hs _ _ h1, h2⟩
theorem h_widen {cl' sl' : Nat} (h1 : cl ≤ cl') (h2 : sl ≤ sl') (k : GW κ ws pc lv st cl' sl') : GW κ ws pc lv st cl sl := fun H locs ls hP hD hS hl => W.widen h1 h2 (k H locs ls hP hD hS hl)
/-- what is apart -/
theorem h_D (k : va_D (kA κ) ws → GW κ ws pc lv st cl sl) : GW κ ws pc lv st cl sl := fun H locs ls hP hD => k hD H locs ls hP hD
theorem h_iconst (X : Cx κ cc own rm) {n : Int} (d : decode cc pc = .ok (.iconst n, 1)) (e : pc + 1 = pc')  (k : GW κ ws pc' lv (.int (iI n) :: st) cl sl) : GW κ ws pc lv st cl sl := by
  subst e; intro H locs ls hP hD hS hl
  exact lv_iconst X.1 X.2.1 d rfl (k H locs ls hP hD hS hl)
theorem h_bipush (X : Cx κ cc own rm) {n : Int} (d : decode cc pc = .ok (.bipush n, 2)) (e : pc + 2 = pc') (hn : (Int8.ofInt n).toInt32 = iI n) (k : GW κ ws pc' lv (.int (iI n) :: st) cl sl) : GW κ ws pc lv st cl sl := by
  subst e; intro H locs ls hP hD hS hl
  exact lv_bipush X.1 X.2.1 d hn (k H locs ls hP hD hS hl)
theorem h_sipush (X : Cx κ cc own rm) {n : Int} (d : decode cc pc = .ok (.sipush n, 3)) (e : pc + 3 = pc') (hn : (Int16.ofInt n).toInt32 = iI n) (k : GW κ ws pc' lv (.int (iI n) :: st) cl sl) : GW κ ws pc lv st cl sl := by
  subst e; intro H locs ls hP hD hS hl
  exact lv_sipush X.1 X.2.1 d hn (k H locs ls hP hD hS hl)
theorem h_ldc (X : Cx κ cc own rm) {ix : Nat} {n : Int} (d : decode cc pc = .ok (.ldc ix, 2)) (e : pc + 2 = pc') (hc : Cond.constant own ix (iI n) ∈ Tb) (k : GW κ ws pc' lv (.int (iI n) :: st) cl sl) : GW κ ws pc lv st cl sl := by
  subst e; intro H locs ls hP hD hS hl
  exact lv_ldc X.1 X.2.1 X.2.2.2.1 (X.2.2.2.2.1 _ hc) d (k H locs ls hP hD hS hl)
theorem h_lconst (X : Cx κ cc own rm) {n : Fin 2} {v : Int64} (d : decode cc pc = .ok (.lconst n, 1)) (e : pc + 1 = pc') (hv : Int64.ofNat (n : Nat) = v) (k : GW κ ws pc' lv (.long v :: st) cl sl) : GW κ ws pc lv st cl sl := by
  subst e; intro H locs ls hP hD hS hl
  exact lv_lconst X.1 X.2.1 d hv (k H locs ls hP hD hS hl)
theorem h_iload_n (X : Cx κ cc own rm) {j : Fin 4} {x : Int32} (d : decode cc pc = .ok (.iload_n j, 1)) (e : pc + 1 = pc') (h : lv[(j : Nat)]? = some (some (.int x))) (k : GW κ ws pc' lv (.int x :: st) cl sl) : GW κ ws pc lv st cl sl := by
  subst e; intro H locs ls hP hD hS hl
  exact lv_iload_n X.1 X.2.1 d rfl (lvl_at hl h) (k H locs ls hP hD hS hl)
theorem h_iload (X : Cx κ cc own rm) {j : Nat} {x : Int32} (d : decode cc pc = .ok (.iload j, 2)) (e : pc + 2 = pc') (h : lv[j]? = some (some (.int x))) (k : GW κ ws pc' lv (.int x :: st) cl sl) : GW κ ws pc lv st cl sl := by
  subst e; intro H locs ls hP hD hS hl
  exact lv_iload X.1 X.2.1 d (lvl_at hl h) (k H locs ls hP hD hS hl)
theorem h_lload_n (X : Cx κ cc own rm) {j : Fin 4} {x : Int64} (d : decode cc pc = .ok (.lload_n j, 1)) (e : pc + 1 = pc') (h : lv[(j : Nat)]? = some (some (.long x))) (k : GW κ ws pc' lv (.long x :: st) cl sl) : GW κ ws pc lv st cl sl := by
  subst e; intro H locs ls hP hD hS hl
  exact lv_lload_n X.1 X.2.1 d rfl (lvl_at hl h) (k H locs ls hP hD hS hl)
theorem h_lload (X : Cx κ cc own rm) {j : Nat} {x : Int64} (d : decode cc pc = .ok (.lload j, 2)) (e : pc + 2 = pc') (h : lv[j]? = some (some (.long x))) (k : GW κ ws pc' lv (.long x :: st) cl sl) : GW κ ws pc lv st cl sl := by
  subst e; intro H locs ls hP hD hS hl
  exact lv_lload X.1 X.2.1 d (lvl_at hl h) (k H locs ls hP hD hS hl)
theorem h_aload_n (X : Cx κ cc own rm) {j : Fin 4} {x : Nat} (d : decode cc pc = .ok (.aload_n j, 1)) (e : pc + 1 = pc') (h : lv[(j : Nat)]? = some (some (.ref x))) (k : GW κ ws pc' lv (.ref x :: st) cl sl) : GW κ ws pc lv st cl sl := by
  subst e; intro H locs ls hP hD hS hl
  exact lv_aload_n X.1 X.2.1 d rfl (lvl_at hl h) (k H locs ls hP hD hS hl)
theorem h_aload (X : Cx κ cc own rm) {j : Nat} {x : Nat} (d : decode cc pc = .ok (.aload j, 2)) (e : pc + 2 = pc') (h : lv[j]? = some (some (.ref x))) (k : GW κ ws pc' lv (.ref x :: st) cl sl) : GW κ ws pc lv st cl sl := by
  subst e; intro H locs ls hP hD hS hl
  exact lv_aload X.1 X.2.1 d (lvl_at hl h) (k H locs ls hP hD hS hl)
theorem h_istore_n (X : Cx κ cc own rm) {j : Fin 4} {x : Int32} (d : decode cc pc = .ok (.istore_n j, 1)) (e : pc + 1 = pc') (hn : (j : Nat) < kN κ) (hc : ∀ i, i + 1 = (j : Nat) → ∀ u, lv[i]? = some (some u) → c1 (some u) = true) (k : GW κ ws pc' (lv.set (j : Nat) (some (.int x))) st cl sl) : GW κ ws pc lv (.int x :: st) cl sl := by
  subst e; intro H locs ls hP hD hS hl
  exact lv_istore_n X.1 X.2.1 d rfl hl hn rfl (fun ls1 h1 => k H locs ls1 hP hD hS (lvl_st1 h1 hc))
theorem h_istore (X : Cx κ cc own rm) {j : Nat} {x : Int32} (d : decode cc pc = .ok (.istore j, 2)) (e : pc + 2 = pc') (hn : j < kN κ) (hc : ∀ i, i + 1 = j → ∀ u, lv[i]? = some (some u) → c1 (some u) = true) (k : GW κ ws pc' (lv.set j (some (.int x))) st cl sl) : GW κ ws pc lv (.int x :: st) cl sl := by
  subst e; intro H locs ls hP hD hS hl
  exact lv_istore X.1 X.2.1 d hl hn rfl (fun ls1 h1 => k H locs ls1 hP hD hS (lvl_st1 h1 hc))
theorem h_astore_n (X : Cx κ cc own rm) {j : Fin 4} {x : Nat} (d : decode cc pc = .ok (.astore_n j, 1)) (e : pc + 1 = pc') (hn : (j : Nat) < kN κ) (hc : ∀ i, i + 1 = (j : Nat) → ∀ u, lv[i]? = some (some u) → c1 (some u) = true) (k : GW κ ws pc' (lv.set (j : Nat) (some (.ref x))) st cl sl) : GW κ ws pc lv (.ref x :: st) cl sl := by
  subst e; intro H locs ls hP hD hS hl
  exact lv_astore_n X.1 X.2.1 d rfl hl hn rfl (fun ls1 h1 => k H locs ls1 hP hD hS (lvl_st1 h1 hc))
theorem h_astore (X : Cx κ cc own rm) {j : Nat} {x : Nat} (d : decode cc pc = .ok (.astore j, 2)) (e : pc + 2 = pc') (hn : j < kN κ) (hc : ∀ i, i + 1 = j → ∀ u, lv[i]? = some (some u) → c1 (some u) = true) (k : GW κ ws pc' (lv.set j (some (.ref x))) st cl sl) : GW κ ws pc lv (.ref x :: st) cl sl := by
  subst e; intro H locs ls hP hD hS hl
  exact lv_astore X.1 X.2.1 d hl hn rfl (fun ls1 h1 => k H locs ls1 hP hD hS (lvl_st1 h1 hc))
theorem h_iinc (X : Cx κ cc own rm) {j : Nat} {n x : Int} (d : decode cc pc = .ok (.iinc j n, 3)) (e : pc + 3 = pc') (hn : j < kN κ) (h : lv[j]? = some (some (.int (iI x)))) (hc : ∀ i, i + 1 = j → ∀ u, lv[i]? = some (some u) → c1 (some u) = true) (k : GW κ ws pc' (lv.set j (some (.int (iI (x + n))))) st cl sl) : GW κ ws pc lv st cl sl := by
  subst e; intro H locs ls hP hD hS hl
  obtain ⟨q, hq⟩ := List.getElem?_of_mem ((lvl_mem lv 0 (j, .int (iI x))).mpr ⟨j, h, (Nat.zero_add j).symm⟩)
  exact lv_iinc X.1 X.2.1 d hl hq (show iI x + Int32.ofInt n = iI (x + n) from iI_add x n) hn rfl (fun ls1 h1 => k H locs ls1 hP hD hS (lvl_st1 h1 hc))
theorem h_dup (X : Cx κ cc own rm) {v : Value} (d : decode cc pc = .ok (.dup, 1)) (e : pc + 1 = pc') (hv : v.category = 1) (k : GW κ ws pc' lv (v :: v :: st) cl sl) : GW κ ws pc lv (v :: st) cl sl := by
  subst e; intro H locs ls hP hD hS hl
  exact lv_dup X.1 X.2.1 d hv (k H locs ls hP hD hS hl)
theorem h_pop (X : Cx κ cc own rm) {v : Value} (d : decode cc pc = .ok (.pop, 1)) (e : pc + 1 = pc') (hv : v.category = 1) (k : GW κ ws pc' lv st cl sl) : GW κ ws pc lv (v :: st) cl sl := by
  subst e; intro H locs ls hP hD hS hl
  exact lv_pop X.1 X.2.1 d hv (k H locs ls hP hD hS hl)
theorem h_goto (X : Cx κ cc own rm) {off : Int} (d : decode cc pc = .ok (.goto off, 3)) (e : (pc : Int) + off = (pc' : Int)) (k : GW κ ws pc' lv st cl sl) : GW κ ws pc lv st cl sl := by
  intro H locs ls hP hD hS hl
  exact lv_goto X.1 X.2.1 d e (k H locs ls hP hD hS hl)
theorem h_icmp_ne (X : Cx κ cc own rm) {off : Int} {tgt : Nat} {a b : Int} (d : decode cc pc = .ok (.if_icmp .ne off, 3)) (et : (pc : Int) + off = (tgt : Int)) (e : pc + 3 = pc')  (ra : rng a) (rb : rng b) (kt : a ≠ b → GW κ ws tgt lv st cl sl) (kf : a = b → GW κ ws pc' lv st cl sl) : GW κ ws pc lv (.int (iI b) :: .int (iI a) :: st) cl sl := by
  subst e; intro H locs ls hP hD hS hl
  exact lv_icmp_ne X.1 X.2.1 d et (fun h => kt (fun q => h ((iI_eq ra rb).mpr q)) H locs ls hP hD hS hl) (fun h => kf ((iI_eq ra rb).mp h) H locs ls hP hD hS hl)
theorem h_icmp_lt (X : Cx κ cc own rm) {off : Int} {tgt : Nat} {a b : Int} (d : decode cc pc = .ok (.if_icmp .lt off, 3)) (et : (pc : Int) + off = (tgt : Int)) (e : pc + 3 = pc')  (ra : rng a) (rb : rng b) (kt : a < b → GW κ ws tgt lv st cl sl) (kf : b ≤ a → GW κ ws pc' lv st cl sl) : GW κ ws pc lv (.int (iI b) :: .int (iI a) :: st) cl sl := by
  subst e; intro H locs ls hP hD hS hl
  exact lv_icmp_lt X.1 X.2.1 d et (fun h => kt ((iI_lt ra rb).mp h) H locs ls hP hD hS hl) (fun h => kf (Int.not_lt.mp fun q => h ((iI_lt ra rb).mpr q)) H locs ls hP hD hS hl)
theorem h_icmp_ge (X : Cx κ cc own rm) {off : Int} {tgt : Nat} {a b : Int} (d : decode cc pc = .ok (.if_icmp .ge off, 3)) (et : (pc : Int) + off = (tgt : Int)) (e : pc + 3 = pc')  (ra : rng a) (rb : rng b) (kt : b ≤ a → GW κ ws tgt lv st cl sl) (kf : a < b → GW κ ws pc' lv st cl sl) : GW κ ws pc lv (.int (iI b) :: .int (iI a) :: st) cl sl := by
  subst e; intro H locs ls hP hD hS hl
  exact lv_icmp_ge X.1 X.2.1 d et (fun h => kt ((iI_le rb ra).mp h) H locs ls hP hD hS hl) (fun h => kf (Int.not_le.mp fun q => h ((iI_le rb ra).mpr q)) H locs ls hP hD hS hl)
theorem h_mmin (X : Cx κ cc own rm) {ix : Nat} {a b : Int} (hw : Cond.static Lib.Math.min.name ∈ Tb ∧ Cond.initialized "java/lang/Math" ∈ Tb ∧ Cond.code Lib.Math.min.name Lib.Math.min.code 2 (some .int) ∈ Tb) (hlk : Cond.methodLink own ix Lib.Math.min.name ∈ Tb) (d : decode cc pc = .ok (.invokestatic ix, 3)) (e : pc + 3 = pc') (hr : 1 ≤ rm.frames ∧ cl ≤ rm.cells ∧ sl ≤ rm.slots) (hr2 : (rest.map fun v => v.category).sum + 13 ≤ rm.locals) (ra : rng a) (rb : rng b) (k : GW κ ws pc' lv (.int (iI (if b < a then b else a)) :: rest) cl sl) : GW κ ws pc lv (.int (iI b) :: .int (iI a) :: rest) cl sl := by
  subst e; intro H locs ls hP hD hS hl
  refine va_mmin X.1 X.2.1 (X.2.2.1.trans hl.1.symm) X.2.2.2.1 (X.2.2.2.2.1 _ hlk) (X.2.2.2.2.1 _ hw.1) (X.2.2.2.2.1 _ hw.2.1) (X.2.2.2.2.1 _ hw.2.2) (by rw [X.2.2.2.2.2.2.2.1]; exact hr.1) (by rw [X.2.2.2.2.2.2.2.1]; exact hr2) (by rw [X.2.2.2.2.2.2.2.1]; exact hr.2.1) (by rw [X.2.2.2.2.2.2.2.1]; exact hr.2.2) d ?_
  rw [iI_min ra rb]
  exact k H locs ls hP hD hS hl
theorem h_alen (X : Cx κ cc own rm) {q0 a n t0 : Nat} {cA : ClassId} {f : (Nat → Int32) ⊕ (Nat → Int64) ⊕ (Nat → UInt32) ⊕ (Nat → UInt64) ⊕ (Nat → Option Nat)} {ty : FieldType} (h : ws[q0]? = some (a, .inl (cA, n, f))) (ht : (tysO (kC κ))[t0]? = some (cA, ty)) (d : decode cc pc = .ok (.arraylength, 1)) (e : pc + 1 = pc') (k : GW κ ws pc' lv (.int (iI (n : Int)) :: st) cl sl) : GW κ ws pc lv (.ref a :: st) cl sl := by
  subst e; intro H locs ls hP hD hS hl
  exact va_alen X.1 X.2.1 X.2.2.2.2.2.1 hP q0 t0 h ht (v := iI (n : Int)) Int32.ofInt_eq_ofNat.symm d (k H locs ls hP hD hS hl)
theorem h_get (X : Cx κ cc own rm) {q0 a ci N f ix : Nat} {C : String} {T : u_T} {ty : Nat → FieldType} {fs : List Value} {v : Value} (c : CI ci C T N ty) (h : ws[q0]? = some (a, .inr (ci, fs))) (hk : f < N) (hlk : Cond.fieldLink own ix (T f).1 (T f).2.1 (T f).2.2.1 ∈ Tb) (hv : fs[f]? = some v) (d : decode cc pc = .ok (.getfield ix, 3)) (e : pc + 3 = pc') (k : GW κ ws pc' lv (v :: st) cl sl) : GW κ ws pc lv (.ref a :: st) cl sl := by
  subst e; intro H locs ls hP hD hS hl
  exact va_get X.1 X.2.1 X.2.2.2.2.1 c.2.1 X.2.2.2.1 X.2.2.2.2.2.1 hP q0 h c.1 f hk (X.2.2.2.2.1 _ hlk) (fun _ h => h) hv d (k H locs ls hP hD hS hl)
theorem h_put (X : Cx κ cc own rm) {q0 a ci N f ix : Nat} {C : String} {T : u_T} {ty : Nat → FieldType} {fs : List Value} {v : Value} (c : CI ci C T N ty) (h : ws[q0]? = some (a, .inr (ci, fs))) (hk : f < N) (hfin : (T f).2.2.2 = false) (hnr : narrow (ty f) v = v) (hft : fits (ty f) v = true) (hlen : f < fs.length) (hlk : Cond.fieldLink own ix (T f).1 (T f).2.1 (T f).2.2.1 ∈ Tb) (d : decode cc pc = .ok (.putfield ix, 3)) (e : pc + 3 = pc') (k : GW κ (ws.set q0 (a, .inr (ci, fs.set f v))) pc' lv st cl sl) : GW κ ws pc lv (v :: .ref a :: st) cl sl := by
  subst e; intro H locs ls hP hD hS hl
  exact va_put X.1 X.2.1 X.2.2.2.2.1 c.2.1 ty c.2.2.1 c.2.2.2 X.2.2.2.1 X.2.2.2.2.2.1 hP hD hS q0 h c.1 f hk (X.2.2.2.2.1 _ hlk) (fun _ h => h) hfin (c.2.2.1 f hk) hnr hft hlen d (fun H1 locs1 hP1 hD1 hS1 => k H1 locs1 ls hP1 hD1 hS1 hl)
theorem h_putF (X : Cx κ cc own rm) {q0 a ci N f ix : Nat} {C : String} {T : u_T} {ty : Nat → FieldType} {fs : List Value} {v : Value} (c : CI ci C T N ty) (h : ws[q0]? = some (a, .inr (ci, fs))) (hk : f < N) (hfin : (T f).2.2.2 = true) (hini : (kme κ).name = "<init>") (hown : (T f).1 = own) (hnr : narrow (ty f) v = v) (hft : fits (ty f) v = true) (hlen : f < fs.length) (hlk : Cond.fieldLink own ix (T f).1 (T f).2.1 (T f).2.2.1 ∈ Tb) (d : decode cc pc = .ok (.putfield ix, 3)) (e : pc + 3 = pc') (k : GW κ (ws.set q0 (a, .inr (ci, fs.set f v))) pc' lv st cl sl) : GW κ ws pc lv (v :: .ref a :: st) cl sl := by
  subst e; intro H locs ls hP hD hS hl
  exact va_putF X.1 X.2.1 X.2.2.2.2.1 c.2.1 ty c.2.2.1 c.2.2.2 X.2.2.2.1 X.2.2.2.2.2.1 hP hD hS q0 h c.1 f hk (X.2.2.2.2.1 _ hlk) (fun _ h => h) hfin hini hown (c.2.2.1 f hk) hnr hft hlen d (fun H1 locs1 hP1 hD1 hS1 => k H1 locs1 ls hP1 hD1 hS1 hl)
theorem cA_of (X : Cx κ cc own rm) {cA : ClassId} {ty : FieldType} {t0 t1 : Nat} {c0 : ClassId} {tys' : List (ClassId × FieldType)} (h0 : (tysO (kC κ))[t0]? = some (c0, ty)) (hK : va_K (kD κ) vwCl tys' (ks κ)) (h1 : tys'[t1]? = some (cA, ty)) (hp : ∀ u : State, ∀ c, va_RA u c ty → u.vm.findClass ("[" ++ ty.toString) = some c) : cA = c0 :=
  Option.some.inj ((hp _ _ (hK.2 t1 _ h1).2).symm.trans (hp _ _ (X.2.2.2.2.2.1.2 t0 _ h0).2))
theorem h_newa (X : Cx κ cc own rm) {atype : ArrayType} {t0 N' : Nat} {z : Int} {c0 : ClassId} {a0 : vp_A} (harr : Cond.arrayClass (newarray.typeOf atype) ∈ Tb) (h0 : (tysO (kC κ))[t0]? = some (c0, newarray.typeOf atype)) (hp : ∀ (u : State) (c : ClassId), va_RA u c (newarray.typeOf atype) → u.vm.findClass ("[" ++ (newarray.typeOf atype).toString) = some c) (ha : ∀ cA : ClassId, vp_cell cA a0 = arrV cA N' (fun _ => defaultValue (newarray.typeOf atype))) (hz : z = N') (hN : N' ≤ 1000000) (hb : componentBytes (newarray.typeOf atype) ≤ 8) (hr : cl + 1 ≤ rm.cells ∧ sl + N' ≤ rm.slots) (d : decode cc pc = .ok (.newarray atype, 2)) (e : pc + 2 = pc') (k : ∀ q : Nat, GW κ (ws ++ [(q, .inl (c0, a0))]) pc' lv (.ref q :: st) (cl + 1) (sl + N')) : GW κ ws pc lv (.int (iI z) :: st) cl sl := by
  subst e; intro H locs ls hP hD hS hl
  have hcl : (iI z).toNatClampNeg = N' := by rw [iI_cl (by omega) (by omega)]; omega
  have hnn : ¬ iI z < 0 := fun h => by
    have := (iI_lt (a := z) (b := 0) ⟨by omega, by omega⟩ (by decide)).mp h
    omega
  have hb2 : N' * componentBytes (newarray.typeOf atype) ≤ 536870912 := Nat.le_trans (Nat.mul_le_mul hN hb) (by decide)
  refine va_newa X.1 X.2.1 (X.2.2.2.2.1 _ harr) rfl X.2.2.2.2.2.1 hP hD hS X.2.2.2.2.2.2.1 ha hnn hcl hb2 (by rw [X.2.2.2.2.2.2.2.1]; exact hr.1) (by rw [X.2.2.2.2.2.2.2.1]; exact hr.2) d (fun q cA H1 hK1 hP1 hD1 hS1 => ?_)
  have ec : cA = c0 := cA_of X h0 hK1 (t1 := (tysO (kC κ)).length) (by rw [List.getElem?_append_right (Nat.le_refl _)]; simp) hp
  subst ec
  exact k q H1 locs ls hP1 hD1 hS1 hl
theorem h_copy (X : Cx κ cc own rm) {ix q0 q1 t0 t1 a0 a1 n0 n1 : Nat} {c0 c1 : ClassId} {f g : Nat → Int32} {ty : FieldType} {z : Int} (hlk : Cond.methodLink own ix arraycopyName ∈ Tb) (hp0 : ws[q0]? = some (a0, .inl (c0, n0, .inl f))) (hp1 : ws[q1]? = some (a1, .inl (c1, n1, .inl g))) (ht0 : (tysO (kC κ))[t0]? = some (c0, ty)) (ht1 : (tysO (kC κ))[t1]? = some (c1, ty)) (hprim : refKind ty = false) (hft : ∀ v : Int32, fits ty (.int v) = true) (z0 : 0 ≤ z) (z1 : z ≤ n0) (z2 : z ≤ n1) (hz : z ≤ 1000000) (hr : 1 ≤ rm.frames) (hr2 : (rest.map fun v => v.category).sum + (nativeFrameWords "java/lang/System" "arraycopy" 5 + 11) ≤ rm.locals) (d : decode cc pc = .ok (.invokestatic ix, 3)) (e : pc + 3 = pc') (k : GW κ (ws.set q1 (a1, .inl (c1, n1, .inl (fun j => if j < z.toNat then f j else g j)))) pc' lv rest cl sl) : GW κ ws pc lv (.int (iI z) :: .int (iI 0) :: .ref a1 :: .int (iI 0) :: .ref a0 :: rest) cl sl := by
  subst e; intro H locs ls hP hD hS hl
  have hcl : (iI z).toNatClampNeg = z.toNat := iI_cl z0 (by omega)
  have hnn : ¬ iI z < 0 := fun h => by
    have := (iI_lt (a := z) (b := 0) ⟨by omega, by omega⟩ (by decide)).mp h
    omega
  have hc0 : (iI 0).toNatClampNeg = 0 := by decide
  refine va_copyi X.1 X.2.1 (X.2.2.1.trans hl.1.symm) X.2.2.2.1 (X.2.2.2.2.1 _ hlk) (X.2.2.2.2.1 _ nat_ac) (X.2.2.2.2.1 _ st_ac) (X.2.2.2.2.1 _ ini_Sys) X.2.2.2.2.2.1 hP hD hS q0 q1 t0 t1 hp0 hp1 ht0 ht1 hprim (by decide) (by decide) hnn (by rw [hcl, hc0]; omega) (by rw [hcl, hc0]; omega) (fun i _ => hft _) (by rw [X.2.2.2.2.2.2.2.1]; exact hr) (by rw [X.2.2.2.2.2.2.2.1]; exact hr2) d (fun H1 locs1 hP1 hD1 hS1 => ?_)
  have ef : va_cpy f g (iI 0).toNatClampNeg (iI 0).toNatClampNeg (iI z).toNatClampNeg = (fun j => if j < z.toNat then f j else g j) := by
    funext j
    rw [hc0, hcl]
    unfold va_cpy
    simp
  rw [ef] at hP1 hD1
  exact k H1 locs1 ls hP1 hD1 hS1 hl
theorem h_copyL (X : Cx κ cc own rm) {ix q0 q1 t0 t1 a0 a1 n0 n1 : Nat} {c0 c1 : ClassId} {f g : Nat → Int64} {ty : FieldType} {z : Int} (hlk : Cond.methodLink own ix arraycopyName ∈ Tb) (hp0 : ws[q0]? = some (a0, .inl (c0, n0, .inr (.inl f)))) (hp1 : ws[q1]? = some (a1, .inl (c1, n1, .inr (.inl g)))) (ht0 : (tysO (kC κ))[t0]? = some (c0, ty)) (ht1 : (tysO (kC κ))[t1]? = some (c1, ty)) (hprim : refKind ty = false) (hft : ∀ v : Int64, fits ty (.long v) = true) (z0 : 0 ≤ z) (z1 : z ≤ n0) (z2 : z ≤ n1) (hz : z ≤ 1000000) (hr : 1 ≤ rm.frames) (hr2 : (rest.map fun v => v.category).sum + (nativeFrameWords "java/lang/System" "arraycopy" 5 + 11) ≤ rm.locals) (d : decode cc pc = .ok (.invokestatic ix, 3)) (e : pc + 3 = pc') (k : GW κ (ws.set q1 (a1, .inl (c1, n1, .inr (.inl (fun j => if j < z.toNat then f j else g j))))) pc' lv rest cl sl) : GW κ ws pc lv (.int (iI z) :: .int (iI 0) :: .ref a1 :: .int (iI 0) :: .ref a0 :: rest) cl sl := by
  subst e; intro H locs ls hP hD hS hl
  have hcl : (iI z).toNatClampNeg = z.toNat := iI_cl z0 (by omega)
  have hnn : ¬ iI z < 0 := fun h => by
    have := (iI_lt (a := z) (b := 0) ⟨by omega, by omega⟩ (by decide)).mp h
    omega
  have hc0 : (iI 0).toNatClampNeg = 0 := by decide
  refine va_copyl X.1 X.2.1 (X.2.2.1.trans hl.1.symm) X.2.2.2.1 (X.2.2.2.2.1 _ hlk) (X.2.2.2.2.1 _ nat_ac) (X.2.2.2.2.1 _ st_ac) (X.2.2.2.2.1 _ ini_Sys) X.2.2.2.2.2.1 hP hD hS q0 q1 t0 t1 hp0 hp1 ht0 ht1 hprim (by decide) (by decide) hnn (by rw [hcl, hc0]; omega) (by rw [hcl, hc0]; omega) (fun i _ => hft _) (by rw [X.2.2.2.2.2.2.2.1]; exact hr) (by rw [X.2.2.2.2.2.2.2.1]; exact hr2) d (fun H1 locs1 hP1 hD1 hS1 => ?_)
  have ef : va_cpy f g (iI 0).toNatClampNeg (iI 0).toNatClampNeg (iI z).toNatClampNeg = (fun j => if j < z.toNat then f j else g j) := by
    funext j
    rw [hc0, hcl]
    unfold va_cpy
    simp
  rw [ef] at hP1 hD1
  exact k H1 locs1 ls hP1 hD1 hS1 hl
end HR
/-! contracts over worlds by their lists -/
def PreW (δ : Dx) (ws : va_W) (U : State) : Prop := (∀ q, U.heap.size ≤ q → δ.2.2.2 q) ∧ va_K δ.2.1 vwCl (tysO δ.2.2.1) U ∧ Zz δ.2.2.2 U ∧ va_P δ.2.1 vwCl ws U.heap ∧ va_D δ.2.2.2 ws
def QcW (δ : Dx) (post : Option Value → va_W → Prop) (st : State) (o : Outcome) (t : State) : Prop := (∃ (v : Option Value) (ws' : va_W), o = .returned v ∧ post v ws' ∧ va_P δ.2.1 vwCl ws' t.heap ∧ va_D δ.2.2.2 ws') ∧ va_F δ.2.2.2 st t
def CtW (δ : Dx) (d : Md) (mc ms : Nat) (ws : va_W) (av : List Value) (post : Option Value → va_W → Prop) : Prop :=
  δ.1.stackTraces = false → Met δ.1 d.1 (mcode d :: Tb) { frames := d.2.2.2.2.1, cells := mc, slots := ms, locals := d.2.2.2.2.2 } (va_Pc av (PreW δ ws)) (fun _ st o t => QcW δ post st o t) mc ms δ.2.2.2
theorem PreW_blind {δ : Dx} {ws : va_W} {av : List Value} : FrameBlind (va_Pc av (PreW δ ws)) := fun a U g mk q => ⟨q.1, q.2.1, va_K.moved (u := U) (U := U.calling g mk a) (Vm.Alike.refl U.vm) q.2.2.1, Zz.on (s := U) (U := U.calling g mk a) (H := U.heap) (locs := []) q.2.2.2.1 va_S.rf rfl (State.WarmedH.refl U), q.2.2.2.2⟩
def RtW (κ : Kx) (cc : ByteArray) (post : Option Value → va_W → Prop) (mc ms : Nat) (ins : Instr) (ok : Option Value → Prop) : Prop := ∀ (v : Option Value) (ws' : va_W) (pc : Nat) (lv : List (Option Value)), decode cc pc = .ok (ins, 1) → ok v → post v ws' → GW κ ws' pc lv v.toList mc ms
theorem CtW_of {δ : Dx} {d : Md} {mc ms : Nat} {ws : va_W} {av : List Value} {post : Option Value → va_W → Prop} {ins : Instr} {ok : Option Value → Prop} (lv0 : List (Option Value)) (hy : plainName d.1.cls = true) (hlv : lvl 0 lv0 = lv_args 0 av) (hle : (lg_sl av).length ≤ d.2.2.1)
    (hend : ∀ (κ : Kx) (s : State), ks κ = s → Cx κ d.2.1 d.1.cls { frames := d.2.2.2.2.1, cells := mc, slots := ms, locals := d.2.2.2.2.2 } → (kme κ).sig.returnType = d.2.2.2.1 → kQ κ = MQ (kb κ) (fun _ st o t => QcW δ post st o t) (ka κ) s mc ms δ.2.2.2 → kδ κ = δ → RtW κ d.2.1 post mc ms ins ok)
    (body : ∀ κ : Kx, Cx κ d.2.1 d.1.cls { frames := d.2.2.2.2.1, cells := mc, slots := ms, locals := d.2.2.2.2.2 } → kN κ = d.2.2.1 → kδ κ = δ → (kme κ).name = d.1.name → RtW κ d.2.1 post mc ms ins ok → GW κ ws 0 lv0 [] 0 0) : CtW δ d mc ms ws av post := by
  intro hfl
  refine Met.ofW (cc := d.2.1) (maxL := d.2.2.1) (ret := d.2.2.2.1) hy rfl ?_
  intro p e s m args below meth c s₁ B hml hv
  obtain ⟨rfl, hA, hK, hZ, hP, hD⟩ := hv
  have hts := atoms_spec (ws := mcode d :: Tb) B.pre
  have hl := lv_entry av (n := d.2.2.1) hle
  rw [lg_entry_eq]
  generalize (lg_sl av ++ List.replicate (d.2.2.1 - (lg_sl av).length) Slot.unset).toArray = ls at hl ⊢
  rw [← hlv] at hl
  obtain ⟨l, D, c0, A⟩ := δ
  have X : Cx ((p, l, e, (headSpec (mcode d :: Tb) { frames := d.2.2.2.2.1, cells := mc, slots := ms, locals := d.2.2.2.2.2 }).room, s, m), (av.toArray, below, meth, c, MQ below (fun _ st o t => QcW (l, D, c0, A) post st o t) av.toArray s mc ms A), (D, c0, A, d.2.2.1)) d.2.1 d.1.cls { frames := d.2.2.2.2.1, cells := mc, slots := ms, locals := d.2.2.2.2.2 } :=
    ⟨B.exec, B.bytes, hml, findClass_of_methodNamed B.named, fun w hw => hts w (List.mem_cons_of_mem _ hw), hK, hA, rfl, hfl, B.notSynchronized, hZ⟩
  exact body _ X rfl rfl (name_of_methodNamed B.named B.method).1 (hend _ s rfl X B.returns rfl rfl) s.heap [] ls hP hD va_S.rf hl
section ENDSW
variable {δ : Dx} {d : Md} {mc ms : Nat} {post : Option Value → va_W → Prop} {κ : Kx} {s : State} {rm : Room}
theorem endWN (hr0 : d.2.2.2.1 = none) (hs : ks κ = s) (X : Cx κ d.2.1 d.1.cls rm) (hr : (kme κ).sig.returnType = d.2.2.2.1) (hQ : kQ κ = MQ (kb κ) (fun _ st o t => QcW δ post st o t) (ka κ) s mc ms δ.2.2.2) (hδ : kδ κ = δ) : RtW κ d.2.1 post mc ms .return_ okN := by
  subst hs; subst hδ
  rintro v ws' pc lv dd rfl hp H locs ls hP hD hS hl
  rw [hQ]
  exact W.vret X.1 X.2.1 (hr.trans hr0) (fun t ht _ => ⟨⟨none, ws', rfl, hp, by rw [ht]; exact hP, hD⟩, hS.F ht⟩) hS.2.2 dd X.2.2.2.2.2.2.2.2.2.1
theorem endWA {rt : FieldType} (hr0 : d.2.2.2.1 = some rt) (hrt : (∃ n, rt = .object n) ∨ ∃ t, rt = .array t) (hs : ks κ = s) (X : Cx κ d.2.1 d.1.cls rm) (hr : (kme κ).sig.returnType = d.2.2.2.1) (hQ : kQ κ = MQ (kb κ) (fun _ st o t => QcW δ post st o t) (ka κ) s mc ms δ.2.2.2) (hδ : kδ κ = δ) : RtW κ d.2.1 post mc ms .areturn okA := by
  subst hs; subst hδ
  rintro v ws' pc lv dd ⟨x, rfl⟩ hp H locs ls hP hD hS hl
  rw [hQ]
  exact W.aret (v := .ref x) X.1 X.2.1 (hr.trans hr0) hrt (Or.inr ⟨x, rfl⟩) (fun t ht _ => ⟨⟨some (.ref x), ws', rfl, hp, by rw [ht]; exact hP, hD⟩, hS.F ht⟩) hS.2.2 dd X.2.2.2.2.2.2.2.2.2.1
end ENDSW
section HC
variable {κ : Kx} {cc : ByteArray} {own : String} {rm : Room} {ws : va_W} {pc pc' : Nat} {lv : List (Option Value)} {st rest : List Value} {cl sl : Nat}
theorem GW_run {mc ms : Nat} {Qa : State → Outcome → State → Prop} {post : Option Value → va_W → Prop} (hQ : ∀ st0 v t, Qa st0 (.returned v) t → QcW (kδ κ) post st0 (.returned v) t)
    (hr : ∀ (H : Heap) (locs : List Loc) (ls : Array Slot), va_P (kD κ) vwCl ws H → va_D (kA κ) ws → va_S (kA κ) (ks κ).heap H locs → lv_has ls (kN κ) (lvl 0 lv) → va_Run (kp κ) (kl κ) (ke κ) (kR κ) (ks κ) (km κ) (ka κ) (kb κ) (kme κ) (kc κ) H locs cl sl mc ms (F0 (km κ) pc ls st) rest Qa (kA κ))
    (kk : ∀ v ws', post v ws' → GW κ ws' (pc + 3) lv (v.toList ++ rest) (cl + mc) (sl + ms)) : GW κ ws pc lv st cl sl := by
  intro H locs ls hP hD hS hl T hT Xs
  obtain ⟨v, st₀, t, T', L, h0, X', hL, e1, e2, hq, hgo⟩ := hr H locs ls hP hD hS hl T hT Xs
  obtain ⟨⟨v2, ws', hv, hp, hP1, hD1⟩, hz, hk⟩ := hQ _ _ _ hq
  cases hv
  rw [h0] at hz hk
  have hS1 : va_S (kA κ) (ks κ).heap T'.heap (locs ++ L) := ⟨Nat.le_trans hS.1 (by rw [e1]; exact hz), fun q h1 h2 => by rw [e1, hk q (Nat.lt_of_lt_of_le h1 hS.1) h2]; exact hS.2.1 q h1 h2, fun q hq => by
      rcases List.mem_append.mp hq with h | h
      · exact hS.2.2 q h
      · exact hL q h⟩
  obtain ⟨t2, a1, b1⟩ := kk v ws' hp T'.heap (locs ++ L) ls (by rw [e1]; exact hP1) hD1 hS1 hl T' rfl X'
  exact ⟨t2, hgo t2 a1, b1⟩
theorem PreW_on (X : Cx κ cc own rm) {H : Heap} {locs : List Loc} (hP : va_P (kD κ) vwCl ws H) (hD : va_D (kA κ) ws) (hS : va_S (kA κ) (ks κ).heap H locs) : ∀ U : State, U.heap = H → (ks κ).WarmedH U.vm → PreW (kδ κ) ws U := fun U hU hW =>
  ⟨fun q hq => X.2.2.2.2.2.2.1 q (Nat.le_trans hS.1 (by rw [← hU]; exact hq)), va_K.moved hW.alike X.2.2.2.2.2.1, Zz.on X.2.2.2.2.2.2.2.2.2.2 hS hU hW, by rw [hU]; exact hP, hD⟩
theorem h_invS (X : Cx κ cc own rm) {d : Md} {n ix mc ms : Nat} {As : List Value} {post : Option Value → va_W → Prop} (w : WS d n) (hlk : Cond.methodLink own ix d.1 ∈ Tb) (hr : Rmo rm d mc ms cl sl) (dd : decode cc pc = .ok (.invokestatic ix, 3)) (e : pc + 3 = pc') (hst : st = As.reverse ++ rest) (hln : As.length = n) (hcat : (rest.map fun v => v.category).sum ≤ 8) (hC : CtW (kδ κ) d mc ms ws As post)
    (kk : ∀ v ws', post v ws' → GW κ ws' pc' lv (v.toList ++ rest) (cl + mc) (sl + ms)) : GW κ ws pc lv st cl sl := by
  subst e
  refine GW_run (fun _ _ _ h => h) (fun H locs ls hP hD hS hl => ?_) kk
  exact va_runS (fix_ X) (hC X.2.2.2.2.2.2.2.2.1) (cw_S X w hlk hr) ⟨PreW_blind, fun U hU hW => ⟨rfl, PreW_on X hP hD hS U hU hW⟩⟩ rfl hln hl.1 hst (lv_room hcat) dd (by rw [X.2.2.2.2.2.2.2.1]; exact hr.2)
theorem h_invI (X : Cx κ cc own rm) {d : Md} {n ix b mc ms : Nat} {As : List Value} {post : Option Value → va_W → Prop} (w : WI d n) (hlk : Cond.methodLink own ix d.1 ∈ Tb) (hr : Rmo rm d mc ms cl sl) (dd : decode cc pc = .ok (.invokespecial ix, 3)) (e : pc + 3 = pc') (hst : st = As.reverse ++ .ref b :: rest) (hln : As.length = n) (hcat : (rest.map fun v => v.category).sum ≤ 8) (hC : CtW (kδ κ) d mc ms ws (.ref b :: As) post)
    (kk : ∀ v ws', post v ws' → GW κ ws' pc' lv (v.toList ++ rest) (cl + mc) (sl + ms)) : GW κ ws pc lv st cl sl := by
  subst e
  refine GW_run (fun _ _ _ h => h) (fun H locs ls hP hD hS hl => ?_) kk
  exact va_runI (fix_ X) (hC X.2.2.2.2.2.2.2.2.1) (cw_I X w hlk hr) ⟨PreW_blind, fun U hU hW => ⟨rfl, PreW_on X hP hD hS U hU hW⟩⟩ rfl hln hl.1 hst (lv_room hcat) dd (by rw [X.2.2.2.2.2.2.2.1]; exact hr.2)
end HC
set_option maxRecDepth 100000 in
set_option maxHeartbeats 4000000 in
/-- Arrays.copyOf to another length that is no smaller -/
theorem c_J7_copyOf_59c91 {δ : Dx} {ws : va_W} {q0 a n : Nat} {z : Int} {f : Nat → Int32} (h : ws[q0]? = some (a, .inl (δ.2.2.1 0, n, .inl f))) (hz : (n : Int) < z) (hz2 : z ≤ 100000) : CtW δ md_J7_copyOf_59c91 1 z.toNat ws [.ref a, .int (iI z)] (fun v ws' => ∃ b, v = some (.ref b) ∧ ws' = ws ++ [(b, .inl (δ.2.2.1 0, z.toNat, .inl (fun j => if j < n then f j else 0)))]) := by
  refine CtW_of (ins := .areturn) (ok := okA) [some (.ref a), some (.int (iI z)), none] (by decide +kernel) rfl (Nat.le_of_ble_eq_true rfl) (fun κ s hs X hr hQ hδ => endWA rfl (Or.inr ⟨_, rfl⟩) hs X hr hQ hδ) (fun κ X hNL hδ hnm Y => ?_)
  have ec : kC κ = δ.2.2.1 := by rw [← hδ]
  rw [← ec] at h
  refine h_iload_n X dJ7_copyOf_59c91_0 rfl rfl ?_
  refine h_aload_n X dJ7_copyOf_59c91_1 rfl rfl ?_
  refine h_alen X h (t0 := 0) rfl dJ7_copyOf_59c91_2 rfl ?_
  refine h_icmp_ne (tgt := 14) X dJ7_copyOf_59c91_3 rfl rfl ⟨by omega, by omega⟩ ⟨by omega, by omega⟩ (fun _ => ?_) (fun hh => absurd hh (by omega))
  refine h_iload_n X dJ7_copyOf_59c91_14 rfl rfl ?_
  refine h_newa X (atype := .int) (t0 := 0) (N' := z.toNat) (a0 := (z.toNat, .inl (fun _ => (0 : Int32)))) ac_int rfl (fun _ _ h => h) (fun cA => rfl) (by omega) (by omega) (by decide) ⟨Nat.le_refl _, by show 0 + z.toNat ≤ z.toNat; omega⟩ dJ7_copyOf_59c91_15 rfl (fun b => ?_)
  have hlt : q0 < ws.length := (List.getElem?_eq_some_iff.mp h).1
  have h' : (ws ++ [(b, .inl (kC κ 0, z.toNat, .inl (fun _ => (0 : Int32))))])[q0]? = some (a, .inl (kC κ 0, n, .inl f)) := by rw [List.getElem?_append_left hlt]; exact h
  have h2 : (ws ++ [(b, .inl (kC κ 0, z.toNat, .inl (fun _ => (0 : Int32))))])[ws.length]? = some (b, .inl (kC κ 0, z.toNat, .inl (fun _ => (0 : Int32)))) := by simp
  refine h_astore_n X dJ7_copyOf_59c91_17 rfl (lt_kN hNL rfl) (fun i hi u hu => by
    have e1 : i = 1 := by simpa using hi
    subst e1
    cases hu; rfl) ?_
  refine h_aload_n X dJ7_copyOf_59c91_18 rfl rfl ?_
  refine h_iconst X dJ7_copyOf_59c91_19 rfl ?_
  refine h_aload_n X dJ7_copyOf_59c91_20 rfl rfl ?_
  refine h_iconst X dJ7_copyOf_59c91_21 rfl ?_
  refine h_aload_n X dJ7_copyOf_59c91_22 rfl rfl ?_
  refine h_alen X h' (t0 := 0) rfl dJ7_copyOf_59c91_23 rfl ?_
  refine h_iload_n X dJ7_copyOf_59c91_24 rfl rfl ?_
  refine h_mmin X wm_min ml_J7_304 dJ7_copyOf_59c91_25 rfl ⟨Nat.le_refl _, Nat.le_refl _, by show 0 + z.toNat ≤ z.toNat; omega⟩ (Nat.le_of_ble_eq_true rfl) ⟨by omega, by omega⟩ ⟨by omega, by omega⟩ ?_
  rw [if_neg (by omega : ¬ z < (n : Int))]
  refine h_copy X ml_J7_150 h' h2 (t0 := 0) (t1 := 0) rfl rfl rfl (fun _ => rfl) (by omega) (by omega) (by omega) (by omega) (Nat.le_refl _) (Nat.le_of_ble_eq_true rfl) dJ7_copyOf_59c91_28 rfl ?_
  refine h_aload_n X dJ7_copyOf_59c91_31 rfl rfl ?_
  have es : (0 + z.toNat) = z.toNat := Nat.zero_add _
  rw [es]
  refine Y (some (.ref b)) _ _ _ dJ7_copyOf_59c91_32 ⟨b, rfl⟩ ⟨b, rfl, ?_⟩
  rw [← ec, List.set_append_right _ _ (Nat.le_refl _), Nat.sub_self]
  have ez : ((n : Int)).toNat = n := Int.toNat_natCast n
  rw [ez]
  rfl
set_option maxRecDepth 100000 in
set_option maxHeartbeats 4000000 in
/-- Arrays.copyOf to another length that is no smaller -/
theorem c_J7_copyOf_c38d5 {δ : Dx} {ws : va_W} {q0 a n : Nat} {z : Int} {f : Nat → Int64} (h : ws[q0]? = some (a, .inl (δ.2.2.1 1, n, .inr (.inl f)))) (hz : (n : Int) < z) (hz2 : z ≤ 100000) : CtW δ md_J7_copyOf_c38d5 1 z.toNat ws [.ref a, .int (iI z)] (fun v ws' => ∃ b, v = some (.ref b) ∧ ws' = ws ++ [(b, .inl (δ.2.2.1 1, z.toNat, .inr (.inl (fun j => if j < n then f j else 0))))]) := by
  refine CtW_of (ins := .areturn) (ok := okA) [some (.ref a), some (.int (iI z)), none] (by decide +kernel) rfl (Nat.le_of_ble_eq_true rfl) (fun κ s hs X hr hQ hδ => endWA rfl (Or.inr ⟨_, rfl⟩) hs X hr hQ hδ) (fun κ X hNL hδ hnm Y => ?_)
  have ec : kC κ = δ.2.2.1 := by rw [← hδ]
  rw [← ec] at h
  refine h_iload_n X dJ7_copyOf_c38d5_0 rfl rfl ?_
  refine h_aload_n X dJ7_copyOf_c38d5_1 rfl rfl ?_
  refine h_alen X h (t0 := 1) rfl dJ7_copyOf_c38d5_2 rfl ?_
  refine h_icmp_ne (tgt := 14) X dJ7_copyOf_c38d5_3 rfl rfl ⟨by omega, by omega⟩ ⟨by omega, by omega⟩ (fun _ => ?_) (fun hh => absurd hh (by omega))
  refine h_iload_n X dJ7_copyOf_c38d5_14 rfl rfl ?_
  refine h_newa X (atype := .long) (t0 := 1) (N' := z.toNat) (a0 := (z.toNat, .inr (.inl (fun _ => (0 : Int64))))) ac_long rfl (fun _ _ h => h) (fun cA => rfl) (by omega) (by omega) (by decide) ⟨Nat.le_refl _, by show 0 + z.toNat ≤ z.toNat; omega⟩ dJ7_copyOf_c38d5_15 rfl (fun b => ?_)
  have hlt : q0 < ws.length := (List.getElem?_eq_some_iff.mp h).1
  have h' : (ws ++ [(b, .inl (kC κ 1, z.toNat, .inr (.inl (fun _ => (0 : Int64)))))])[q0]? = some (a, .inl (kC κ 1, n, .inr (.inl f))) := by rw [List.getElem?_append_left hlt]; exact h
  have h2 : (ws ++ [(b, .inl (kC κ 1, z.toNat, .inr (.inl (fun _ => (0 : Int64)))))])[ws.length]? = some (b, .inl (kC κ 1, z.toNat, .inr (.inl (fun _ => (0 : Int64))))) := by simp
  refine h_astore_n X dJ7_copyOf_c38d5_17 rfl (lt_kN hNL rfl) (fun i hi u hu => by
    have e1 : i = 1 := by simpa using hi
    subst e1
    cases hu; rfl) ?_
  refine h_aload_n X dJ7_copyOf_c38d5_18 rfl rfl ?_
  refine h_iconst X dJ7_copyOf_c38d5_19 rfl ?_
  refine h_aload_n X dJ7_copyOf_c38d5_20 rfl rfl ?_
  refine h_iconst X dJ7_copyOf_c38d5_21 rfl ?_
  refine h_aload_n X dJ7_copyOf_c38d5_22 rfl rfl ?_
  refine h_alen X h' (t0 := 1) rfl dJ7_copyOf_c38d5_23 rfl ?_
  refine h_iload_n X dJ7_copyOf_c38d5_24 rfl rfl ?_
  refine h_mmin X wm_min ml_J7_304 dJ7_copyOf_c38d5_25 rfl ⟨Nat.le_refl _, Nat.le_refl _, by show 0 + z.toNat ≤ z.toNat; omega⟩ (Nat.le_of_ble_eq_true rfl) ⟨by omega, by omega⟩ ⟨by omega, by omega⟩ ?_
  rw [if_neg (by omega : ¬ z < (n : Int))]
  refine h_copyL X ml_J7_150 h' h2 (t0 := 1) (t1 := 1) rfl rfl rfl (fun _ => rfl) (by omega) (by omega) (by omega) (by omega) (Nat.le_refl _) (Nat.le_of_ble_eq_true rfl) dJ7_copyOf_c38d5_28 rfl ?_
  refine h_aload_n X dJ7_copyOf_c38d5_31 rfl rfl ?_
  have es : (0 + z.toNat) = z.toNat := Nat.zero_add _
  rw [es]
  refine Y (some (.ref b)) _ _ _ dJ7_copyOf_c38d5_32 ⟨b, rfl⟩ ⟨b, rfl, ?_⟩
  rw [← ec, List.set_append_right _ _ (Nat.le_refl _), Nat.sub_self]
  have ez : ((n : Int)).toNat = n := Int.toNat_natCast n
  rw [ez]
  rfl
