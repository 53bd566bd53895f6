/-- the memory at the start -/
def mem0 (k f : Nat) : Int := if k = 0 ∧ f = 2 then 2000 else if k = 0 ∧ f = 3 then 40 else if k = 10 ∧ f = 1 then 4 else if (k = 13 ∨ k = 14 ∨ k = 15) ∧ f = 1 then 120 else if k = 40 ∧ f = 11 then 40 else if k = 40 ∧ f = 12 then 2000 else if k = 40 ∧ f = 40 then 4 else 0
def Mem0 : Mem := (fun k f _ _ => mem0 k f, fun _ _ _ _ => 0)
theorem RM0 : RM Mem0 := by
  intro k f i j
  show rng (mem0 k f)
  unfold mem0
  repeat' split
  all_goals decide
theorem wsl_get {ws l : va_W} {j : Nat} {x : Nat × va_E} (h : l[j]? = some x) : (ws ++ l)[ws.length + j]? = some x := by rw [List.getElem?_append_right (Nat.le_add_right _ _), Nat.add_sub_cancel_left]; exact h
theorem wsl_set {ws l : va_W} {j : Nat} {x : Nat × va_E} : (ws ++ l).set (ws.length + j) x = ws ++ l.set j x := by rw [List.set_append_right _ _ (Nat.le_add_right _ _), Nat.add_sub_cancel_left]
/-- the names of n objects, each with its arrays -/
def nms (ks : List Nat) (n : Nat) : List (Nat × Int) := (List.range n).flatMap (fun i : Nat => ks.map (fun k => (k, (i : Int))))
theorem nms_s (ks : List Nat) (n : Nat) : nms ks (n + 1) = nms ks n ++ ks.map (fun k => (k, (n : Int))) := by
  unfold nms
  rw [List.range_succ, List.flatMap_append]
  simp
theorem mem_nms {ks : List Nat} {n : Nat} {k : Nat} {i : Int} : (k, i) ∈ nms ks n ↔ k ∈ ks ∧ 0 ≤ i ∧ i < n := by
  unfold nms
  simp only [List.mem_flatMap, List.mem_range, List.mem_map, Prod.mk.injEq]
  constructor
  · rintro ⟨a, ha, k', hk, rfl, rfl⟩
    exact ⟨hk, by omega, by omega⟩
  · rintro ⟨hk, h0, h1⟩
    exact ⟨i.toNat, by omega, k, hk, rfl, by omega⟩
/-- which kinds' addresses a cell names -/
def refK : Nat → List Nat
  | 0 => [1, 2, 5, 6, 10]
  | 1 => [16]
  | 2 => [3]
  | 3 => [4]
  | 5 => [22]
  | 6 => [7, 8, 9]
  | 10 => [11, 12]
  | 11 => [31]
  | 12 => [13, 14, 15]
  | 16 => [17, 18, 19, 20, 21]
  | 22 => [23, 24, 25, 26, 27, 28, 29, 30]
  | 40 => [41, 42, 43, 44, 45, 46, 47, 48, 49, 50, 51, 52, 53, 54, 55, 56, 57, 58, 59, 60, 61, 62, 63, 64, 65, 66, 67, 68, 69, 70, 71, 72, 73, 74, 75, 76, 77, 78, 79]
  | _ => []
def refKs : List Nat := [0, 1, 2, 3, 5, 6, 10, 11, 12, 16, 22, 40]
theorem ent_cg {c : Nat → ClassId} {ad ad' : Ad} {M : Mem} {k : Nat} {i : Int} (h : ∀ k' ∈ refK k, ∀ j, ad' k' j = ad k' j) : ent c ad' M k i = ent c ad M k i := by
  by_cases hk : k ∈ refKs
  · simp only [refKs, List.mem_cons, List.not_mem_nil, or_false] at hk
    rcases hk with hk | hk | hk | hk | hk | hk | hk | hk | hk | hk | hk | hk
    · rw [hk] at h ⊢
      rw [en0, en0, h 1 (by decide), h 2 (by decide), h 5 (by decide), h 6 (by decide), h 10 (by decide)]
    · rw [hk, en1, en1]
      have e : ∀ j, ad' 16 j = ad 16 j := (hk ▸ h) 16 (by decide)
      simp only [e]
    · rw [hk] at h ⊢
      rw [en2, en2, h 3 (by decide)]
    · rw [hk, en3, en3]
      have e : ∀ j, ad' 4 j = ad 4 j := (hk ▸ h) 4 (by decide)
      simp only [e]
    · rw [hk, en5, en5]
      have e : ∀ j, ad' 22 j = ad 22 j := (hk ▸ h) 22 (by decide)
      simp only [e]
    · rw [hk] at h ⊢
      rw [en6, en6, h 7 (by decide), h 8 (by decide), h 9 (by decide)]
    · rw [hk] at h ⊢
      rw [en10, en10, h 11 (by decide), h 12 (by decide)]
    · rw [hk, en11, en11]
      have e : ∀ j, ad' 31 j = ad 31 j := (hk ▸ h) 31 (by decide)
      simp only [e]
    · rw [hk] at h ⊢
      rw [en12, en12, h 13 (by decide), h 14 (by decide), h 15 (by decide)]
    · rw [hk] at h ⊢
      rw [en16, en16, h 17 (by decide), h 18 (by decide), h 19 (by decide), h 20 (by decide), h 21 (by decide)]
    · rw [hk] at h ⊢
      rw [en22, en22, h 23 (by decide), h 24 (by decide), h 25 (by decide), h 26 (by decide), h 27 (by decide), h 28 (by decide), h 29 (by decide), h 30 (by decide)]
    · rw [hk] at h ⊢
      rw [en40, en40, h 41 (by decide), h 42 (by decide), h 43 (by decide), h 44 (by decide), h 45 (by decide), h 46 (by decide), h 47 (by decide), h 48 (by decide), h 49 (by decide), h 50 (by decide), h 51 (by decide), h 52 (by decide), h 53 (by decide), h 54 (by decide), h 55 (by decide), h 56 (by decide), h 57 (by decide), h 58 (by decide), h 59 (by decide), h 60 (by decide), h 61 (by decide), h 62 (by decide), h 63 (by decide), h 64 (by decide), h 65 (by decide), h 66 (by decide), h 67 (by decide), h 68 (by decide), h 69 (by decide), h 70 (by decide), h 71 (by decide), h 72 (by decide), h 73 (by decide), h 74 (by decide), h 75 (by decide), h 76 (by decide), h 77 (by decide), h 78 (by decide), h 79 (by decide)]
  · unfold ent entK
    split <;> first | rfl | exact absurd (by decide) hk
theorem ent_ci {c : Nat → ClassId} {ad ad' : Ad} {M : Mem} {k : Nat} {i : Int} (hn : k ∉ ([1, 3, 5, 11] : List Nat)) (h : ∀ k' ∈ refK k, ad' k' i = ad k' i) : ent c ad' M k i = ent c ad M k i := by
  by_cases hk : k ∈ refKs
  · simp only [refKs, List.mem_cons, List.not_mem_nil, or_false] at hk
    rcases hk with hk | hk | hk | hk | hk | hk | hk | hk | hk | hk | hk | hk
    · rw [hk] at h ⊢
      rw [en0, en0, h 1 (by decide), h 2 (by decide), h 5 (by decide), h 6 (by decide), h 10 (by decide)]
    · exact absurd (by rw [hk]; decide) hn
    · rw [hk] at h ⊢
      rw [en2, en2, h 3 (by decide)]
    · exact absurd (by rw [hk]; decide) hn
    · exact absurd (by rw [hk]; decide) hn
    · rw [hk] at h ⊢
      rw [en6, en6, h 7 (by decide), h 8 (by decide), h 9 (by decide)]
    · rw [hk] at h ⊢
      rw [en10, en10, h 11 (by decide), h 12 (by decide)]
    · exact absurd (by rw [hk]; decide) hn
    · rw [hk] at h ⊢
      rw [en12, en12, h 13 (by decide), h 14 (by decide), h 15 (by decide)]
    · rw [hk] at h ⊢
      rw [en16, en16, h 17 (by decide), h 18 (by decide), h 19 (by decide), h 20 (by decide), h 21 (by decide)]
    · rw [hk] at h ⊢
      rw [en22, en22, h 23 (by decide), h 24 (by decide), h 25 (by decide), h 26 (by decide), h 27 (by decide), h 28 (by decide), h 29 (by decide), h 30 (by decide)]
    · rw [hk] at h ⊢
      rw [en40, en40, h 41 (by decide), h 42 (by decide), h 43 (by decide), h 44 (by decide), h 45 (by decide), h 46 (by decide), h 47 (by decide), h 48 (by decide), h 49 (by decide), h 50 (by decide), h 51 (by decide), h 52 (by decide), h 53 (by decide), h 54 (by decide), h 55 (by decide), h 56 (by decide), h 57 (by decide), h 58 (by decide), h 59 (by decide), h 60 (by decide), h 61 (by decide), h 62 (by decide), h 63 (by decide), h 64 (by decide), h 65 (by decide), h 66 (by decide), h 67 (by decide), h 68 (by decide), h 69 (by decide), h 70 (by decide), h 71 (by decide), h 72 (by decide), h 73 (by decide), h 74 (by decide), h 75 (by decide), h 76 (by decide), h 77 (by decide), h 78 (by decide), h 79 (by decide)]
  · unfold ent entK
    split <;> first | rfl | exact absurd (by decide) hk
theorem wl_cg {c : Nat → ClassId} {ad ad' : Ad} {M : Mem} {nm : List (Nat × Int)} (h : ∀ z ∈ nm, ad' z.1 z.2 = ad z.1 z.2 ∧ ∀ k' ∈ refK z.1, ∀ j, ad' k' j = ad k' j) : wl c nm ad M = wl c nm ad' M := by
  unfold wl
  exact List.map_congr_left (fun z hz => by rw [(h z hz).1, ent_cg (h z hz).2])
theorem wl_app (c : Nat → ClassId) (A B : List (Nat × Int)) (ad : Ad) (M : Mem) : wl c (A ++ B) ad M = wl c A ad M ++ wl c B ad M := by unfold wl; exact List.map_append
/-- the addresses of the i-th object and its arrays -/
def adN (ad : Ad) (i : Nat) (b : Nat → Nat) : Ad := fun k j => if j = (i : Int) then b k else ad k j
theorem adN_e (ad : Ad) (i : Nat) (b : Nat → Nat) (k : Nat) : adN ad i b k (i : Int) = b k := if_pos rfl
theorem adN_n {ad : Ad} {i : Nat} {b : Nat → Nat} {k : Nat} {j : Int} (h : j < i) : adN ad i b k j = ad k j := if_neg (by omega)
theorem wl_fill {c : Nat → ClassId} {ks : List Nat} (hks : ∀ k ∈ ks, k ∉ ([1, 3, 5, 11] : List Nat)) (i : Nat) (ad : Ad) (b : Nat → Nat) : wl c (nms ks (i + 1)) (adN ad i b) Mem0 = wl c (nms ks i) ad Mem0 ++ wl c (ks.map (fun k => (k, (i : Int)))) (fun k _ => b k) Mem0 := by
  rw [nms_s, wl_app]
  congr 1
  · unfold wl
    refine List.map_congr_left (fun z hz => ?_)
    obtain ⟨k, j⟩ := z
    have hm := mem_nms.mp hz
    show (adN ad i b k j, ent c (adN ad i b) Mem0 k j) = (ad k j, ent c ad Mem0 k j)
    rw [adN_n hm.2.2, ent_ci (hks k hm.1) (fun k' _ => adN_n hm.2.2)]
  · unfold wl
    refine List.map_congr_left (fun z hz => ?_)
    obtain ⟨k, hk, rfl⟩ := List.mem_map.mp hz
    show (adN ad i b k i, ent c (adN ad i b) Mem0 k i) = (b k, ent c (fun k _ => b k) Mem0 k i)
    rw [adN_e, ent_ci (ad := fun k _ => b k) (hks k hk) (fun k' _ => adN_e ad i b k')]
theorem fe_fill (k0 i : Nat) (ad : Ad) (b : Nat → Nat) : va_up (fun j : Nat => if j < i then some (ad k0 (j : Int)) else none) ((i : Int)).toNat (some (b k0)) = (fun j : Nat => if j < i + 1 then some (adN ad i b k0 (j : Int)) else none) := by
  funext j
  unfold va_up
  rw [Int.toNat_natCast]
  dsimp only
  by_cases h : j = i
  · rw [if_pos h, if_pos (by omega), h, adN_e]
  · rw [if_neg h]
    by_cases h2 : j < i
    · rw [if_pos h2, if_pos (by omega), adN_n (by omega)]
    · rw [if_neg h2, if_neg (by omega)]
section HP
variable {κ : Kx} {cc : ByteArray} {own : String} {rm : Room} {ws l : va_W} {pc pc' : Nat} {lv : List (Option Value)} {st rest : List Value} {cl sl : Nat}
theorem hp_put (X : Cx κ cc own rm) {j a ci N f ix : Nat} {C : String} {T : u_T} {ty : Nat → FieldType} {fs : List Value} {v : Value} (c : CI ci C T N ty) (h : l[j]? = some (a, .inr (ci, fs))) (hk : f < N) (hfin : (T f).2.2.2 = false) (hnr : narrow (ty f) v = v) (hft : fits (ty f) v = true) (hlen : f < fs.length) (hlk : Cond.fieldLink own ix (T f).1 (T f).2.1 (T f).2.2.1 ∈ Tb) (d : decode cc pc = .ok (.putfield ix, 3)) (e : pc + 3 = pc') (k : GW κ (ws ++ l.set j (a, .inr (ci, fs.set f v))) pc' lv st cl sl) : GW κ (ws ++ l) pc lv (v :: .ref a :: st) cl sl :=
  h_put X c (wsl_get h) hk hfin hnr hft hlen hlk d e (h_eq wsl_set k)
theorem hp_putF (X : Cx κ cc own rm) {j a ci N f ix : Nat} {C : String} {T : u_T} {ty : Nat → FieldType} {fs : List Value} {v : Value} (c : CI ci C T N ty) (h : l[j]? = some (a, .inr (ci, fs))) (hk : f < N) (hfin : (T f).2.2.2 = true) (hini : (kme κ).name = "<init>") (hown : (T f).1 = own) (hnr : narrow (ty f) v = v) (hft : fits (ty f) v = true) (hlen : f < fs.length) (hlk : Cond.fieldLink own ix (T f).1 (T f).2.1 (T f).2.2.1 ∈ Tb) (d : decode cc pc = .ok (.putfield ix, 3)) (e : pc + 3 = pc') (k : GW κ (ws ++ l.set j (a, .inr (ci, fs.set f v))) pc' lv st cl sl) : GW κ (ws ++ l) pc lv (v :: .ref a :: st) cl sl :=
  h_putF X c (wsl_get h) hk hfin hini hown hnr hft hlen hlk d e (h_eq wsl_set k)
theorem hp_get (X : Cx κ cc own rm) {j a ci N f ix : Nat} {C : String} {T : u_T} {ty : Nat → FieldType} {fs : List Value} {v : Value} (c : CI ci C T N ty) (h : l[j]? = some (a, .inr (ci, fs))) (hk : f < N) (hlk : Cond.fieldLink own ix (T f).1 (T f).2.1 (T f).2.2.1 ∈ Tb) (hv : fs[f]? = some v) (d : decode cc pc = .ok (.getfield ix, 3)) (e : pc + 3 = pc') (k : GW κ (ws ++ l) pc' lv (v :: st) cl sl) : GW κ (ws ++ l) pc lv (.ref a :: st) cl sl :=
  h_get X c (wsl_get h) hk hlk hv d e k
theorem hp_new (X : Cx κ cc own rm) {ci N ix : Nat} {C : String} {T : u_T} {ty : Nat → FieldType} {fs : List Value} (c : CI ci C T N ty) (hcl : Cond.classLink own ix C ∈ Tb) (hinst : Cond.instantiable C N ∈ Tb) (hini : Cond.initialized C ∈ Tb) (hfs : ∀ j, j < N → defaultValue (ty j) = vp_V fs j) (hr : cl + 1 ≤ rm.cells ∧ sl + N ≤ rm.slots) (d : decode cc pc = .ok (.new ix, 3)) (e : pc + 3 = pc') (k : ∀ q : Nat, GW κ ((ws ++ l) ++ [(q, .inr (ci, fs))]) pc' lv (.ref q :: st) (cl + 1) (sl + N)) : GW κ (ws ++ l) pc lv st cl sl :=
  h_new X c hcl hinst hini hfs hr d e k
theorem hp_newa (X : Cx κ cc own rm) {atype : ArrayType} {t0 N' : Nat} {z : Int} {c0 : ClassId} {a0 : vp_A} (harr : Cond.arrayClass (newarray.typeOf atype) ∈ Tb) (h0 : (tysO (kC κ))[t0]? = some (c0, newarray.typeOf atype)) (hp : ∀ (u : State) (c : ClassId), va_RA u c (newarray.typeOf atype) → u.vm.findClass ("[" ++ (newarray.typeOf atype).toString) = some c) (ha : ∀ cA : ClassId, vp_cell cA a0 = arrV cA N' (fun _ => defaultValue (newarray.typeOf atype))) (hz : z = N') (hN : N' ≤ 1000000) (hb : componentBytes (newarray.typeOf atype) ≤ 8) (hr : cl + 1 ≤ rm.cells ∧ sl + N' ≤ rm.slots) (d : decode cc pc = .ok (.newarray atype, 2)) (e : pc + 2 = pc') (k : ∀ q : Nat, GW κ (ws ++ (l ++ [(q, .inl (c0, a0))])) pc' lv (.ref q :: st) (cl + 1) (sl + N')) : GW κ (ws ++ l) pc lv (.int (iI z) :: st) cl sl :=
  h_newa X harr h0 hp ha hz hN hb hr d e (fun q => h_eq (List.append_assoc _ _ _) (k q))
theorem h_oi (X : Cx κ cc own rm) {ix a : Nat} (hlk : Cond.methodLink own ix Lib.objectInit ∈ Tb) (dd : decode cc pc = .ok (.invokespecial ix, 3)) (e : pc + 3 = pc') (hr : 1 ≤ rm.frames ∧ (rest.map fun v => v.category).sum + 12 ≤ rm.locals) (k : GW κ ws pc' lv rest cl sl) : GW κ ws pc lv (.ref a :: rest) cl sl := by
  subst e; intro H locs ls hP hD hS hl
  exact W.objInit X.1 X.2.1 X.2.2.2.1 (X.2.2.2.2.1 _ hlk) (X.2.2.2.2.1 _ oi_in) (X.2.2.2.2.1 _ oi_code) rfl (hl.1.trans X.2.2.1.symm) rfl dd (by rw [X.2.2.2.2.2.2.2.1]; exact hr.1) (by rw [X.2.2.2.2.2.2.2.1]; show 2 * 0 + _ + 12 ≤ _; have := hr.2; omega) (k H locs ls hP hD hS hl)
theorem h_invIN (X : Cx κ cc own rm) {d : Md} {n ix b mc ms : Nat} {host : String} {As : List Value} {post : Option Value → va_W → Prop} (w : WI d n) (hlk : Cond.methodLinkNest own ix d.1 host ∈ lw_tbl) (hr : Rmo rm d mc ms cl sl) (dd : decode cc pc = .ok (.invokespecial ix, 3)) (e : pc + 3 = pc') (hst : st = As.reverse ++ .ref b :: rest) (hln : As.length = n) (hcat : (rest.map fun v => v.category).sum ≤ 8) (hC : CtW (kδ κ) d mc ms ws (.ref b :: As) post)
    (kk : ∀ v ws', post v ws' → GW κ ws' pc' lv (v.toList ++ rest) (cl + mc) (sl + ms)) : GW κ ws pc lv st cl sl := by
  subst e
  refine GW_run (fun _ _ _ h => h) (fun H locs ls hP hD hS hl => ?_) kk
  exact va_runIN (fix_ X) (hC X.2.2.2.2.2.2.2.2.1) (cw_IN X w hlk hr) ⟨PreW_blind, fun U hU hW => ⟨rfl, PreW_on X hP hD hS U hU hW⟩⟩ rfl hln hl.1 hst (lv_room hcat) dd (by rw [X.2.2.2.2.2.2.2.1]; exact hr.2)
theorem h_newq (X : Cx κ cc own rm) {t0 N' ix : Nat} {z : Int} {c0 : ClassId} {C : String} (hcl : Cond.classLink own ix C ∈ Tb) (hao : Cond.arrayOver (.object C) ∈ lw_tbl) (h0 : (tysO (kC κ))[t0]? = some (c0, .object C)) (hz : z = N') (hN : N' ≤ 1000000) (hr : cl + 1 ≤ rm.cells ∧ sl + N' ≤ rm.slots) (d : decode cc pc = .ok (.anewarray ix, 3)) (e : pc + 3 = pc') (k : ∀ q : Nat, GW κ (ws ++ (l ++ [(q, .inl (c0, N', .inr (.inr (.inr (.inr (fun _ => none))))))])) pc' lv (.ref q :: st) (cl + 1) (sl + N')) : GW κ (ws ++ l) pc lv (.int (iI z) :: st) cl sl := by
  subst e; intro H locs ls hP hD hS hl
  have hcl0 : (iI z).toNatClampNeg = N' := by rw [iI_cl (by omega) (by omega)]; omega
  have hnn : ¬ iI z < 0 := fun h => by
    have := (iI_lt (a := z) (b := 0) ⟨by omega, by omega⟩ (by decide)).mp h
    omega
  refine va_newq X.1 X.2.1 X.2.2.2.1 (X.2.2.2.2.1 _ hcl) (X.2.2.2.2.2.2.2.2.2.2.2.2.2.2.2.2.2.2.2.1 C hao) X.2.2.2.2.2.1 hP hD hS X.2.2.2.2.2.2.1 hnn hcl0 (by omega) (by rw [X.2.2.2.2.2.2.2.1]; exact hr.1) (by rw [X.2.2.2.2.2.2.2.1]; exact hr.2) d (fun q cA H1 hK1 hP1 hD1 hS1 => ?_)
  have ec : cA = c0 := cA_of X h0 hK1 (t1 := (tysO (kC κ)).length) (by rw [List.getElem?_append_right (Nat.le_refl _)]; simp) (fun u c h => by obtain ⟨_, _, _, _, _, h4⟩ := h; exact h4)
  subst ec
  rw [List.append_assoc] at hP1 hD1
  exact k q H1 locs ls hP1 hD1 hS1 hl
theorem h_aast (X : Cx κ cc own rm) {q0 t0 qk ci a n v : Nat} {z : Int} {cA : ClassId} {r : vw_C} {vs : List Value} {f : Nat → Option Nat} (ha : ws[q0]? = some (a, .inl (cA, n, .inr (.inr (.inr (.inr f)))))) (ht : (tysO (kC κ))[t0]? = some (cA, .object r.1)) (hv : ws[qk]? = some (v, .inr (ci, vs))) (hc : vwCl[ci]? = some r) (h0 : 0 ≤ z) (h1 : z < (n : Int)) (h2 : n ≤ 2147483647) (d : decode cc pc = .ok (.aastore, 1)) (e : pc + 1 = pc') (k : GW κ (ws.set q0 (a, .inl (cA, n, .inr (.inr (.inr (.inr (va_up f z.toNat (some v)))))))) pc' lv st cl sl) : GW κ ws pc lv (.ref v :: .int (iI z) :: .ref a :: st) cl sl := by
  subst e; intro H locs ls hP hD hS hl
  refine va_astq X.1 X.2.1 X.2.2.2.2.2.1 hP hD hS q0 t0 qk ci ha ht hv hc (iI_in h0 h1 h2) d (fun H1 locs1 hP1 hD1 hS1 => ?_)
  rw [iI_cl h0 (by omega)] at hP1 hD1
  exact k H1 locs1 ls hP1 hD1 hS1 hl
/-- a cell told by another word -/
theorem h_cell {A Z : va_W} {a : Nat} {e e' : va_E} (he : ∀ (D : va_G) (cl : List vw_C) (H : Heap), va_at D cl (a, e) H → va_at D cl (a, e') H) (k : GW κ (A ++ (a, e') :: Z) pc lv st cl sl) : GW κ (A ++ (a, e) :: Z) pc lv st cl sl := by
  intro H locs ls hP hD hS hl
  have hg : ∀ (i : Nat) (x : Nat × va_E), (A ++ (a, e') :: Z)[i]? = some x → (x = (a, e') ∧ (A ++ (a, e) :: Z)[i]? = some (a, e)) ∨ (A ++ (a, e) :: Z)[i]? = some x := by
    intro i x hx
    rcases Nat.lt_trichotomy i A.length with h | h | h
    · rw [List.getElem?_append_left h] at hx ⊢; exact Or.inr hx
    · subst h
      rw [List.getElem?_append_right (Nat.le_refl _), Nat.sub_self] at hx ⊢
      exact Or.inl ⟨(Option.some.inj hx).symm, rfl⟩
    · rw [List.getElem?_append_right (by omega)] at hx ⊢
      obtain ⟨m, hm⟩ : ∃ m, i - A.length = m + 1 := ⟨i - A.length - 1, by omega⟩
      rw [hm] at hx ⊢
      exact Or.inr hx
  have hf : ∀ (i : Nat) (x : Nat × va_E), (A ++ (a, e') :: Z)[i]? = some x → ∃ y, (A ++ (a, e) :: Z)[i]? = some y ∧ y.1 = x.1 := by
    intro i x hx
    rcases hg i x hx with ⟨h1, h2⟩ | h
    · exact ⟨_, h2, by rw [h1]⟩
    · exact ⟨x, h, rfl⟩
  refine k H locs ls (fun i x hx => ?_) ⟨fun i j x y hi hj hxy => ?_, fun i x hi => ?_⟩ hS hl
  · rcases hg i x hx with ⟨h1, h2⟩ | h
    · rw [h1]; exact he _ _ _ (hP i _ h2)
    · exact hP i x h
  · obtain ⟨x', h1, h2⟩ := hf i x hi
    obtain ⟨y', h3, h4⟩ := hf j y hj
    exact hD.1 i j x' y' h1 h3 (by rw [h2, h4]; exact hxy)
  · obtain ⟨x', h1, h2⟩ := hf i x hi
    rw [← h2]
    exact hD.2 i x' h1
theorem at_q {D : va_G} {cl : List vw_C} {H : Heap} {a n : Nat} {cA : ClassId} {f g : Nat → Option Nat} (h : ∀ j, j < n → f j = g j) (q : va_at D cl (a, .inl (cA, n, .inr (.inr (.inr (.inr f))))) H) : va_at D cl (a, .inl (cA, n, .inr (.inr (.inr (.inr g))))) H := by
  have q : H[a]? = some (vp_cell cA (n, .inr (.inr (.inr (.inr f))))) := q
  show H[a]? = some (vp_cell cA (n, .inr (.inr (.inr (.inr g)))))
  rw [q, vp_cell_q, vp_cell_q]
  have e : (fun j : Fin n => va_rf (f j.val)) = (fun j : Fin n => va_rf (g j.val)) := funext (fun j => by rw [h j.val j.isLt])
  exact congrArg (fun F => some ({ cls := cA, slots := Array.ofFn (n := n) F, vm := .none } : Cell)) e
theorem h_mna (X : Cx κ cc own rm) {ix : Nat} (hcl : Cond.classLink own ix "[[I" ∈ Tb) (hr : cl + (1 + 61) ≤ rm.cells ∧ sl + (61 + 61 * 61) ≤ rm.slots) (d : decode cc pc = .ok (.multianewarray ix 2, 4)) (e : pc + 4 = pc') (k : ∀ (q : Nat) (r : Nat → Nat), GW κ (ws ++ (q, .inl (kC κ 7, 61, .inr (.inr (.inr (.inr (fun i : Nat => if i < 61 then some (r i) else none)))))) :: (List.range 61).map (fun i => (r i, .inl (kC κ 0, 61, .inl (fun _ => iI 0))))) pc' lv (.ref q :: st) (cl + 1 + 61) (sl + 61 + 61 * 61)) : GW κ ws pc lv (.int (iI 61) :: .int (iI 61) :: st) cl sl := by
  subst e; intro H locs ls hP hD hS hl
  have e0 : ws ++ va_pl [] (fun _ => .inr (0, [])) = ws := List.append_nil _
  have hcl0 : (iI 61).toNatClampNeg = 61 := by decide
  have hnn : ¬ iI 61 < 0 := by decide
  have hcy : (ks κ).vm.findClass (FieldType.array .int).toString = some (kC κ 0) := (X.2.2.2.2.2.1.2 0 _ rfl).2
  refine va_mna (X := ws) (L := []) (f := fun _ => .inr (0, [])) (z := (61, .inl (fun _ => iI 0))) X.1 X.2.1 X.2.2.2.1 (X.2.2.2.2.1 _ hcl) X.2.2.2.2.2.2.2.2.2.2.2.2.2.2.2.2.2.2.2.2.1 (X.2.2.2.2.1 _ ac_int) hcy X.2.2.2.2.2.1 (by rw [e0]; exact hP) (by rw [e0]; exact hD) hS X.2.2.2.2.2.2.1 hnn hnn hcl0 hcl0 (by decide) (by decide) (by decide) rfl rfl (by rw [X.2.2.2.2.2.2.2.1]; exact hr.1) (by rw [X.2.2.2.2.2.2.2.1]; exact hr.2) (fun c => arrV_new c 61 (defaultValue .int)) d (fun q r cA H1 hinj _ hK1 hP1 hD1 hS1 => ?_)
  have ec : cA = kC κ 7 := cA_of X (t0 := 7) (c0 := kC κ 7) rfl hK1 (t1 := (tysO (kC κ)).length) (by rw [List.getElem?_append_right (Nat.le_refl _)]; simp) (fun _ _ h => h)
  subst ec
  have e1 : va_pl ([] ++ (List.range 61).map r) (vr_up (fun _ => .inr (0, [])) ((List.range 61).map r) (.inl (kC κ 0, (61, .inl (fun _ => iI 0))))) = (List.range 61).map (fun i => (r i, .inl (kC κ 0, 61, .inl (fun _ => iI 0)))) := by
    unfold va_pl
    rw [List.nil_append, List.map_map]
    exact List.map_congr_left (fun i hi => by
      show (r i, vr_up _ _ _ (r i)) = _
      rw [vr_up_in (List.mem_map.mpr ⟨i, hi, rfl⟩)])
  rw [e1, List.append_assoc] at hP1 hD1
  exact k q r H1 locs ls hP1 hD1 hS1 hl
end HP
