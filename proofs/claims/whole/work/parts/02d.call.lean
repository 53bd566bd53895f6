/-- the words of a method called by an object, of a class by its number -/
def WV (d : Md) (n ci : Nat) : Prop := mcode d ∈ Tb ∧ Cond.instanceMethod d.1 ∈ Tb ∧ Cond.selects d.1.cls d.1 d.1 ∈ Tb ∧ Cond.initialized d.1.cls ∈ Tb ∧ d.1.cls ≠ "java/lang/invoke/MethodHandle" ∧ d.1.cls ≠ "java/lang/invoke/VarHandle" ∧ (parseMethodDescriptor d.1.desc).map (fun q => q.parameters.length) = some n ∧ (vwCl[ci]?).map (fun q => q.1) = some d.1.cls
def WS (d : Md) (n : Nat) : Prop := mcode d ∈ Tb ∧ Cond.static d.1 ∈ Tb ∧ Cond.initialized d.1.cls ∈ Tb ∧ d.1.cls ≠ "java/lang/invoke/MethodHandle" ∧ d.1.cls ≠ "java/lang/invoke/VarHandle" ∧ (parseMethodDescriptor d.1.desc).map (fun q => q.parameters.length) = some n
def WI (d : Md) (n : Nat) : Prop := mcode d ∈ Tb ∧ Cond.instanceMethod d.1 ∈ Tb ∧ Cond.initialized d.1.cls ∈ Tb ∧ d.1.name = "<init>" ∧ d.2.2.2.1 = none ∧ d.1.cls ≠ "java/lang/invoke/MethodHandle" ∧ d.1.cls ≠ "java/lang/invoke/VarHandle" ∧ (parseMethodDescriptor d.1.desc).map (fun q => q.parameters.length) = some n
theorem Tb_gi {ws : List Cond} (h : ∀ w ∈ ws, w ∈ Tb) : GoodIn Tb ws := fun w hw => ⟨h w hw, Tb_good (h w hw)⟩
theorem Tb_cons {d : Md} (h : mcode d ∈ Tb) : ∀ w ∈ mcode d :: Tb, w ∈ Tb := fun w hw => (List.mem_cons.mp hw).elim (fun e => by rw [e]; exact h) id
/-- room for a call -/
def Rmo (rm : Room) (d : Md) (mc ms cl sl : Nat) : Prop := (d.2.2.2.2.1 + 1 ≤ rm.frames ∧ 8 + (d.2.2.1 + 11) + d.2.2.2.2.2 ≤ rm.locals) ∧ cl + mc ≤ rm.cells ∧ sl + ms ≤ rm.slots
section GC
variable {κ : Kx} {cc : ByteArray} {own : String} {rm : Room} {nm : List (Nat × Int)} {ad : Ad} {M : Mem} {pc pc' : Nat} {lv : List (Option Value)} {st rest : List Value} {cl sl : Nat}
/-- behind a call that returns -/
theorem G_run {mc ms : Nat} {Qa : State → Outcome → State → Prop} {post : Option Value → Ad → Mem → Prop} (hQ : ∀ st0 v t, Qa st0 (.returned v) t → Qct (kδ κ) nm post st0 (.returned v) t)
    (hr : RM M → ∀ (H : Heap) (locs : List Loc) (ls : Array Slot), va_P (kD κ) vwCl (wl (kC κ) nm ad M) H → va_D (kA κ) (wl (kC κ) nm ad M) → va_S (kA κ) (ks κ).heap H locs → lv_has ls (kN κ) (lvl 0 lv) → va_Run (kp κ) (kl κ) (ke κ) (kR κ) (ks κ) (km κ) (ka κ) (kb κ) (kme κ) (kc κ) H locs cl sl mc ms (F0 (km κ) pc ls st) rest Qa (kA κ))
    (kk : ∀ v ad' M', post v ad' M' → G κ nm ad' M' (pc + 3) lv (v.toList ++ rest) (cl + mc) (sl + ms)) : G κ nm ad M pc lv st cl sl := by
  intro hM H locs ls hP hD hS hl T hT Xs
  obtain ⟨v, st₀, t, T', L, h0, X', hL, e1, e2, hq, hgo⟩ := hr hM H locs ls hP hD hS hl T hT Xs
  obtain ⟨⟨v2, ad', M', hv, hp, hRM, hP1, hD1⟩, hz, hk⟩ := hQ _ _ _ hq
  cases hv
  rw [h0] at hz hk
  have hS1 : va_S (kA κ) (ks κ).heap T'.heap (locs ++ L) := ⟨Nat.le_trans hS.1 (by rw [e1]; exact hz), fun q h1 h2 => by rw [e1, hk q (Nat.lt_of_lt_of_le h1 hS.1) h2]; exact hS.2.1 q h1 h2, fun q hq => by
      rcases List.mem_append.mp hq with h | h
      · exact hS.2.2 q h
      · exact hL q h⟩
  obtain ⟨t2, a1, b1⟩ := kk v ad' M' hp hRM T'.heap (locs ++ L) ls (by rw [e1]; exact hP1) hD1 hS1 hl T' rfl X'
  exact ⟨t2, hgo t2 a1, b1⟩
theorem Pre_on (X : Cx κ cc own rm) (hM : RM M) {H : Heap} {locs : List Loc} (hP : va_P (kD κ) vwCl (wl (kC κ) nm ad M) H) (hD : va_D (kA κ) (wl (kC κ) nm ad M)) (hS : va_S (kA κ) (ks κ).heap H locs) : ∀ U : State, U.heap = H → (ks κ).WarmedH U.vm → Pre (kδ κ) nm ad M U := fun U hU hW =>
  ⟨fun q hq => X.2.2.2.2.2.2.1 q (Nat.le_trans hS.1 (by rw [← hU]; exact hq)), va_K.moved hW.alike X.2.2.2.2.2.1, Zz.on X.2.2.2.2.2.2.2.2.2.2 hS hU hW, hM, by rw [hU]; exact hP, hD⟩
theorem cw_S (X : Cx κ cc own rm) {d : Md} {n ix mc ms : Nat} (w : WS d n) (hlk : Cond.methodLink own ix d.1 ∈ Tb) (hr : Rmo rm d mc ms cl sl) :
    CallB (kR κ) (ks κ) (ka κ) own ix d.1 d.2.1 d.2.2.1 d.2.2.2.1 (mcode d :: Tb) { frames := d.2.2.2.2.1, cells := mc, slots := ms, locals := d.2.2.2.2.2 } mc ms n ∧ (Cond.static d.1).before (ka κ) (ks κ) = true := by
  rw [X.2.2.2.2.2.2.2.1]
  exact ⟨callB_of n X.2.2.2.2.1 (Tb_gi (Tb_cons w.1)) rfl rfl rfl (X.2.2.2.2.1 _ w.2.2.1) (X.2.2.2.2.1 _ hlk) ⟨w.2.2.2.1, w.2.2.2.2.1, w.2.2.2.2.2⟩ hr.1, X.2.2.2.2.1 _ w.2.1⟩
theorem cw_V (X : Cx κ cc own rm) {d : Md} {n ci ix mc ms : Nat} (w : WV d n ci) (hlk : Cond.methodLink own ix d.1 ∈ Tb) (hr : Rmo rm d mc ms cl sl) :
    CallW (kR κ) (ks κ) (ka κ) own d.1.cls ix d.1 d.2.1 d.2.2.1 d.2.2.2.1 (mcode d :: Tb) { frames := d.2.2.2.2.1, cells := mc, slots := ms, locals := d.2.2.2.2.2 } mc ms n := by
  rw [X.2.2.2.2.2.2.2.1]
  exact ⟨callB_of n X.2.2.2.2.1 (Tb_gi (Tb_cons w.1)) rfl rfl rfl (X.2.2.2.2.1 _ w.2.2.2.1) (X.2.2.2.2.1 _ hlk) ⟨w.2.2.2.2.1, w.2.2.2.2.2.1, w.2.2.2.2.2.2.1⟩ hr.1, X.2.2.2.2.1 _ w.2.1, X.2.2.2.2.1 _ w.2.2.1⟩
theorem cw_I (X : Cx κ cc own rm) {d : Md} {n ix mc ms : Nat} (w : WI d n) (hlk : Cond.methodLink own ix d.1 ∈ Tb) (hr : Rmo rm d mc ms cl sl) :
    CallB (kR κ) (ks κ) (ka κ) own ix d.1 d.2.1 d.2.2.1 none (mcode d :: Tb) { frames := d.2.2.2.2.1, cells := mc, slots := ms, locals := d.2.2.2.2.2 } mc ms n ∧ d.1.name = "<init>" ∧ (Cond.instanceMethod d.1).before (ka κ) (ks κ) = true := by
  rw [X.2.2.2.2.2.2.2.1]
  exact ⟨callB_of n X.2.2.2.2.1 (Tb_gi (Tb_cons w.1)) (by rw [← w.2.2.2.2.1]) rfl rfl (X.2.2.2.2.1 _ w.2.2.1) (X.2.2.2.2.1 _ hlk) ⟨w.2.2.2.2.2.1, w.2.2.2.2.2.2.1, w.2.2.2.2.2.2.2⟩ hr.1, w.2.2.2.1, X.2.2.2.2.1 _ w.2.1⟩
theorem fix_ (X : Cx κ cc own rm) : CallFix (kp κ) (km κ) (kc κ) cc (kN κ) (ks κ) (ka κ) Tb own := ⟨X.1, X.2.1, X.2.2.1, X.2.2.2.1, X.2.2.2.2.1⟩
theorem recv_ (X : Cx κ cc own rm) {k ci : Nat} {i : Int} {fs : List Value} {C : String} (hn : (k, i) ∈ nm) (he : ent (kC κ) ad M k i = .inr (ci, fs)) (hci : (vwCl[ci]?).map (fun q => q.1) = some C) {H : Heap} (hP : va_P (kD κ) vwCl (wl (kC κ) nm ad M) H) : ∃ cell : Cell, H[ad k i]? = some cell ∧ cell.vm.isStatics = false ∧ (ks κ).vm.findClass C = some cell.cls := by
  obtain ⟨q0, h0, h1⟩ := wl_get (c := kC κ) (ad := ad) (M := M) hn
  rw [he] at h1
  obtain ⟨q, hq, hq2⟩ := Option.map_eq_some_iff.mp hci
  rw [← hq2]
  exact va_recv X.2.2.2.2.2.1 hP hq h1
theorem g_invS (X : Cx κ cc own rm) {d : Md} {n ix mc ms : Nat} {As : List Value} {post : Option Value → Ad → Mem → Prop} (w : WS d n) (hlk : Cond.methodLink own ix d.1 ∈ Tb) (hr : Rmo rm d mc ms cl sl) (dd : decode cc pc = .ok (.invokestatic ix, 3)) (e : pc + 3 = pc') (hst : st = As.reverse ++ rest) (hln : As.length = n) (hcat : (rest.map fun v => v.category).sum ≤ 8) (hC : Ct (kδ κ) d mc ms nm ad M As post)
    (kk : ∀ v ad' M', post v ad' M' → G κ nm ad' M' pc' lv (v.toList ++ rest) (cl + mc) (sl + ms)) : G κ nm ad M pc lv st cl sl := by
  subst e
  refine G_run (fun _ _ _ h => h) (fun hM H locs ls hP hD hS hl => ?_) kk
  exact va_runS (fix_ X) (hC X.2.2.2.2.2.2.2.2.1) (cw_S X w hlk hr) ⟨Pre_blind, fun U hU hW => ⟨rfl, Pre_on X hM hP hD hS U hU hW⟩⟩ rfl hln hl.1 hst (lv_room hcat) dd (by rw [X.2.2.2.2.2.2.2.1]; exact hr.2)
theorem g_invV (X : Cx κ cc own rm) {d : Md} {n ci ix k mc ms : Nat} {i : Int} {As fs : List Value} {post : Option Value → Ad → Mem → Prop} (w : WV d n ci) (hlk : Cond.methodLink own ix d.1 ∈ Tb) (hn : (k, i) ∈ nm) (he : ent (kC κ) ad M k i = .inr (ci, fs)) (hr : Rmo rm d mc ms cl sl) (dd : decode cc pc = .ok (.invokevirtual ix, 3)) (e : pc + 3 = pc') (hst : st = As.reverse ++ .ref (ad k i) :: rest) (hln : As.length = n) (hcat : (rest.map fun v => v.category).sum ≤ 8) (hC : Ct (kδ κ) d mc ms nm ad M (.ref (ad k i) :: As) post)
    (kk : ∀ v ad' M', post v ad' M' → G κ nm ad' M' pc' lv (v.toList ++ rest) (cl + mc) (sl + ms)) : G κ nm ad M pc lv st cl sl := by
  subst e
  refine G_run (fun _ _ _ h => h) (fun hM H locs ls hP hD hS hl => ?_) kk
  exact va_runV (fix_ X) (hC X.2.2.2.2.2.2.2.2.1) (cw_V X w hlk hr) ⟨Pre_blind, recv_ X hn he w.2.2.2.2.2.2.2 hP, fun U hU hW => ⟨rfl, Pre_on X hM hP hD hS U hU hW⟩⟩ rfl hln hl.1 hst (lv_room hcat) dd (by rw [X.2.2.2.2.2.2.2.1]; exact hr.2)
theorem g_invS_v (X : Cx κ cc own rm) {d : Md} {n ix mc ms : Nat} {As : List Value} {x : Value} {ad2 : Ad} {M2 : Mem} (w : WS d n) (hlk : Cond.methodLink own ix d.1 ∈ Tb) (hr : Rmo rm d mc ms cl sl) (dd : decode cc pc = .ok (.invokestatic ix, 3)) (e : pc + 3 = pc') (hst : st = As.reverse ++ rest) (hln : As.length = n) (hcat : (rest.map fun v => v.category).sum ≤ 8) (hC : Ct (kδ κ) d mc ms nm ad M As (pV x ad2 M2))
    (kk : G κ nm ad2 M2 pc' lv (x :: rest) (cl + mc) (sl + ms)) : G κ nm ad M pc lv st cl sl :=
  g_invS X w hlk hr dd e hst hln hcat hC (fun v ad' M' ⟨h1, h2, h3⟩ => by subst h1; subst h2; subst h3; exact kk)
theorem g_invS_n (X : Cx κ cc own rm) {d : Md} {n ix mc ms : Nat} {As : List Value} {ad2 : Ad} {M2 : Mem} (w : WS d n) (hlk : Cond.methodLink own ix d.1 ∈ Tb) (hr : Rmo rm d mc ms cl sl) (dd : decode cc pc = .ok (.invokestatic ix, 3)) (e : pc + 3 = pc') (hst : st = As.reverse ++ rest) (hln : As.length = n) (hcat : (rest.map fun v => v.category).sum ≤ 8) (hC : Ct (kδ κ) d mc ms nm ad M As (pN ad2 M2))
    (kk : G κ nm ad2 M2 pc' lv rest (cl + mc) (sl + ms)) : G κ nm ad M pc lv st cl sl :=
  g_invS X w hlk hr dd e hst hln hcat hC (fun v ad' M' ⟨h1, h2, h3⟩ => by subst h1; subst h2; subst h3; exact kk)
theorem g_invV_v (X : Cx κ cc own rm) {d : Md} {n ci ix k mc ms : Nat} {i : Int} {As fs : List Value} {x : Value} {ad2 : Ad} {M2 : Mem} (w : WV d n ci) (hlk : Cond.methodLink own ix d.1 ∈ Tb) (hn : (k, i) ∈ nm) (he : ent (kC κ) ad M k i = .inr (ci, fs)) (hr : Rmo rm d mc ms cl sl) (dd : decode cc pc = .ok (.invokevirtual ix, 3)) (e : pc + 3 = pc') (hst : st = As.reverse ++ .ref (ad k i) :: rest) (hln : As.length = n) (hcat : (rest.map fun v => v.category).sum ≤ 8) (hC : Ct (kδ κ) d mc ms nm ad M (.ref (ad k i) :: As) (pV x ad2 M2))
    (kk : G κ nm ad2 M2 pc' lv (x :: rest) (cl + mc) (sl + ms)) : G κ nm ad M pc lv st cl sl :=
  g_invV X w hlk hn he hr dd e hst hln hcat hC (fun v ad' M' ⟨h1, h2, h3⟩ => by subst h1; subst h2; subst h3; exact kk)
theorem g_invV_n (X : Cx κ cc own rm) {d : Md} {n ci ix k mc ms : Nat} {i : Int} {As fs : List Value} {ad2 : Ad} {M2 : Mem} (w : WV d n ci) (hlk : Cond.methodLink own ix d.1 ∈ Tb) (hn : (k, i) ∈ nm) (he : ent (kC κ) ad M k i = .inr (ci, fs)) (hr : Rmo rm d mc ms cl sl) (dd : decode cc pc = .ok (.invokevirtual ix, 3)) (e : pc + 3 = pc') (hst : st = As.reverse ++ .ref (ad k i) :: rest) (hln : As.length = n) (hcat : (rest.map fun v => v.category).sum ≤ 8) (hC : Ct (kδ κ) d mc ms nm ad M (.ref (ad k i) :: As) (pN ad2 M2))
    (kk : G κ nm ad2 M2 pc' lv rest (cl + mc) (sl + ms)) : G κ nm ad M pc lv st cl sl :=
  g_invV X w hlk hn he hr dd e hst hln hcat hC (fun v ad' M' ⟨h1, h2, h3⟩ => by subst h1; subst h2; subst h3; exact kk)
/-! ends -/
/-- how the method may answer an int, a truth, a long, a float, a reference, nothing -/
def Rt (κ : Kx) (cc : ByteArray) (nm : List (Nat × Int)) (post : Option Value → Ad → Mem → Prop) (mc ms : Nat) (ins : Instr) (ok : Option Value → Prop) : Prop := ∀ (v : Option Value) (ad' : Ad) (M' : Mem) (pc : Nat) (lv : List (Option Value)), decode cc pc = .ok (ins, 1) → ok v → post v ad' M' → G κ nm ad' M' pc lv v.toList mc ms
def okI : Option Value → Prop := fun v => ∃ x : Int32, v = some (.int x)
def okZ : Option Value → Prop := fun v => ∃ z : Int, (z = 0 ∨ z = 1) ∧ v = some (.int (iI z))
def okL : Option Value → Prop := fun v => ∃ x : Int64, v = some (.long x)
def okF : Option Value → Prop := fun v => ∃ x : UInt32, v = some (.float x)
def okA : Option Value → Prop := fun v => ∃ x : Nat, v = some (.ref x)
def okN : Option Value → Prop := fun v => v = none
theorem g_ret {post : Option Value → Ad → Mem → Prop} {ins : Instr} {ok : Option Value → Prop} {x : Value} (Y : Rt κ cc nm post cl sl ins ok) (d : decode cc pc = .ok (ins, 1)) (hx : ok (some x)) (hp : post (some x) ad M) : G κ nm ad M pc lv [x] cl sl := Y (some x) ad M pc lv d hx hp
theorem g_retn {post : Option Value → Ad → Mem → Prop} {ins : Instr} {ok : Option Value → Prop} (Y : Rt κ cc nm post cl sl ins ok) (d : decode cc pc = .ok (ins, 1)) (hx : ok none) (hp : post none ad M) : G κ nm ad M pc lv [] cl sl := Y none ad M pc lv d hx hp
end GC
/-- the entry of a method, in words of G -/
theorem Ct_of {δ : Dx} {d : Md} {mc ms : Nat} {nm : List (Nat × Int)} {ad : Ad} {M : Mem} {av : List Value} {post : Option Value → Ad → Mem → Prop} {ins : Instr} {ok : Option Value → Prop} (lv0 : List (Option Value)) (hy : plainName d.1.cls = true) (hlv : lvl 0 lv0 = lv_args 0 av) (hle : (lg_sl av).length ≤ d.2.2.1)
    (hend : ∀ (κ : Kx) (s : State), ks κ = s → Cx κ d.2.1 d.1.cls { frames := d.2.2.2.2.1, cells := mc, slots := ms, locals := d.2.2.2.2.2 } → (kme κ).sig.returnType = d.2.2.2.1 → kQ κ = MQ (kb κ) (fun _ st o t => Qct δ nm post st o t) (ka κ) s mc ms δ.2.2.2 → kδ κ = δ → Rt κ d.2.1 nm post mc ms ins ok)
    (body : ∀ κ : Kx, Cx κ d.2.1 d.1.cls { frames := d.2.2.2.2.1, cells := mc, slots := ms, locals := d.2.2.2.2.2 } → kN κ = d.2.2.1 → kδ κ = δ → Rt κ d.2.1 nm post mc ms ins ok → G κ nm ad M 0 lv0 [] 0 0) : Ct δ d mc ms nm ad M av post := by
  intro hfl
  refine Met.ofW (cc := d.2.1) (maxL := d.2.2.1) (ret := d.2.2.2.1) hy rfl ?_
  intro p e s m args below meth c s₁ B hml hv
  obtain ⟨rfl, hA, hK, hZ, hM, hP, hD⟩ := hv
  have hts := atoms_spec (ws := mcode d :: Tb) B.pre
  have hl := lv_entry av (n := d.2.2.1) hle
  rw [lg_entry_eq]
  generalize (lg_sl av ++ List.replicate (d.2.2.1 - (lg_sl av).length) Slot.unset).toArray = ls at hl ⊢
  rw [← hlv] at hl
  obtain ⟨l, D, c0, A⟩ := δ
  have X : Cx ((p, l, e, (headSpec (mcode d :: Tb) { frames := d.2.2.2.2.1, cells := mc, slots := ms, locals := d.2.2.2.2.2 }).room, s, m), (av.toArray, below, meth, c, MQ below (fun _ st o t => Qct (l, D, c0, A) nm post st o t) av.toArray s mc ms A), (D, c0, A, d.2.2.1)) d.2.1 d.1.cls { frames := d.2.2.2.2.1, cells := mc, slots := ms, locals := d.2.2.2.2.2 } :=
    ⟨B.exec, B.bytes, hml, findClass_of_methodNamed B.named, fun w hw => hts w (List.mem_cons_of_mem _ hw), hK, hA, rfl, hfl, B.notSynchronized, hZ⟩
  exact body _ X rfl rfl (hend _ s rfl X B.returns rfl rfl) hM s.heap [] ls hP hD va_S.rf hl
section ENDS
variable {δ : Dx} {d : Md} {mc ms : Nat} {nm : List (Nat × Int)} {post : Option Value → Ad → Mem → Prop} {κ : Kx} {s : State} {rm : Room}
theorem endI (hr0 : d.2.2.2.1 = some .int) (hs : ks κ = s) (X : Cx κ d.2.1 d.1.cls rm) (hr : (kme κ).sig.returnType = d.2.2.2.1) (hQ : kQ κ = MQ (kb κ) (fun _ st o t => Qct δ nm post st o t) (ka κ) s mc ms δ.2.2.2) (hδ : kδ κ = δ) : Rt κ d.2.1 nm post mc ms .ireturn okI := by
  subst hs; subst hδ
  rintro v ad' M' pc lv dd ⟨x, rfl⟩ hp hM H locs ls hP hD hS hl
  rw [hQ]
  exact W.iret (v := x) X.1 X.2.1 (hr.trans hr0) (fun t ht _ => ⟨⟨some (.int x), ad', M', rfl, hp, hM, by rw [ht]; exact hP, hD⟩, hS.F ht⟩) hS.2.2 dd X.2.2.2.2.2.2.2.2.2.1
theorem endZ (hr0 : d.2.2.2.1 = some .boolean) (hs : ks κ = s) (X : Cx κ d.2.1 d.1.cls rm) (hr : (kme κ).sig.returnType = d.2.2.2.1) (hQ : kQ κ = MQ (kb κ) (fun _ st o t => Qct δ nm post st o t) (ka κ) s mc ms δ.2.2.2) (hδ : kδ κ = δ) : Rt κ d.2.1 nm post mc ms .ireturn okZ := by
  subst hs; subst hδ
  rintro v ad' M' pc lv dd ⟨x, h01, rfl⟩ hp hM H locs ls hP hD hS hl
  rw [hQ]
  exact W.zret (v := iI x) X.1 X.2.1 (hr.trans hr0) (nar01 h01) (fun t ht _ => ⟨⟨some (.int (iI x)), ad', M', rfl, hp, hM, by rw [ht]; exact hP, hD⟩, hS.F ht⟩) hS.2.2 dd X.2.2.2.2.2.2.2.2.2.1
theorem endL (hr0 : d.2.2.2.1 = some .long) (hs : ks κ = s) (X : Cx κ d.2.1 d.1.cls rm) (hr : (kme κ).sig.returnType = d.2.2.2.1) (hQ : kQ κ = MQ (kb κ) (fun _ st o t => Qct δ nm post st o t) (ka κ) s mc ms δ.2.2.2) (hδ : kδ κ = δ) : Rt κ d.2.1 nm post mc ms .lreturn okL := by
  subst hs; subst hδ
  rintro v ad' M' pc lv dd ⟨x, rfl⟩ hp hM H locs ls hP hD hS hl
  rw [hQ]
  exact W.lret (v := x) X.1 X.2.1 (hr.trans hr0) (fun t ht _ => ⟨⟨some (.long x), ad', M', rfl, hp, hM, by rw [ht]; exact hP, hD⟩, hS.F ht⟩) hS.2.2 dd X.2.2.2.2.2.2.2.2.2.1
theorem endF (hr0 : d.2.2.2.1 = some .float) (hs : ks κ = s) (X : Cx κ d.2.1 d.1.cls rm) (hr : (kme κ).sig.returnType = d.2.2.2.1) (hQ : kQ κ = MQ (kb κ) (fun _ st o t => Qct δ nm post st o t) (ka κ) s mc ms δ.2.2.2) (hδ : kδ κ = δ) : Rt κ d.2.1 nm post mc ms .freturn okF := by
  subst hs; subst hδ
  rintro v ad' M' pc lv dd ⟨x, rfl⟩ hp hM H locs ls hP hD hS hl
  rw [hQ]
  exact W.fret (v := x) X.1 X.2.1 (hr.trans hr0) (fun t ht _ => ⟨⟨some (.float x), ad', M', rfl, hp, hM, by rw [ht]; exact hP, hD⟩, hS.F ht⟩) hS.2.2 dd X.2.2.2.2.2.2.2.2.2.1
theorem endN (hr0 : d.2.2.2.1 = none) (hs : ks κ = s) (X : Cx κ d.2.1 d.1.cls rm) (hr : (kme κ).sig.returnType = d.2.2.2.1) (hQ : kQ κ = MQ (kb κ) (fun _ st o t => Qct δ nm post st o t) (ka κ) s mc ms δ.2.2.2) (hδ : kδ κ = δ) : Rt κ d.2.1 nm post mc ms .return_ okN := by
  subst hs; subst hδ
  rintro v ad' M' pc lv dd rfl hp hM H locs ls hP hD hS hl
  rw [hQ]
  exact W.vret X.1 X.2.1 (hr.trans hr0) (fun t ht _ => ⟨⟨none, ad', M', rfl, hp, hM, by rw [ht]; exact hP, hD⟩, hS.F ht⟩) hS.2.2 dd X.2.2.2.2.2.2.2.2.2.1
theorem endA {rt : FieldType} (hr0 : d.2.2.2.1 = some rt) (hrt : (∃ n, rt = .object n) ∨ ∃ t, rt = .array t) (hs : ks κ = s) (X : Cx κ d.2.1 d.1.cls rm) (hr : (kme κ).sig.returnType = d.2.2.2.1) (hQ : kQ κ = MQ (kb κ) (fun _ st o t => Qct δ nm post st o t) (ka κ) s mc ms δ.2.2.2) (hδ : kδ κ = δ) : Rt κ d.2.1 nm post mc ms .areturn okA := by
  subst hs; subst hδ
  rintro v ad' M' pc lv dd ⟨x, rfl⟩ hp hM H locs ls hP hD hS hl
  rw [hQ]
  exact W.aret (v := .ref x) X.1 X.2.1 (hr.trans hr0) hrt (Or.inr ⟨x, rfl⟩) (fun t ht _ => ⟨⟨some (.ref x), ad', M', rfl, hp, hM, by rw [ht]; exact hP, hD⟩, hS.F ht⟩) hS.2.2 dd X.2.2.2.2.2.2.2.2.2.1
end ENDS
