theorem Tb_gi {ws : List Cond} (h : ∀ w ∈ ws, w ∈ Tb) : GoodIn Tb ws := fun w hw => ⟨h w hw, Tb_good (h w hw)⟩
theorem Tb_cons {d : Md} (h : mcode d ∈ Tb) : ∀ w ∈ mcode d :: Tb, w ∈ Tb := fun w hw => (List.mem_cons.mp hw).elim (fun e => by rw [e]; exact h) id
/-- room for a call -/
def Rmo (rm : Room) (d : Md) (mc ms cl sl : Nat) : Prop := (d.2.2.2.2.1 + 1 ≤ rm.frames ∧ 8 + (d.2.2.1 + 11) + d.2.2.2.2.2 ≤ rm.locals) ∧ cl + mc ≤ rm.cells ∧ sl + ms ≤ rm.slots
section GC
variable {κ : Kx} {cc : ByteArray} {own : String} {rm : Room} {nm : List (Nat × Int)} {ad : Ad} {M : Mem} {pc pc' : Nat} {lv : List (Option Value)} {st rest : List Value} {cl sl : Nat}
/-- behind a call that returns -/
theorem G_run {mc ms : Nat} {Qa : State → Outcome → State → Prop} {post : Option Value → Ad → Mem → Prop} (hQ : ∀ st0 v t, Qa st0 (.returned v) t → Qct (kδ κ) nm post st0 (.returned v) t)
    (hr : RM M → ∀ (H : Heap) (locs : List Loc) (ls : Array Slot), va_P (kD κ) vwCl (wl (kC κ) nm ad M) H → va_D (kA κ) (wl (kC κ) nm ad M) → va_S (kA κ) (ks κ).heap H locs → lv_has ls (kN κ) (lvl 0 lv) → va_Run (kp κ) (kl κ) (ke κ) (kR κ) (ks κ) (km κ) (ka κ) (kb κ) (kme κ) (kc κ) H locs cl sl mc ms (F0 (km κ) pc ls st) rest Qa (kA κ))
    (kk : ∀ v ad' M', post v ad' M' → G κ nm ad' M' (pc + 3) lv (v.toList ++ rest) (cl + mc) (sl + ms)) : G κ nm ad M pc lv st cl sl := by
  intro hM H locs ls hP hD hS hl T hT Xs
  obtain ⟨v, st₀, t, T', L, h0, X', hL, e1, e2, hq, hgo⟩ := hr hM H locs ls hP hD hS hl T hT Xs
  obtain ⟨⟨v2, ad', M', hv, hp, hRM, hP1, hD1⟩, hz, hk⟩ := hQ _ _ _ hq
  cases hv
  rw [h0] at hz hk
  have hS1 : va_S (kA κ) (ks κ).heap T'.heap (locs ++ L) := ⟨Nat.le_trans hS.1 (by rw [e1]; exact hz), fun q h1 h2 => by rw [e1, hk q (Nat.lt_of_lt_of_le h1 hS.1) h2]; exact hS.2.1 q h1 h2, fun q hq => by
      rcases List.mem_append.mp hq with h | h
      · exact hS.2.2 q h
      · exact hL q h⟩
  obtain ⟨t2, a1, b1⟩ := kk v ad' M' hp hRM T'.heap (locs ++ L) ls (by rw [e1]; exact hP1) hD1 hS1 hl T' rfl X'
  exact ⟨t2, hgo t2 a1, b1⟩
theorem Pre_on (X : Cx κ cc own rm) (hM : RM M) {H : Heap} {locs : List Loc} (hP : va_P (kD κ) vwCl (wl (kC κ) nm ad M) H) (hD : va_D (kA κ) (wl (kC κ) nm ad M)) (hS : va_S (kA κ) (ks κ).heap H locs) : ∀ U : State, U.heap = H → (ks κ).WarmedH U.vm → Pre (kδ κ) nm ad M U := fun U hU hW =>
  ⟨fun q hq => X.2.2.2.2.2.2.1 q (Nat.le_trans hS.1 (by rw [← hU]; exact hq)), va_K.moved hW.alike X.2.2.2.2.2.1, Zz.on X.2.2.2.2.2.2.2.2.2.2 hS hU hW, hM, by rw [hU]; exact hP, hD⟩
theorem cw_S (X : Cx κ cc own rm) {d : Md} {n ix mc ms : Nat} (w : WS d n) (hlk : Cond.methodLink own ix d.1 ∈ Tb) (hr : Rmo rm d mc ms cl sl) :
    CallB (kR κ) (ks κ) (ka κ) own ix d.1 d.2.1 d.2.2.1 d.2.2.2.1 (mcode d :: Tb) { frames := d.2.2.2.2.1, cells := mc, slots := ms, locals := d.2.2.2.2.2 } mc ms n ∧ (Cond.static d.1).before (ka κ) (ks κ) = true := by
  rw [X.2.2.2.2.2.2.2.1]
  exact ⟨callB_of n X.2.2.2.2.1 (Tb_gi (Tb_cons w.1)) rfl rfl rfl (X.2.2.2.2.1 _ w.2.2.1) (X.2.2.2.2.1 _ hlk) ⟨w.2.2.2.1, w.2.2.2.2.1, w.2.2.2.2.2⟩ hr.1, X.2.2.2.2.1 _ w.2.1⟩
theorem cw_V (X : Cx κ cc own rm) {d : Md} {n ci ix mc ms : Nat} (w : WV d n ci) (hlk : Cond.methodLink own ix d.1 ∈ Tb) (hr : Rmo rm d mc ms cl sl) :
    CallW (kR κ) (ks κ) (ka κ) own d.1.cls ix d.1 d.2.1 d.2.2.1 d.2.2.2.1 (mcode d :: Tb) { frames := d.2.2.2.2.1, cells := mc, slots := ms, locals := d.2.2.2.2.2 } mc ms n := by
  rw [X.2.2.2.2.2.2.2.1]
  exact ⟨callB_of n X.2.2.2.2.1 (Tb_gi (Tb_cons w.1)) rfl rfl rfl (X.2.2.2.2.1 _ w.2.2.2.1) (X.2.2.2.2.1 _ hlk) ⟨w.2.2.2.2.1, w.2.2.2.2.2.1, w.2.2.2.2.2.2.1⟩ hr.1, X.2.2.2.2.1 _ w.2.1, X.2.2.2.2.1 _ w.2.2.1⟩
theorem cw_N (X : Cx κ cc own rm) {d : Md} {n ix mc ms : Nat} {host : String} (w : WS d n) (hlk : Cond.methodLinkNest own ix d.1 host ∈ lw_tbl) (hr : Rmo rm d mc ms cl sl) :
    va_CN (kR κ) (ks κ) (ka κ) own ix d.1 host d.2.1 d.2.2.1 d.2.2.2.1 (mcode d :: Tb) { frames := d.2.2.2.2.1, cells := mc, slots := ms, locals := d.2.2.2.2.2 } mc ms n := by
  rw [X.2.2.2.2.2.2.2.1]
  exact va_cnB n X.2.2.2.2.1 (Tb_gi (Tb_cons w.1)) rfl rfl rfl (X.2.2.2.2.2.2.2.2.2.2.2.2.2.2.2.2.1 _ _ _ _ hlk) (X.2.2.2.2.1 _ w.2.2.1) ⟨w.2.2.2.1, w.2.2.2.2.1, w.2.2.2.2.2⟩ hr.1
theorem cw_I (X : Cx κ cc own rm) {d : Md} {n ix mc ms : Nat} (w : WI d n) (hlk : Cond.methodLink own ix d.1 ∈ Tb) (hr : Rmo rm d mc ms cl sl) :
    CallB (kR κ) (ks κ) (ka κ) own ix d.1 d.2.1 d.2.2.1 none (mcode d :: Tb) { frames := d.2.2.2.2.1, cells := mc, slots := ms, locals := d.2.2.2.2.2 } mc ms n ∧ d.1.name = "<init>" ∧ (Cond.instanceMethod d.1).before (ka κ) (ks κ) = true := by
  rw [X.2.2.2.2.2.2.2.1]
  exact ⟨callB_of n X.2.2.2.2.1 (Tb_gi (Tb_cons w.1)) (by rw [← w.2.2.2.2.1]) rfl rfl (X.2.2.2.2.1 _ w.2.2.1) (X.2.2.2.2.1 _ hlk) ⟨w.2.2.2.2.2.1, w.2.2.2.2.2.2.1, w.2.2.2.2.2.2.2⟩ hr.1, w.2.2.2.1, X.2.2.2.2.1 _ w.2.1⟩
theorem fix_ (X : Cx κ cc own rm) : CallFix (kp κ) (km κ) (kc κ) cc (kN κ) (ks κ) (ka κ) Tb own := ⟨X.1, X.2.1, X.2.2.1, X.2.2.2.1, X.2.2.2.2.1⟩
theorem recv_ (X : Cx κ cc own rm) {k ci : Nat} {i : Int} {fs : List Value} {C : String} (hn : (k, i) ∈ nm) (he : ent (kC κ) ad M k i = .inr (ci, fs)) (hci : (vwCl[ci]?).map (fun q => q.1) = some C) {H : Heap} (hP : va_P (kD κ) vwCl (wl (kC κ) nm ad M) H) : ∃ cell : Cell, H[ad k i]? = some cell ∧ cell.vm.isStatics = false ∧ (ks κ).vm.findClass C = some cell.cls := by
  obtain ⟨q0, h0, h1⟩ := wl_get (c := kC κ) (ad := ad) (M := M) hn
  rw [he] at h1
  obtain ⟨q, hq, hq2⟩ := Option.map_eq_some_iff.mp hci
  rw [← hq2]
  exact va_recv X.2.2.2.2.2.1 hP hq h1
theorem g_invS (X : Cx κ cc own rm) {d : Md} {n ix mc ms : Nat} {As : List Value} {post : Option Value → Ad → Mem → Prop} (w : WS d n) (hlk : Cond.methodLink own ix d.1 ∈ Tb) (hr : Rmo rm d mc ms cl sl) (dd : decode cc pc = .ok (.invokestatic ix, 3)) (e : pc + 3 = pc') (hst : st = As.reverse ++ rest) (hln : As.length = n) (hcat : (rest.map fun v => v.category).sum ≤ 8) (hC : Ct (kδ κ) d mc ms nm ad M As post)
    (kk : ∀ v ad' M', post v ad' M' → G κ nm ad' M' pc' lv (v.toList ++ rest) (cl + mc) (sl + ms)) : G κ nm ad M pc lv st cl sl := by
  subst e
  refine G_run (fun _ _ _ h => h) (fun hM H locs ls hP hD hS hl => ?_) kk
  exact va_runS (fix_ X) (hC X.2.2.2.2.2.2.2.2.1) (cw_S X w hlk hr) ⟨Pre_blind, fun U hU hW => ⟨rfl, Pre_on X hM hP hD hS U hU hW⟩⟩ rfl hln hl.1 hst (lv_room hcat) dd (by rw [X.2.2.2.2.2.2.2.1]; exact hr.2)
theorem g_invV (X : Cx κ cc own rm) {d : Md} {n ci ix k mc ms : Nat} {i : Int} {As fs : List Value} {post : Option Value → Ad → Mem → Prop} (w : WV d n ci) (hlk : Cond.methodLink own ix d.1 ∈ Tb) (hn : (k, i) ∈ nm) (he : ent (kC κ) ad M k i = .inr (ci, fs)) (hr : Rmo rm d mc ms cl sl) (dd : decode cc pc = .ok (.invokevirtual ix, 3)) (e : pc + 3 = pc') (hst : st = As.reverse ++ .ref (ad k i) :: rest) (hln : As.length = n) (hcat : (rest.map fun v => v.category).sum ≤ 8) (hC : Ct (kδ κ) d mc ms nm ad M (.ref (ad k i) :: As) post)
    (kk : ∀ v ad' M', post v ad' M' → G κ nm ad' M' pc' lv (v.toList ++ rest) (cl + mc) (sl + ms)) : G κ nm ad M pc lv st cl sl := by
  subst e
  refine G_run (fun _ _ _ h => h) (fun hM H locs ls hP hD hS hl => ?_) kk
  exact va_runV (fix_ X) (hC X.2.2.2.2.2.2.2.2.1) (cw_V X w hlk hr) ⟨Pre_blind, recv_ X hn he w.2.2.2.2.2.2.2 hP, fun U hU hW => ⟨rfl, Pre_on X hM hP hD hS U hU hW⟩⟩ rfl hln hl.1 hst (lv_room hcat) dd (by rw [X.2.2.2.2.2.2.2.1]; exact hr.2)
theorem g_invS_v (X : Cx κ cc own rm) {d : Md} {n ix mc ms : Nat} {As : List Value} {x : Value} {ad2 : Ad} {M2 : Mem} (w : WS d n) (hlk : Cond.methodLink own ix d.1 ∈ Tb) (hr : Rmo rm d mc ms cl sl) (dd : decode cc pc = .ok (.invokestatic ix, 3)) (e : pc + 3 = pc') (hst : st = As.reverse ++ rest) (hln : As.length = n) (hcat : (rest.map fun v => v.category).sum ≤ 8) (hC : Ct (kδ κ) d mc ms nm ad M As (pV x ad2 M2))
    (kk : G κ nm ad2 M2 pc' lv (x :: rest) (cl + mc) (sl + ms)) : G κ nm ad M pc lv st cl sl :=
  g_invS X w hlk hr dd e hst hln hcat hC (fun v ad' M' ⟨h1, h2, h3⟩ => by subst h1; subst h2; subst h3; exact kk)
theorem g_invS_n (X : Cx κ cc own rm) {d : Md} {n ix mc ms : Nat} {As : List Value} {ad2 : Ad} {M2 : Mem} (w : WS d n) (hlk : Cond.methodLink own ix d.1 ∈ Tb) (hr : Rmo rm d mc ms cl sl) (dd : decode cc pc = .ok (.invokestatic ix, 3)) (e : pc + 3 = pc') (hst : st = As.reverse ++ rest) (hln : As.length = n) (hcat : (rest.map fun v => v.category).sum ≤ 8) (hC : Ct (kδ κ) d mc ms nm ad M As (pN ad2 M2))
    (kk : G κ nm ad2 M2 pc' lv rest (cl + mc) (sl + ms)) : G κ nm ad M pc lv st cl sl :=
  g_invS X w hlk hr dd e hst hln hcat hC (fun v ad' M' ⟨h1, h2, h3⟩ => by subst h1; subst h2; subst h3; exact kk)
theorem g_invV_v (X : Cx κ cc own rm) {d : Md} {n ci ix k mc ms : Nat} {i : Int} {As fs : List Value} {x : Value} {ad2 : Ad} {M2 : Mem} (w : WV d n ci) (hlk : Cond.methodLink own ix d.1 ∈ Tb) (hn : (k, i) ∈ nm) (he : ent (kC κ) ad M k i = .inr (ci, fs)) (hr : Rmo rm d mc ms cl sl) (dd : decode cc pc = .ok (.invokevirtual ix, 3)) (e : pc + 3 = pc') (hst : st = As.reverse ++ .ref (ad k i) :: rest) (hln : As.length = n) (hcat : (rest.map fun v => v.category).sum ≤ 8) (hC : Ct (kδ κ) d mc ms nm ad M (.ref (ad k i) :: As) (pV x ad2 M2))
    (kk : G κ nm ad2 M2 pc' lv (x :: rest) (cl + mc) (sl + ms)) : G κ nm ad M pc lv st cl sl :=
  g_invV X w hlk hn he hr dd e hst hln hcat hC (fun v ad' M' ⟨h1, h2, h3⟩ => by subst h1; subst h2; subst h3; exact kk)
theorem g_invV_n (X : Cx κ cc own rm) {d : Md} {n ci ix k mc ms : Nat} {i : Int} {As fs : List Value} {ad2 : Ad} {M2 : Mem} (w : WV d n ci) (hlk : Cond.methodLink own ix d.1 ∈ Tb) (hn : (k, i) ∈ nm) (he : ent (kC κ) ad M k i = .inr (ci, fs)) (hr : Rmo rm d mc ms cl sl) (dd : decode cc pc = .ok (.invokevirtual ix, 3)) (e : pc + 3 = pc') (hst : st = As.reverse ++ .ref (ad k i) :: rest) (hln : As.length = n) (hcat : (rest.map fun v => v.category).sum ≤ 8) (hC : Ct (kδ κ) d mc ms nm ad M (.ref (ad k i) :: As) (pN ad2 M2))
    (kk : G κ nm ad2 M2 pc' lv rest (cl + mc) (sl + ms)) : G κ nm ad M pc lv st cl sl :=
  g_invV X w hlk hn he hr dd e hst hln hcat hC (fun v ad' M' ⟨h1, h2, h3⟩ => by subst h1; subst h2; subst h3; exact kk)
/-! ends -/
/-- how the method may answer an int, a truth, a long, a float, a reference, nothing -/
def Rt (κ : Kx) (cc : ByteArray) (nm : List (Nat × Int)) (post : Option Value → Ad → Mem → Prop) (mc ms : Nat) (ins : Instr) (ok : Option Value → Prop) : Prop := ∀ (v : Option Value) (ad' : Ad) (M' : Mem) (pc : Nat) (lv : List (Option Value)), decode cc pc = .ok (ins, 1) → ok v → post v ad' M' → G κ nm ad' M' pc lv v.toList mc ms
def okI : Option Value → Prop := fun v => ∃ x : Int32, v = some (.int x)
def okZ : Option Value → Prop := fun v => ∃ z : Int, (z = 0 ∨ z = 1) ∧ v = some (.int (iI z))
def okL : Option Value → Prop := fun v => ∃ x : Int64, v = some (.long x)
def okF : Option Value → Prop := fun v => ∃ x : UInt32, v = some (.float x)
def okA : Option Value → Prop := fun v => ∃ x : Nat, v = some (.ref x)
def okN : Option Value → Prop := fun v => v = none
theorem g_ret {post : Option Value → Ad → Mem → Prop} {ins : Instr} {ok : Option Value → Prop} {x : Value} (Y : Rt κ cc nm post cl sl ins ok) (d : decode cc pc = .ok (ins, 1)) (hx : ok (some x)) (hp : post (some x) ad M) : G κ nm ad M pc lv [x] cl sl := Y (some x) ad M pc lv d hx hp
theorem g_retn {post : Option Value → Ad → Mem → Prop} {ins : Instr} {ok : Option Value → Prop} (Y : Rt κ cc nm post cl sl ins ok) (d : decode cc pc = .ok (ins, 1)) (hx : ok none) (hp : post none ad M) : G κ nm ad M pc lv [] cl sl := Y none ad M pc lv d hx hp
end GC
/-- the entry of a method, in words of G -/
theorem Ct_of {δ : Dx} {d : Md} {mc ms : Nat} {nm : List (Nat × Int)} {ad : Ad} {M : Mem} {av : List Value} {post : Option Value → Ad → Mem → Prop} {ins : Instr} {ok : Option Value → Prop} (lv0 : List (Option Value)) (hy : plainName d.1.cls = true) (hlv : lvl 0 lv0 = lv_args 0 av) (hle : (lg_sl av).length ≤ d.2.2.1)
    (hend : ∀ (κ : Kx) (s : State), ks κ = s → Cx κ d.2.1 d.1.cls { frames := d.2.2.2.2.1, cells := mc, slots := ms, locals := d.2.2.2.2.2 } → (kme κ).sig.returnType = d.2.2.2.1 → kQ κ = MQ (kb κ) (fun _ st o t => Qct δ nm post st o t) (ka κ) s mc ms δ.2.2.2 → kδ κ = δ → Rt κ d.2.1 nm post mc ms ins ok)
    (body : ∀ κ : Kx, Cx κ d.2.1 d.1.cls { frames := d.2.2.2.2.1, cells := mc, slots := ms, locals := d.2.2.2.2.2 } → kN κ = d.2.2.1 → kδ κ = δ → Rt κ d.2.1 nm post mc ms ins ok → G κ nm ad M 0 lv0 [] 0 0) : Ct δ d mc ms nm ad M av post := by
  intro hfl
  refine Met.ofW (cc := d.2.1) (maxL := d.2.2.1) (ret := d.2.2.2.1) hy rfl ?_
  intro p e s m args below meth c s₁ B hml hv
  obtain ⟨rfl, hA, hK, hZ, hM, hP, hD⟩ := hv
  have hts := atoms_spec (ws := mcode d :: Tb) B.pre
  have hl := lv_entry av (n := d.2.2.1) hle
  rw [lg_entry_eq]
  generalize (lg_sl av ++ List.replicate (d.2.2.1 - (lg_sl av).length) Slot.unset).toArray = ls at hl ⊢
  rw [← hlv] at hl
  obtain ⟨l, D, c0, A⟩ := δ
  have X : Cx ((p, l, e, (headSpec (mcode d :: Tb) { frames := d.2.2.2.2.1, cells := mc, slots := ms, locals := d.2.2.2.2.2 }).room, s, m), (av.toArray, below, meth, c, MQ below (fun _ st o t => Qct (l, D, c0, A) nm post st o t) av.toArray s mc ms A), (D, c0, A, d.2.2.1)) d.2.1 d.1.cls { frames := d.2.2.2.2.1, cells := mc, slots := ms, locals := d.2.2.2.2.2 } :=
    ⟨B.exec, B.bytes, hml, findClass_of_methodNamed B.named, fun w hw => hts w (List.mem_cons_of_mem _ hw), hK, hA, rfl, hfl, B.notSynchronized, hZ⟩
  exact body _ X rfl rfl (hend _ s rfl X B.returns rfl rfl) hM s.heap [] ls hP hD va_S.rf hl
section ENDS
variable {δ : Dx} {d : Md} {mc ms : Nat} {nm : List (Nat × Int)} {post : Option Value → Ad → Mem → Prop} {κ : Kx} {s : State} {rm : Room}
theorem endI (hr0 : d.2.2.2.1 = some .int) (hs : ks κ = s) (X : Cx κ d.2.1 d.1.cls rm) (hr : (kme κ).sig.returnType = d.2.2.2.1) (hQ : kQ κ = MQ (kb κ) (fun _ st o t => Qct δ nm post st o t) (ka κ) s mc ms δ.2.2.2) (hδ : kδ κ = δ) : Rt κ d.2.1 nm post mc ms .ireturn okI := by
  subst hs; subst hδ
  rintro v ad' M' pc lv dd ⟨x, rfl⟩ hp hM H locs ls hP hD hS hl
  rw [hQ]
  exact W.iret (v := x) X.1 X.2.1 (hr.trans hr0) (fun t ht _ => ⟨⟨some (.int x), ad', M', rfl, hp, hM, by rw [ht]; exact hP, hD⟩, hS.F ht⟩) hS.2.2 dd X.2.2.2.2.2.2.2.2.2.1
theorem endZ (hr0 : d.2.2.2.1 = some .boolean) (hs : ks κ = s) (X : Cx κ d.2.1 d.1.cls rm) (hr : (kme κ).sig.returnType = d.2.2.2.1) (hQ : kQ κ = MQ (kb κ) (fun _ st o t => Qct δ nm post st o t) (ka κ) s mc ms δ.2.2.2) (hδ : kδ κ = δ) : Rt κ d.2.1 nm post mc ms .ireturn okZ := by
  subst hs; subst hδ
  rintro v ad' M' pc lv dd ⟨x, h01, rfl⟩ hp hM H locs ls hP hD hS hl
  rw [hQ]
  exact W.zret (v := iI x) X.1 X.2.1 (hr.trans hr0) (nar01 h01) (fun t ht _ => ⟨⟨some (.int (iI x)), ad', M', rfl, hp, hM, by rw [ht]; exact hP, hD⟩, hS.F ht⟩) hS.2.2 dd X.2.2.2.2.2.2.2.2.2.1
theorem endL (hr0 : d.2.2.2.1 = some .long) (hs : ks κ = s) (X : Cx κ d.2.1 d.1.cls rm) (hr : (kme κ).sig.returnType = d.2.2.2.1) (hQ : kQ κ = MQ (kb κ) (fun _ st o t => Qct δ nm post st o t) (ka κ) s mc ms δ.2.2.2) (hδ : kδ κ = δ) : Rt κ d.2.1 nm post mc ms .lreturn okL := by
  subst hs; subst hδ
  rintro v ad' M' pc lv dd ⟨x, rfl⟩ hp hM H locs ls hP hD hS hl
  rw [hQ]
  exact W.lret (v := x) X.1 X.2.1 (hr.trans hr0) (fun t ht _ => ⟨⟨some (.long x), ad', M', rfl, hp, hM, by rw [ht]; exact hP, hD⟩, hS.F ht⟩) hS.2.2 dd X.2.2.2.2.2.2.2.2.2.1
theorem endF (hr0 : d.2.2.2.1 = some .float) (hs : ks κ = s) (X : Cx κ d.2.1 d.1.cls rm) (hr : (kme κ).sig.returnType = d.2.2.2.1) (hQ : kQ κ = MQ (kb κ) (fun _ st o t => Qct δ nm post st o t) (ka κ) s mc ms δ.2.2.2) (hδ : kδ κ = δ) : Rt κ d.2.1 nm post mc ms .freturn okF := by
  subst hs; subst hδ
  rintro v ad' M' pc lv dd ⟨x, rfl⟩ hp hM H locs ls hP hD hS hl
  rw [hQ]
  exact W.fret (v := x) X.1 X.2.1 (hr.trans hr0) (fun t ht _ => ⟨⟨some (.float x), ad', M', rfl, hp, hM, by rw [ht]; exact hP, hD⟩, hS.F ht⟩) hS.2.2 dd X.2.2.2.2.2.2.2.2.2.1
theorem endN (hr0 : d.2.2.2.1 = none) (hs : ks κ = s) (X : Cx κ d.2.1 d.1.cls rm) (hr : (kme κ).sig.returnType = d.2.2.2.1) (hQ : kQ κ = MQ (kb κ) (fun _ st o t => Qct δ nm post st o t) (ka κ) s mc ms δ.2.2.2) (hδ : kδ κ = δ) : Rt κ d.2.1 nm post mc ms .return_ okN := by
  subst hs; subst hδ
  rintro v ad' M' pc lv dd rfl hp hM H locs ls hP hD hS hl
  rw [hQ]
  exact W.vret X.1 X.2.1 (hr.trans hr0) (fun t ht _ => ⟨⟨none, ad', M', rfl, hp, hM, by rw [ht]; exact hP, hD⟩, hS.F ht⟩) hS.2.2 dd X.2.2.2.2.2.2.2.2.2.1
theorem endA {rt : FieldType} (hr0 : d.2.2.2.1 = some rt) (hrt : (∃ n, rt = .object n) ∨ ∃ t, rt = .array t) (hs : ks κ = s) (X : Cx κ d.2.1 d.1.cls rm) (hr : (kme κ).sig.returnType = d.2.2.2.1) (hQ : kQ κ = MQ (kb κ) (fun _ st o t => Qct δ nm post st o t) (ka κ) s mc ms δ.2.2.2) (hδ : kδ κ = δ) : Rt κ d.2.1 nm post mc ms .areturn okA := by
  subst hs; subst hδ
  rintro v ad' M' pc lv dd ⟨x, rfl⟩ hp hM H locs ls hP hD hS hl
  rw [hQ]
  exact W.aret (v := .ref x) X.1 X.2.1 (hr.trans hr0) hrt (Or.inr ⟨x, rfl⟩) (fun t ht _ => ⟨⟨some (.ref x), ad', M', rfl, hp, hM, by rw [ht]; exact hP, hD⟩, hS.F ht⟩) hS.2.2 dd X.2.2.2.2.2.2.2.2.2.1
end ENDS
section GA
variable {κ : Kx} {cc : ByteArray} {own : String} {rm : Room} {nm : List (Nat × Int)} {ad : Ad} {M : Mem} {pc pc' : Nat} {lv : List (Option Value)} {st rest : List Value} {cl sl : Nat}
theorem g_iV0_v (X : Cx κ cc own rm) {d : Md} {ci ix k : Nat} {i : Int} {fs : List Value} {x : Value} {ad2 : Ad} {M2 : Mem} (w : WV d 0 ci) (hlk : Cond.methodLink own ix d.1 ∈ Tb) (dd : decode cc pc = .ok (.invokevirtual ix, 3)) (e : pc + 3 = pc') (hn : (k, i) ∈ nm) (he : ent (kC κ) ad M k i = .inr (ci, fs)) (hr : Rmo rm d 0 0 cl sl) (hcat : (rest.map fun v => v.category).sum ≤ 8) (hC : Ct (kδ κ) d 0 0 nm ad M (.ref (ad k i) :: []) (pV x ad2 M2)) (kk : G κ nm ad2 M2 pc' lv (x :: rest) cl sl) : G κ nm ad M pc lv (.ref (ad k i) :: rest) cl sl :=
  g_invV_v X w hlk hn he hr dd e (As := []) rfl rfl hcat hC kk
theorem g_iV0_n (X : Cx κ cc own rm) {d : Md} {ci ix k : Nat} {i : Int} {fs : List Value} {ad2 : Ad} {M2 : Mem} (w : WV d 0 ci) (hlk : Cond.methodLink own ix d.1 ∈ Tb) (dd : decode cc pc = .ok (.invokevirtual ix, 3)) (e : pc + 3 = pc') (hn : (k, i) ∈ nm) (he : ent (kC κ) ad M k i = .inr (ci, fs)) (hr : Rmo rm d 0 0 cl sl) (hcat : (rest.map fun v => v.category).sum ≤ 8) (hC : Ct (kδ κ) d 0 0 nm ad M (.ref (ad k i) :: []) (pN ad2 M2)) (kk : G κ nm ad2 M2 pc' lv (rest) cl sl) : G κ nm ad M pc lv (.ref (ad k i) :: rest) cl sl :=
  g_invV_n X w hlk hn he hr dd e (As := []) rfl rfl hcat hC kk
theorem g_iV0 (X : Cx κ cc own rm) {d : Md} {ci ix k mc ms : Nat} {i : Int} {fs : List Value} {post : Option Value → Ad → Mem → Prop} (w : WV d 0 ci) (hlk : Cond.methodLink own ix d.1 ∈ Tb) (dd : decode cc pc = .ok (.invokevirtual ix, 3)) (e : pc + 3 = pc') (hn : (k, i) ∈ nm) (he : ent (kC κ) ad M k i = .inr (ci, fs)) (hr : Rmo rm d mc ms cl sl) (hcat : (rest.map fun v => v.category).sum ≤ 8) (hC : Ct (kδ κ) d mc ms nm ad M (.ref (ad k i) :: []) post) (kk : ∀ v ad' M', post v ad' M' → G κ nm ad' M' pc' lv (v.toList ++ rest) (cl + mc) (sl + ms)) : G κ nm ad M pc lv (.ref (ad k i) :: rest) cl sl :=
  g_invV X w hlk hn he hr dd e (As := []) rfl rfl hcat hC kk
theorem g_iV1_v (X : Cx κ cc own rm) {d : Md} {ci ix k : Nat} {i : Int} {fs : List Value} {v1 : Value} {x : Value} {ad2 : Ad} {M2 : Mem} (w : WV d 1 ci) (hlk : Cond.methodLink own ix d.1 ∈ Tb) (dd : decode cc pc = .ok (.invokevirtual ix, 3)) (e : pc + 3 = pc') (hn : (k, i) ∈ nm) (he : ent (kC κ) ad M k i = .inr (ci, fs)) (hr : Rmo rm d 0 0 cl sl) (hcat : (rest.map fun v => v.category).sum ≤ 8) (hC : Ct (kδ κ) d 0 0 nm ad M (.ref (ad k i) :: [v1]) (pV x ad2 M2)) (kk : G κ nm ad2 M2 pc' lv (x :: rest) cl sl) : G κ nm ad M pc lv (v1 :: .ref (ad k i) :: rest) cl sl :=
  g_invV_v X w hlk hn he hr dd e (As := [v1]) rfl rfl hcat hC kk
theorem g_iS1_v (X : Cx κ cc own rm) {d : Md} {ix : Nat} {v1 : Value} {x : Value} {ad2 : Ad} {M2 : Mem} (w : WS d 1) (hlk : Cond.methodLink own ix d.1 ∈ Tb) (dd : decode cc pc = .ok (.invokestatic ix, 3)) (e : pc + 3 = pc') (hr : Rmo rm d 0 0 cl sl) (hcat : (rest.map fun v => v.category).sum ≤ 8) (hC : Ct (kδ κ) d 0 0 nm ad M [v1] (pV x ad2 M2)) (kk : G κ nm ad2 M2 pc' lv (x :: rest) cl sl) : G κ nm ad M pc lv (v1 :: rest) cl sl :=
  g_invS_v X w hlk hr dd e (As := [v1]) rfl rfl hcat hC kk
theorem g_iV1_n (X : Cx κ cc own rm) {d : Md} {ci ix k : Nat} {i : Int} {fs : List Value} {v1 : Value} {ad2 : Ad} {M2 : Mem} (w : WV d 1 ci) (hlk : Cond.methodLink own ix d.1 ∈ Tb) (dd : decode cc pc = .ok (.invokevirtual ix, 3)) (e : pc + 3 = pc') (hn : (k, i) ∈ nm) (he : ent (kC κ) ad M k i = .inr (ci, fs)) (hr : Rmo rm d 0 0 cl sl) (hcat : (rest.map fun v => v.category).sum ≤ 8) (hC : Ct (kδ κ) d 0 0 nm ad M (.ref (ad k i) :: [v1]) (pN ad2 M2)) (kk : G κ nm ad2 M2 pc' lv (rest) cl sl) : G κ nm ad M pc lv (v1 :: .ref (ad k i) :: rest) cl sl :=
  g_invV_n X w hlk hn he hr dd e (As := [v1]) rfl rfl hcat hC kk
theorem g_iS1_n (X : Cx κ cc own rm) {d : Md} {ix : Nat} {v1 : Value} {ad2 : Ad} {M2 : Mem} (w : WS d 1) (hlk : Cond.methodLink own ix d.1 ∈ Tb) (dd : decode cc pc = .ok (.invokestatic ix, 3)) (e : pc + 3 = pc') (hr : Rmo rm d 0 0 cl sl) (hcat : (rest.map fun v => v.category).sum ≤ 8) (hC : Ct (kδ κ) d 0 0 nm ad M [v1] (pN ad2 M2)) (kk : G κ nm ad2 M2 pc' lv (rest) cl sl) : G κ nm ad M pc lv (v1 :: rest) cl sl :=
  g_invS_n X w hlk hr dd e (As := [v1]) rfl rfl hcat hC kk
theorem g_iV1 (X : Cx κ cc own rm) {d : Md} {ci ix k mc ms : Nat} {i : Int} {fs : List Value} {post : Option Value → Ad → Mem → Prop} {v1 : Value} (w : WV d 1 ci) (hlk : Cond.methodLink own ix d.1 ∈ Tb) (dd : decode cc pc = .ok (.invokevirtual ix, 3)) (e : pc + 3 = pc') (hn : (k, i) ∈ nm) (he : ent (kC κ) ad M k i = .inr (ci, fs)) (hr : Rmo rm d mc ms cl sl) (hcat : (rest.map fun v => v.category).sum ≤ 8) (hC : Ct (kδ κ) d mc ms nm ad M (.ref (ad k i) :: [v1]) post) (kk : ∀ v ad' M', post v ad' M' → G κ nm ad' M' pc' lv (v.toList ++ rest) (cl + mc) (sl + ms)) : G κ nm ad M pc lv (v1 :: .ref (ad k i) :: rest) cl sl :=
  g_invV X w hlk hn he hr dd e (As := [v1]) rfl rfl hcat hC kk
theorem g_iS1 (X : Cx κ cc own rm) {d : Md} {ix mc ms : Nat} {post : Option Value → Ad → Mem → Prop} {v1 : Value} (w : WS d 1) (hlk : Cond.methodLink own ix d.1 ∈ Tb) (dd : decode cc pc = .ok (.invokestatic ix, 3)) (e : pc + 3 = pc') (hr : Rmo rm d mc ms cl sl) (hcat : (rest.map fun v => v.category).sum ≤ 8) (hC : Ct (kδ κ) d mc ms nm ad M [v1] post) (kk : ∀ v ad' M', post v ad' M' → G κ nm ad' M' pc' lv (v.toList ++ rest) (cl + mc) (sl + ms)) : G κ nm ad M pc lv (v1 :: rest) cl sl :=
  g_invS X w hlk hr dd e (As := [v1]) rfl rfl hcat hC kk
theorem g_iV2_v (X : Cx κ cc own rm) {d : Md} {ci ix k : Nat} {i : Int} {fs : List Value} {v1 v2 : Value} {x : Value} {ad2 : Ad} {M2 : Mem} (w : WV d 2 ci) (hlk : Cond.methodLink own ix d.1 ∈ Tb) (dd : decode cc pc = .ok (.invokevirtual ix, 3)) (e : pc + 3 = pc') (hn : (k, i) ∈ nm) (he : ent (kC κ) ad M k i = .inr (ci, fs)) (hr : Rmo rm d 0 0 cl sl) (hcat : (rest.map fun v => v.category).sum ≤ 8) (hC : Ct (kδ κ) d 0 0 nm ad M (.ref (ad k i) :: [v1, v2]) (pV x ad2 M2)) (kk : G κ nm ad2 M2 pc' lv (x :: rest) cl sl) : G κ nm ad M pc lv (v2 :: v1 :: .ref (ad k i) :: rest) cl sl :=
  g_invV_v X w hlk hn he hr dd e (As := [v1, v2]) rfl rfl hcat hC kk
theorem g_iS2_v (X : Cx κ cc own rm) {d : Md} {ix : Nat} {v1 v2 : Value} {x : Value} {ad2 : Ad} {M2 : Mem} (w : WS d 2) (hlk : Cond.methodLink own ix d.1 ∈ Tb) (dd : decode cc pc = .ok (.invokestatic ix, 3)) (e : pc + 3 = pc') (hr : Rmo rm d 0 0 cl sl) (hcat : (rest.map fun v => v.category).sum ≤ 8) (hC : Ct (kδ κ) d 0 0 nm ad M [v1, v2] (pV x ad2 M2)) (kk : G κ nm ad2 M2 pc' lv (x :: rest) cl sl) : G κ nm ad M pc lv (v2 :: v1 :: rest) cl sl :=
  g_invS_v X w hlk hr dd e (As := [v1, v2]) rfl rfl hcat hC kk
theorem g_iV2_n (X : Cx κ cc own rm) {d : Md} {ci ix k : Nat} {i : Int} {fs : List Value} {v1 v2 : Value} {ad2 : Ad} {M2 : Mem} (w : WV d 2 ci) (hlk : Cond.methodLink own ix d.1 ∈ Tb) (dd : decode cc pc = .ok (.invokevirtual ix, 3)) (e : pc + 3 = pc') (hn : (k, i) ∈ nm) (he : ent (kC κ) ad M k i = .inr (ci, fs)) (hr : Rmo rm d 0 0 cl sl) (hcat : (rest.map fun v => v.category).sum ≤ 8) (hC : Ct (kδ κ) d 0 0 nm ad M (.ref (ad k i) :: [v1, v2]) (pN ad2 M2)) (kk : G κ nm ad2 M2 pc' lv (rest) cl sl) : G κ nm ad M pc lv (v2 :: v1 :: .ref (ad k i) :: rest) cl sl :=
  g_invV_n X w hlk hn he hr dd e (As := [v1, v2]) rfl rfl hcat hC kk
theorem g_iS2_n (X : Cx κ cc own rm) {d : Md} {ix : Nat} {v1 v2 : Value} {ad2 : Ad} {M2 : Mem} (w : WS d 2) (hlk : Cond.methodLink own ix d.1 ∈ Tb) (dd : decode cc pc = .ok (.invokestatic ix, 3)) (e : pc + 3 = pc') (hr : Rmo rm d 0 0 cl sl) (hcat : (rest.map fun v => v.category).sum ≤ 8) (hC : Ct (kδ κ) d 0 0 nm ad M [v1, v2] (pN ad2 M2)) (kk : G κ nm ad2 M2 pc' lv (rest) cl sl) : G κ nm ad M pc lv (v2 :: v1 :: rest) cl sl :=
  g_invS_n X w hlk hr dd e (As := [v1, v2]) rfl rfl hcat hC kk
theorem g_iV2 (X : Cx κ cc own rm) {d : Md} {ci ix k mc ms : Nat} {i : Int} {fs : List Value} {post : Option Value → Ad → Mem → Prop} {v1 v2 : Value} (w : WV d 2 ci) (hlk : Cond.methodLink own ix d.1 ∈ Tb) (dd : decode cc pc = .ok (.invokevirtual ix, 3)) (e : pc + 3 = pc') (hn : (k, i) ∈ nm) (he : ent (kC κ) ad M k i = .inr (ci, fs)) (hr : Rmo rm d mc ms cl sl) (hcat : (rest.map fun v => v.category).sum ≤ 8) (hC : Ct (kδ κ) d mc ms nm ad M (.ref (ad k i) :: [v1, v2]) post) (kk : ∀ v ad' M', post v ad' M' → G κ nm ad' M' pc' lv (v.toList ++ rest) (cl + mc) (sl + ms)) : G κ nm ad M pc lv (v2 :: v1 :: .ref (ad k i) :: rest) cl sl :=
  g_invV X w hlk hn he hr dd e (As := [v1, v2]) rfl rfl hcat hC kk
theorem g_iS2 (X : Cx κ cc own rm) {d : Md} {ix mc ms : Nat} {post : Option Value → Ad → Mem → Prop} {v1 v2 : Value} (w : WS d 2) (hlk : Cond.methodLink own ix d.1 ∈ Tb) (dd : decode cc pc = .ok (.invokestatic ix, 3)) (e : pc + 3 = pc') (hr : Rmo rm d mc ms cl sl) (hcat : (rest.map fun v => v.category).sum ≤ 8) (hC : Ct (kδ κ) d mc ms nm ad M [v1, v2] post) (kk : ∀ v ad' M', post v ad' M' → G κ nm ad' M' pc' lv (v.toList ++ rest) (cl + mc) (sl + ms)) : G κ nm ad M pc lv (v2 :: v1 :: rest) cl sl :=
  g_invS X w hlk hr dd e (As := [v1, v2]) rfl rfl hcat hC kk
theorem g_iV3_v (X : Cx κ cc own rm) {d : Md} {ci ix k : Nat} {i : Int} {fs : List Value} {v1 v2 v3 : Value} {x : Value} {ad2 : Ad} {M2 : Mem} (w : WV d 3 ci) (hlk : Cond.methodLink own ix d.1 ∈ Tb) (dd : decode cc pc = .ok (.invokevirtual ix, 3)) (e : pc + 3 = pc') (hn : (k, i) ∈ nm) (he : ent (kC κ) ad M k i = .inr (ci, fs)) (hr : Rmo rm d 0 0 cl sl) (hcat : (rest.map fun v => v.category).sum ≤ 8) (hC : Ct (kδ κ) d 0 0 nm ad M (.ref (ad k i) :: [v1, v2, v3]) (pV x ad2 M2)) (kk : G κ nm ad2 M2 pc' lv (x :: rest) cl sl) : G κ nm ad M pc lv (v3 :: v2 :: v1 :: .ref (ad k i) :: rest) cl sl :=
  g_invV_v X w hlk hn he hr dd e (As := [v1, v2, v3]) rfl rfl hcat hC kk
theorem g_iS3_v (X : Cx κ cc own rm) {d : Md} {ix : Nat} {v1 v2 v3 : Value} {x : Value} {ad2 : Ad} {M2 : Mem} (w : WS d 3) (hlk : Cond.methodLink own ix d.1 ∈ Tb) (dd : decode cc pc = .ok (.invokestatic ix, 3)) (e : pc + 3 = pc') (hr : Rmo rm d 0 0 cl sl) (hcat : (rest.map fun v => v.category).sum ≤ 8) (hC : Ct (kδ κ) d 0 0 nm ad M [v1, v2, v3] (pV x ad2 M2)) (kk : G κ nm ad2 M2 pc' lv (x :: rest) cl sl) : G κ nm ad M pc lv (v3 :: v2 :: v1 :: rest) cl sl :=
  g_invS_v X w hlk hr dd e (As := [v1, v2, v3]) rfl rfl hcat hC kk
theorem g_iV3_n (X : Cx κ cc own rm) {d : Md} {ci ix k : Nat} {i : Int} {fs : List Value} {v1 v2 v3 : Value} {ad2 : Ad} {M2 : Mem} (w : WV d 3 ci) (hlk : Cond.methodLink own ix d.1 ∈ Tb) (dd : decode cc pc = .ok (.invokevirtual ix, 3)) (e : pc + 3 = pc') (hn : (k, i) ∈ nm) (he : ent (kC κ) ad M k i = .inr (ci, fs)) (hr : Rmo rm d 0 0 cl sl) (hcat : (rest.map fun v => v.category).sum ≤ 8) (hC : Ct (kδ κ) d 0 0 nm ad M (.ref (ad k i) :: [v1, v2, v3]) (pN ad2 M2)) (kk : G κ nm ad2 M2 pc' lv (rest) cl sl) : G κ nm ad M pc lv (v3 :: v2 :: v1 :: .ref (ad k i) :: rest) cl sl :=
  g_invV_n X w hlk hn he hr dd e (As := [v1, v2, v3]) rfl rfl hcat hC kk
theorem g_iS3_n (X : Cx κ cc own rm) {d : Md} {ix : Nat} {v1 v2 v3 : Value} {ad2 : Ad} {M2 : Mem} (w : WS d 3) (hlk : Cond.methodLink own ix d.1 ∈ Tb) (dd : decode cc pc = .ok (.invokestatic ix, 3)) (e : pc + 3 = pc') (hr : Rmo rm d 0 0 cl sl) (hcat : (rest.map fun v => v.category).sum ≤ 8) (hC : Ct (kδ κ) d 0 0 nm ad M [v1, v2, v3] (pN ad2 M2)) (kk : G κ nm ad2 M2 pc' lv (rest) cl sl) : G κ nm ad M pc lv (v3 :: v2 :: v1 :: rest) cl sl :=
  g_invS_n X w hlk hr dd e (As := [v1, v2, v3]) rfl rfl hcat hC kk
theorem g_iV3 (X : Cx κ cc own rm) {d : Md} {ci ix k mc ms : Nat} {i : Int} {fs : List Value} {post : Option Value → Ad → Mem → Prop} {v1 v2 v3 : Value} (w : WV d 3 ci) (hlk : Cond.methodLink own ix d.1 ∈ Tb) (dd : decode cc pc = .ok (.invokevirtual ix, 3)) (e : pc + 3 = pc') (hn : (k, i) ∈ nm) (he : ent (kC κ) ad M k i = .inr (ci, fs)) (hr : Rmo rm d mc ms cl sl) (hcat : (rest.map fun v => v.category).sum ≤ 8) (hC : Ct (kδ κ) d mc ms nm ad M (.ref (ad k i) :: [v1, v2, v3]) post) (kk : ∀ v ad' M', post v ad' M' → G κ nm ad' M' pc' lv (v.toList ++ rest) (cl + mc) (sl + ms)) : G κ nm ad M pc lv (v3 :: v2 :: v1 :: .ref (ad k i) :: rest) cl sl :=
  g_invV X w hlk hn he hr dd e (As := [v1, v2, v3]) rfl rfl hcat hC kk
theorem g_iS3 (X : Cx κ cc own rm) {d : Md} {ix mc ms : Nat} {post : Option Value → Ad → Mem → Prop} {v1 v2 v3 : Value} (w : WS d 3) (hlk : Cond.methodLink own ix d.1 ∈ Tb) (dd : decode cc pc = .ok (.invokestatic ix, 3)) (e : pc + 3 = pc') (hr : Rmo rm d mc ms cl sl) (hcat : (rest.map fun v => v.category).sum ≤ 8) (hC : Ct (kδ κ) d mc ms nm ad M [v1, v2, v3] post) (kk : ∀ v ad' M', post v ad' M' → G κ nm ad' M' pc' lv (v.toList ++ rest) (cl + mc) (sl + ms)) : G κ nm ad M pc lv (v3 :: v2 :: v1 :: rest) cl sl :=
  g_invS X w hlk hr dd e (As := [v1, v2, v3]) rfl rfl hcat hC kk
theorem g_iV4_v (X : Cx κ cc own rm) {d : Md} {ci ix k : Nat} {i : Int} {fs : List Value} {v1 v2 v3 v4 : Value} {x : Value} {ad2 : Ad} {M2 : Mem} (w : WV d 4 ci) (hlk : Cond.methodLink own ix d.1 ∈ Tb) (dd : decode cc pc = .ok (.invokevirtual ix, 3)) (e : pc + 3 = pc') (hn : (k, i) ∈ nm) (he : ent (kC κ) ad M k i = .inr (ci, fs)) (hr : Rmo rm d 0 0 cl sl) (hcat : (rest.map fun v => v.category).sum ≤ 8) (hC : Ct (kδ κ) d 0 0 nm ad M (.ref (ad k i) :: [v1, v2, v3, v4]) (pV x ad2 M2)) (kk : G κ nm ad2 M2 pc' lv (x :: rest) cl sl) : G κ nm ad M pc lv (v4 :: v3 :: v2 :: v1 :: .ref (ad k i) :: rest) cl sl :=
  g_invV_v X w hlk hn he hr dd e (As := [v1, v2, v3, v4]) rfl rfl hcat hC kk
theorem g_iS4_v (X : Cx κ cc own rm) {d : Md} {ix : Nat} {v1 v2 v3 v4 : Value} {x : Value} {ad2 : Ad} {M2 : Mem} (w : WS d 4) (hlk : Cond.methodLink own ix d.1 ∈ Tb) (dd : decode cc pc = .ok (.invokestatic ix, 3)) (e : pc + 3 = pc') (hr : Rmo rm d 0 0 cl sl) (hcat : (rest.map fun v => v.category).sum ≤ 8) (hC : Ct (kδ κ) d 0 0 nm ad M [v1, v2, v3, v4] (pV x ad2 M2)) (kk : G κ nm ad2 M2 pc' lv (x :: rest) cl sl) : G κ nm ad M pc lv (v4 :: v3 :: v2 :: v1 :: rest) cl sl :=
  g_invS_v X w hlk hr dd e (As := [v1, v2, v3, v4]) rfl rfl hcat hC kk
theorem g_iV4_n (X : Cx κ cc own rm) {d : Md} {ci ix k : Nat} {i : Int} {fs : List Value} {v1 v2 v3 v4 : Value} {ad2 : Ad} {M2 : Mem} (w : WV d 4 ci) (hlk : Cond.methodLink own ix d.1 ∈ Tb) (dd : decode cc pc = .ok (.invokevirtual ix, 3)) (e : pc + 3 = pc') (hn : (k, i) ∈ nm) (he : ent (kC κ) ad M k i = .inr (ci, fs)) (hr : Rmo rm d 0 0 cl sl) (hcat : (rest.map fun v => v.category).sum ≤ 8) (hC : Ct (kδ κ) d 0 0 nm ad M (.ref (ad k i) :: [v1, v2, v3, v4]) (pN ad2 M2)) (kk : G κ nm ad2 M2 pc' lv (rest) cl sl) : G κ nm ad M pc lv (v4 :: v3 :: v2 :: v1 :: .ref (ad k i) :: rest) cl sl :=
  g_invV_n X w hlk hn he hr dd e (As := [v1, v2, v3, v4]) rfl rfl hcat hC kk
theorem g_iS4_n (X : Cx κ cc own rm) {d : Md} {ix : Nat} {v1 v2 v3 v4 : Value} {ad2 : Ad} {M2 : Mem} (w : WS d 4) (hlk : Cond.methodLink own ix d.1 ∈ Tb) (dd : decode cc pc = .ok (.invokestatic ix, 3)) (e : pc + 3 = pc') (hr : Rmo rm d 0 0 cl sl) (hcat : (rest.map fun v => v.category).sum ≤ 8) (hC : Ct (kδ κ) d 0 0 nm ad M [v1, v2, v3, v4] (pN ad2 M2)) (kk : G κ nm ad2 M2 pc' lv (rest) cl sl) : G κ nm ad M pc lv (v4 :: v3 :: v2 :: v1 :: rest) cl sl :=
  g_invS_n X w hlk hr dd e (As := [v1, v2, v3, v4]) rfl rfl hcat hC kk
theorem g_iV4 (X : Cx κ cc own rm) {d : Md} {ci ix k mc ms : Nat} {i : Int} {fs : List Value} {post : Option Value → Ad → Mem → Prop} {v1 v2 v3 v4 : Value} (w : WV d 4 ci) (hlk : Cond.methodLink own ix d.1 ∈ Tb) (dd : decode cc pc = .ok (.invokevirtual ix, 3)) (e : pc + 3 = pc') (hn : (k, i) ∈ nm) (he : ent (kC κ) ad M k i = .inr (ci, fs)) (hr : Rmo rm d mc ms cl sl) (hcat : (rest.map fun v => v.category).sum ≤ 8) (hC : Ct (kδ κ) d mc ms nm ad M (.ref (ad k i) :: [v1, v2, v3, v4]) post) (kk : ∀ v ad' M', post v ad' M' → G κ nm ad' M' pc' lv (v.toList ++ rest) (cl + mc) (sl + ms)) : G κ nm ad M pc lv (v4 :: v3 :: v2 :: v1 :: .ref (ad k i) :: rest) cl sl :=
  g_invV X w hlk hn he hr dd e (As := [v1, v2, v3, v4]) rfl rfl hcat hC kk
theorem g_iS4 (X : Cx κ cc own rm) {d : Md} {ix mc ms : Nat} {post : Option Value → Ad → Mem → Prop} {v1 v2 v3 v4 : Value} (w : WS d 4) (hlk : Cond.methodLink own ix d.1 ∈ Tb) (dd : decode cc pc = .ok (.invokestatic ix, 3)) (e : pc + 3 = pc') (hr : Rmo rm d mc ms cl sl) (hcat : (rest.map fun v => v.category).sum ≤ 8) (hC : Ct (kδ κ) d mc ms nm ad M [v1, v2, v3, v4] post) (kk : ∀ v ad' M', post v ad' M' → G κ nm ad' M' pc' lv (v.toList ++ rest) (cl + mc) (sl + ms)) : G κ nm ad M pc lv (v4 :: v3 :: v2 :: v1 :: rest) cl sl :=
  g_invS X w hlk hr dd e (As := [v1, v2, v3, v4]) rfl rfl hcat hC kk
theorem g_iV5_v (X : Cx κ cc own rm) {d : Md} {ci ix k : Nat} {i : Int} {fs : List Value} {v1 v2 v3 v4 v5 : Value} {x : Value} {ad2 : Ad} {M2 : Mem} (w : WV d 5 ci) (hlk : Cond.methodLink own ix d.1 ∈ Tb) (dd : decode cc pc = .ok (.invokevirtual ix, 3)) (e : pc + 3 = pc') (hn : (k, i) ∈ nm) (he : ent (kC κ) ad M k i = .inr (ci, fs)) (hr : Rmo rm d 0 0 cl sl) (hcat : (rest.map fun v => v.category).sum ≤ 8) (hC : Ct (kδ κ) d 0 0 nm ad M (.ref (ad k i) :: [v1, v2, v3, v4, v5]) (pV x ad2 M2)) (kk : G κ nm ad2 M2 pc' lv (x :: rest) cl sl) : G κ nm ad M pc lv (v5 :: v4 :: v3 :: v2 :: v1 :: .ref (ad k i) :: rest) cl sl :=
  g_invV_v X w hlk hn he hr dd e (As := [v1, v2, v3, v4, v5]) rfl rfl hcat hC kk
theorem g_iS5_v (X : Cx κ cc own rm) {d : Md} {ix : Nat} {v1 v2 v3 v4 v5 : Value} {x : Value} {ad2 : Ad} {M2 : Mem} (w : WS d 5) (hlk : Cond.methodLink own ix d.1 ∈ Tb) (dd : decode cc pc = .ok (.invokestatic ix, 3)) (e : pc + 3 = pc') (hr : Rmo rm d 0 0 cl sl) (hcat : (rest.map fun v => v.category).sum ≤ 8) (hC : Ct (kδ κ) d 0 0 nm ad M [v1, v2, v3, v4, v5] (pV x ad2 M2)) (kk : G κ nm ad2 M2 pc' lv (x :: rest) cl sl) : G κ nm ad M pc lv (v5 :: v4 :: v3 :: v2 :: v1 :: rest) cl sl :=
  g_invS_v X w hlk hr dd e (As := [v1, v2, v3, v4, v5]) rfl rfl hcat hC kk
theorem g_iV5_n (X : Cx κ cc own rm) {d : Md} {ci ix k : Nat} {i : Int} {fs : List Value} {v1 v2 v3 v4 v5 : Value} {ad2 : Ad} {M2 : Mem} (w : WV d 5 ci) (hlk : Cond.methodLink own ix d.1 ∈ Tb) (dd : decode cc pc = .ok (.invokevirtual ix, 3)) (e : pc + 3 = pc') (hn : (k, i) ∈ nm) (he : ent (kC κ) ad M k i = .inr (ci, fs)) (hr : Rmo rm d 0 0 cl sl) (hcat : (rest.map fun v => v.category).sum ≤ 8) (hC : Ct (kδ κ) d 0 0 nm ad M (.ref (ad k i) :: [v1, v2, v3, v4, v5]) (pN ad2 M2)) (kk : G κ nm ad2 M2 pc' lv (rest) cl sl) : G κ nm ad M pc lv (v5 :: v4 :: v3 :: v2 :: v1 :: .ref (ad k i) :: rest) cl sl :=
  g_invV_n X w hlk hn he hr dd e (As := [v1, v2, v3, v4, v5]) rfl rfl hcat hC kk
theorem g_iS5_n (X : Cx κ cc own rm) {d : Md} {ix : Nat} {v1 v2 v3 v4 v5 : Value} {ad2 : Ad} {M2 : Mem} (w : WS d 5) (hlk : Cond.methodLink own ix d.1 ∈ Tb) (dd : decode cc pc = .ok (.invokestatic ix, 3)) (e : pc + 3 = pc') (hr : Rmo rm d 0 0 cl sl) (hcat : (rest.map fun v => v.category).sum ≤ 8) (hC : Ct (kδ κ) d 0 0 nm ad M [v1, v2, v3, v4, v5] (pN ad2 M2)) (kk : G κ nm ad2 M2 pc' lv (rest) cl sl) : G κ nm ad M pc lv (v5 :: v4 :: v3 :: v2 :: v1 :: rest) cl sl :=
  g_invS_n X w hlk hr dd e (As := [v1, v2, v3, v4, v5]) rfl rfl hcat hC kk
theorem g_iV5 (X : Cx κ cc own rm) {d : Md} {ci ix k mc ms : Nat} {i : Int} {fs : List Value} {post : Option Value → Ad → Mem → Prop} {v1 v2 v3 v4 v5 : Value} (w : WV d 5 ci) (hlk : Cond.methodLink own ix d.1 ∈ Tb) (dd : decode cc pc = .ok (.invokevirtual ix, 3)) (e : pc + 3 = pc') (hn : (k, i) ∈ nm) (he : ent (kC κ) ad M k i = .inr (ci, fs)) (hr : Rmo rm d mc ms cl sl) (hcat : (rest.map fun v => v.category).sum ≤ 8) (hC : Ct (kδ κ) d mc ms nm ad M (.ref (ad k i) :: [v1, v2, v3, v4, v5]) post) (kk : ∀ v ad' M', post v ad' M' → G κ nm ad' M' pc' lv (v.toList ++ rest) (cl + mc) (sl + ms)) : G κ nm ad M pc lv (v5 :: v4 :: v3 :: v2 :: v1 :: .ref (ad k i) :: rest) cl sl :=
  g_invV X w hlk hn he hr dd e (As := [v1, v2, v3, v4, v5]) rfl rfl hcat hC kk
theorem g_iS5 (X : Cx κ cc own rm) {d : Md} {ix mc ms : Nat} {post : Option Value → Ad → Mem → Prop} {v1 v2 v3 v4 v5 : Value} (w : WS d 5) (hlk : Cond.methodLink own ix d.1 ∈ Tb) (dd : decode cc pc = .ok (.invokestatic ix, 3)) (e : pc + 3 = pc') (hr : Rmo rm d mc ms cl sl) (hcat : (rest.map fun v => v.category).sum ≤ 8) (hC : Ct (kδ κ) d mc ms nm ad M [v1, v2, v3, v4, v5] post) (kk : ∀ v ad' M', post v ad' M' → G κ nm ad' M' pc' lv (v.toList ++ rest) (cl + mc) (sl + ms)) : G κ nm ad M pc lv (v5 :: v4 :: v3 :: v2 :: v1 :: rest) cl sl :=
  g_invS X w hlk hr dd e (As := [v1, v2, v3, v4, v5]) rfl rfl hcat hC kk
theorem g_iV6 (X : Cx κ cc own rm) {d : Md} {ci ix k mc ms : Nat} {i : Int} {fs : List Value} {post : Option Value → Ad → Mem → Prop} {v1 v2 v3 v4 v5 v6 : Value} (w : WV d 6 ci) (hlk : Cond.methodLink own ix d.1 ∈ Tb) (dd : decode cc pc = .ok (.invokevirtual ix, 3)) (e : pc + 3 = pc') (hn : (k, i) ∈ nm) (he : ent (kC κ) ad M k i = .inr (ci, fs)) (hr : Rmo rm d mc ms cl sl) (hcat : (rest.map fun v => v.category).sum ≤ 8) (hC : Ct (kδ κ) d mc ms nm ad M (.ref (ad k i) :: [v1, v2, v3, v4, v5, v6]) post) (kk : ∀ v ad' M', post v ad' M' → G κ nm ad' M' pc' lv (v.toList ++ rest) (cl + mc) (sl + ms)) : G κ nm ad M pc lv (v6 :: v5 :: v4 :: v3 :: v2 :: v1 :: .ref (ad k i) :: rest) cl sl :=
  g_invV X w hlk hn he hr dd e (As := [v1, v2, v3, v4, v5, v6]) rfl rfl hcat hC kk
theorem g_iS6 (X : Cx κ cc own rm) {d : Md} {ix mc ms : Nat} {post : Option Value → Ad → Mem → Prop} {v1 v2 v3 v4 v5 v6 : Value} (w : WS d 6) (hlk : Cond.methodLink own ix d.1 ∈ Tb) (dd : decode cc pc = .ok (.invokestatic ix, 3)) (e : pc + 3 = pc') (hr : Rmo rm d mc ms cl sl) (hcat : (rest.map fun v => v.category).sum ≤ 8) (hC : Ct (kδ κ) d mc ms nm ad M [v1, v2, v3, v4, v5, v6] post) (kk : ∀ v ad' M', post v ad' M' → G κ nm ad' M' pc' lv (v.toList ++ rest) (cl + mc) (sl + ms)) : G κ nm ad M pc lv (v6 :: v5 :: v4 :: v3 :: v2 :: v1 :: rest) cl sl :=
  g_invS X w hlk hr dd e (As := [v1, v2, v3, v4, v5, v6]) rfl rfl hcat hC kk
theorem g_iV7 (X : Cx κ cc own rm) {d : Md} {ci ix k mc ms : Nat} {i : Int} {fs : List Value} {post : Option Value → Ad → Mem → Prop} {v1 v2 v3 v4 v5 v6 v7 : Value} (w : WV d 7 ci) (hlk : Cond.methodLink own ix d.1 ∈ Tb) (dd : decode cc pc = .ok (.invokevirtual ix, 3)) (e : pc + 3 = pc') (hn : (k, i) ∈ nm) (he : ent (kC κ) ad M k i = .inr (ci, fs)) (hr : Rmo rm d mc ms cl sl) (hcat : (rest.map fun v => v.category).sum ≤ 8) (hC : Ct (kδ κ) d mc ms nm ad M (.ref (ad k i) :: [v1, v2, v3, v4, v5, v6, v7]) post) (kk : ∀ v ad' M', post v ad' M' → G κ nm ad' M' pc' lv (v.toList ++ rest) (cl + mc) (sl + ms)) : G κ nm ad M pc lv (v7 :: v6 :: v5 :: v4 :: v3 :: v2 :: v1 :: .ref (ad k i) :: rest) cl sl :=
  g_invV X w hlk hn he hr dd e (As := [v1, v2, v3, v4, v5, v6, v7]) rfl rfl hcat hC kk
theorem g_iS7 (X : Cx κ cc own rm) {d : Md} {ix mc ms : Nat} {post : Option Value → Ad → Mem → Prop} {v1 v2 v3 v4 v5 v6 v7 : Value} (w : WS d 7) (hlk : Cond.methodLink own ix d.1 ∈ Tb) (dd : decode cc pc = .ok (.invokestatic ix, 3)) (e : pc + 3 = pc') (hr : Rmo rm d mc ms cl sl) (hcat : (rest.map fun v => v.category).sum ≤ 8) (hC : Ct (kδ κ) d mc ms nm ad M [v1, v2, v3, v4, v5, v6, v7] post) (kk : ∀ v ad' M', post v ad' M' → G κ nm ad' M' pc' lv (v.toList ++ rest) (cl + mc) (sl + ms)) : G κ nm ad M pc lv (v7 :: v6 :: v5 :: v4 :: v3 :: v2 :: v1 :: rest) cl sl :=
  g_invS X w hlk hr dd e (As := [v1, v2, v3, v4, v5, v6, v7]) rfl rfl hcat hC kk
def pG (x : Value) (ad2 : Ad) (P : Mem → Prop) : Option Value → Ad → Mem → Prop := fun v ad' M' => v = some x ∧ ad' = ad2 ∧ P M'
def pGn (ad2 : Ad) (P : Mem → Prop) : Option Value → Ad → Mem → Prop := fun v ad' M' => v = none ∧ ad' = ad2 ∧ P M'
theorem g_iV0_g (X : Cx κ cc own rm) {d : Md} {ci ix k : Nat} {i : Int} {fs : List Value} {x : Value} {ad2 : Ad} {P : Mem → Prop} (w : WV d 0 ci) (hlk : Cond.methodLink own ix d.1 ∈ Tb) (dd : decode cc pc = .ok (.invokevirtual ix, 3)) (e : pc + 3 = pc') (hn : (k, i) ∈ nm) (he : ent (kC κ) ad M k i = .inr (ci, fs)) (hr : Rmo rm d 0 0 cl sl) (hcat : (rest.map fun v => v.category).sum ≤ 8) (hC : Ct (kδ κ) d 0 0 nm ad M (.ref (ad k i) :: []) (pG x ad2 P)) (kk : ∀ M2, P M2 → G κ nm ad2 M2 pc' lv (x :: rest) cl sl) : G κ nm ad M pc lv (.ref (ad k i) :: rest) cl sl :=
  g_invV X w hlk hn he hr dd e (As := []) rfl rfl hcat hC (fun v ad' M' ⟨h1, h2, h3⟩ => by subst h1; subst h2; exact kk M' h3)
theorem g_iV0_gn (X : Cx κ cc own rm) {d : Md} {ci ix k : Nat} {i : Int} {fs : List Value} {ad2 : Ad} {P : Mem → Prop} (w : WV d 0 ci) (hlk : Cond.methodLink own ix d.1 ∈ Tb) (dd : decode cc pc = .ok (.invokevirtual ix, 3)) (e : pc + 3 = pc') (hn : (k, i) ∈ nm) (he : ent (kC κ) ad M k i = .inr (ci, fs)) (hr : Rmo rm d 0 0 cl sl) (hcat : (rest.map fun v => v.category).sum ≤ 8) (hC : Ct (kδ κ) d 0 0 nm ad M (.ref (ad k i) :: []) (pGn ad2 P)) (kk : ∀ M2, P M2 → G κ nm ad2 M2 pc' lv (rest) cl sl) : G κ nm ad M pc lv (.ref (ad k i) :: rest) cl sl :=
  g_invV X w hlk hn he hr dd e (As := []) rfl rfl hcat hC (fun v ad' M' ⟨h1, h2, h3⟩ => by subst h1; subst h2; exact kk M' h3)
theorem g_iV1_g (X : Cx κ cc own rm) {d : Md} {ci ix k : Nat} {i : Int} {fs : List Value} {v1 : Value} {x : Value} {ad2 : Ad} {P : Mem → Prop} (w : WV d 1 ci) (hlk : Cond.methodLink own ix d.1 ∈ Tb) (dd : decode cc pc = .ok (.invokevirtual ix, 3)) (e : pc + 3 = pc') (hn : (k, i) ∈ nm) (he : ent (kC κ) ad M k i = .inr (ci, fs)) (hr : Rmo rm d 0 0 cl sl) (hcat : (rest.map fun v => v.category).sum ≤ 8) (hC : Ct (kδ κ) d 0 0 nm ad M (.ref (ad k i) :: [v1]) (pG x ad2 P)) (kk : ∀ M2, P M2 → G κ nm ad2 M2 pc' lv (x :: rest) cl sl) : G κ nm ad M pc lv (v1 :: .ref (ad k i) :: rest) cl sl :=
  g_invV X w hlk hn he hr dd e (As := [v1]) rfl rfl hcat hC (fun v ad' M' ⟨h1, h2, h3⟩ => by subst h1; subst h2; exact kk M' h3)
theorem g_iS1_g (X : Cx κ cc own rm) {d : Md} {ix : Nat} {v1 : Value} {x : Value} {ad2 : Ad} {P : Mem → Prop} (w : WS d 1) (hlk : Cond.methodLink own ix d.1 ∈ Tb) (dd : decode cc pc = .ok (.invokestatic ix, 3)) (e : pc + 3 = pc') (hr : Rmo rm d 0 0 cl sl) (hcat : (rest.map fun v => v.category).sum ≤ 8) (hC : Ct (kδ κ) d 0 0 nm ad M [v1] (pG x ad2 P)) (kk : ∀ M2, P M2 → G κ nm ad2 M2 pc' lv (x :: rest) cl sl) : G κ nm ad M pc lv (v1 :: rest) cl sl :=
  g_invS X w hlk hr dd e (As := [v1]) rfl rfl hcat hC (fun v ad' M' ⟨h1, h2, h3⟩ => by subst h1; subst h2; exact kk M' h3)
theorem g_iV1_gn (X : Cx κ cc own rm) {d : Md} {ci ix k : Nat} {i : Int} {fs : List Value} {v1 : Value} {ad2 : Ad} {P : Mem → Prop} (w : WV d 1 ci) (hlk : Cond.methodLink own ix d.1 ∈ Tb) (dd : decode cc pc = .ok (.invokevirtual ix, 3)) (e : pc + 3 = pc') (hn : (k, i) ∈ nm) (he : ent (kC κ) ad M k i = .inr (ci, fs)) (hr : Rmo rm d 0 0 cl sl) (hcat : (rest.map fun v => v.category).sum ≤ 8) (hC : Ct (kδ κ) d 0 0 nm ad M (.ref (ad k i) :: [v1]) (pGn ad2 P)) (kk : ∀ M2, P M2 → G κ nm ad2 M2 pc' lv (rest) cl sl) : G κ nm ad M pc lv (v1 :: .ref (ad k i) :: rest) cl sl :=
  g_invV X w hlk hn he hr dd e (As := [v1]) rfl rfl hcat hC (fun v ad' M' ⟨h1, h2, h3⟩ => by subst h1; subst h2; exact kk M' h3)
theorem g_iS1_gn (X : Cx κ cc own rm) {d : Md} {ix : Nat} {v1 : Value} {ad2 : Ad} {P : Mem → Prop} (w : WS d 1) (hlk : Cond.methodLink own ix d.1 ∈ Tb) (dd : decode cc pc = .ok (.invokestatic ix, 3)) (e : pc + 3 = pc') (hr : Rmo rm d 0 0 cl sl) (hcat : (rest.map fun v => v.category).sum ≤ 8) (hC : Ct (kδ κ) d 0 0 nm ad M [v1] (pGn ad2 P)) (kk : ∀ M2, P M2 → G κ nm ad2 M2 pc' lv (rest) cl sl) : G κ nm ad M pc lv (v1 :: rest) cl sl :=
  g_invS X w hlk hr dd e (As := [v1]) rfl rfl hcat hC (fun v ad' M' ⟨h1, h2, h3⟩ => by subst h1; subst h2; exact kk M' h3)
theorem g_iV2_g (X : Cx κ cc own rm) {d : Md} {ci ix k : Nat} {i : Int} {fs : List Value} {v1 v2 : Value} {x : Value} {ad2 : Ad} {P : Mem → Prop} (w : WV d 2 ci) (hlk : Cond.methodLink own ix d.1 ∈ Tb) (dd : decode cc pc = .ok (.invokevirtual ix, 3)) (e : pc + 3 = pc') (hn : (k, i) ∈ nm) (he : ent (kC κ) ad M k i = .inr (ci, fs)) (hr : Rmo rm d 0 0 cl sl) (hcat : (rest.map fun v => v.category).sum ≤ 8) (hC : Ct (kδ κ) d 0 0 nm ad M (.ref (ad k i) :: [v1, v2]) (pG x ad2 P)) (kk : ∀ M2, P M2 → G κ nm ad2 M2 pc' lv (x :: rest) cl sl) : G κ nm ad M pc lv (v2 :: v1 :: .ref (ad k i) :: rest) cl sl :=
  g_invV X w hlk hn he hr dd e (As := [v1, v2]) rfl rfl hcat hC (fun v ad' M' ⟨h1, h2, h3⟩ => by subst h1; subst h2; exact kk M' h3)
theorem g_iS2_g (X : Cx κ cc own rm) {d : Md} {ix : Nat} {v1 v2 : Value} {x : Value} {ad2 : Ad} {P : Mem → Prop} (w : WS d 2) (hlk : Cond.methodLink own ix d.1 ∈ Tb) (dd : decode cc pc = .ok (.invokestatic ix, 3)) (e : pc + 3 = pc') (hr : Rmo rm d 0 0 cl sl) (hcat : (rest.map fun v => v.category).sum ≤ 8) (hC : Ct (kδ κ) d 0 0 nm ad M [v1, v2] (pG x ad2 P)) (kk : ∀ M2, P M2 → G κ nm ad2 M2 pc' lv (x :: rest) cl sl) : G κ nm ad M pc lv (v2 :: v1 :: rest) cl sl :=
  g_invS X w hlk hr dd e (As := [v1, v2]) rfl rfl hcat hC (fun v ad' M' ⟨h1, h2, h3⟩ => by subst h1; subst h2; exact kk M' h3)
theorem g_iV2_gn (X : Cx κ cc own rm) {d : Md} {ci ix k : Nat} {i : Int} {fs : List Value} {v1 v2 : Value} {ad2 : Ad} {P : Mem → Prop} (w : WV d 2 ci) (hlk : Cond.methodLink own ix d.1 ∈ Tb) (dd : decode cc pc = .ok (.invokevirtual ix, 3)) (e : pc + 3 = pc') (hn : (k, i) ∈ nm) (he : ent (kC κ) ad M k i = .inr (ci, fs)) (hr : Rmo rm d 0 0 cl sl) (hcat : (rest.map fun v => v.category).sum ≤ 8) (hC : Ct (kδ κ) d 0 0 nm ad M (.ref (ad k i) :: [v1, v2]) (pGn ad2 P)) (kk : ∀ M2, P M2 → G κ nm ad2 M2 pc' lv (rest) cl sl) : G κ nm ad M pc lv (v2 :: v1 :: .ref (ad k i) :: rest) cl sl :=
  g_invV X w hlk hn he hr dd e (As := [v1, v2]) rfl rfl hcat hC (fun v ad' M' ⟨h1, h2, h3⟩ => by subst h1; subst h2; exact kk M' h3)
theorem g_iS2_gn (X : Cx κ cc own rm) {d : Md} {ix : Nat} {v1 v2 : Value} {ad2 : Ad} {P : Mem → Prop} (w : WS d 2) (hlk : Cond.methodLink own ix d.1 ∈ Tb) (dd : decode cc pc = .ok (.invokestatic ix, 3)) (e : pc + 3 = pc') (hr : Rmo rm d 0 0 cl sl) (hcat : (rest.map fun v => v.category).sum ≤ 8) (hC : Ct (kδ κ) d 0 0 nm ad M [v1, v2] (pGn ad2 P)) (kk : ∀ M2, P M2 → G κ nm ad2 M2 pc' lv (rest) cl sl) : G κ nm ad M pc lv (v2 :: v1 :: rest) cl sl :=
  g_invS X w hlk hr dd e (As := [v1, v2]) rfl rfl hcat hC (fun v ad' M' ⟨h1, h2, h3⟩ => by subst h1; subst h2; exact kk M' h3)
theorem g_iV3_g (X : Cx κ cc own rm) {d : Md} {ci ix k : Nat} {i : Int} {fs : List Value} {v1 v2 v3 : Value} {x : Value} {ad2 : Ad} {P : Mem → Prop} (w : WV d 3 ci) (hlk : Cond.methodLink own ix d.1 ∈ Tb) (dd : decode cc pc = .ok (.invokevirtual ix, 3)) (e : pc + 3 = pc') (hn : (k, i) ∈ nm) (he : ent (kC κ) ad M k i = .inr (ci, fs)) (hr : Rmo rm d 0 0 cl sl) (hcat : (rest.map fun v => v.category).sum ≤ 8) (hC : Ct (kδ κ) d 0 0 nm ad M (.ref (ad k i) :: [v1, v2, v3]) (pG x ad2 P)) (kk : ∀ M2, P M2 → G κ nm ad2 M2 pc' lv (x :: rest) cl sl) : G κ nm ad M pc lv (v3 :: v2 :: v1 :: .ref (ad k i) :: rest) cl sl :=
  g_invV X w hlk hn he hr dd e (As := [v1, v2, v3]) rfl rfl hcat hC (fun v ad' M' ⟨h1, h2, h3⟩ => by subst h1; subst h2; exact kk M' h3)
theorem g_iS3_g (X : Cx κ cc own rm) {d : Md} {ix : Nat} {v1 v2 v3 : Value} {x : Value} {ad2 : Ad} {P : Mem → Prop} (w : WS d 3) (hlk : Cond.methodLink own ix d.1 ∈ Tb) (dd : decode cc pc = .ok (.invokestatic ix, 3)) (e : pc + 3 = pc') (hr : Rmo rm d 0 0 cl sl) (hcat : (rest.map fun v => v.category).sum ≤ 8) (hC : Ct (kδ κ) d 0 0 nm ad M [v1, v2, v3] (pG x ad2 P)) (kk : ∀ M2, P M2 → G κ nm ad2 M2 pc' lv (x :: rest) cl sl) : G κ nm ad M pc lv (v3 :: v2 :: v1 :: rest) cl sl :=
  g_invS X w hlk hr dd e (As := [v1, v2, v3]) rfl rfl hcat hC (fun v ad' M' ⟨h1, h2, h3⟩ => by subst h1; subst h2; exact kk M' h3)
theorem g_iV3_gn (X : Cx κ cc own rm) {d : Md} {ci ix k : Nat} {i : Int} {fs : List Value} {v1 v2 v3 : Value} {ad2 : Ad} {P : Mem → Prop} (w : WV d 3 ci) (hlk : Cond.methodLink own ix d.1 ∈ Tb) (dd : decode cc pc = .ok (.invokevirtual ix, 3)) (e : pc + 3 = pc') (hn : (k, i) ∈ nm) (he : ent (kC κ) ad M k i = .inr (ci, fs)) (hr : Rmo rm d 0 0 cl sl) (hcat : (rest.map fun v => v.category).sum ≤ 8) (hC : Ct (kδ κ) d 0 0 nm ad M (.ref (ad k i) :: [v1, v2, v3]) (pGn ad2 P)) (kk : ∀ M2, P M2 → G κ nm ad2 M2 pc' lv (rest) cl sl) : G κ nm ad M pc lv (v3 :: v2 :: v1 :: .ref (ad k i) :: rest) cl sl :=
  g_invV X w hlk hn he hr dd e (As := [v1, v2, v3]) rfl rfl hcat hC (fun v ad' M' ⟨h1, h2, h3⟩ => by subst h1; subst h2; exact kk M' h3)
theorem g_iS3_gn (X : Cx κ cc own rm) {d : Md} {ix : Nat} {v1 v2 v3 : Value} {ad2 : Ad} {P : Mem → Prop} (w : WS d 3) (hlk : Cond.methodLink own ix d.1 ∈ Tb) (dd : decode cc pc = .ok (.invokestatic ix, 3)) (e : pc + 3 = pc') (hr : Rmo rm d 0 0 cl sl) (hcat : (rest.map fun v => v.category).sum ≤ 8) (hC : Ct (kδ κ) d 0 0 nm ad M [v1, v2, v3] (pGn ad2 P)) (kk : ∀ M2, P M2 → G κ nm ad2 M2 pc' lv (rest) cl sl) : G κ nm ad M pc lv (v3 :: v2 :: v1 :: rest) cl sl :=
  g_invS X w hlk hr dd e (As := [v1, v2, v3]) rfl rfl hcat hC (fun v ad' M' ⟨h1, h2, h3⟩ => by subst h1; subst h2; exact kk M' h3)
theorem g_iV4_g (X : Cx κ cc own rm) {d : Md} {ci ix k : Nat} {i : Int} {fs : List Value} {v1 v2 v3 v4 : Value} {x : Value} {ad2 : Ad} {P : Mem → Prop} (w : WV d 4 ci) (hlk : Cond.methodLink own ix d.1 ∈ Tb) (dd : decode cc pc = .ok (.invokevirtual ix, 3)) (e : pc + 3 = pc') (hn : (k, i) ∈ nm) (he : ent (kC κ) ad M k i = .inr (ci, fs)) (hr : Rmo rm d 0 0 cl sl) (hcat : (rest.map fun v => v.category).sum ≤ 8) (hC : Ct (kδ κ) d 0 0 nm ad M (.ref (ad k i) :: [v1, v2, v3, v4]) (pG x ad2 P)) (kk : ∀ M2, P M2 → G κ nm ad2 M2 pc' lv (x :: rest) cl sl) : G κ nm ad M pc lv (v4 :: v3 :: v2 :: v1 :: .ref (ad k i) :: rest) cl sl :=
  g_invV X w hlk hn he hr dd e (As := [v1, v2, v3, v4]) rfl rfl hcat hC (fun v ad' M' ⟨h1, h2, h3⟩ => by subst h1; subst h2; exact kk M' h3)
theorem g_iS4_g (X : Cx κ cc own rm) {d : Md} {ix : Nat} {v1 v2 v3 v4 : Value} {x : Value} {ad2 : Ad} {P : Mem → Prop} (w : WS d 4) (hlk : Cond.methodLink own ix d.1 ∈ Tb) (dd : decode cc pc = .ok (.invokestatic ix, 3)) (e : pc + 3 = pc') (hr : Rmo rm d 0 0 cl sl) (hcat : (rest.map fun v => v.category).sum ≤ 8) (hC : Ct (kδ κ) d 0 0 nm ad M [v1, v2, v3, v4] (pG x ad2 P)) (kk : ∀ M2, P M2 → G κ nm ad2 M2 pc' lv (x :: rest) cl sl) : G κ nm ad M pc lv (v4 :: v3 :: v2 :: v1 :: rest) cl sl :=
  g_invS X w hlk hr dd e (As := [v1, v2, v3, v4]) rfl rfl hcat hC (fun v ad' M' ⟨h1, h2, h3⟩ => by subst h1; subst h2; exact kk M' h3)
theorem g_iV4_gn (X : Cx κ cc own rm) {d : Md} {ci ix k : Nat} {i : Int} {fs : List Value} {v1 v2 v3 v4 : Value} {ad2 : Ad} {P : Mem → Prop} (w : WV d 4 ci) (hlk : Cond.methodLink own ix d.1 ∈ Tb) (dd : decode cc pc = .ok (.invokevirtual ix, 3)) (e : pc + 3 = pc') (hn : (k, i) ∈ nm) (he : ent (kC κ) ad M k i = .inr (ci, fs)) (hr : Rmo rm d 0 0 cl sl) (hcat : (rest.map fun v => v.category).sum ≤ 8) (hC : Ct (kδ κ) d 0 0 nm ad M (.ref (ad k i) :: [v1, v2, v3, v4]) (pGn ad2 P)) (kk : ∀ M2, P M2 → G κ nm ad2 M2 pc' lv (rest) cl sl) : G κ nm ad M pc lv (v4 :: v3 :: v2 :: v1 :: .ref (ad k i) :: rest) cl sl :=
  g_invV X w hlk hn he hr dd e (As := [v1, v2, v3, v4]) rfl rfl hcat hC (fun v ad' M' ⟨h1, h2, h3⟩ => by subst h1; subst h2; exact kk M' h3)
theorem g_iS4_gn (X : Cx κ cc own rm) {d : Md} {ix : Nat} {v1 v2 v3 v4 : Value} {ad2 : Ad} {P : Mem → Prop} (w : WS d 4) (hlk : Cond.methodLink own ix d.1 ∈ Tb) (dd : decode cc pc = .ok (.invokestatic ix, 3)) (e : pc + 3 = pc') (hr : Rmo rm d 0 0 cl sl) (hcat : (rest.map fun v => v.category).sum ≤ 8) (hC : Ct (kδ κ) d 0 0 nm ad M [v1, v2, v3, v4] (pGn ad2 P)) (kk : ∀ M2, P M2 → G κ nm ad2 M2 pc' lv (rest) cl sl) : G κ nm ad M pc lv (v4 :: v3 :: v2 :: v1 :: rest) cl sl :=
  g_invS X w hlk hr dd e (As := [v1, v2, v3, v4]) rfl rfl hcat hC (fun v ad' M' ⟨h1, h2, h3⟩ => by subst h1; subst h2; exact kk M' h3)
theorem g_iV5_g (X : Cx κ cc own rm) {d : Md} {ci ix k : Nat} {i : Int} {fs : List Value} {v1 v2 v3 v4 v5 : Value} {x : Value} {ad2 : Ad} {P : Mem → Prop} (w : WV d 5 ci) (hlk : Cond.methodLink own ix d.1 ∈ Tb) (dd : decode cc pc = .ok (.invokevirtual ix, 3)) (e : pc + 3 = pc') (hn : (k, i) ∈ nm) (he : ent (kC κ) ad M k i = .inr (ci, fs)) (hr : Rmo rm d 0 0 cl sl) (hcat : (rest.map fun v => v.category).sum ≤ 8) (hC : Ct (kδ κ) d 0 0 nm ad M (.ref (ad k i) :: [v1, v2, v3, v4, v5]) (pG x ad2 P)) (kk : ∀ M2, P M2 → G κ nm ad2 M2 pc' lv (x :: rest) cl sl) : G κ nm ad M pc lv (v5 :: v4 :: v3 :: v2 :: v1 :: .ref (ad k i) :: rest) cl sl :=
  g_invV X w hlk hn he hr dd e (As := [v1, v2, v3, v4, v5]) rfl rfl hcat hC (fun v ad' M' ⟨h1, h2, h3⟩ => by subst h1; subst h2; exact kk M' h3)
theorem g_iS5_g (X : Cx κ cc own rm) {d : Md} {ix : Nat} {v1 v2 v3 v4 v5 : Value} {x : Value} {ad2 : Ad} {P : Mem → Prop} (w : WS d 5) (hlk : Cond.methodLink own ix d.1 ∈ Tb) (dd : decode cc pc = .ok (.invokestatic ix, 3)) (e : pc + 3 = pc') (hr : Rmo rm d 0 0 cl sl) (hcat : (rest.map fun v => v.category).sum ≤ 8) (hC : Ct (kδ κ) d 0 0 nm ad M [v1, v2, v3, v4, v5] (pG x ad2 P)) (kk : ∀ M2, P M2 → G κ nm ad2 M2 pc' lv (x :: rest) cl sl) : G κ nm ad M pc lv (v5 :: v4 :: v3 :: v2 :: v1 :: rest) cl sl :=
  g_invS X w hlk hr dd e (As := [v1, v2, v3, v4, v5]) rfl rfl hcat hC (fun v ad' M' ⟨h1, h2, h3⟩ => by subst h1; subst h2; exact kk M' h3)
theorem g_iV5_gn (X : Cx κ cc own rm) {d : Md} {ci ix k : Nat} {i : Int} {fs : List Value} {v1 v2 v3 v4 v5 : Value} {ad2 : Ad} {P : Mem → Prop} (w : WV d 5 ci) (hlk : Cond.methodLink own ix d.1 ∈ Tb) (dd : decode cc pc = .ok (.invokevirtual ix, 3)) (e : pc + 3 = pc') (hn : (k, i) ∈ nm) (he : ent (kC κ) ad M k i = .inr (ci, fs)) (hr : Rmo rm d 0 0 cl sl) (hcat : (rest.map fun v => v.category).sum ≤ 8) (hC : Ct (kδ κ) d 0 0 nm ad M (.ref (ad k i) :: [v1, v2, v3, v4, v5]) (pGn ad2 P)) (kk : ∀ M2, P M2 → G κ nm ad2 M2 pc' lv (rest) cl sl) : G κ nm ad M pc lv (v5 :: v4 :: v3 :: v2 :: v1 :: .ref (ad k i) :: rest) cl sl :=
  g_invV X w hlk hn he hr dd e (As := [v1, v2, v3, v4, v5]) rfl rfl hcat hC (fun v ad' M' ⟨h1, h2, h3⟩ => by subst h1; subst h2; exact kk M' h3)
theorem g_iS5_gn (X : Cx κ cc own rm) {d : Md} {ix : Nat} {v1 v2 v3 v4 v5 : Value} {ad2 : Ad} {P : Mem → Prop} (w : WS d 5) (hlk : Cond.methodLink own ix d.1 ∈ Tb) (dd : decode cc pc = .ok (.invokestatic ix, 3)) (e : pc + 3 = pc') (hr : Rmo rm d 0 0 cl sl) (hcat : (rest.map fun v => v.category).sum ≤ 8) (hC : Ct (kδ κ) d 0 0 nm ad M [v1, v2, v3, v4, v5] (pGn ad2 P)) (kk : ∀ M2, P M2 → G κ nm ad2 M2 pc' lv (rest) cl sl) : G κ nm ad M pc lv (v5 :: v4 :: v3 :: v2 :: v1 :: rest) cl sl :=
  g_invS X w hlk hr dd e (As := [v1, v2, v3, v4, v5]) rfl rfl hcat hC (fun v ad' M' ⟨h1, h2, h3⟩ => by subst h1; subst h2; exact kk M' h3)
theorem iI_max {a b : Int} (ra : rng a) (rb : rng b) : (if iI a < iI b then iI b else iI a) = iI (if a < b then b else a) := by
  by_cases h : a < b
  · rw [if_pos ((iI_lt ra rb).mpr h), if_pos h]
  · rw [if_neg (fun q => h ((iI_lt ra rb).mp q)), if_neg h]
theorem iI_min {a b : Int} (ra : rng a) (rb : rng b) : (if iI b < iI a then iI b else iI a) = iI (if b < a then b else a) := by
  by_cases h : b < a
  · rw [if_pos ((iI_lt rb ra).mpr h), if_pos h]
  · rw [if_neg (fun q => h ((iI_lt rb ra).mp q)), if_neg h]
theorem iI_abs {a : Int} (ra : rng a) : (if 0 ≤ iI a then iI a else 0 - iI a) = iI (if 0 ≤ a then a else 0 - a) := by
  show (if iI 0 ≤ iI a then iI a else iI 0 - iI a) = iI (if 0 ≤ a then a else 0 - a)
  by_cases h : 0 ≤ a
  · rw [if_pos ((iI_le (by decide : rng 0) ra).mpr h), if_pos h]
  · rw [if_neg (fun q => h ((iI_le (by decide : rng 0) ra).mp q)), if_neg h]
    exact iI_sub 0 a
theorem g_mmax (X : Cx κ cc own rm) {ix : Nat} {a b : Int} (hw : Cond.static Lib.Math.max.name ∈ Tb ∧ Cond.initialized "java/lang/Math" ∈ Tb ∧ Cond.code Lib.Math.max.name Lib.Math.max.code 2 (some .int) ∈ Tb) (hlk : Cond.methodLink own ix Lib.Math.max.name ∈ Tb) (d : decode cc pc = .ok (.invokestatic ix, 3)) (e : pc + 3 = pc') (hr : 1 ≤ rm.frames ∧ cl ≤ rm.cells ∧ sl ≤ rm.slots) (hr2 : (rest.map fun v => v.category).sum + 13 ≤ rm.locals) (ra : rng a) (rb : rng b) (k : G κ nm ad M pc' lv (.int (iI (if a < b then b else a)) :: rest) cl sl) : G κ nm ad M pc lv (.int (iI b) :: .int (iI a) :: rest) cl sl := by
  subst e; intro hM H locs ls hP hD hS hl
  refine va_mmax X.1 X.2.1 (X.2.2.1.trans hl.1.symm) X.2.2.2.1 (X.2.2.2.2.1 _ hlk) (X.2.2.2.2.1 _ hw.1) (X.2.2.2.2.1 _ hw.2.1) (X.2.2.2.2.1 _ hw.2.2) (by rw [X.2.2.2.2.2.2.2.1]; exact hr.1) (by rw [X.2.2.2.2.2.2.2.1]; exact hr2) (by rw [X.2.2.2.2.2.2.2.1]; exact hr.2.1) (by rw [X.2.2.2.2.2.2.2.1]; exact hr.2.2) d ?_
  rw [iI_max ra rb]
  exact k hM H locs ls hP hD hS hl
theorem g_mmin (X : Cx κ cc own rm) {ix : Nat} {a b : Int} (hw : Cond.static Lib.Math.min.name ∈ Tb ∧ Cond.initialized "java/lang/Math" ∈ Tb ∧ Cond.code Lib.Math.min.name Lib.Math.min.code 2 (some .int) ∈ Tb) (hlk : Cond.methodLink own ix Lib.Math.min.name ∈ Tb) (d : decode cc pc = .ok (.invokestatic ix, 3)) (e : pc + 3 = pc') (hr : 1 ≤ rm.frames ∧ cl ≤ rm.cells ∧ sl ≤ rm.slots) (hr2 : (rest.map fun v => v.category).sum + 13 ≤ rm.locals) (ra : rng a) (rb : rng b) (k : G κ nm ad M pc' lv (.int (iI (if b < a then b else a)) :: rest) cl sl) : G κ nm ad M pc lv (.int (iI b) :: .int (iI a) :: rest) cl sl := by
  subst e; intro hM H locs ls hP hD hS hl
  refine va_mmin X.1 X.2.1 (X.2.2.1.trans hl.1.symm) X.2.2.2.1 (X.2.2.2.2.1 _ hlk) (X.2.2.2.2.1 _ hw.1) (X.2.2.2.2.1 _ hw.2.1) (X.2.2.2.2.1 _ hw.2.2) (by rw [X.2.2.2.2.2.2.2.1]; exact hr.1) (by rw [X.2.2.2.2.2.2.2.1]; exact hr2) (by rw [X.2.2.2.2.2.2.2.1]; exact hr.2.1) (by rw [X.2.2.2.2.2.2.2.1]; exact hr.2.2) d ?_
  rw [iI_min ra rb]
  exact k hM H locs ls hP hD hS hl
theorem g_mabs (X : Cx κ cc own rm) {ix : Nat} {a : Int} (hw : Cond.static Lib.Math.abs.name ∈ Tb ∧ Cond.initialized "java/lang/Math" ∈ Tb ∧ Cond.code Lib.Math.abs.name Lib.Math.abs.code 1 (some .int) ∈ Tb) (hlk : Cond.methodLink own ix Lib.Math.abs.name ∈ Tb) (d : decode cc pc = .ok (.invokestatic ix, 3)) (e : pc + 3 = pc') (hr : 1 ≤ rm.frames ∧ cl ≤ rm.cells ∧ sl ≤ rm.slots) (hr2 : (rest.map fun v => v.category).sum + 13 ≤ rm.locals) (ra : rng a) (k : G κ nm ad M pc' lv (.int (iI (if 0 ≤ a then a else 0 - a)) :: rest) cl sl) : G κ nm ad M pc lv (.int (iI a) :: rest) cl sl := by
  subst e; intro hM H locs ls hP hD hS hl
  refine va_mabs X.1 X.2.1 (X.2.2.1.trans hl.1.symm) X.2.2.2.1 (X.2.2.2.2.1 _ hlk) (X.2.2.2.2.1 _ hw.1) (X.2.2.2.2.1 _ hw.2.1) (X.2.2.2.2.1 _ hw.2.2) (by rw [X.2.2.2.2.2.2.2.1]; exact hr.1) (by rw [X.2.2.2.2.2.2.2.1]; exact hr2) (by rw [X.2.2.2.2.2.2.2.1]; exact hr.2.1) (by rw [X.2.2.2.2.2.2.2.1]; exact hr.2.2) d ?_
  rw [iI_abs ra]
  exact k hM H locs ls hP hD hS hl
theorem g_iN3_v (X : Cx κ cc own rm) {d : Md} {ix : Nat} {host : String} {v1 v2 v3 : Value} {x : Value} {ad2 : Ad} {M2 : Mem} (w : WS d 3) (hlk : Cond.methodLinkNest own ix d.1 host ∈ lw_tbl) (dd : decode cc pc = .ok (.invokestatic ix, 3)) (e : pc + 3 = pc') (hr : Rmo rm d 0 0 cl sl) (hcat : (rest.map fun v => v.category).sum ≤ 8) (hC : Ct (kδ κ) d 0 0 nm ad M [v1, v2, v3] (pV x ad2 M2)) (kk : G κ nm ad2 M2 pc' lv (x :: rest) cl sl) : G κ nm ad M pc lv (v3 :: v2 :: v1 :: rest) cl sl := by
  subst e
  refine G_run (mc := 0) (ms := 0) (rest := rest) (post := pV x ad2 M2) (fun _ _ _ h => h) (fun hM H locs ls hP hD hS hl => ?_) (fun v ad' M' ⟨h1, h2, h3⟩ => by subst h1; subst h2; subst h3; exact kk)
  exact va_runSN (host := host) (n := 3) (As := [v1, v2, v3]) (fix_ X) (hC X.2.2.2.2.2.2.2.2.1) ⟨cw_N X w hlk hr, X.2.2.2.2.1 _ w.2.1, trivial⟩ ⟨Pre_blind, fun U hU hW => ⟨rfl, Pre_on X hM hP hD hS U hU hW⟩⟩ rfl rfl hl.1 rfl (lv_room hcat) dd (by rw [X.2.2.2.2.2.2.2.1]; exact hr.2)
end GA
theorem lt_kN {κ : Kx} {n j : Nat} (h : kN κ = n) (b : Nat.blt j n = true) : j < kN κ := by rw [h]; exact Nat.blt_eq.mp b
theorem pVI {ad : Ad} {M : Mem} {e r : Int} (h : e = r) : pV (.int (iI r)) ad M (some (.int (iI e))) ad M := ⟨by rw [h], rfl, rfl⟩
theorem pVI2 {ad : Ad} {M M2 : Mem} {e r : Int} (h : e = r) (h2 : M = M2) : pV (.int (iI r)) ad M2 (some (.int (iI e))) ad M := ⟨by rw [h], rfl, h2⟩
theorem pVt {ad : Ad} {M : Mem} {P : Prop} (h : P) : pV (.int (iI (bI P))) ad M (some (.int (iI 1))) ad M := ⟨by rw [bI_t h], rfl, rfl⟩
theorem pVf {ad : Ad} {M : Mem} {P : Prop} (h : ¬ P) : pV (.int (iI (bI P))) ad M (some (.int (iI 0))) ad M := ⟨by rw [bI_f h], rfl, rfl⟩
theorem pVb {ad : Ad} {M : Mem} {P Q : Prop} (h : Q ↔ P) : pV (.int (iI (bI P))) ad M (some (.int (iI (bI Q)))) ad M := ⟨by rw [bI_c h], rfl, rfl⟩
theorem okZ1 : okZ (some (.int (iI 1))) := ⟨1, Or.inr rfl, rfl⟩
theorem okZ0 : okZ (some (.int (iI 0))) := ⟨0, Or.inl rfl, rfl⟩
theorem okZb {P : Prop} : okZ (some (.int (iI (bI P)))) := ⟨bI P, bI_01 P, rfl⟩
theorem ind1 {A1 : Type} (μ : A1 → Nat) {P : A1 → Prop} (h : ∀ a1, (∀ b1, μ b1 < μ a1 → P b1) → P a1) : ∀ a1, P a1 := fun a1 => (measure μ).wf.induction (C := P) a1 h
theorem ind2 {A1 A2 : Type} (μ : A1 → A2 → Nat) {P : A1 → A2 → Prop} (h : ∀ a1 a2, (∀ b1 b2, μ b1 b2 < μ a1 a2 → P b1 b2) → P a1 a2) : ∀ a1 a2, P a1 a2 := fun a1 a2 => ind1 (A1 := A1 × A2) (fun a => μ a.1 a.2) (P := fun a => P a.1 a.2) (fun a ih => h a.1 a.2 (fun b1 b2 hb => ih (b1, b2) hb)) (a1, a2)
theorem ind3 {A1 A2 A3 : Type} (μ : A1 → A2 → A3 → Nat) {P : A1 → A2 → A3 → Prop} (h : ∀ a1 a2 a3, (∀ b1 b2 b3, μ b1 b2 b3 < μ a1 a2 a3 → P b1 b2 b3) → P a1 a2 a3) : ∀ a1 a2 a3, P a1 a2 a3 := fun a1 a2 a3 => ind1 (A1 := A1 × A2 × A3) (fun a => μ a.1 a.2.1 a.2.2) (P := fun a => P a.1 a.2.1 a.2.2) (fun a ih => h a.1 a.2.1 a.2.2 (fun b1 b2 b3 hb => ih (b1, b2, b3) hb)) (a1, a2, a3)
theorem ind4 {A1 A2 A3 A4 : Type} (μ : A1 → A2 → A3 → A4 → Nat) {P : A1 → A2 → A3 → A4 → Prop} (h : ∀ a1 a2 a3 a4, (∀ b1 b2 b3 b4, μ b1 b2 b3 b4 < μ a1 a2 a3 a4 → P b1 b2 b3 b4) → P a1 a2 a3 a4) : ∀ a1 a2 a3 a4, P a1 a2 a3 a4 := fun a1 a2 a3 a4 => ind1 (A1 := A1 × A2 × A3 × A4) (fun a => μ a.1 a.2.1 a.2.2.1 a.2.2.2) (P := fun a => P a.1 a.2.1 a.2.2.1 a.2.2.2) (fun a ih => h a.1 a.2.1 a.2.2.1 a.2.2.2 (fun b1 b2 b3 b4 hb => ih (b1, b2, b3, b4) hb)) (a1, a2, a3, a4)
theorem ind5 {A1 A2 A3 A4 A5 : Type} (μ : A1 → A2 → A3 → A4 → A5 → Nat) {P : A1 → A2 → A3 → A4 → A5 → Prop} (h : ∀ a1 a2 a3 a4 a5, (∀ b1 b2 b3 b4 b5, μ b1 b2 b3 b4 b5 < μ a1 a2 a3 a4 a5 → P b1 b2 b3 b4 b5) → P a1 a2 a3 a4 a5) : ∀ a1 a2 a3 a4 a5, P a1 a2 a3 a4 a5 := fun a1 a2 a3 a4 a5 => ind1 (A1 := A1 × A2 × A3 × A4 × A5) (fun a => μ a.1 a.2.1 a.2.2.1 a.2.2.2.1 a.2.2.2.2) (P := fun a => P a.1 a.2.1 a.2.2.1 a.2.2.2.1 a.2.2.2.2) (fun a ih => h a.1 a.2.1 a.2.2.1 a.2.2.2.1 a.2.2.2.2 (fun b1 b2 b3 b4 b5 hb => ih (b1, b2, b3, b4, b5) hb)) (a1, a2, a3, a4, a5)
def cntK : Nat → Int
  | 0 => 1
  | 1 => 1
  | 2 => 1
  | 3 => 1
  | 4 => 61
  | 5 => 1
  | 6 => 1
  | 7 => 1
  | 8 => 1
  | 9 => 1
  | 10 => 1
  | 11 => 1
  | 12 => 1
  | 13 => 1
  | 14 => 1
  | 15 => 1
  | 16 => 12
  | 17 => 12
  | 18 => 12
  | 19 => 12
  | 20 => 12
  | 21 => 12
  | 22 => 6
  | 23 => 6
  | 24 => 6
  | 25 => 6
  | 26 => 6
  | 27 => 6
  | 28 => 6
  | 29 => 6
  | 30 => 6
  | 31 => 120
  | 40 => 1
  | 41 => 1
  | 42 => 1
  | 43 => 1
  | 44 => 1
  | 45 => 1
  | 46 => 1
  | 47 => 1
  | 48 => 1
  | 49 => 1
  | 50 => 1
  | 51 => 1
  | 52 => 1
  | 53 => 1
  | 54 => 1
  | 55 => 1
  | 56 => 1
  | 57 => 1
  | 58 => 1
  | 59 => 1
  | 60 => 1
  | 61 => 1
  | 62 => 1
  | 63 => 1
  | 64 => 1
  | 65 => 1
  | 66 => 1
  | 67 => 1
  | 68 => 1
  | 69 => 1
  | 70 => 1
  | 71 => 1
  | 72 => 1
  | 73 => 1
  | 74 => 1
  | 75 => 1
  | 76 => 1
  | 77 => 1
  | 78 => 1
  | 79 => 1
  | 90 => 1
  | 91 => 1
  | 95 => 0
  | 96 => 0
  | _ => 0
def NmOk (nm : List (Nat × Int)) : Prop := ∀ (k : Nat) (i : Int), 0 ≤ i → i < cntK k → (k, i) ∈ nm
theorem n0 {nm : List (Nat × Int)} (h : NmOk nm) : (0, 0) ∈ nm := h 0 0 (by decide) (by decide)
theorem n1 {nm : List (Nat × Int)} (h : NmOk nm) : (1, 0) ∈ nm := h 1 0 (by decide) (by decide)
theorem n2 {nm : List (Nat × Int)} (h : NmOk nm) : (2, 0) ∈ nm := h 2 0 (by decide) (by decide)
theorem n3 {nm : List (Nat × Int)} (h : NmOk nm) : (3, 0) ∈ nm := h 3 0 (by decide) (by decide)
theorem n4 {nm : List (Nat × Int)} {i : Int} (h : NmOk nm) (h0 : 0 ≤ i) (h1 : i < 61) : (4, i) ∈ nm := h 4 i h0 h1
theorem n5 {nm : List (Nat × Int)} (h : NmOk nm) : (5, 0) ∈ nm := h 5 0 (by decide) (by decide)
theorem n6 {nm : List (Nat × Int)} (h : NmOk nm) : (6, 0) ∈ nm := h 6 0 (by decide) (by decide)
theorem n7 {nm : List (Nat × Int)} (h : NmOk nm) : (7, 0) ∈ nm := h 7 0 (by decide) (by decide)
theorem n8 {nm : List (Nat × Int)} (h : NmOk nm) : (8, 0) ∈ nm := h 8 0 (by decide) (by decide)
theorem n9 {nm : List (Nat × Int)} (h : NmOk nm) : (9, 0) ∈ nm := h 9 0 (by decide) (by decide)
theorem n10 {nm : List (Nat × Int)} (h : NmOk nm) : (10, 0) ∈ nm := h 10 0 (by decide) (by decide)
theorem n11 {nm : List (Nat × Int)} (h : NmOk nm) : (11, 0) ∈ nm := h 11 0 (by decide) (by decide)
theorem n12 {nm : List (Nat × Int)} (h : NmOk nm) : (12, 0) ∈ nm := h 12 0 (by decide) (by decide)
theorem n13 {nm : List (Nat × Int)} (h : NmOk nm) : (13, 0) ∈ nm := h 13 0 (by decide) (by decide)
theorem n14 {nm : List (Nat × Int)} (h : NmOk nm) : (14, 0) ∈ nm := h 14 0 (by decide) (by decide)
theorem n15 {nm : List (Nat × Int)} (h : NmOk nm) : (15, 0) ∈ nm := h 15 0 (by decide) (by decide)
theorem n16 {nm : List (Nat × Int)} {i : Int} (h : NmOk nm) (h0 : 0 ≤ i) (h1 : i < 12) : (16, i) ∈ nm := h 16 i h0 h1
theorem n17 {nm : List (Nat × Int)} {i : Int} (h : NmOk nm) (h0 : 0 ≤ i) (h1 : i < 12) : (17, i) ∈ nm := h 17 i h0 h1
theorem n18 {nm : List (Nat × Int)} {i : Int} (h : NmOk nm) (h0 : 0 ≤ i) (h1 : i < 12) : (18, i) ∈ nm := h 18 i h0 h1
theorem n19 {nm : List (Nat × Int)} {i : Int} (h : NmOk nm) (h0 : 0 ≤ i) (h1 : i < 12) : (19, i) ∈ nm := h 19 i h0 h1
theorem n20 {nm : List (Nat × Int)} {i : Int} (h : NmOk nm) (h0 : 0 ≤ i) (h1 : i < 12) : (20, i) ∈ nm := h 20 i h0 h1
theorem n21 {nm : List (Nat × Int)} {i : Int} (h : NmOk nm) (h0 : 0 ≤ i) (h1 : i < 12) : (21, i) ∈ nm := h 21 i h0 h1
theorem n22 {nm : List (Nat × Int)} {i : Int} (h : NmOk nm) (h0 : 0 ≤ i) (h1 : i < 6) : (22, i) ∈ nm := h 22 i h0 h1
theorem n23 {nm : List (Nat × Int)} {i : Int} (h : NmOk nm) (h0 : 0 ≤ i) (h1 : i < 6) : (23, i) ∈ nm := h 23 i h0 h1
theorem n24 {nm : List (Nat × Int)} {i : Int} (h : NmOk nm) (h0 : 0 ≤ i) (h1 : i < 6) : (24, i) ∈ nm := h 24 i h0 h1
theorem n25 {nm : List (Nat × Int)} {i : Int} (h : NmOk nm) (h0 : 0 ≤ i) (h1 : i < 6) : (25, i) ∈ nm := h 25 i h0 h1
theorem n26 {nm : List (Nat × Int)} {i : Int} (h : NmOk nm) (h0 : 0 ≤ i) (h1 : i < 6) : (26, i) ∈ nm := h 26 i h0 h1
theorem n27 {nm : List (Nat × Int)} {i : Int} (h : NmOk nm) (h0 : 0 ≤ i) (h1 : i < 6) : (27, i) ∈ nm := h 27 i h0 h1
theorem n28 {nm : List (Nat × Int)} {i : Int} (h : NmOk nm) (h0 : 0 ≤ i) (h1 : i < 6) : (28, i) ∈ nm := h 28 i h0 h1
theorem n29 {nm : List (Nat × Int)} {i : Int} (h : NmOk nm) (h0 : 0 ≤ i) (h1 : i < 6) : (29, i) ∈ nm := h 29 i h0 h1
theorem n30 {nm : List (Nat × Int)} {i : Int} (h : NmOk nm) (h0 : 0 ≤ i) (h1 : i < 6) : (30, i) ∈ nm := h 30 i h0 h1
theorem n31 {nm : List (Nat × Int)} {i : Int} (h : NmOk nm) (h0 : 0 ≤ i) (h1 : i < 120) : (31, i) ∈ nm := h 31 i h0 h1
theorem n40 {nm : List (Nat × Int)} (h : NmOk nm) : (40, 0) ∈ nm := h 40 0 (by decide) (by decide)
theorem n41 {nm : List (Nat × Int)} (h : NmOk nm) : (41, 0) ∈ nm := h 41 0 (by decide) (by decide)
theorem n42 {nm : List (Nat × Int)} (h : NmOk nm) : (42, 0) ∈ nm := h 42 0 (by decide) (by decide)
theorem n43 {nm : List (Nat × Int)} (h : NmOk nm) : (43, 0) ∈ nm := h 43 0 (by decide) (by decide)
theorem n44 {nm : List (Nat × Int)} (h : NmOk nm) : (44, 0) ∈ nm := h 44 0 (by decide) (by decide)
theorem n45 {nm : List (Nat × Int)} (h : NmOk nm) : (45, 0) ∈ nm := h 45 0 (by decide) (by decide)
theorem n46 {nm : List (Nat × Int)} (h : NmOk nm) : (46, 0) ∈ nm := h 46 0 (by decide) (by decide)
theorem n47 {nm : List (Nat × Int)} (h : NmOk nm) : (47, 0) ∈ nm := h 47 0 (by decide) (by decide)
theorem n48 {nm : List (Nat × Int)} (h : NmOk nm) : (48, 0) ∈ nm := h 48 0 (by decide) (by decide)
theorem n49 {nm : List (Nat × Int)} (h : NmOk nm) : (49, 0) ∈ nm := h 49 0 (by decide) (by decide)
theorem n50 {nm : List (Nat × Int)} (h : NmOk nm) : (50, 0) ∈ nm := h 50 0 (by decide) (by decide)
theorem n51 {nm : List (Nat × Int)} (h : NmOk nm) : (51, 0) ∈ nm := h 51 0 (by decide) (by decide)
theorem n52 {nm : List (Nat × Int)} (h : NmOk nm) : (52, 0) ∈ nm := h 52 0 (by decide) (by decide)
theorem n53 {nm : List (Nat × Int)} (h : NmOk nm) : (53, 0) ∈ nm := h 53 0 (by decide) (by decide)
theorem n54 {nm : List (Nat × Int)} (h : NmOk nm) : (54, 0) ∈ nm := h 54 0 (by decide) (by decide)
theorem n55 {nm : List (Nat × Int)} (h : NmOk nm) : (55, 0) ∈ nm := h 55 0 (by decide) (by decide)
theorem n56 {nm : List (Nat × Int)} (h : NmOk nm) : (56, 0) ∈ nm := h 56 0 (by decide) (by decide)
theorem n57 {nm : List (Nat × Int)} (h : NmOk nm) : (57, 0) ∈ nm := h 57 0 (by decide) (by decide)
theorem n58 {nm : List (Nat × Int)} (h : NmOk nm) : (58, 0) ∈ nm := h 58 0 (by decide) (by decide)
theorem n59 {nm : List (Nat × Int)} (h : NmOk nm) : (59, 0) ∈ nm := h 59 0 (by decide) (by decide)
theorem n60 {nm : List (Nat × Int)} (h : NmOk nm) : (60, 0) ∈ nm := h 60 0 (by decide) (by decide)
theorem n61 {nm : List (Nat × Int)} (h : NmOk nm) : (61, 0) ∈ nm := h 61 0 (by decide) (by decide)
theorem n62 {nm : List (Nat × Int)} (h : NmOk nm) : (62, 0) ∈ nm := h 62 0 (by decide) (by decide)
theorem n63 {nm : List (Nat × Int)} (h : NmOk nm) : (63, 0) ∈ nm := h 63 0 (by decide) (by decide)
theorem n64 {nm : List (Nat × Int)} (h : NmOk nm) : (64, 0) ∈ nm := h 64 0 (by decide) (by decide)
theorem n65 {nm : List (Nat × Int)} (h : NmOk nm) : (65, 0) ∈ nm := h 65 0 (by decide) (by decide)
theorem n66 {nm : List (Nat × Int)} (h : NmOk nm) : (66, 0) ∈ nm := h 66 0 (by decide) (by decide)
theorem n67 {nm : List (Nat × Int)} (h : NmOk nm) : (67, 0) ∈ nm := h 67 0 (by decide) (by decide)
theorem n68 {nm : List (Nat × Int)} (h : NmOk nm) : (68, 0) ∈ nm := h 68 0 (by decide) (by decide)
theorem n69 {nm : List (Nat × Int)} (h : NmOk nm) : (69, 0) ∈ nm := h 69 0 (by decide) (by decide)
theorem n70 {nm : List (Nat × Int)} (h : NmOk nm) : (70, 0) ∈ nm := h 70 0 (by decide) (by decide)
theorem n71 {nm : List (Nat × Int)} (h : NmOk nm) : (71, 0) ∈ nm := h 71 0 (by decide) (by decide)
theorem n72 {nm : List (Nat × Int)} (h : NmOk nm) : (72, 0) ∈ nm := h 72 0 (by decide) (by decide)
theorem n73 {nm : List (Nat × Int)} (h : NmOk nm) : (73, 0) ∈ nm := h 73 0 (by decide) (by decide)
theorem n74 {nm : List (Nat × Int)} (h : NmOk nm) : (74, 0) ∈ nm := h 74 0 (by decide) (by decide)
theorem n75 {nm : List (Nat × Int)} (h : NmOk nm) : (75, 0) ∈ nm := h 75 0 (by decide) (by decide)
theorem n76 {nm : List (Nat × Int)} (h : NmOk nm) : (76, 0) ∈ nm := h 76 0 (by decide) (by decide)
theorem n77 {nm : List (Nat × Int)} (h : NmOk nm) : (77, 0) ∈ nm := h 77 0 (by decide) (by decide)
theorem n78 {nm : List (Nat × Int)} (h : NmOk nm) : (78, 0) ∈ nm := h 78 0 (by decide) (by decide)
theorem n79 {nm : List (Nat × Int)} (h : NmOk nm) : (79, 0) ∈ nm := h 79 0 (by decide) (by decide)
theorem n90 {nm : List (Nat × Int)} (h : NmOk nm) : (90, 0) ∈ nm := h 90 0 (by decide) (by decide)
theorem n91 {nm : List (Nat × Int)} (h : NmOk nm) : (91, 0) ∈ nm := h 91 0 (by decide) (by decide)
