section GI
variable {κ : Kx} {cc : ByteArray} {own : String} {rm : Room} {nm : List (Nat × Int)} {ad : Ad} {M : Mem} {pc pc' : Nat} {lv : List (Option Value)} {st rest : List Value} {cl sl : Nat}
theorem g_iI (X : Cx κ cc own rm) {d : Md} {n ix b mc ms : Nat} {As : List Value} {post : Option Value → Ad → Mem → Prop} (w : WI d n) (hlk : Cond.methodLink own ix d.1 ∈ Tb) (hr : Rmo rm d mc ms cl sl) (dd : decode cc pc = .ok (.invokespecial ix, 3)) (e : pc + 3 = pc') (hst : st = As.reverse ++ .ref b :: rest) (hln : As.length = n) (hcat : (rest.map fun v => v.category).sum ≤ 8) (hC : Ct (kδ κ) d mc ms nm ad M (.ref b :: As) post) (kk : ∀ v ad' M', post v ad' M' → G κ nm ad' M' pc' lv (v.toList ++ rest) (cl + mc) (sl + ms)) : G κ nm ad M pc lv st cl sl := by
  subst e
  refine G_run (fun _ _ _ h => h) (fun hM H locs ls hP hD hS hl => ?_) kk
  exact va_runI (fix_ X) (hC X.2.2.2.2.2.2.2.2.1) (cw_I X w hlk hr) ⟨Pre_blind, fun U hU hW => ⟨rfl, Pre_on X hM hP hD hS U hU hW⟩⟩ rfl hln hl.1 hst (lv_room hcat) dd (by rw [X.2.2.2.2.2.2.2.1]; exact hr.2)
theorem cw_IN (X : Cx κ cc own rm) {d : Md} {n ix mc ms : Nat} {host : String} (w : WI d n) (hlk : Cond.methodLinkNest own ix d.1 host ∈ lw_tbl) (hr : Rmo rm d mc ms cl sl) :
    va_CN (kR κ) (ks κ) (ka κ) own ix d.1 host d.2.1 d.2.2.1 none (mcode d :: Tb) { frames := d.2.2.2.2.1, cells := mc, slots := ms, locals := d.2.2.2.2.2 } mc ms n ∧ d.1.name = "<init>" ∧ (Cond.instanceMethod d.1).before (ka κ) (ks κ) = true := by
  rw [X.2.2.2.2.2.2.2.1]
  exact ⟨va_cnB n X.2.2.2.2.1 (Tb_gi (Tb_cons w.1)) (by rw [← w.2.2.2.2.1]) rfl rfl (X.2.2.2.2.2.2.2.2.2.2.2.2.2.2.2.2.1 _ _ _ _ hlk) (X.2.2.2.2.1 _ w.2.2.1) ⟨w.2.2.2.2.2.1, w.2.2.2.2.2.2.1, w.2.2.2.2.2.2.2⟩ hr.1, w.2.2.2.1, X.2.2.2.2.1 _ w.2.1⟩
theorem g_iIN (X : Cx κ cc own rm) {d : Md} {n ix b mc ms : Nat} {host : String} {As : List Value} {post : Option Value → Ad → Mem → Prop} (w : WI d n) (hlk : Cond.methodLinkNest own ix d.1 host ∈ lw_tbl) (hr : Rmo rm d mc ms cl sl) (dd : decode cc pc = .ok (.invokespecial ix, 3)) (e : pc + 3 = pc') (hst : st = As.reverse ++ .ref b :: rest) (hln : As.length = n) (hcat : (rest.map fun v => v.category).sum ≤ 8) (hC : Ct (kδ κ) d mc ms nm ad M (.ref b :: As) post) (kk : ∀ v ad' M', post v ad' M' → G κ nm ad' M' pc' lv (v.toList ++ rest) (cl + mc) (sl + ms)) : G κ nm ad M pc lv st cl sl := by
  subst e
  refine G_run (fun _ _ _ h => h) (fun hM H locs ls hP hD hS hl => ?_) kk
  exact va_runIN (fix_ X) (hC X.2.2.2.2.2.2.2.2.1) (cw_IN X w hlk hr) ⟨Pre_blind, fun U hU hW => ⟨rfl, Pre_on X hM hP hD hS U hU hW⟩⟩ rfl hln hl.1 hst (lv_room hcat) dd (by rw [X.2.2.2.2.2.2.2.1]; exact hr.2)
end GI
theorem g_oi {κ : Kx} {cc : ByteArray} {own : String} {rm : Room} {nm : List (Nat × Int)} {ad : Ad} {M : Mem} {pc pc' : Nat} {lv : List (Option Value)} {rest : List Value} {cl sl : Nat} (X : Cx κ cc own rm) {ix a : Nat} (hlk : Cond.methodLink own ix Lib.objectInit ∈ Tb) (dd : decode cc pc = .ok (.invokespecial ix, 3)) (e : pc + 3 = pc') (hr : 1 ≤ rm.frames ∧ (rest.map fun v => v.category).sum + 12 ≤ rm.locals) (k : G κ nm ad M pc' lv rest cl sl) : G κ nm ad M pc lv (.ref a :: rest) cl sl := by
  subst e; intro hM H locs ls hP hD hS hl
  exact W.objInit X.1 X.2.1 X.2.2.2.1 (X.2.2.2.2.1 _ hlk) (X.2.2.2.2.1 _ oi_in) (X.2.2.2.2.1 _ oi_code) rfl (hl.1.trans X.2.2.1.symm) rfl dd (by rw [X.2.2.2.2.2.2.2.1]; exact hr.1) (by rw [X.2.2.2.2.2.2.2.1]; show 2 * 0 + _ + 12 ≤ _; have := hr.2; omega) (k hM H locs ls hP hD hS hl)
/-- as Ct_of, with the method's name -/
theorem Ct_ofI {δ : Dx} {d : Md} {mc ms : Nat} {nm : List (Nat × Int)} {ad : Ad} {M : Mem} {av : List Value} {post : Option Value → Ad → Mem → Prop} {ins : Instr} {ok : Option Value → Prop} (lv0 : List (Option Value)) (hy : plainName d.1.cls = true) (hlv : lvl 0 lv0 = lv_args 0 av) (hle : (lg_sl av).length ≤ d.2.2.1)
    (hend : ∀ (κ : Kx) (s : State), ks κ = s → Cx κ d.2.1 d.1.cls { frames := d.2.2.2.2.1, cells := mc, slots := ms, locals := d.2.2.2.2.2 } → (kme κ).sig.returnType = d.2.2.2.1 → kQ κ = MQ (kb κ) (fun _ st o t => Qct δ nm post st o t) (ka κ) s mc ms δ.2.2.2 → kδ κ = δ → Rt κ d.2.1 nm post mc ms ins ok)
    (body : ∀ κ : Kx, Cx κ d.2.1 d.1.cls { frames := d.2.2.2.2.1, cells := mc, slots := ms, locals := d.2.2.2.2.2 } → kN κ = d.2.2.1 → kδ κ = δ → (kme κ).name = d.1.name → Rt κ d.2.1 nm post mc ms ins ok → G κ nm ad M 0 lv0 [] 0 0) : Ct δ d mc ms nm ad M av post := by
  intro hfl
  refine Met.ofW (cc := d.2.1) (maxL := d.2.2.1) (ret := d.2.2.2.1) hy rfl ?_
  intro p e s m args below meth c s₁ B hml hv
  obtain ⟨rfl, hA, hK, hZ, hM, hP, hD⟩ := hv
  have hts := atoms_spec (ws := mcode d :: Tb) B.pre
  have hl := lv_entry av (n := d.2.2.1) hle
  rw [lg_entry_eq]
  generalize (lg_sl av ++ List.replicate (d.2.2.1 - (lg_sl av).length) Slot.unset).toArray = ls at hl ⊢
  rw [← hlv] at hl
  obtain ⟨l, D, c0, A⟩ := δ
  have X : Cx ((p, l, e, (headSpec (mcode d :: Tb) { frames := d.2.2.2.2.1, cells := mc, slots := ms, locals := d.2.2.2.2.2 }).room, s, m), (av.toArray, below, meth, c, MQ below (fun _ st o t => Qct (l, D, c0, A) nm post st o t) av.toArray s mc ms A), (D, c0, A, d.2.2.1)) d.2.1 d.1.cls { frames := d.2.2.2.2.1, cells := mc, slots := ms, locals := d.2.2.2.2.2 } :=
    ⟨B.exec, B.bytes, hml, findClass_of_methodNamed B.named, fun w hw => hts w (List.mem_cons_of_mem _ hw), hK, hA, rfl, hfl, B.notSynchronized, hZ⟩
  exact body _ X rfl rfl (name_of_methodNamed B.named B.method).1 (hend _ s rfl X B.returns rfl rfl) hM s.heap [] ls hP hD va_S.rf hl
theorem g_putFI {κ : Kx} {cc : ByteArray} {own : String} {rm : Room} {nm : List (Nat × Int)} {ad : Ad} {M : Mem} {pc pc' : Nat} {lv : List (Option Value)} {st : List Value} {cl sl : Nat} (X : Cx κ cc own rm) {k ci N f ix : Nat} {i z : Int} {C : String} {T : u_T} {ty : Nat → FieldType} {fs : List Value} (c : CI ci C T N ty) (hnm : (kme κ).name = "<init>") (hown : (T f).1 = own) (hn : (k, i) ∈ nm) (he : ent (kC κ) ad M k i = .inr (ci, fs)) (hu : ent (kC κ) ad (setI M k f i 0 z) k i = .inr (ci, fs.set f (.int (iI z)))) (hz : rng z) (hk : f < N) (hfin : (T f).2.2.2 = true) (hnr : narrow (ty f) (.int (iI z)) = .int (iI z)) (hft : fits (ty f) (.int (iI z)) = true) (hlen : f < fs.length) (hlk : Cond.fieldLink own ix (T f).1 (T f).2.1 (T f).2.2.1 ∈ Tb) (d : decode cc pc = .ok (.putfield ix, 3)) (e : pc + 3 = pc') (k1 : G κ nm ad (setI M k f i 0 z) pc' lv st cl sl) : G κ nm ad M pc lv (.int (iI z) :: .ref (ad k i) :: st) cl sl := by
  subst e; intro hM H locs ls hP hD hS hl
  obtain ⟨q0, h0, h1⟩ := wl_get (c := kC κ) (ad := ad) (M := M) hn
  rw [he] at h1
  refine va_putF X.1 X.2.1 X.2.2.2.2.1 c.2.1 ty c.2.2.1 c.2.2.2 X.2.2.2.1 X.2.2.2.2.2.1 hP hD hS q0 h1 c.1 f hk (X.2.2.2.2.1 _ hlk) (fun _ h => h) hfin hnm hown (c.2.2.1 f hk) hnr hft hlen d (fun H1 locs1 hP1 hD1 hS1 => ?_)
  rw [wl_set hD h0 hu ent_setI_ne] at hP1 hD1
  exact k1 (RM_setI hM hz) H1 locs1 ls hP1 hD1 hS1 hl
theorem c_X5_init {δ : Dx} {nm : List (Nat × Int)} {ad : Ad} {M : Mem} {b : Nat} : Ct δ md_X5_init 0 0 nm ad M [.ref b] (pN ad M) := by
  refine Ct_of (ins := .return_) (ok := okN) [some (.ref b)] (by decide +kernel) rfl (Nat.le_of_ble_eq_true rfl) (fun κ s hs X hr hQ hδ => endN rfl hs X hr hQ hδ) (fun κ X hNL hδ Y => ?_)
  refine g_aload_n X dX5_init_0 rfl rfl ?_
  refine g_oi X ml_X5_1 dX5_init_1 rfl ⟨Nat.le_of_ble_eq_true rfl, Nat.le_of_ble_eq_true rfl⟩ ?_
  exact g_retn Y dX5_init_4 rfl ⟨rfl, rfl, rfl⟩
theorem c_X1_init {δ : Dx} {nm : List (Nat × Int)} {ad : Ad} {M : Mem} {t : Int} (h95 : (95, 0) ∈ nm) (rt : rng t) : Ct δ md_X1_init 0 0 nm ad M [.ref (ad 95 0), .int (iI t)] (pN ad (setI M 95 0 0 0 t)) := by
  refine Ct_ofI (ins := .return_) (ok := okN) [some (.ref (ad 95 0)), some (.int (iI t))] (by decide +kernel) rfl (Nat.le_of_ble_eq_true rfl) (fun κ s hs X hr hQ hδ => endN rfl hs X hr hQ hδ) (fun κ X hNL hδ hnm Y => ?_)
  refine g_aload_n X dX1_init_0 rfl rfl ?_
  refine g_iIN X w_X5_init ml_X1_3 ⟨⟨Nat.le_of_ble_eq_true rfl, Nat.le_of_ble_eq_true rfl⟩, Nat.le_of_ble_eq_true rfl, Nat.le_of_ble_eq_true rfl⟩ dX1_init_1 rfl (As := []) (rest := []) rfl rfl (Nat.le_of_ble_eq_true rfl) c_X5_init (fun v ad' M' h => ?_)
  obtain ⟨h1, h2, h3⟩ := h
  subst h1; subst h2; subst h3
  refine g_aload_n X dX1_init_4 rfl rfl ?_
  refine g_iload_n X dX1_init_5 rfl rfl ?_
  refine g_putFI X ci1 hnm rfl h95 (en95 _ _ _ _) (ep95_0 _ _ _ _ _) rt (by decide) rfl rfl rfl (Nat.le_of_ble_eq_true rfl) fl_X1_9 dX1_init_6 rfl ?_
  exact g_retn Y dX1_init_9 rfl ⟨rfl, rfl, rfl⟩
theorem c_X4_init {δ : Dx} {nm : List (Nat × Int)} {ad : Ad} {M : Mem} {b : Nat} : Ct δ md_X4_init 0 0 nm ad M [.ref b] (pN ad M) := by
  refine Ct_of (ins := .return_) (ok := okN) [some (.ref b)] (by decide +kernel) rfl (Nat.le_of_ble_eq_true rfl) (fun κ s hs X hr hQ hδ => endN rfl hs X hr hQ hδ) (fun κ X hNL hδ Y => ?_)
  refine g_aload_n X dX4_init_0 rfl rfl ?_
  refine g_iIN X w_X5_init ml_X4_3 ⟨⟨Nat.le_of_ble_eq_true rfl, Nat.le_of_ble_eq_true rfl⟩, Nat.le_of_ble_eq_true rfl, Nat.le_of_ble_eq_true rfl⟩ dX4_init_1 rfl (As := []) (rest := []) rfl rfl (Nat.le_of_ble_eq_true rfl) c_X5_init (fun v ad' M' h => ?_)
  obtain ⟨h1, h2, h3⟩ := h
  subst h1; subst h2; subst h3
  exact g_retn Y dX4_init_4 rfl ⟨rfl, rfl, rfl⟩
