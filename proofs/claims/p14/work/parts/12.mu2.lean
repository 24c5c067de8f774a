section MU2
variable {p : Program} {l : Launch} {e : Env} {R : Room} {s : State} {m : MethodId} {args : Array Value} {below : List Frame} {meth : Method} {c : Code} {H : Heap} {locs : List Loc} {cells slots : Nat} {Q : State → Prop}
variable {D : va_G} {t : Nat → ClassId} {z : Nat} {sa : Nat → Nat} {ws : va_W} {av : List Value} {post : Option Value → va_W → Prop} {xp : String → va_W → Prop} {kc ks : va_W → Nat}
variable {y : MethodName} {bytes cc : ByteArray} {maxL nL n index : Nat} {ret : Option FieldType} {rm : Room} {own C : String} {b : Addr} {As rest st0 : List Value} {pc : Nat} {ls : Array Slot}
theorem W_imp {Q' : State → Prop} {g : JFrame} (h : ∀ T, Q T → Q' T) (k : W p l e R s m args below meth c H locs cells slots Q g) : W p l e R s m args below meth c H locs cells slots Q' g := fun T hT X => by
  obtain ⟨t2, a1, b1⟩ := k T hT X
  exact ⟨t2, a1, h t2 b1⟩
/-- what comes behind a call, out of the two ends of it -/
theorem mu_two {T : State} (hT : T.heap = H) (hS : va_S (Az z) s.heap H locs)
    (hk : (∃ (v : Option Value) (vm₁ : Vm) (B : Pt), s.WarmedH vm₁ ∧ Stand p l e R s m args below meth c B.U B.locs B.cells B.slots ∧ mu_Post D t z post kc ks ⟨T.setVm vm₁, locs, cells, slots⟩ av.toArray v B ∧
      ∀ target, Steps p.tables e below (B.U.setTop { F0 m pc ls st0 with pc := pc + 3, stack := v.toList ++ rest }) target → Steps p.tables e below (T.setTop (F0 m pc ls st0)) target) ∨
    (∃ (q : Addr) (vm₁ : Vm) (B : Pt), s.WarmedH vm₁ ∧ Stand p l e R s m args below meth c B.U B.locs B.cells B.slots ∧ mu_PostX D t z xp kc ks ⟨T.setVm vm₁, locs, cells, slots⟩ av.toArray q B ∧
      Steps p.tables e below (T.setTop (F0 m pc ls st0)) ((B.U.setTop { F0 m pc ls st0 with stack := rest }).pushFrame (.throwing q))))
    (kx : ∀ (E : String) (ce : Cell) (q : Addr) (u : va_W) (H1 : Heap) (locs1 : List Loc), xp E u → va_P D Cl u H1 → va_D (Az z) u → va_S (Az z) s.heap H1 locs1 → H1[q]? = some ce → ce.vm = .none → s.vm.findClass E = some ce.cls → vx_W p l e R s m args below meth c H1 locs1 (cells + (kc u + 1)) (slots + (ks u + 6)) Q (F0 m pc ls rest) q)
    (kk : ∀ (v : Option Value) (u : va_W) (H1 : Heap) (locs1 : List Loc), post v u → va_P D Cl u H1 → va_D (Az z) u → va_S (Az z) s.heap H1 locs1 → W p l e R s m args below meth c H1 locs1 (cells + kc u) (slots + ks u) Q (F0 m (pc + 3) ls (v.toList ++ rest))) :
    ∃ t2, Steps p.tables e below (T.setTop (F0 m pc ls st0)) t2 ∧ Q t2 := by
  rcases hk with ⟨v, vm₁, ⟨U', l2, c2, s2⟩, hW₁, X', ⟨st, T2, L, u, e0, e1, e2, hpo, ⟨b1, b2, b3, b4⟩, hF, h1, hL, h2, h3⟩, hst⟩ | ⟨q, vm₁, ⟨U', l2, c2, s2⟩, hW₁, X', ⟨st, T2, L, E, ce, u, e0, e1, e2, hxp, ⟨b1, b2, b3, b4⟩, hF, hce, hcv, hcl, h1, hL, h2, h3⟩, hst⟩
  · dsimp only [Pt.U, Pt.locs, Pt.cells, Pt.slots] at X' e0 e1 e2 h1 h2 h3 hst
    subst h1; subst h2; subst h3
    obtain ⟨k1, k2, k3⟩ := vx_keep (A1 := Az z) (show st.heap = H from e0.trans hT) e1 hS (fun _ _ h => h) (fun _ h => h) hL hF
    obtain ⟨t2, a1, b1⟩ := kk v u U'.heap (locs ++ L) hpo (by rw [e1]; exact b1) b3 k3 U' rfl X'
    exact ⟨t2, hst t2 a1, b1⟩
  · dsimp only [Pt.U, Pt.locs, Pt.cells, Pt.slots] at X' e0 e1 e2 h1 h2 h3 hst hcl
    subst h1; subst h2; subst h3
    obtain ⟨k1, k2, k3⟩ := vx_keep (A1 := Az z) (show st.heap = H from e0.trans hT) e1 hS (fun _ _ h => h) (fun _ h => h) hL hF
    obtain ⟨t2, a1, b1⟩ := kx E ce q u U'.heap (locs ++ L) hxp (by rw [e1]; exact b1) b3 k3 (by rw [e1]; exact hce) hcv (vx_cls hW₁ hcl) U' rfl X'
    exact ⟨t2, hst.trans a1, b1⟩
theorem mu_wd {wd : List Cond} (ht : ∀ w ∈ WS, w.before args s = true) (hG : GoodIn WS wd) : ∀ w ∈ wd, ∀ (a' : Array Value) (U : State), s.WarmedH U.vm → w.before a' U = true := fun w hw _ _ hW => word_at hW (hG w hw).2 (ht w (hG w hw).1)
theorem mu_ini (ht : ∀ w ∈ WS, w.before args s = true) (h : Cond.initialized C ∈ WS) : ∀ (a' : Array Value) (U : State), s.WarmedH U.vm → (Cond.initialized C).before a' U = true := fun _ _ hW => word_at hW (WS_good h) (ht _ h)
theorem mu_len (hd : (parseMethodDescriptor y.desc).map (fun d => d.parameters.length) = some n) : ∀ sig, parseMethodDescriptor y.desc = some sig → n = sig.parameters.length := fun sig h => by
  rw [h] at hd
  exact (Option.some.inj hd).symm
/-- invokevirtual -/
theorem mu_V (S : CallFix p m c cc nL s args WS own) (hM : Mu l y (Cond.code y bytes maxL ret :: WS) rm D t z sa ws (.ref b :: As) post xp kc ks)
    (h1 : Cond.methodLink own index y ∈ WS) (h2 : Cond.instanceMethod y ∈ WS) (h3 : Cond.selects y.cls y y ∈ WS) (h4 : Cond.initialized y.cls ∈ WS) (hc : Cond.code y bytes maxL ret ∈ WS)
    (hd : y.cls ≠ "java/lang/invoke/MethodHandle" ∧ y.cls ≠ "java/lang/invoke/VarHandle" ∧ (parseMethodDescriptor y.desc).map (fun d => d.parameters.length) = some n) (hR : rm.frames + 1 ≤ R.frames ∧ 8 + (maxL + 11) + rm.locals ≤ R.locals)
    (hrec : ∃ cellB : Cell, H[b]? = some cellB ∧ cellB.vm.isStatics = false ∧ s.vm.findClass y.cls = some cellB.cls) (hpre : ∀ U : State, U.heap = H → s.WarmedH U.vm → Pz D t z sa ws (.ref b :: As) (Value.ref b :: As).toArray U)
    (hn : As.length = n) (hsize : ls.size = nL) (hst : st0 = As.reverse ++ .ref b :: rest) (hW : (rest.map fun v => v.category).sum ≤ 8) (hdg : decode cc pc = .ok (.invokevirtual index, 3)) (hroom : cells + rm.cells ≤ R.cells ∧ slots + rm.slots ≤ R.slots) (hS : va_S (Az z) s.heap H locs)
    (kx : ∀ (E : String) (ce : Cell) (q : Addr) (u : va_W) (H1 : Heap) (locs1 : List Loc), xp E u → va_P D Cl u H1 → va_D (Az z) u → va_S (Az z) s.heap H1 locs1 → H1[q]? = some ce → ce.vm = .none → s.vm.findClass E = some ce.cls → vx_W p l e R s m args below meth c H1 locs1 (cells + (kc u + 1)) (slots + (ks u + 6)) Q (F0 m pc ls rest) q)
    (kk : ∀ (v : Option Value) (u : va_W) (H1 : Heap) (locs1 : List Loc), post v u → va_P D Cl u H1 → va_D (Az z) u → va_S (Az z) s.heap H1 locs1 → W p l e R s m args below meth c H1 locs1 (cells + kc u) (slots + ks u) Q (F0 m (pc + 3) ls (v.toList ++ rest))) :
    W p l e R s m args below meth c H locs cells slots Q (F0 m pc ls st0) := by
  obtain ⟨hx, hb, hml, ho, hts⟩ := S
  obtain ⟨cellB, hcB, hoB, hclB⟩ := hrec
  intro T hT X
  have hK : vx_Back l R p e below s args y 3 8 (mu_Pre R rm D t z sa ws (.ref b :: As)) (mu_Post D t z post kc ks) (mu_PostX D t z xp kc ks) :=
    mu_back (maxL := maxL) hM hR.1 hR.2 (mu_wd hts (gd_I hc)) (mu_ini hts h4) (fun a' U mk hW hn => by
      obtain ⟨methY, cY, q1, q2, -, q3, -⟩ := Cond.code_spec hn (word_at (a' := a') hW (WS_good hc) (hts _ hc))
      exact ⟨methY, cY, q1, q2, q3⟩)
  exact mu_two (av := .ref b :: As) hT hS (vx_callV X hx (C := y.cls) (bytes := bytes) (maxL := maxL) (ret := ret) ho (hts _ h1) (hts _ h2) (hts _ h3) (hts _ hc) ⟨hd.1, hd.2.1⟩ hK (by rw [hT]; exact hcB) hoB hclB (g := F0 m pc ls st0) rfl (hsize.trans hml.symm) (argsL := As) (rest := rest) (fun sig h => hn.trans (mu_len hd.2.2 sig h)) hst (by show 2 * 0 + _ ≤ 8; omega) (by rw [hb]; exact hdg)
    (fun vm₁ hW₁ => ⟨hroom.1, hroom.2, hpre (T.setVm vm₁) hT hW₁⟩)) kx kk
/-- invokestatic of a method with a table of its own -/
theorem mu_SX {hh : List (Nat × Nat × Nat × Nat)} (S : CallFix p m c cc nL s args WS own) (hM : Mu l y (Cond.codeWith y bytes maxL ret hh :: WS) rm D t z sa ws As post xp kc ks)
    (h1 : Cond.methodLink own index y ∈ WS) (h2 : Cond.static y ∈ WS) (h4 : Cond.initialized y.cls ∈ WS) (hc : Cond.codeWith y bytes maxL ret hh ∈ WS)
    (hd : y.cls ≠ "java/lang/invoke/MethodHandle" ∧ y.cls ≠ "java/lang/invoke/VarHandle" ∧ (parseMethodDescriptor y.desc).map (fun d => d.parameters.length) = some n) (hR : rm.frames + 1 ≤ R.frames ∧ 8 + (maxL + 11) + rm.locals ≤ R.locals)
    (hpre : ∀ U : State, U.heap = H → s.WarmedH U.vm → Pz D t z sa ws As As.toArray U)
    (hn : As.length = n) (hsize : ls.size = nL) (hst : st0 = As.reverse ++ rest) (hW : (rest.map fun v => v.category).sum ≤ 8) (hdg : decode cc pc = .ok (.invokestatic index, 3)) (hroom : cells + rm.cells ≤ R.cells ∧ slots + rm.slots ≤ R.slots) (hS : va_S (Az z) s.heap H locs)
    (kx : ∀ (E : String) (ce : Cell) (q : Addr) (u : va_W) (H1 : Heap) (locs1 : List Loc), xp E u → va_P D Cl u H1 → va_D (Az z) u → va_S (Az z) s.heap H1 locs1 → H1[q]? = some ce → ce.vm = .none → s.vm.findClass E = some ce.cls → vx_W p l e R s m args below meth c H1 locs1 (cells + (kc u + 1)) (slots + (ks u + 6)) Q (F0 m pc ls rest) q)
    (kk : ∀ (v : Option Value) (u : va_W) (H1 : Heap) (locs1 : List Loc), post v u → va_P D Cl u H1 → va_D (Az z) u → va_S (Az z) s.heap H1 locs1 → W p l e R s m args below meth c H1 locs1 (cells + kc u) (slots + ks u) Q (F0 m (pc + 3) ls (v.toList ++ rest))) :
    W p l e R s m args below meth c H locs cells slots Q (F0 m pc ls st0) := by
  obtain ⟨hx, hb, hml, ho, hts⟩ := S
  intro T hT X
  have hG : GoodIn WS (Cond.codeWith y bytes maxL ret hh :: WS) := fun w h => (List.mem_cons.mp h).elim (fun e => by rw [e]; exact ⟨hc, WS_good hc⟩) (fun h => ⟨h, WS_good h⟩)
  have hK : vx_Back l R p e below s args y 3 8 (mu_Pre R rm D t z sa ws As) (mu_Post D t z post kc ks) (mu_PostX D t z xp kc ks) :=
    mu_back (maxL := maxL) hM hR.1 hR.2 (mu_wd hts hG) (mu_ini hts h4) (fun a' U mk hW hn => by
      obtain ⟨m9, methY, cY, q0, q1, q2, -, q3, -⟩ := Cond.codeWith_spec (word_at (a' := a') hW (WS_good hc) (hts _ hc))
      cases Option.some.inj (q0.symm.trans hn)
      exact ⟨methY, cY, q1, q2, q3⟩)
  exact mu_two (av := As) hT hS (vx_callSX X hx (hh := hh) (bytes := bytes) (maxL := maxL) (ret := ret) ho (hts _ h1) (hts _ h2) (hts _ h4) (hts _ hc) ⟨hd.1, hd.2.1⟩ hK (g := F0 m pc ls st0) rfl (hsize.trans hml.symm) (argsL := As) (rest := rest) (fun sig h => hn.trans (mu_len hd.2.2 sig h)) hst (by show 2 * 0 + _ ≤ 8; omega) (by rw [hb]; exact hdg)
    (fun vm₁ hW₁ => ⟨hroom.1, hroom.2, hpre (T.setVm vm₁) hT hW₁⟩)) kx kk
/-- what a body owes at its end -/
def mu_MQ (below : List Frame) (D : va_G) (t : Nat → ClassId) (z : Nat) (post : Option Value → va_W → Prop) (xp : String → va_W → Prop) (kc ks : va_W → Nat) (a : Array Value) (s : State) : State → Prop := fun T => ∃ o, T.status = .running ∧ Ended T below o ∧ mu_Q D t z post xp kc ks a s o T
def mu_R (D : va_G) (t : Nat → ClassId) (z : Nat) (u : va_W) (v : Option Value) : Array Value → State → Outcome → State → Prop := fun _ st o T => o = .returned v ∧ Wd D t z u T ∧ va_F (Az z) st T
theorem mu_end {u : va_W} {v : Option Value} {g : JFrame} (hp : post v u) (hc : cells ≤ kc u) (hs : slots ≤ ks u) (k : W p l e R s m args below meth c H locs (kc u) (ks u) (MQ below (mu_R D t z u v) args s (kc u) (ks u) (Az z)) g) : W p l e R s m args below meth c H locs cells slots (mu_MQ below D t z post xp kc ks args s) g := by
  refine W.widen hc hs (W_imp (fun T h => ?_) k)
  obtain ⟨o, h1, h2, ⟨rfl, h3, h4⟩, L, h5, h6⟩ := h
  exact ⟨_, h1, h2, Or.inl ⟨v, u, L, rfl, hp, h3, h4, h5, h6⟩⟩
theorem mu_ofW {wd wd' : List Cond} (hy : plainName y.cls = true) (hw : wd = Cond.code y cc maxL ret :: wd')
    (body : ∀ p e s m args below meth c s₁, BodyLoose p l y (headSpec wd rm) cc maxL ret e s m args below meth c s₁ → c.maxLocals = maxL → (∀ x ∈ c.exceptionTable.toList, False) → Pz D t z sa ws av args s →
      W p l e (headSpec wd rm).room s m args below meth c s.heap [] 0 0 (mu_MQ below D t z post xp kc ks args s) (entryFrame m args maxL)) : Mu l y wd rm D t z sa ws av post xp kc ks := by
  refine MetFree.of_bodyS (code := cc) (maxLocals := maxL) (ret := ret) hy ?_ ?_
  · intro args s m h hn
    obtain ⟨meth, c, h1, h2, h3, h4, h5, h6, -, -⟩ := Cond.code_spec hn (atoms_spec (ws := wd) h _ (by rw [hw]; exact List.mem_cons_self))
    exact ⟨meth, c, h1, h2, h3, h4, h5, h6⟩
  · intro p e s m args below meth c s₁ B hml hP _
    have hh0 : s₁.heap = s.heap := by rw [B.state]; rfl
    have hno := B.noHandlers (atoms_spec (ws := wd) B.pre _ (by rw [hw]; exact List.mem_cons_self))
    obtain ⟨t2, a1, o, b1, b2, b3⟩ := body p e s m args below meth c s₁ B hml (fun x hx => by
      have h9 : c.exceptionTable = #[] := by simpa using hno
      rw [h9] at hx
      cases hx) hP s₁ hh0 (Stand.of_body B)
    exact ⟨t2, o, a1, b1, b2, b3⟩
theorem mu_ofWH {wd wd' : List Cond} {hh : List (Nat × Nat × Nat × Nat)} (hy : plainName y.cls = true) (hw : wd = Cond.codeWith y cc maxL ret hh :: wd')
    (body : ∀ p e s m args below meth c s₁, BodyLoose p l y (headSpec wd rm) cc maxL ret e s m args below meth c s₁ → c.maxLocals = maxL → Pz D t z sa ws av args s →
      W p l e (headSpec wd rm).room s m args below meth c s.heap [] 0 0 (mu_MQ below D t z post xp kc ks args s) (entryFrame m args maxL)) : Mu l y wd rm D t z sa ws av post xp kc ks := by
  refine MetFree.of_bodyS (code := cc) (maxLocals := maxL) (ret := ret) hy ?_ ?_
  · intro args s m h hn
    obtain ⟨m9, meth, c, hn9, h1, h2, h3, h4, -, h5, h6, -⟩ := Cond.codeWith_spec (atoms_spec (ws := wd) h _ (by rw [hw]; exact List.mem_cons_self))
    cases hn.symm.trans hn9
    exact ⟨meth, c, h1, h2, h3, h4, h5, h6⟩
  · intro p e s m args below meth c s₁ B hml hP _
    have hh0 : s₁.heap = s.heap := by rw [B.state]; rfl
    obtain ⟨t2, a1, o, b1, b2, b3⟩ := body p e s m args below meth c s₁ B hml hP s₁ hh0 (Stand.of_body B)
    exact ⟨t2, o, a1, b1, b2, b3⟩
/-- a throw -/
theorem mu_th {u : va_W} {cls tx : String} {ik is ic : Nat} (hx : p.tables.exec = Jvm.exec) (hb : c.code = cc) (hl : l.stackTraces = false) (hown : s.vm.findClass R_S = some m.cls) (hts : ∀ w ∈ WS, w.before args s = true) (hlocks : meth.locks = false) (hno : ∀ x ∈ c.exceptionTable.toList, False)
    (hP : va_P D Cl u H) (hK : va_K D Cl (Ty t) s) (hD : va_D (Az z) u) (hz : z ≤ s.heap.size) (hM : Am z sa s) (hS : va_S (Az z) s.heap H locs) (hsize : ls.size = c.maxLocals) (si : Site cls tx ik is ic)
    (d0 : decode cc pc = .ok (.new ik, 3)) (d3 : decode cc (pc + 3) = .ok (.dup, 1)) (d4 : decode cc (pc + 4) = .ok (.ldc is, 2)) (d6 : decode cc (pc + 6) = .ok (.invokespecial ic, 3)) (d9 : decode cc (pc + 9) = .ok (.athrow, 1))
    (hRf : 5 < R.frames) (hRl : (rest.map fun v => v.category).sum + 82 ≤ R.locals) (hRc : cells + 1 ≤ R.cells) (hRs : slots + 6 ≤ R.slots) (hc : cells ≤ kc u) (hs : slots ≤ ks u) (hxp : xp cls u) :
    W p l e R s m args below meth c H locs cells slots (mu_MQ below D t z post xp kc ks args s) (F0 m pc ls rest) := by
  refine W_imp (fun T h => ?_) (th_S (Qc := Qno) (mc := kc u + 1) (ms := ks u + 6) hx hb hl hown hts hlocks hno hP hK hD hz hM hS hsize si d0 d3 d4 d6 d9 hRf hRl hRc hRs (by omega) (by omega))
  obtain ⟨o, h1, h2, h3⟩ := h
  rcases h3 with ⟨h3, -⟩ | ⟨q, rfl, E, ce, L, ⟨u9, rfl, ⟨rfl, hWd⟩, hF⟩, hce, hcv, hcl, hW, hsm, hL⟩
  · exact h3.elim
  · exact ⟨_, h1, h2, Or.inr ⟨q, E, ce, u9, L, rfl, hxp, hWd, hF, hce, hcv, hcl, hW, hsm, hL⟩⟩
/-- what a callee threw goes on to the caller -/
theorem mu_out {u : va_W} {E : String} {ce : Cell} {q : Addr} (hno : ∀ x ∈ c.exceptionTable.toList, False) (hlocks : meth.locks = false) (hcell : H[q]? = some ce) (hv : ce.vm = .none) (hcl : s.vm.findClass E = some ce.cls)
    (hP : va_P D Cl u H) (hK : va_K D Cl (Ty t) s) (hD : va_D (Az z) u) (hz : z ≤ s.heap.size) (hS : va_S (Az z) s.heap H locs) (hxp : xp E u) (hc : cells ≤ kc u + 1) (hs : slots ≤ ks u + 6) :
    vx_W p l e R s m args below meth c H locs cells slots (mu_MQ below D t z post xp kc ks args s) (F0 m pc ls rest) q := by
  intro T hT X
  obtain ⟨t2, a1, o, h1, h2, h3⟩ := vx_out (XC := Xw D t z E u) (Qc := Qno) (free := Az z) (below := below) (ls := ls) (rest := rest) (pc := pc) (mc := kc u + 1) (ms := ks u + 6) (fun x hx => (hno x hx).elim) hlocks hcell hv hcl
    (fun t9 ht9 hv9 => ⟨u, rfl, ⟨rfl, by rw [ht9]; exact hP, va_K.moved hv9 hK, hD, by rw [ht9]; exact Nat.le_trans hz hS.1⟩, hS.F ht9⟩) hS.2.2 hc hs T hT X
  refine ⟨t2, a1, o, h1, h2, ?_⟩
  rcases h3 with ⟨h3, -⟩ | ⟨q, rfl, E, ce, L, ⟨u9, rfl, ⟨rfl, hWd⟩, hF⟩, hce, hcv, hcl, hW, hsm, hL⟩
  · exact h3.elim
  · exact Or.inr ⟨q, E, ce, u9, L, rfl, hxp, hWd, hF, hce, hcv, hcl, hW, hsm, hL⟩
end MU2
