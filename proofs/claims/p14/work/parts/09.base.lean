/-! worlds with fixed places, what is given of the machine, and how both go along -/
abbrev Az (z : Nat) : Nat → Prop := fun q => z ≤ q
abbrev Ty (t : Nat → ClassId) : List (ClassId × FieldType) := [(t 0, .byte), (t 1, .boolean), (t 2, .object "PageStore$Block"), (t 3, .object "PageStore$Layer"), (t 4, .int), (t 5, .long)]
/-- the world: its cells, its classes, all of them made since z -/
def Wd (D : va_G) (t : Nat → ClassId) (z : Nat) (ws : va_W) (U : State) : Prop := va_P D Cl ws U.heap ∧ va_K D Cl (Ty t) U ∧ va_D (Az z) ws ∧ z ≤ U.heap.size
abbrev xISE : String := "java/lang/IllegalStateException"
abbrev xIOB : String := "java/lang/IndexOutOfBoundsException"
abbrev xAE : String := "java/lang/ArithmeticException"
abbrev xIAE : String := "java/lang/IllegalArgumentException"
def Txt : List (Nat × String) := [(168, "it is off"), (170, "no transaction is open"), (66, "there are as many pages as there may be"), (174, "no such page"), (177, "no such byte"), (179, "no such bytes"), (107, "a transaction is open"), (203, "power failed"), (135, "there are as many marks as there may be"), (181, "no such mark"), (149, "when is not 0 to 4"), (152, "k is not 0 to 1000"), (154, "b is not 0 to 300"), (166, "what is not 0 to 3")]
def Xcs : List String := [xISE, xIOB, xAE, xIAE]
def Ncs : List (String × String) := [(xIOB, xISE), (xAE, xISE)]
abbrev Nms : List String := ["java/lang/RuntimeException", "java/lang/Exception"]
def isCD : Cond → Bool
  | .castable .. => true
  | .declares .. => true
  | _ => false
def Bads : List Cond := lw_tbl.filter isCD
theorem nw_warm {s U : State} (hW : s.WarmedH U.vm) {w : Cond} (hc : isCD w = true) (h : va_Nw w s) : va_Nw w U := by
  cases w <;> first | (simp [isCD] at hc; done) | exact va_Nw.warmC hW h | exact va_Nw.warmD hW h
theorem nw_use {U : State} {A : Array Value} {w : Cond} (hc : isCD w = true) (h : va_Nw w U) : w.before A U = true := by
  cases w <;> first | (simp [isCD] at hc; done) | exact va_Nw.use rfl h
theorem nw_of {U : State} {A : Array Value} {w : Cond} (hc : isCD w = true) (h : w.before A U = true) : va_Nw w U := by
  cases w <;> first | (simp [isCD] at hc; done) | exact va_Nw.of rfl h
/-- what is given of the machine, and stays -/
def Am (z : Nat) (sa : Nat → Nat) (U : State) : Prop :=
  va_Nw (.methodLinkNest R_S 31 y_U_init R_S) U ∧ va_Nw (.methodLinkNest R_S 57 y_Z_init R_S) U ∧ va_Nw (.methodLinkNest R_K 15 y_B_init R_S) U ∧ va_Nw (.fieldLinkNest R_K 16 R_B "bytes" "[B" R_S) U ∧
  va_AO "PageStore$Block" U ∧ va_AO "PageStore$Layer" U ∧ (∀ w ∈ Bads, va_Nw w U) ∧ (∀ q ∈ Ncs, va_Nc q.1 q.2 U) ∧ (∀ q ∈ Txt, vk_R R_S q.1 q.2 (sa q.1) U) ∧
  vx_Zq Bundle.tN "UNASSIGNED_STACK" Bundle.steD (Az z) U U.heap ∧ vx_Zq Bundle.tN "SUPPRESSED_SENTINEL" Bundle.listD (Az z) U U.heap
theorem Am.go {z : Nat} {sa : Nat → Nat} {s U : State} (h : Am z sa s) (hW : s.WarmedH U.vm) (hq : ∀ a : Nat, a < s.heap.size → ¬ Az z a → U.heap[a]? = s.heap[a]?) : Am z sa U := by
  obtain ⟨h1, h2, h3, h4, h5, h6, h7, h8, h9, h10, h11⟩ := h
  exact ⟨va_Nw.warmM hW h1, va_Nw.warmM hW h2, va_Nw.warmM hW h3, va_Nw.warmF hW h4, va_AO.moved hW.alike h5, va_AO.moved hW.alike h6,
    fun w hw => nw_warm hW (List.mem_filter.mp hw).2 (h7 w hw), fun q hq => va_Nc.moved hW.alike (h8 q hq), fun q hq => vk_R.warm hW (h9 q hq),
    (vx_Zq.moved hW.alike h10).kept hq, (vx_Zq.moved hW.alike h11).kept hq⟩
abbrev Pz (D : va_G) (t : Nat → ClassId) (z : Nat) (sa : Nat → Nat) (ws : va_W) (av : List Value) : Array Value → State → Prop := va_Pc av (fun U => Wd D t z ws U ∧ Am z sa U)
theorem Pz_blind {D : va_G} {t : Nat → ClassId} {z : Nat} {sa : Nat → Nat} {ws : va_W} {av : List Value} : FrameBlind (Pz D t z sa ws av) := by
  intro a U g mk q
  obtain ⟨q0, ⟨qP, qK, qD, qz⟩, qM⟩ := q
  exact ⟨q0, ⟨qP, va_K.moved (u := U) (U := U.calling g mk a) (Vm.Alike.refl U.vm) qK, qD, qz⟩, qM.go (U := U.calling g mk a) (State.WarmedH.refl U) (fun _ _ _ => rfl)⟩
theorem Pz_at {D : va_G} {t : Nat → ClassId} {z : Nat} {sa : Nat → Nat} {ws : va_W} {av : List Value} {s : State} {H : Heap} {locs : List Loc} (hP : va_P D Cl ws H) (hK : va_K D Cl (Ty t) s) (hD : va_D (Az z) ws) (hz : z ≤ s.heap.size) (hM : Am z sa s) (hS : va_S (Az z) s.heap H locs) :
    ∀ U : State, U.heap = H → s.WarmedH U.vm → Pz D t z sa ws av av.toArray U := fun U hU hW =>
  ⟨rfl, ⟨by rw [hU]; exact hP, va_K.moved hW.alike hK, hD, by rw [hU]; exact Nat.le_trans hz hS.1⟩, hM.go hW (by rw [hU]; exact hS.2.1)⟩
/-- where it has thrown cls: the world -/
abbrev Xw (D : va_G) (t : Nat → ClassId) (z : Nat) (cls : String) (ws : va_W) : String → State → State → Prop := vx_X (fun u : va_W => u = ws) (fun E u U => E = cls ∧ Wd D t z u U) (Az z)
abbrev Qno : Array Value → State → Outcome → State → Prop := fun _ _ _ _ => False
theorem gd_I {y : MethodName} {b : ByteArray} {n : Nat} {r : Option FieldType} (hc : Cond.code y b n r ∈ WS) : GoodIn WS (Cond.code y b n r :: WS) := fun w h =>
  (List.mem_cons.mp h).elim (fun e => by rw [e]; exact ⟨hc, WS_good hc⟩) (fun h => ⟨h, WS_good h⟩)
theorem gd_V {own C : String} {i : Nat} {y : MethodName} {b : ByteArray} {n : Nat} {r : Option FieldType} (h1 : Cond.methodLink own i y ∈ WS) (h2 : Cond.instanceMethod y ∈ WS) (h3 : Cond.selects C y y ∈ WS) (h4 : Cond.initialized C ∈ WS) (hc : Cond.code y b n r ∈ WS) : GoodIn WS (wsV own i C y (Cond.code y b n r :: WS)) := by
  intro w h
  unfold wsV at h
  rcases List.mem_append.mp h with h | h
  · simp only [List.mem_cons, List.mem_nil_iff, or_false] at h
    rcases h with rfl | rfl | rfl | rfl
    · exact ⟨h1, WS_good h1⟩
    · exact ⟨h2, WS_good h2⟩
    · exact ⟨h3, WS_good h3⟩
    · exact ⟨h4, WS_good h4⟩
  · exact gd_I hc w h
theorem gd_SW {own : String} {i : Nat} {y : MethodName} {b : ByteArray} {n : Nat} {r : Option FieldType} {hh : List (Nat × Nat × Nat × Nat)} (h1 : Cond.methodLink own i y ∈ WS) (h2 : Cond.static y ∈ WS) (h3 : Cond.initialized y.cls ∈ WS) (hc : Cond.codeWith y b n r hh ∈ WS) : GoodIn WS (va_wsS own i y (Cond.codeWith y b n r hh :: WS)) := by
  intro w h
  unfold va_wsS at h
  rcases List.mem_append.mp h with h | h
  · simp only [List.mem_cons, List.mem_nil_iff, or_false] at h
    rcases h with rfl | rfl | rfl
    · exact ⟨h1, WS_good h1⟩
    · exact ⟨h2, WS_good h2⟩
    · exact ⟨h3, WS_good h3⟩
  · exact (List.mem_cons.mp h).elim (fun e => by rw [e]; exact ⟨hc, WS_good hc⟩) (fun h => ⟨h, WS_good h⟩)
/-- the words of a throw of cls, made at the entries ik, is, ic of PageStore's file -/
def Site (cls tx : String) (ik is ic : Nat) : Prop := Cond.classLink R_S ik cls ∈ WS ∧ Cond.initialized cls ∈ WS ∧ (is, tx) ∈ Txt ∧ (∀ w ∈ (vx_atS R_S ic cls Nms).filter goodWord, w ∈ WS) ∧ (∀ w ∈ (vx_atS R_S ic cls Nms).filter (fun w => !goodWord w), w ∈ Bads) ∧ (∀ w ∈ Cond.classLink R_S ik cls :: Cond.initialized cls :: vx_atS R_S ic cls Nms, vx_ot w = true) ∧ Bundle.fit cls = true
theorem fit_N : ∀ n ∈ Nms, Bundle.fit n = true := by decide +kernel
section TH
variable {p : Program} {l : Launch} {e : Env} {R : Room} {s : State} {m : MethodId} {args : Array Value} {below : List Frame} {meth : Method} {c : Code} {H : Heap} {locs : List Loc} {cells slots : Nat} {Qc : Array Value → State → Outcome → State → Prop} {cc : ByteArray} {pc : Nat} {ls : Array Slot} {rest : List Value} {D : va_G} {t : Nat → ClassId} {z mc ms : Nat} {sa : Nat → Nat} {ws : va_W}
theorem th_S {cls tx : String} {ik is ic : Nat} (hx : p.tables.exec = Jvm.exec) (hb : c.code = cc) (hl : l.stackTraces = false) (hown : s.vm.findClass R_S = some m.cls) (hts : ∀ w ∈ WS, w.before args s = true) (hlocks : meth.locks = false) (hno : ∀ x ∈ c.exceptionTable.toList, False)
    (hP : va_P D Cl ws H) (hK : va_K D Cl (Ty t) s) (hD : va_D (Az z) ws) (hz : z ≤ s.heap.size) (hM : Am z sa s) (hS : va_S (Az z) s.heap H locs) (hsize : ls.size = c.maxLocals) (si : Site cls tx ik is ic)
    (d0 : decode cc pc = .ok (.new ik, 3)) (d3 : decode cc (pc + 3) = .ok (.dup, 1)) (d4 : decode cc (pc + 4) = .ok (.ldc is, 2)) (d6 : decode cc (pc + 6) = .ok (.invokespecial ic, 3)) (d9 : decode cc (pc + 9) = .ok (.athrow, 1))
    (hRf : 5 < R.frames) (hRl : (rest.map fun v => v.category).sum + 82 ≤ R.locals) (hRc : cells + 1 ≤ R.cells) (hRs : slots + 6 ≤ R.slots) (hc : cells + 1 ≤ mc) (hs : slots + 6 ≤ ms) :
    W p l e R s m args below meth c H locs cells slots (vx_MQ below Qc (Xw D t z cls ws) args s mc ms (Az z)) (F0 m pc ls rest) := by
  obtain ⟨s1, s2, s3, s4, s5, s6, s7⟩ := si
  obtain ⟨h1, h2, h3, h4, h5, h6, h7, h8, h9, h10, h11⟩ := hM
  refine vx_throwS hx hb hl hown s7 fit_N (hts _ s1) (hts _ s2) (h9 _ s3) (vx_hat (B := Bads) (fun w hw => hts w (s4 w hw)) s5 (fun w hw => nw_use (List.mem_filter.mp hw).2 (h7 w hw))) s6 h10 h11 hS hsize d0 d3 d4 d6 d9 (fun x hx => (hno x hx).elim) hRf hRl hRc hRs hlocks ?_ hS.2.2 hc hs
  intro U hvm hsz hq
  refine ⟨ws, rfl, ⟨rfl, hP.kept (fun k x hk => hq x.1 ((hP k x hk).lt)), va_K.moved hvm hK, hD, Nat.le_trans hz (Nat.le_trans hS.1 hsz)⟩, Nat.le_trans hS.1 hsz, fun q h1 h2 => ?_⟩
  rw [hq q (Nat.lt_of_lt_of_le h1 hS.1)]
  exact hS.2.1 q h1 h2
/-- a call that only throws, not caught here -/
theorem thru {cls : String} {mc1 ms1 : Nat} {g : JFrame} {Qa : State → Outcome → State → Prop} (hr : vx_Run p l e R s m args below meth c H locs cells slots mc1 ms1 (F0 m pc ls rest) g.stack Qa (Xw D t z cls ws) (Az z)) (hno : ∀ x ∈ c.exceptionTable.toList, False) (hq : ∀ a b d, ¬ Qa a b d) (hlocks : meth.locks = false) (hS : va_S (Az z) s.heap H locs) (hc : cells + mc1 ≤ mc) (hs : slots + ms1 ≤ ms) :
    W p l e R s m args below meth c H locs cells slots (vx_MQ below Qc (Xw D t z cls ws) args s mc ms (Az z)) (F0 m pc ls rest) := by
  intro T hT X
  rcases hr T hT X with ⟨v, st₀, t', T', L, h0, X', hL, e1, e2, hq1, st⟩ | ⟨q, st₀, t', T', L, E, ce, h0, X', hL, e1, e2, ⟨u, hp, hb, hF⟩, hce, hcv, hcl, st⟩
  · exact (hq _ _ _ hq1).elim
  · obtain ⟨k1, k2, k3⟩ := vx_keep h0 e1 hS (A1 := Az z) (fun _ _ h => h) (fun _ h => h) hL hF
    obtain ⟨rfl, hb⟩ := hb
    obtain ⟨t2, a1, b1⟩ := vx_out (XC := Xw D t z E ws) (Qc := Qc) (free := Az z) (below := below) (ls := ls) (rest := g.stack) (pc := pc) (mc := mc) (ms := ms) (fun x hx => (hno x hx).elim) hlocks (show T'.heap[q]? = some ce by rw [e1]; exact hce) hcv hcl
      (fun t9 ht9 hv9 => ⟨u, hp, ⟨rfl, by
        obtain ⟨b1, b2, b3, b4⟩ := hb
        exact ⟨by rw [ht9, e1]; exact b1, va_K.moved ((by rw [← e2]; exact X'.warmed.alike.symm : t'.vm.Alike s.vm).trans hv9) b2, b3, by rw [ht9, e1]; exact b4⟩⟩, k3.F ht9⟩) k3.2.2 hc hs T' rfl X'
    exact ⟨t2, st.trans a1, b1⟩
end TH
