section
-- ===== PART A: goes FIRST, ahead of the names: the tables' words, and 'selects' of the private methods out of them =====
/-- a private method of a class that the tables say can be made, by its rows of tables_1 -/
def lw_okq (q : MethodName × Nat) : Prop := (q.1.cls ≠ "java/lang/invoke/MethodHandle" ∧ q.1.cls ≠ "java/lang/invoke/VarHandle") ∧ Cond.instantiable q.1.cls q.2 ∈ tables_1 ∧ Cond.privateMethod q.1 ∈ tables_1 ∧ Cond.instanceMethod q.1 ∈ tables_1
theorem lw_p0 : lw_okq (⟨"PageStore", "requireOn", "()V"⟩, 10) := ⟨⟨by decide +kernel, by decide +kernel⟩, List.mem_of_getElem? (i := 19) (by decide +kernel), List.mem_of_getElem? (i := 133) (by decide +kernel), List.mem_of_getElem? (i := 134) (by decide +kernel)⟩
theorem lw_p1 : lw_okq (⟨"java/lang/Throwable", "fillInStackTrace", "(I)Ljava/lang/Throwable;"⟩, 6) := ⟨⟨by decide +kernel, by decide +kernel⟩, List.mem_of_getElem? (i := 176) (by decide +kernel), List.mem_of_getElem? (i := 174) (by decide +kernel), List.mem_of_getElem? (i := 175) (by decide +kernel)⟩
theorem lw_p2 : lw_okq (⟨"PageStore", "requireOpen", "()V"⟩, 10) := ⟨⟨by decide +kernel, by decide +kernel⟩, List.mem_of_getElem? (i := 19) (by decide +kernel), List.mem_of_getElem? (i := 212) (by decide +kernel), List.mem_of_getElem? (i := 213) (by decide +kernel)⟩
theorem lw_p3 : lw_okq (⟨"PageStore", "requireByte", "(II)V"⟩, 10) := ⟨⟨by decide +kernel, by decide +kernel⟩, List.mem_of_getElem? (i := 19) (by decide +kernel), List.mem_of_getElem? (i := 247) (by decide +kernel), List.mem_of_getElem? (i := 248) (by decide +kernel)⟩
theorem lw_p4 : lw_okq (⟨"PageStore", "requirePage", "(I)V"⟩, 10) := ⟨⟨by decide +kernel, by decide +kernel⟩, List.mem_of_getElem? (i := 19) (by decide +kernel), List.mem_of_getElem? (i := 251) (by decide +kernel), List.mem_of_getElem? (i := 252) (by decide +kernel)⟩
theorem lw_p5 : lw_okq (⟨"PageStore", "bytesOf", "(I)[B"⟩, 10) := ⟨⟨by decide +kernel, by decide +kernel⟩, List.mem_of_getElem? (i := 19) (by decide +kernel), List.mem_of_getElem? (i := 272) (by decide +kernel), List.mem_of_getElem? (i := 273) (by decide +kernel)⟩
theorem lw_p6 : lw_okq (⟨"PageStore", "bytesToChange", "(I)[B"⟩, 10) := ⟨⟨by decide +kernel, by decide +kernel⟩, List.mem_of_getElem? (i := 19) (by decide +kernel), List.mem_of_getElem? (i := 296) (by decide +kernel), List.mem_of_getElem? (i := 297) (by decide +kernel)⟩
theorem lw_p7 : lw_okq (⟨"PageStore", "requireSpan", "(II)V"⟩, 10) := ⟨⟨by decide +kernel, by decide +kernel⟩, List.mem_of_getElem? (i := 19) (by decide +kernel), List.mem_of_getElem? (i := 310) (by decide +kernel), List.mem_of_getElem? (i := 311) (by decide +kernel)⟩
theorem lw_p8 : lw_okq (⟨"PageStore", "foldMarks", "(I)V"⟩, 10) := ⟨⟨by decide +kernel, by decide +kernel⟩, List.mem_of_getElem? (i := 19) (by decide +kernel), List.mem_of_getElem? (i := 340) (by decide +kernel), List.mem_of_getElem? (i := 341) (by decide +kernel)⟩
theorem lw_p9 : lw_okq (⟨"PageStore", "writeJournal", "()Z"⟩, 10) := ⟨⟨by decide +kernel, by decide +kernel⟩, List.mem_of_getElem? (i := 19) (by decide +kernel), List.mem_of_getElem? (i := 352) (by decide +kernel), List.mem_of_getElem? (i := 353) (by decide +kernel)⟩
theorem lw_p10 : lw_okq (⟨"PageStore", "pagesInFile", "()I"⟩, 10) := ⟨⟨by decide +kernel, by decide +kernel⟩, List.mem_of_getElem? (i := 19) (by decide +kernel), List.mem_of_getElem? (i := 360) (by decide +kernel), List.mem_of_getElem? (i := 361) (by decide +kernel)⟩
theorem lw_p11 : lw_okq (⟨"PageStore", "setNumber", "(I)V"⟩, 10) := ⟨⟨by decide +kernel, by decide +kernel⟩, List.mem_of_getElem? (i := 19) (by decide +kernel), List.mem_of_getElem? (i := 368) (by decide +kernel), List.mem_of_getElem? (i := 369) (by decide +kernel)⟩
theorem lw_p12 : lw_okq (⟨"PageStore", "write", "(LPageStore$LastingBytes;[BIII)Z"⟩, 10) := ⟨⟨by decide +kernel, by decide +kernel⟩, List.mem_of_getElem? (i := 19) (by decide +kernel), List.mem_of_getElem? (i := 372) (by decide +kernel), List.mem_of_getElem? (i := 373) (by decide +kernel)⟩
theorem lw_p13 : lw_okq (⟨"PageStore", "writeFile", "()Z"⟩, 10) := ⟨⟨by decide +kernel, by decide +kernel⟩, List.mem_of_getElem? (i := 19) (by decide +kernel), List.mem_of_getElem? (i := 394) (by decide +kernel), List.mem_of_getElem? (i := 395) (by decide +kernel)⟩
theorem lw_p14 : lw_okq (⟨"PageStore", "settle", "(Z)V"⟩, 10) := ⟨⟨by decide +kernel, by decide +kernel⟩, List.mem_of_getElem? (i := 19) (by decide +kernel), List.mem_of_getElem? (i := 411) (by decide +kernel), List.mem_of_getElem? (i := 412) (by decide +kernel)⟩
theorem lw_p15 : lw_okq (⟨"PageStore", "endTransaction", "()V"⟩, 10) := ⟨⟨by decide +kernel, by decide +kernel⟩, List.mem_of_getElem? (i := 19) (by decide +kernel), List.mem_of_getElem? (i := 423) (by decide +kernel), List.mem_of_getElem? (i := 424) (by decide +kernel)⟩
def lw_privs_1 : List (MethodName × Nat) := [(⟨"PageStore", "requireOn", "()V"⟩, 10), (⟨"java/lang/Throwable", "fillInStackTrace", "(I)Ljava/lang/Throwable;"⟩, 6), (⟨"PageStore", "requireOpen", "()V"⟩, 10), (⟨"PageStore", "requireByte", "(II)V"⟩, 10), (⟨"PageStore", "requirePage", "(I)V"⟩, 10), (⟨"PageStore", "bytesOf", "(I)[B"⟩, 10), (⟨"PageStore", "bytesToChange", "(I)[B"⟩, 10), (⟨"PageStore", "requireSpan", "(II)V"⟩, 10), (⟨"PageStore", "foldMarks", "(I)V"⟩, 10), (⟨"PageStore", "writeJournal", "()Z"⟩, 10), (⟨"PageStore", "pagesInFile", "()I"⟩, 10), (⟨"PageStore", "setNumber", "(I)V"⟩, 10), (⟨"PageStore", "write", "(LPageStore$LastingBytes;[BIII)Z"⟩, 10), (⟨"PageStore", "writeFile", "()Z"⟩, 10), (⟨"PageStore", "settle", "(Z)V"⟩, 10), (⟨"PageStore", "endTransaction", "()V"⟩, 10)]
theorem lw_r1 : ∀ q ∈ lw_privs_1, lw_okq q := List.forall_mem_cons.mpr ⟨lw_p0, List.forall_mem_cons.mpr ⟨lw_p1, List.forall_mem_cons.mpr ⟨lw_p2, List.forall_mem_cons.mpr ⟨lw_p3, List.forall_mem_cons.mpr ⟨lw_p4, List.forall_mem_cons.mpr ⟨lw_p5, List.forall_mem_cons.mpr ⟨lw_p6, List.forall_mem_cons.mpr ⟨lw_p7, List.forall_mem_cons.mpr ⟨lw_p8, List.forall_mem_cons.mpr ⟨lw_p9, List.forall_mem_cons.mpr ⟨lw_p10, List.forall_mem_cons.mpr ⟨lw_p11, List.forall_mem_cons.mpr ⟨lw_p12, List.forall_mem_cons.mpr ⟨lw_p13, List.forall_mem_cons.mpr ⟨lw_p14, List.forall_mem_cons.mpr ⟨lw_p15, fun _ h => absurd h List.not_mem_nil⟩⟩⟩⟩⟩⟩⟩⟩⟩⟩⟩⟩⟩⟩⟩⟩
theorem lw_p16 : lw_okq (⟨"PageStore", "requireMark", "(I)V"⟩, 10) := ⟨⟨by decide +kernel, by decide +kernel⟩, List.mem_of_getElem? (i := 19) (by decide +kernel), List.mem_of_getElem? (i := 469) (by decide +kernel), List.mem_of_getElem? (i := 470) (by decide +kernel)⟩
theorem lw_p17 : lw_okq (⟨"PageStore", "undo", "()Z"⟩, 10) := ⟨⟨by decide +kernel, by decide +kernel⟩, List.mem_of_getElem? (i := 19) (by decide +kernel), List.mem_of_getElem? (i := 519) (by decide +kernel), List.mem_of_getElem? (i := 520) (by decide +kernel)⟩
theorem lw_p18 : lw_okq (⟨"PageStore", "journalNumber", "(I)I"⟩, 10) := ⟨⟨by decide +kernel, by decide +kernel⟩, List.mem_of_getElem? (i := 19) (by decide +kernel), List.mem_of_getElem? (i := 523) (by decide +kernel), List.mem_of_getElem? (i := 524) (by decide +kernel)⟩
theorem lw_p19 : lw_okq (⟨"PageStoreModel", "fails", "(ZZ)Z"⟩, 17) := ⟨⟨by decide +kernel, by decide +kernel⟩, List.mem_of_getElem? (i := 543) (by decide +kernel), List.mem_of_getElem? (i := 611) (by decide +kernel), List.mem_of_getElem? (i := 612) (by decide +kernel)⟩
theorem lw_p20 : lw_okq (⟨"PageStoreModel", "isPage", "(I)Z"⟩, 17) := ⟨⟨by decide +kernel, by decide +kernel⟩, List.mem_of_getElem? (i := 543) (by decide +kernel), List.mem_of_getElem? (i := 623) (by decide +kernel), List.mem_of_getElem? (i := 624) (by decide +kernel)⟩
theorem lw_p21 : lw_okq (⟨"PageStoreModel", "at", "(II)I"⟩, 17) := ⟨⟨by decide +kernel, by decide +kernel⟩, List.mem_of_getElem? (i := 543) (by decide +kernel), List.mem_of_getElem? (i := 627) (by decide +kernel), List.mem_of_getElem? (i := 628) (by decide +kernel)⟩
theorem lw_p22 : lw_okq (⟨"PageStoreModel", "own", "(I)V"⟩, 17) := ⟨⟨by decide +kernel, by decide +kernel⟩, List.mem_of_getElem? (i := 543) (by decide +kernel), List.mem_of_getElem? (i := 635) (by decide +kernel), List.mem_of_getElem? (i := 636) (by decide +kernel)⟩
theorem lw_p23 : lw_okq (⟨"PageStoreModel", "lasts", "()V"⟩, 17) := ⟨⟨by decide +kernel, by decide +kernel⟩, List.mem_of_getElem? (i := 543) (by decide +kernel), List.mem_of_getElem? (i := 660) (by decide +kernel), List.mem_of_getElem? (i := 661) (by decide +kernel)⟩
theorem lw_p24 : lw_okq (⟨"PageStoreModel", "fall", "()V"⟩, 17) := ⟨⟨by decide +kernel, by decide +kernel⟩, List.mem_of_getElem? (i := 543) (by decide +kernel), List.mem_of_getElem? (i := 664) (by decide +kernel), List.mem_of_getElem? (i := 665) (by decide +kernel)⟩
def lw_privs_2 : List (MethodName × Nat) := [(⟨"PageStore", "requireMark", "(I)V"⟩, 10), (⟨"PageStore", "undo", "()Z"⟩, 10), (⟨"PageStore", "journalNumber", "(I)I"⟩, 10), (⟨"PageStoreModel", "fails", "(ZZ)Z"⟩, 17), (⟨"PageStoreModel", "isPage", "(I)Z"⟩, 17), (⟨"PageStoreModel", "at", "(II)I"⟩, 17), (⟨"PageStoreModel", "own", "(I)V"⟩, 17), (⟨"PageStoreModel", "lasts", "()V"⟩, 17), (⟨"PageStoreModel", "fall", "()V"⟩, 17)]
theorem lw_r2 : ∀ q ∈ lw_privs_2, lw_okq q := List.forall_mem_cons.mpr ⟨lw_p16, List.forall_mem_cons.mpr ⟨lw_p17, List.forall_mem_cons.mpr ⟨lw_p18, List.forall_mem_cons.mpr ⟨lw_p19, List.forall_mem_cons.mpr ⟨lw_p20, List.forall_mem_cons.mpr ⟨lw_p21, List.forall_mem_cons.mpr ⟨lw_p22, List.forall_mem_cons.mpr ⟨lw_p23, List.forall_mem_cons.mpr ⟨lw_p24, fun _ h => absurd h List.not_mem_nil⟩⟩⟩⟩⟩⟩⟩⟩⟩
def lw_privs : List (MethodName × Nat) := lw_privs_1 ++ (lw_privs_2)
def lw_tbl : List Cond := k2_sels lw_privs ++ tables_1
theorem lw_privs_ok : ∀ q ∈ lw_privs, lw_okq q := by
  show ∀ q ∈ lw_privs_1 ++ (lw_privs_2), lw_okq q
  exact List.forall_mem_append.mpr ⟨lw_r1, lw_r2⟩
end
section
/-! ===== BEGIN words of one list among another's, by their places ===== -/
theorem goodIn_r {big : List Cond} (ws : List Cond) (ps : List Nat) (hp : ws = ps.filterMap (fun i => big[i]?)) (h : ws.all goodWord = true) : GoodIn big ws := by
  intro w hw
  have h1 := List.all_eq_true.mp h w hw
  rw [hp] at hw
  obtain ⟨i, -, hi⟩ := List.mem_filterMap.mp hw
  have hm : w ∈ big := by first | exact List.mem_of_getElem? hi | exact List.getElem?_mem hi
  exact ⟨hm, good_of_word h1⟩
theorem goodIn_app {big a b : List Cond} (ha : GoodIn big a) (hb : GoodIn big b) : GoodIn big (a ++ b) := fun w h => (List.mem_append.mp h).elim (ha w) (hb w)
theorem goodIn_ca {big a b : List Cond} {c : Cond} (ha : GoodIn big (c :: a)) (hb : GoodIn big b) : GoodIn big (c :: (a ++ b)) := fun w h => (List.mem_cons.mp h).elim (fun e => ha w (List.mem_cons.mpr (Or.inl e))) (fun h => (List.mem_append.mp h).elim (fun h => ha w (List.mem_cons.mpr (Or.inr h))) (hb w))
theorem goodIn_sub {big ws : List Cond} (hm : ∀ w ∈ ws, w ∈ big) (h : ws.all goodWord = true) : GoodIn big ws := fun w hw => ⟨hm w hw, good_of_word (List.all_eq_true.mp h w hw)⟩
/-! ===== END ===== -/

/-! ===== BEGIN exceptions that leave a method, and their catching by the caller (launches without stack traces) ===== -/
section VXA
/-! The laws vx_back, vx_callV, vx_callS, vx_callSW, vx_throw0, vx_throwS follow proofs of the library, with one case more: JvmDerived/Free/Laws.lean (Back.of_free), Shelf42/LK1.lean (callV, callS), Shelf/KitTraced.lean (throwNew0V, throwNewS). -/
/-- where a method has thrown q: the class by its name, the cell, what was written, the world -/
def vx_T (XC : String → State → State → Prop) (st : State) (q : Addr) (t : State) (mc ms : Nat) (free : Addr → Prop) : Prop :=
  ∃ (E : String) (ce : Cell) (L : List Loc), XC E st t ∧ t.heap[q]? = some ce ∧ ce.vm = .none ∧ st.vm.findClass E = some ce.cls ∧ st.WarmedH t.vm ∧ st.sameButNew ({ t with vm := st.vm } : State) L mc ms ∧ ∀ z ∈ L, free z.base
def vx_Q (Qc : Array Value → State → Outcome → State → Prop) (XC : String → State → State → Prop) (mc ms : Nat) (free : Addr → Prop) : Array Value → State → Outcome → State → Prop := fun a st o t =>
  (Qc a st o t ∧ ∃ L, FrameEnd st o t L mc ms ∧ ∀ q ∈ L, free q.base) ∨ ∃ q, o = .threw q ∧ vx_T XC st q t mc ms free
/-- a callee that returns or throws -/
def vx_Met (l : Launch) (y : MethodName) (ws : List Cond) (rm : Room) (Pc : Array Value → State → Prop) (Qc : Array Value → State → Outcome → State → Prop) (XC : String → State → State → Prop) (mc ms : Nat) (free : Addr → Prop) : Prop :=
  MetFree l y (headSpec ws rm) Pc (fun _ _ _ _ _ => True) (vx_Q Qc XC mc ms free)
def vx_Post (XC : String → State → State → Prop) (mc ms : Nat) (free : Addr → Prop) : Pt → Array Value → Addr → Pt → Prop := fun A a q B =>
  ∃ (g : JFrame) (mk : MethodId) (t : State) (L : List Loc) (E : String) (ce : Cell), B.U.heap = t.heap ∧ B.U.vm = t.vm ∧ XC E (A.U.calling g mk a) t ∧ t.heap[q]? = some ce ∧ ce.vm = .none ∧ A.U.vm.findClass E = some ce.cls ∧ B.locs = A.locs ++ L ∧ (∀ z ∈ L, free z.base) ∧ B.cells = A.cells + mc ∧ B.slots = A.slots + ms
def vx_Back (l : Launch) (R : Room) (p : Program) (e : Env) (below : List Frame) (s : State) (sargs : Array Value) (y : MethodName) (len W9 : Nat)
    (Pre : Pt → Array Value → Prop) (Post : Pt → Array Value → Option Value → Pt → Prop) (PostX : Pt → Array Value → Addr → Pt → Prop) : Prop :=
  ∀ (m : MethodId) (meth : Method) (c : Code) (A : Pt) (g : JFrame) (ig : Instr) (mk : MethodId) (a : Array Value),
    Stand p l e R s m sargs below meth c A.U A.locs A.cells A.slots → g.method = m → g.locals.size = c.maxLocals → decode c.code g.pc = .ok (ig, len) →
    2 * g.monitorRoom + (g.stack.map fun v => v.category).sum ≤ W9 → A.U.methodNamed? y = some mk → Pre A a →
    (∃ (v : Option Value) (B : Pt), Stand p l e R s m sargs below meth c B.U B.locs B.cells B.slots ∧ Post A a v B ∧
      Steps p.tables e below (doInvoke e (A.U.setTop g) [] mk a).1 (B.U.setTop { g with pc := g.pc + len, stack := v.toList ++ g.stack })) ∨
    (∃ (q : Addr) (B : Pt), Stand p l e R s m sargs below meth c B.U B.locs B.cells B.slots ∧ PostX A a q B ∧
      Steps p.tables e below (doInvoke e (A.U.setTop g) [] mk a).1 ((B.U.setTop g).pushFrame (.throwing q)))
section Payer
variable {l : Launch} {R : Room} {p : Program} {e : Env} {below : List Frame} {s : State} {sargs : Array Value} {y : MethodName} {len W9 : Nat}
theorem vx_back {ws : List Cond} {rm : Room} {Pc : Array Value → State → Prop} {Qc : Array Value → State → Outcome → State → Prop} {XC : String → State → State → Prop} {mc ms : Nat} {free : Addr → Prop} {bytes : ByteArray} {maxL : Nat} {ret : Option FieldType}
    (hM : vx_Met l y ws rm Pc Qc XC mc ms free) (hblind : FrameBlind Pc) (hrc : rm.cells = mc) (hrs : rm.slots = ms)
    (hframes : rm.frames + 1 ≤ R.frames) (hlocals : W9 + (maxL + 11) + rm.locals ≤ R.locals)
    (hws : ∀ w ∈ ws, ∀ a' U, s.WarmedH U.vm → w.before a' U = true) (hcode : Cond.code y bytes maxL ret ∈ ws) (hinit : ∀ a' U, s.WarmedH U.vm → (Cond.initialized y.cls).before a' U = true) :
    vx_Back l R p e below s sargs y len W9 (PreOf R mc ms Pc) (PostOf Qc mc ms free) (vx_Post XC mc ms free) := by
  intro m meth c A g ig mk a X hg hsize hdg hW hn hp
  have h1 : (headSpec ws rm).pre.before a A.U = true := atoms_intro fun w hw => hws w hw _ _ X.warmed
  have h2 : (Cond.code y bytes maxL ret).before a A.U = true := hws _ hcode _ _ X.warmed
  have h3 : (Cond.initialized y.cls).before a A.U = true := hinit _ _ X.warmed
  have h4 : A.cells + (headSpec ws rm).room.cells ≤ R.cells := by rw [show (headSpec ws rm).room.cells = mc from hrc]; exact hp.1
  have h5 : A.slots + (headSpec ws rm).room.slots ≤ R.slots := by rw [show (headSpec ws rm).room.slots = ms from hrs]; exact hp.2.1
  have hPc : Pc a (A.U.calling g mk a) := hblind _ _ _ _ hp.2.2
  obtain ⟨U, Ls, c0, s0⟩ := A
  dsimp only [Pt.U, Pt.locs, Pt.cells, Pt.slots] at h1 h2 h3 h4 h5 X hn hPc ⊢
  obtain ⟨methY, cY, hmY, hcY, -, hlY, -, -, -, -⟩ := Cond.code_spec hn h2
  obtain ⟨kY, hkY, -⟩ := className_of_methodNamed hn
  have hinitY : kY.init = .initialized := Cond.initialized_spec (findClass_of_methodNamed hn) hkY h3
  have h : At U g.method c below := by rw [hg]; exact X.here
  have hlocals9 : W9 + (maxL + 11) + (headSpec ws rm).room.locals ≤ R.locals := hlocals
  have happ : (headSpec ws rm).appliesLoose y e.platform (U.calling g mk a) = true :=
    Spec.appliesLoose_calling (g := g) h hdg hn hkY hinitY
      (X.room_calling (g := g) (R' := (headSpec ws rm).room) hsize hmY hcY hframes (by rw [hlY]; omega) h4 h5) h1
  obtain ⟨mid, hmid⟩ := h.above
  have hfr : (U.setTop g).frames = (.java g :: mid) ++ below := by rw [State.frames_setTop' g h.top, hmid]; rfl
  obtain ⟨o, s₂, hsteps, -, hend, hq⟩ := Steps.callFree hM p X.admits X.cas X.clock (acts := []) hfr happ hPc trivial
  have hq' : vx_Q Qc XC mc ms free a (U.calling g mk a) o s₂ := hq
  rw [State.frames_setTop' g h.top] at hend
  obtain ⟨g₀, hg0⟩ := Option.isSome_iff_exists.mp h.top
  obtain ⟨r, hr⟩ := State.topJava?_eq_some.mp hg0
  have hr' : (({ U with heap := s₂.heap, slotsUsed := s₂.slotsUsed } : State).setVm s₂.vm).frames = .java g₀ :: r := hr
  rcases hq' with ⟨hqc, L, hfe, hL⟩ | ⟨q, rfl, E, ce, L, hx, hce, hcv, hcl, hW₂, hsm, hL⟩
  · obtain ⟨⟨v, rfl⟩, hW₂, e2, q2, q3, q4, q5, q6⟩ := id hfe
    have e3 : s₂ = ({ (U.calling g mk a).setFrames s₂.frames with heap := s₂.heap, slotsUsed := s₂.slotsUsed } : State).setVm s₂.vm := by
      have : s₂ = ({ s₂ with vm := (U.calling g mk a).vm } : State).setVm s₂.vm := rfl
      rw [e2] at this
      exact this
    obtain ⟨c₂, i₂, len₂, hc₂, hd₂, hf₂⟩ := hend
    have hW' : U.WarmedH s₂.vm := hW₂
    have hcc : c₂ = c := by
      have h1 : s₂.code? g.method = U.code? g.method := by
        rw [State.code?_eq, State.code?_eq, hW'.alike.method?]
      exact Option.some.inj (hc₂.symm.trans (h1.trans h.code))
    subst hcc
    have hlen : len₂ = len := by rw [hdg] at hd₂; cases hd₂; rfl
    subst hlen
    have hs₂ : s₂ = (({ U with heap := s₂.heap, slotsUsed := s₂.slotsUsed } : State).setVm s₂.vm).setTop { g with pc := g.pc + len₂, stack := v.toList ++ g.stack } := by
      refine e3.trans ?_
      rw [hf₂, State.calling_eq h.top, State.setFrames_setFrames, State.setTop_of_frames _ hr', hr]
      rfl
    have hsame : U.sameButNew ({ U with heap := s₂.heap, slotsUsed := s₂.slotsUsed } : State) L mc ms := by
      refine ⟨?_, q2, q3, q4, q5, q6⟩
      obtain ⟨t, ht, -⟩ := State.frames_cons hr
      show ({ U with heap := s₂.heap, slotsUsed := s₂.slotsUsed } : State) = { U.setFrames U.frames with heap := s₂.heap, slotsUsed := s₂.slotsUsed }
      rw [State.setFrames_self ht]
    subst hg
    refine Or.inl ⟨v, ⟨(({ U with heap := s₂.heap, slotsUsed := s₂.slotsUsed } : State).setVm s₂.vm), Ls ++ L, c0 + mc, s0 + ms⟩,
      ⟨X.admits, X.cas, X.clock, X.frames, X.room, X.hears, X.method, X.code, (X.here.setHeapUsed s₂.heap s₂.slotsUsed).setVm hW'.alike, X.tail, State.WarmedH.trans X.warmed hW', X.limits, X.bytes, X.same.trans (hsame.setVm s.vm)⟩,
      ⟨g, mk, s₂, L, rfl, rfl, hqc, rfl, hL, rfl, rfl⟩, ?_⟩
    show Steps p.tables e below _ ((({ U with heap := s₂.heap, slotsUsed := s₂.slotsUsed } : State).setVm s₂.vm).setTop { g with pc := g.pc + len₂, stack := v.toList ++ g.stack })
    rw [← hs₂]
    exact hsteps
  · obtain ⟨e2, q2, q3, q4, q5, q6⟩ := id hsm
    have e3 : s₂ = ({ (U.calling g mk a).setFrames s₂.frames with heap := s₂.heap, slotsUsed := s₂.slotsUsed } : State).setVm s₂.vm := by
      have : s₂ = ({ s₂ with vm := (U.calling g mk a).vm } : State).setVm s₂.vm := rfl
      rw [e2] at this
      exact this
    have hf₂ : s₂.frames = .throwing q :: .java g :: U.frames.tail := hend
    have hW' : U.WarmedH s₂.vm := hW₂
    have hs₂ : s₂ = ((({ U with heap := s₂.heap, slotsUsed := s₂.slotsUsed } : State).setVm s₂.vm).setTop g).pushFrame (.throwing q) := by
      refine e3.trans ?_
      rw [hf₂, State.calling_eq h.top, State.setFrames_setFrames, State.pushFrame, State.frames_setTop _ hr', State.setTop_of_frames _ hr', State.setFrames_setFrames, hr]
      rfl
    have hsame : U.sameButNew ({ U with heap := s₂.heap, slotsUsed := s₂.slotsUsed } : State) L mc ms := by
      refine ⟨?_, q2, q3, q4, q5, q6⟩
      obtain ⟨t, ht, -⟩ := State.frames_cons hr
      show ({ U with heap := s₂.heap, slotsUsed := s₂.slotsUsed } : State) = { U.setFrames U.frames with heap := s₂.heap, slotsUsed := s₂.slotsUsed }
      rw [State.setFrames_self ht]
    subst hg
    refine Or.inr ⟨q, ⟨(({ U with heap := s₂.heap, slotsUsed := s₂.slotsUsed } : State).setVm s₂.vm), Ls ++ L, c0 + mc, s0 + ms⟩,
      ⟨X.admits, X.cas, X.clock, X.frames, X.room, X.hears, X.method, X.code, (X.here.setHeapUsed s₂.heap s₂.slotsUsed).setVm hW'.alike, X.tail, State.WarmedH.trans X.warmed hW', X.limits, X.bytes, X.same.trans (hsame.setVm s.vm)⟩,
      ⟨g, mk, s₂, L, E, ce, rfl, rfl, hx, hce, hcv, hcl, rfl, hL, rfl, rfl⟩, ?_⟩
    show Steps p.tables e below _ (((({ U with heap := s₂.heap, slotsUsed := s₂.slotsUsed } : State).setVm s₂.vm).setTop g).pushFrame (.throwing q))
    rw [← hs₂]
    exact hsteps
end Payer
section Calls
variable {p : Program} {l : Launch} {e : Env} {R : Room} {s : State} {m : MethodId} {args : Array Value} {below : List Frame} {meth : Method} {c : Code} {T : State} {locs : List Loc} {cells slots : Nat}
theorem vx_callV (X : Stand p l e R s m args below meth c T locs cells slots) (hexec : p.tables.exec = Jvm.exec) {own C : String} {index : Nat} {y : MethodName} {bytes : ByteArray} {maxL : Nat} {ret : Option FieldType}
    (hown : s.vm.findClass own = some m.cls) (hlink : (Cond.methodLink own index y).before args s = true) (hinst : (Cond.instanceMethod y).before args s = true) (hsel : (Cond.selects C y y).before args s = true)
    (hcode : (Cond.code y bytes maxL ret).before args s = true) (hy : y.cls ≠ "java/lang/invoke/MethodHandle" ∧ y.cls ≠ "java/lang/invoke/VarHandle")
    {W9 : Nat} {Pre : Pt → Array Value → Prop} {Post : Pt → Array Value → Option Value → Pt → Prop} {PostX : Pt → Array Value → Addr → Pt → Prop} (hK : vx_Back l R p e below s args y 3 W9 Pre Post PostX)
    {b : Addr} {cellB : Cell} (hcell : T.heap[b]? = some cellB) (hobj : cellB.vm.isStatics = false) (hcls : s.vm.findClass C = some cellB.cls)
    {g : JFrame} (hg : g.method = m) (hsize : g.locals.size = c.maxLocals) {argsL rest : List Value} (hlen : ∀ sig, parseMethodDescriptor y.desc = some sig → argsL.length = sig.parameters.length)
    (hstack : g.stack = argsL.reverse ++ .ref b :: rest) (hW : 2 * g.monitorRoom + (rest.map fun v => v.category).sum ≤ W9) (hdg : decode c.code g.pc = .ok (.invokevirtual index, 3))
    (hpre : ∀ vm₁, s.WarmedH vm₁ → Pre ⟨T.setVm vm₁, locs, cells, slots⟩ (Value.ref b :: argsL).toArray) :
    (∃ (v : Option Value) (vm₁ : Vm) (B : Pt), s.WarmedH vm₁ ∧ Stand p l e R s m args below meth c B.U B.locs B.cells B.slots ∧ Post ⟨T.setVm vm₁, locs, cells, slots⟩ (Value.ref b :: argsL).toArray v B ∧
      ∀ target, Steps p.tables e below (B.U.setTop { g with pc := g.pc + 3, stack := v.toList ++ rest }) target → Steps p.tables e below (T.setTop g) target) ∨
    (∃ (q : Addr) (vm₁ : Vm) (B : Pt), s.WarmedH vm₁ ∧ Stand p l e R s m args below meth c B.U B.locs B.cells B.slots ∧ PostX ⟨T.setVm vm₁, locs, cells, slots⟩ (Value.ref b :: argsL).toArray q B ∧
      Steps p.tables e below (T.setTop g) ((B.U.setTop { g with stack := rest }).pushFrame (.throwing q))) := by
  obtain ⟨mk, methM, hnamed, hmethM, hstM, habM⟩ := Cond.instanceMethod_spec hinst
  obtain ⟨methM', cM, hmethM', -, -, -, -, -, -, hsigM⟩ := Cond.code_spec hnamed hcode
  cases hmethM.symm.trans hmethM'
  obtain ⟨c2, r2, m2, q1, q2, q3, q4, kP, hkP, hkPi⟩ := Cond.selects_spec hsel
  cases hcls.symm.trans q1
  cases (State.methodFound?_of_named hnamed hy).symm.trans q2
  cases hnamed.symm.trans q3
  have hselP : selectMethod e.platform s.vm cellB.cls mk = .method mk := by rw [Launch.admits_selectMethod X.admits]; exact q4
  obtain ⟨vm₁, X₁, hstep₁⟩ := X.invokevirtual hexec hown hlink hnamed hmethM hstM hkP hkPi hy (a := b) (cell := cellB) hcell
    (fun z h => by rw [h] at hobj; cases hobj) hselP hmethM habM hkP hkPi (g := g) hg (argsL := argsL) (rest := rest) (hlen _ hsigM) hstack hdg
  rcases hK m meth c ⟨T.setVm vm₁, locs, cells, slots⟩ { g with stack := rest } (.invokevirtual index) mk (Value.ref b :: argsL).toArray X₁ hg hsize hdg hW (X₁.named hnamed) (hpre vm₁ X₁.warmed) with ⟨v, B, X', hpost, hsteps⟩ | ⟨q, B, X', hpost, hsteps⟩
  · exact Or.inl ⟨v, vm₁, B, X₁.warmed, X', hpost, fun target h => hstep₁ _ fun acts => by rw [doInvoke_state]; exact hsteps.trans h⟩
  · exact Or.inr ⟨q, vm₁, B, X₁.warmed, X', hpost, hstep₁ _ fun acts => by rw [doInvoke_state]; exact hsteps⟩
theorem vx_callS (X : Stand p l e R s m args below meth c T locs cells slots) (hexec : p.tables.exec = Jvm.exec) {own : String} {index : Nat} {y : MethodName} {bytes : ByteArray} {maxL : Nat} {ret : Option FieldType}
    (hown : s.vm.findClass own = some m.cls) (hlink : (Cond.methodLink own index y).before args s = true) (hstat : (Cond.static y).before args s = true) (hinit : (Cond.initialized y.cls).before args s = true)
    (hcode : (Cond.code y bytes maxL ret).before args s = true) (hy : y.cls ≠ "java/lang/invoke/MethodHandle" ∧ y.cls ≠ "java/lang/invoke/VarHandle")
    {W9 : Nat} {Pre : Pt → Array Value → Prop} {Post : Pt → Array Value → Option Value → Pt → Prop} {PostX : Pt → Array Value → Addr → Pt → Prop} (hK : vx_Back l R p e below s args y 3 W9 Pre Post PostX)
    {g : JFrame} (hg : g.method = m) (hsize : g.locals.size = c.maxLocals) {argsL rest : List Value} (hlen : ∀ sig, parseMethodDescriptor y.desc = some sig → argsL.length = sig.parameters.length)
    (hstack : g.stack = argsL.reverse ++ rest) (hW : 2 * g.monitorRoom + (rest.map fun v => v.category).sum ≤ W9) (hdg : decode c.code g.pc = .ok (.invokestatic index, 3))
    (hpre : ∀ vm₁, s.WarmedH vm₁ → Pre ⟨T.setVm vm₁, locs, cells, slots⟩ argsL.toArray) :
    (∃ (v : Option Value) (vm₁ : Vm) (B : Pt), s.WarmedH vm₁ ∧ Stand p l e R s m args below meth c B.U B.locs B.cells B.slots ∧ Post ⟨T.setVm vm₁, locs, cells, slots⟩ argsL.toArray v B ∧
      ∀ target, Steps p.tables e below (B.U.setTop { g with pc := g.pc + 3, stack := v.toList ++ rest }) target → Steps p.tables e below (T.setTop g) target) ∨
    (∃ (q : Addr) (vm₁ : Vm) (B : Pt), s.WarmedH vm₁ ∧ Stand p l e R s m args below meth c B.U B.locs B.cells B.slots ∧ PostX ⟨T.setVm vm₁, locs, cells, slots⟩ argsL.toArray q B ∧
      Steps p.tables e below (T.setTop g) ((B.U.setTop { g with stack := rest }).pushFrame (.throwing q))) := by
  obtain ⟨mk, hnamed⟩ := Cond.code_named hcode
  obtain ⟨methM, cM, hmethM, -, -, -, -, -, -, hsigM⟩ := Cond.code_spec hnamed hcode
  have hstatic : methM.isStatic = true := Cond.static_spec hnamed hmethM hstat
  obtain ⟨kP, hkP, -⟩ := className_of_methodNamed hnamed
  have hinitP : kP.init = .initialized := Cond.initialized_spec (findClass_of_methodNamed hnamed) hkP hinit
  obtain ⟨vm₁, X₁, hstep₁⟩ := X.invokestatic hexec hown hlink hnamed hmethM hstatic hkP hinitP hy (g := g) hg (argsL := argsL) (rest := rest) (hlen _ hsigM) hstack hdg
  rcases hK m meth c ⟨T.setVm vm₁, locs, cells, slots⟩ { g with stack := rest } (.invokestatic index) mk argsL.toArray X₁ hg hsize hdg hW (X₁.named hnamed) (hpre vm₁ X₁.warmed) with ⟨v, B, X', hpost, hsteps⟩ | ⟨q, B, X', hpost, hsteps⟩
  · exact Or.inl ⟨v, vm₁, B, X₁.warmed, X', hpost, fun target h => hstep₁ _ fun acts => by rw [doInvoke_state]; exact hsteps.trans h⟩
  · exact Or.inr ⟨q, vm₁, B, X₁.warmed, X', hpost, hstep₁ _ fun acts => by rw [doInvoke_state]; exact hsteps⟩
end Calls
theorem vx_cls {s : State} {T : State} {vm₁ : Vm} {E : String} {k : ClassId} (hW : s.WarmedH vm₁) (h : (T.setVm vm₁).vm.findClass E = some k) : s.vm.findClass E = some k := by
  have h1 : vm₁.findClass E = some k := h
  rw [hW.alike.findClass] at h1
  exact h1
/-- the method's frame g, with q thrown over it -/
def vx_W (p : Program) (l : Launch) (e : Env) (R : Room) (s : State) (m : MethodId) (args : Array Value) (below : List Frame) (meth : Method) (c : Code) (H : Heap) (locs : List Loc) (cells slots : Nat) (Q : State → Prop) (g : JFrame) (q : Addr) : Prop :=
  ∀ T : State, T.heap = H → Stand p l e R s m args below meth c T locs cells slots → ∃ t, Steps p.tables e below ((T.setTop g).pushFrame (.throwing q)) t ∧ Q t
def vx_Run (p : Program) (l : Launch) (e : Env) (R : Room) (s : State) (m : MethodId) (args : Array Value) (below : List Frame) (meth : Method) (c : Code) (H : Heap) (locs : List Loc) (cells slots mc ms : Nat) (g : JFrame) (rest : List Value) (Qa : State → Outcome → State → Prop) (XC : String → State → State → Prop) (free : Addr → Prop) : Prop :=
  ∀ T : State, T.heap = H → Stand p l e R s m args below meth c T locs cells slots →
    (∃ (v : Option Value) (st₀ t T' : State) (L : List Loc), st₀.heap = H ∧ Stand p l e R s m args below meth c T' (locs ++ L) (cells + mc) (slots + ms) ∧ (∀ q ∈ L, free q.base) ∧ T'.heap = t.heap ∧ T'.vm = t.vm ∧ Qa st₀ (.returned v) t ∧
      Goes p e below T g T' { g with pc := g.pc + 3, stack := v.toList ++ rest }) ∨
    (∃ (q : Addr) (st₀ t T' : State) (L : List Loc) (E : String) (ce : Cell), st₀.heap = H ∧ Stand p l e R s m args below meth c T' (locs ++ L) (cells + mc) (slots + ms) ∧ (∀ z ∈ L, free z.base) ∧ T'.heap = t.heap ∧ T'.vm = t.vm ∧ XC E st₀ t ∧ t.heap[q]? = some ce ∧ ce.vm = .none ∧ s.vm.findClass E = some ce.cls ∧
      Steps p.tables e below (T.setTop g) ((T'.setTop { g with stack := rest }).pushFrame (.throwing q)))
def vx_X {S : Type} (px : S → Prop) (B : String → S → State → Prop) (A : Nat → Prop) : String → State → State → Prop := fun E st t => ∃ u : S, px u ∧ B E u t ∧ va_F A st t
section Runs
variable {p : Program} {l : Launch} {e : Env} {R : Room} {s : State} {m : MethodId} {args : Array Value} {below : List Frame} {meth : Method} {c : Code} {H : Heap} {locs : List Loc} {cells slots : Nat}
variable {y : MethodName} {bytes cc : ByteArray} {maxL nL mc ms n index : Nat} {ret : Option FieldType} {ws : List Cond} {rm : Room} {Pc : Array Value → State → Prop} {Qc : Array Value → State → Outcome → State → Prop} {XC : String → State → State → Prop} {free : Addr → Prop} {Ts : List Cond} {own C : String} {b : Addr} {As rest : List Value} {g : JFrame}
theorem vx_callBack (cb : CallB R s args own index y bytes maxL ret ws rm mc ms n) (hM : vx_Met l y ws rm Pc Qc XC mc ms free) (hbl : FrameBlind Pc) : vx_Back l R p e below s args y 3 8 (PreOf R mc ms Pc) (PostOf Qc mc ms free) (vx_Post XC mc ms free) := by
  obtain ⟨hrc, hrs, hfr, hlo, hws, hcw, -, hini, -⟩ := cb
  exact vx_back (bytes := bytes) (maxL := maxL) (ret := ret) hM hbl hrc hrs hfr hlo hws hcw (fun a' U hW => word_at hW (Or.inl (by first | rfl | simp [Cond.onTables, Cond.keeps, Cond.steady])) hini)
theorem vx_runV (S : CallFix p m c cc nL s args Ts own) (hM : vx_Met l y ws rm Pc Qc XC mc ms free) (cw : CallW R s args own C index y bytes maxL ret ws rm mc ms n) (hp : PreV s H C b Pc As)
    (hg : g.method = m) (hn : As.length = n) (hsize : g.locals.size = nL) (hstack : g.stack = As.reverse ++ .ref b :: rest) (hW : 2 * g.monitorRoom + (rest.map fun v => v.category).sum ≤ 8) (hdg : decode cc g.pc = .ok (.invokevirtual index, 3)) (hf : cells + mc ≤ R.cells ∧ slots + ms ≤ R.slots) :
    vx_Run p l e R s m args below meth c H locs cells slots mc ms g rest (Qc (Value.ref b :: As).toArray) XC free := by
  have hK : vx_Back l R p e below s args y 3 8 (PreOf R mc ms Pc) (PostOf Qc mc ms free) (vx_Post XC mc ms free) := vx_callBack cw.1 hM hp.1
  obtain ⟨⟨-, -, -, -, -, -, hcode, -, hy, hlen, hl⟩, hin, hse⟩ := cw
  obtain ⟨hx, hb, hml, ho, -⟩ := S
  obtain ⟨-, ⟨cellB, hcB, hoB, hclB⟩, hPc⟩ := hp
  intro T hT X
  rcases vx_callV X hx (C := C) (bytes := bytes) (maxL := maxL) (ret := ret) ho hl hin hse hcode hy hK (by rw [hT]; exact hcB) hoB hclB hg (hsize.trans hml.symm) (argsL := As) (rest := rest) (fun sig h => hn.trans (hlen sig h)) hstack hW (by rw [hb]; exact hdg)
    (fun vm₁ hW₁ => ⟨hf.1, hf.2, hPc (T.setVm vm₁) hT hW₁⟩) with ⟨v, vm₁, ⟨U', l2, c2, s2⟩, hW₁, X', ⟨g', mk, t, L, e1, e2, hq, h1, hL, h2, h3⟩, st⟩ | ⟨q, vm₁, ⟨U', l2, c2, s2⟩, hW₁, X', ⟨g', mk, t, L, E, ce, e1, e2, hq, hce, hcv, hcl, h1, hL, h2, h3⟩, st⟩
  · dsimp only [Pt.U, Pt.locs, Pt.cells, Pt.slots] at X' e1 e2 h1 h2 h3 st
    subst h1; subst h2; subst h3
    exact Or.inl ⟨v, (T.setVm vm₁).calling g' mk (Value.ref b :: As).toArray, t, U', L, hT, X', hL, e1, e2, hq, st⟩
  · dsimp only [Pt.U, Pt.locs, Pt.cells, Pt.slots] at X' e1 e2 h1 h2 h3 st hcl
    subst h1; subst h2; subst h3
    exact Or.inr ⟨q, (T.setVm vm₁).calling g' mk (Value.ref b :: As).toArray, t, U', L, E, ce, hT, X', hL, e1, e2, hq, hce, hcv, vx_cls hW₁ hcl, st⟩
theorem vx_runS (S : CallFix p m c cc nL s args Ts own) (hM : vx_Met l y ws rm Pc Qc XC mc ms free) (cw : CallB R s args own index y bytes maxL ret ws rm mc ms n ∧ (Cond.static y).before args s = true) (hp : PreS s H Pc As)
    (hg : g.method = m) (hn : As.length = n) (hsize : g.locals.size = nL) (hstack : g.stack = As.reverse ++ rest) (hW : 2 * g.monitorRoom + (rest.map fun v => v.category).sum ≤ 8) (hdg : decode cc g.pc = .ok (.invokestatic index, 3)) (hf : cells + mc ≤ R.cells ∧ slots + ms ≤ R.slots) :
    vx_Run p l e R s m args below meth c H locs cells slots mc ms g rest (Qc As.toArray) XC free := by
  have hK : vx_Back l R p e below s args y 3 8 (PreOf R mc ms Pc) (PostOf Qc mc ms free) (vx_Post XC mc ms free) := vx_callBack cw.1 hM hp.1
  obtain ⟨⟨-, -, -, -, -, -, hcode, hini, hy, hlen, hl⟩, hstt⟩ := cw
  obtain ⟨hx, hb, hml, ho, -⟩ := S
  intro T hT X
  rcases vx_callS X hx (bytes := bytes) (maxL := maxL) (ret := ret) ho hl hstt hini hcode hy hK hg (hsize.trans hml.symm) (argsL := As) (rest := rest) (fun sig h => hn.trans (hlen sig h)) hstack hW (by rw [hb]; exact hdg)
    (fun vm₁ hW₁ => ⟨hf.1, hf.2, hp.2 (T.setVm vm₁) hT hW₁⟩) with ⟨v, vm₁, ⟨U', l2, c2, s2⟩, hW₁, X', ⟨g', mk, t, L, e1, e2, hq, h1, hL, h2, h3⟩, st⟩ | ⟨q, vm₁, ⟨U', l2, c2, s2⟩, hW₁, X', ⟨g', mk, t, L, E, ce, e1, e2, hq, hce, hcv, hcl, h1, hL, h2, h3⟩, st⟩
  · dsimp only [Pt.U, Pt.locs, Pt.cells, Pt.slots] at X' e1 e2 h1 h2 h3 st
    subst h1; subst h2; subst h3
    exact Or.inl ⟨v, (T.setVm vm₁).calling g' mk As.toArray, t, U', L, hT, X', hL, e1, e2, hq, st⟩
  · dsimp only [Pt.U, Pt.locs, Pt.cells, Pt.slots] at X' e1 e2 h1 h2 h3 st hcl
    subst h1; subst h2; subst h3
    exact Or.inr ⟨q, (T.setVm vm₁).calling g' mk As.toArray, t, U', L, E, ce, hT, X', hL, e1, e2, hq, hce, hcv, vx_cls hW₁ hcl, st⟩
end Runs
section Rows
variable {p : Program} {l : Launch} {e : Env} {R : Room} {s : State} {m : MethodId} {args : Array Value} {below : List Frame} {meth : Method} {c : Code} {H : Heap} {locs : List Loc} {cells slots : Nat} {Q : State → Prop}
variable {mc ms : Nat} {free : Addr → Prop} {A0 A1 : Nat → Prop} {H0 : Heap} {a : Array Value} {pc : Nat} {ls : Array Slot} {st0 rest : List Value}
theorem vx_keep {st₀ t T' : State} {L : List Loc} (h0 : st₀.heap = H) (e1 : T'.heap = t.heap) (hS : va_S A0 H0 H locs) (hA : ∀ q, q < H.size → A1 q → A0 q) (hf : ∀ q, free q → A0 q) (hL : ∀ q ∈ L, free q.base) (hF : va_F A1 st₀ t) :
    H.size ≤ T'.heap.size ∧ (∀ q : Nat, q < H.size → ¬ A1 q → T'.heap[q]? = H[q]?) ∧ va_S A0 H0 T'.heap (locs ++ L) := by
  obtain ⟨hz, hk⟩ := hF
  rw [h0] at hz hk
  exact ⟨by rw [e1]; exact hz, fun q h1 h2 => by rw [e1]; exact hk q h1 h2,
    ⟨Nat.le_trans hS.1 (by rw [e1]; exact hz), fun q h1 h2 => by rw [e1, hk q (Nat.lt_of_lt_of_le h1 hS.1) (fun z => h2 (hA q (Nat.lt_of_lt_of_le h1 hS.1) z))]; exact hS.2.1 q h1 h2, fun q hq => by
      rcases List.mem_append.mp hq with h | h
      · exact hS.2.2 q h
      · exact hf _ (hL q h)⟩⟩
theorem vx_calli {S SX : Type} {post : Int32 → S → Prop} {px : SX → Prop} {B : S → State → Prop} {BX : String → SX → State → Prop} {AX : Nat → Prop} (hr : vx_Run p l e R s m args below meth c H locs cells slots mc ms (F0 m pc ls st0) rest (va_Qi post B A1 a) (vx_X px BX AX) free) (hS : va_S A0 H0 H locs) (hA : ∀ q, q < H.size → A1 q → A0 q) (hf : ∀ q, free q → A0 q) (hAX : ∀ q, q < H.size → AX q → A0 q)
    (kx : ∀ (E : String) (ce : Cell) (q9 : Addr) (u : SX) (t : State) (H1 : Heap) (locs1 : List Loc), t.heap = H1 → s.vm.Alike t.vm → px u → BX E u t → H.size ≤ H1.size → (∀ q : Nat, q < H.size → ¬ AX q → H1[q]? = H[q]?) → va_S A0 H0 H1 locs1 → H1[q9]? = some ce → ce.vm = .none → s.vm.findClass E = some ce.cls → vx_W p l e R s m args below meth c H1 locs1 (cells + mc) (slots + ms) Q (F0 m pc ls rest) q9)
    (kk : ∀ (r : Int32) (u : S) (t : State) (H1 : Heap) (locs1 : List Loc), t.heap = H1 → s.vm.Alike t.vm → post r u → B u t → H.size ≤ H1.size → (∀ q : Nat, q < H.size → ¬ A1 q → H1[q]? = H[q]?) → va_S A0 H0 H1 locs1 → W p l e R s m args below meth c H1 locs1 (cells + mc) (slots + ms) Q (F0 m (pc + 3) ls (.int r :: rest))) : W p l e R s m args below meth c H locs cells slots Q (F0 m pc ls st0) := by
  intro T hT X
  rcases hr T hT X with ⟨v, st₀, t, T', L, h0, X', hL, e1, e2, ⟨⟨r, u, hv, hp, hb⟩, hF⟩, st⟩ | ⟨q, st₀, t, T', L, E, ce, h0, X', hL, e1, e2, ⟨u, hp, hb, hF⟩, hce, hcv, hcl, st⟩
  · cases hv
    obtain ⟨k1, k2, k3⟩ := vx_keep h0 e1 hS hA hf hL hF
    obtain ⟨t2, a1, b1⟩ := kk r u t T'.heap (locs ++ L) e1.symm (by rw [← e2]; exact X'.warmed.alike) hp hb k1 k2 k3 T' rfl X'
    exact ⟨t2, st t2 a1, b1⟩
  · obtain ⟨k1, k2, k3⟩ := vx_keep h0 e1 hS hAX hf hL hF
    obtain ⟨t2, a1, b1⟩ := kx E ce q u t T'.heap (locs ++ L) e1.symm (by rw [← e2]; exact X'.warmed.alike) hp hb k1 k2 k3 (by rw [e1]; exact hce) hcv hcl T' rfl X'
    exact ⟨t2, st.trans a1, b1⟩
theorem vx_calll {S SX : Type} {post : Int64 → S → Prop} {px : SX → Prop} {B : S → State → Prop} {BX : String → SX → State → Prop} {AX : Nat → Prop} (hr : vx_Run p l e R s m args below meth c H locs cells slots mc ms (F0 m pc ls st0) rest (va_Ql post B A1 a) (vx_X px BX AX) free) (hS : va_S A0 H0 H locs) (hA : ∀ q, q < H.size → A1 q → A0 q) (hf : ∀ q, free q → A0 q) (hAX : ∀ q, q < H.size → AX q → A0 q)
    (kx : ∀ (E : String) (ce : Cell) (q9 : Addr) (u : SX) (t : State) (H1 : Heap) (locs1 : List Loc), t.heap = H1 → s.vm.Alike t.vm → px u → BX E u t → H.size ≤ H1.size → (∀ q : Nat, q < H.size → ¬ AX q → H1[q]? = H[q]?) → va_S A0 H0 H1 locs1 → H1[q9]? = some ce → ce.vm = .none → s.vm.findClass E = some ce.cls → vx_W p l e R s m args below meth c H1 locs1 (cells + mc) (slots + ms) Q (F0 m pc ls rest) q9)
    (kk : ∀ (r : Int64) (u : S) (t : State) (H1 : Heap) (locs1 : List Loc), t.heap = H1 → s.vm.Alike t.vm → post r u → B u t → H.size ≤ H1.size → (∀ q : Nat, q < H.size → ¬ A1 q → H1[q]? = H[q]?) → va_S A0 H0 H1 locs1 → W p l e R s m args below meth c H1 locs1 (cells + mc) (slots + ms) Q (F0 m (pc + 3) ls (.long r :: rest))) : W p l e R s m args below meth c H locs cells slots Q (F0 m pc ls st0) := by
  intro T hT X
  rcases hr T hT X with ⟨v, st₀, t, T', L, h0, X', hL, e1, e2, ⟨⟨r, u, hv, hp, hb⟩, hF⟩, st⟩ | ⟨q, st₀, t, T', L, E, ce, h0, X', hL, e1, e2, ⟨u, hp, hb, hF⟩, hce, hcv, hcl, st⟩
  · cases hv
    obtain ⟨k1, k2, k3⟩ := vx_keep h0 e1 hS hA hf hL hF
    obtain ⟨t2, a1, b1⟩ := kk r u t T'.heap (locs ++ L) e1.symm (by rw [← e2]; exact X'.warmed.alike) hp hb k1 k2 k3 T' rfl X'
    exact ⟨t2, st t2 a1, b1⟩
  · obtain ⟨k1, k2, k3⟩ := vx_keep h0 e1 hS hAX hf hL hF
    obtain ⟨t2, a1, b1⟩ := kx E ce q u t T'.heap (locs ++ L) e1.symm (by rw [← e2]; exact X'.warmed.alike) hp hb k1 k2 k3 (by rw [e1]; exact hce) hcv hcl T' rfl X'
    exact ⟨t2, st.trans a1, b1⟩
theorem vx_callf {S SX : Type} {post : UInt32 → S → Prop} {px : SX → Prop} {B : S → State → Prop} {BX : String → SX → State → Prop} {AX : Nat → Prop} (hr : vx_Run p l e R s m args below meth c H locs cells slots mc ms (F0 m pc ls st0) rest (va_Qf post B A1 a) (vx_X px BX AX) free) (hS : va_S A0 H0 H locs) (hA : ∀ q, q < H.size → A1 q → A0 q) (hf : ∀ q, free q → A0 q) (hAX : ∀ q, q < H.size → AX q → A0 q)
    (kx : ∀ (E : String) (ce : Cell) (q9 : Addr) (u : SX) (t : State) (H1 : Heap) (locs1 : List Loc), t.heap = H1 → s.vm.Alike t.vm → px u → BX E u t → H.size ≤ H1.size → (∀ q : Nat, q < H.size → ¬ AX q → H1[q]? = H[q]?) → va_S A0 H0 H1 locs1 → H1[q9]? = some ce → ce.vm = .none → s.vm.findClass E = some ce.cls → vx_W p l e R s m args below meth c H1 locs1 (cells + mc) (slots + ms) Q (F0 m pc ls rest) q9)
    (kk : ∀ (r : UInt32) (u : S) (t : State) (H1 : Heap) (locs1 : List Loc), t.heap = H1 → s.vm.Alike t.vm → post r u → B u t → H.size ≤ H1.size → (∀ q : Nat, q < H.size → ¬ A1 q → H1[q]? = H[q]?) → va_S A0 H0 H1 locs1 → W p l e R s m args below meth c H1 locs1 (cells + mc) (slots + ms) Q (F0 m (pc + 3) ls (.float r :: rest))) : W p l e R s m args below meth c H locs cells slots Q (F0 m pc ls st0) := by
  intro T hT X
  rcases hr T hT X with ⟨v, st₀, t, T', L, h0, X', hL, e1, e2, ⟨⟨r, u, hv, hp, hb⟩, hF⟩, st⟩ | ⟨q, st₀, t, T', L, E, ce, h0, X', hL, e1, e2, ⟨u, hp, hb, hF⟩, hce, hcv, hcl, st⟩
  · cases hv
    obtain ⟨k1, k2, k3⟩ := vx_keep h0 e1 hS hA hf hL hF
    obtain ⟨t2, a1, b1⟩ := kk r u t T'.heap (locs ++ L) e1.symm (by rw [← e2]; exact X'.warmed.alike) hp hb k1 k2 k3 T' rfl X'
    exact ⟨t2, st t2 a1, b1⟩
  · obtain ⟨k1, k2, k3⟩ := vx_keep h0 e1 hS hAX hf hL hF
    obtain ⟨t2, a1, b1⟩ := kx E ce q u t T'.heap (locs ++ L) e1.symm (by rw [← e2]; exact X'.warmed.alike) hp hb k1 k2 k3 (by rw [e1]; exact hce) hcv hcl T' rfl X'
    exact ⟨t2, st.trans a1, b1⟩
theorem vx_calld {S SX : Type} {post : UInt64 → S → Prop} {px : SX → Prop} {B : S → State → Prop} {BX : String → SX → State → Prop} {AX : Nat → Prop} (hr : vx_Run p l e R s m args below meth c H locs cells slots mc ms (F0 m pc ls st0) rest (va_Qd post B A1 a) (vx_X px BX AX) free) (hS : va_S A0 H0 H locs) (hA : ∀ q, q < H.size → A1 q → A0 q) (hf : ∀ q, free q → A0 q) (hAX : ∀ q, q < H.size → AX q → A0 q)
    (kx : ∀ (E : String) (ce : Cell) (q9 : Addr) (u : SX) (t : State) (H1 : Heap) (locs1 : List Loc), t.heap = H1 → s.vm.Alike t.vm → px u → BX E u t → H.size ≤ H1.size → (∀ q : Nat, q < H.size → ¬ AX q → H1[q]? = H[q]?) → va_S A0 H0 H1 locs1 → H1[q9]? = some ce → ce.vm = .none → s.vm.findClass E = some ce.cls → vx_W p l e R s m args below meth c H1 locs1 (cells + mc) (slots + ms) Q (F0 m pc ls rest) q9)
    (kk : ∀ (r : UInt64) (u : S) (t : State) (H1 : Heap) (locs1 : List Loc), t.heap = H1 → s.vm.Alike t.vm → post r u → B u t → H.size ≤ H1.size → (∀ q : Nat, q < H.size → ¬ A1 q → H1[q]? = H[q]?) → va_S A0 H0 H1 locs1 → W p l e R s m args below meth c H1 locs1 (cells + mc) (slots + ms) Q (F0 m (pc + 3) ls (.double r :: rest))) : W p l e R s m args below meth c H locs cells slots Q (F0 m pc ls st0) := by
  intro T hT X
  rcases hr T hT X with ⟨v, st₀, t, T', L, h0, X', hL, e1, e2, ⟨⟨r, u, hv, hp, hb⟩, hF⟩, st⟩ | ⟨q, st₀, t, T', L, E, ce, h0, X', hL, e1, e2, ⟨u, hp, hb, hF⟩, hce, hcv, hcl, st⟩
  · cases hv
    obtain ⟨k1, k2, k3⟩ := vx_keep h0 e1 hS hA hf hL hF
    obtain ⟨t2, a1, b1⟩ := kk r u t T'.heap (locs ++ L) e1.symm (by rw [← e2]; exact X'.warmed.alike) hp hb k1 k2 k3 T' rfl X'
    exact ⟨t2, st t2 a1, b1⟩
  · obtain ⟨k1, k2, k3⟩ := vx_keep h0 e1 hS hAX hf hL hF
    obtain ⟨t2, a1, b1⟩ := kx E ce q u t T'.heap (locs ++ L) e1.symm (by rw [← e2]; exact X'.warmed.alike) hp hb k1 k2 k3 (by rw [e1]; exact hce) hcv hcl T' rfl X'
    exact ⟨t2, st.trans a1, b1⟩
theorem vx_callv {S SX : Type} {post : S → Prop} {px : SX → Prop} {B : S → State → Prop} {BX : String → SX → State → Prop} {AX : Nat → Prop} (hr : vx_Run p l e R s m args below meth c H locs cells slots mc ms (F0 m pc ls st0) rest (va_Qv post B A1 a) (vx_X px BX AX) free) (hS : va_S A0 H0 H locs) (hA : ∀ q, q < H.size → A1 q → A0 q) (hf : ∀ q, free q → A0 q) (hAX : ∀ q, q < H.size → AX q → A0 q)
    (kx : ∀ (E : String) (ce : Cell) (q9 : Addr) (u : SX) (t : State) (H1 : Heap) (locs1 : List Loc), t.heap = H1 → s.vm.Alike t.vm → px u → BX E u t → H.size ≤ H1.size → (∀ q : Nat, q < H.size → ¬ AX q → H1[q]? = H[q]?) → va_S A0 H0 H1 locs1 → H1[q9]? = some ce → ce.vm = .none → s.vm.findClass E = some ce.cls → vx_W p l e R s m args below meth c H1 locs1 (cells + mc) (slots + ms) Q (F0 m pc ls rest) q9)
    (kk : ∀ (u : S) (t : State) (H1 : Heap) (locs1 : List Loc), t.heap = H1 → s.vm.Alike t.vm → post u → B u t → H.size ≤ H1.size → (∀ q : Nat, q < H.size → ¬ A1 q → H1[q]? = H[q]?) → va_S A0 H0 H1 locs1 → W p l e R s m args below meth c H1 locs1 (cells + mc) (slots + ms) Q (F0 m (pc + 3) ls (rest))) : W p l e R s m args below meth c H locs cells slots Q (F0 m pc ls st0) := by
  intro T hT X
  rcases hr T hT X with ⟨v, st₀, t, T', L, h0, X', hL, e1, e2, ⟨⟨u, hv, hp, hb⟩, hF⟩, st⟩ | ⟨q, st₀, t, T', L, E, ce, h0, X', hL, e1, e2, ⟨u, hp, hb, hF⟩, hce, hcv, hcl, st⟩
  · cases hv
    obtain ⟨k1, k2, k3⟩ := vx_keep h0 e1 hS hA hf hL hF
    obtain ⟨t2, a1, b1⟩ := kk u t T'.heap (locs ++ L) e1.symm (by rw [← e2]; exact X'.warmed.alike) hp hb k1 k2 k3 T' rfl X'
    exact ⟨t2, st t2 a1, b1⟩
  · obtain ⟨k1, k2, k3⟩ := vx_keep h0 e1 hS hAX hf hL hF
    obtain ⟨t2, a1, b1⟩ := kx E ce q u t T'.heap (locs ++ L) e1.symm (by rw [← e2]; exact X'.warmed.alike) hp hb k1 k2 k3 (by rw [e1]; exact hce) hcv hcl T' rfl X'
    exact ⟨t2, st.trans a1, b1⟩
/-- caught by the row x of this method's table; the rows ahead don't take it -/
theorem vx_catch {own name : String} {E : String} {ce : Cell} {q : Addr} (hown : s.vm.findClass own = some m.cls) (pre : List ExceptionTableEntry) (x : ExceptionTableEntry) (suf : List ExceptionTableEntry) (hsplit : c.exceptionTable.toList = pre ++ x :: suf)
    (hpass : ∀ z ∈ pre, covers z pc = false ∨ (z.catchType ≠ 0 ∧ ∃ nm : String, (Cond.classLink own z.catchType nm).before args s = true ∧ va_Nc E nm s)) (hx : covers x pc = true) (h0 : x.catchType ≠ 0)
    (hlink : (Cond.classLink own x.catchType name).before args s = true) (hcast : (Cond.castable E name).before args s = true) (hcell : H[q]? = some ce) (hv : ce.vm = .none) (hcl : s.vm.findClass E = some ce.cls)
    (kk : W p l e R s m args below meth c H locs cells slots Q (F0 m x.handlerPc ls [.ref q])) : vx_W p l e R s m args below meth c H locs cells slots Q (F0 m pc ls rest) q := by
  intro T hT X
  have hpl : e.platform.magicAccessors = ({} : Platform).magicAccessors := by rw [X.admits.platform]
  obtain ⟨c3, c4, hc3, hc4, hasg⟩ := Cond.castable_spec hcast
  cases Option.some.inj (hc3.symm.trans hcl)
  obtain ⟨c5, hc5, hcl5⟩ := Cond.classLink_spec hown hlink e.platform hpl
  cases Option.some.inj (hc4.symm.trans hc5)
  obtain ⟨vm', X', st⟩ := X.thenCaughtThrough q (g := F0 m pc ls rest) rfl (Steps.refl _) (by rw [hT]; exact hcell) (by rw [hv]; rfl) (by obtain ⟨k9, h9, -⟩ := Vm.findClass_spec hcl; exact ⟨k9, h9⟩) pre x suf hsplit
    (fun z hz => by
      rcases hpass z hz with h | ⟨hz0, nm, hl1, hn1⟩
      · exact Or.inl h
      · obtain ⟨c6, hc6, hcl6⟩ := Cond.classLink_spec hown hl1 e.platform hpl
        obtain ⟨a8, b8, h1, h2, h3⟩ := hn1
        cases Option.some.inj (h1.symm.trans hcl)
        cases Option.some.inj (h2.symm.trans hc6)
        exact Or.inr ⟨hz0, _, hcl6, h3⟩) hx (Or.inr ⟨h0, c4, hcl5, hasg⟩)
  obtain ⟨t, a1, b1⟩ := kk (T.setVm vm') hT X'
  exact ⟨t, st.trans a1, b1⟩
end Rows
section Ends
variable {p : Program} {l : Launch} {e : Env} {R : Room} {s : State} {m : MethodId} {args : Array Value} {below : List Frame} {meth : Method} {c : Code} {H : Heap} {locs : List Loc} {cells slots : Nat} {Q : State → Prop}
variable {mc ms : Nat} {free : Addr → Prop} {A0 A1 : Nat → Prop} {H0 : Heap} {a : Array Value} {ls : Array Slot} {st0 rest : List Value}
variable {Qc : Array Value → State → Outcome → State → Prop} {XC : String → State → State → Prop}
/-- what a body that may throw owes at its end -/
def vx_MQ (below : List Frame) (Qc : Array Value → State → Outcome → State → Prop) (XC : String → State → State → Prop) (a : Array Value) (s : State) (mc ms : Nat) (free : Addr → Prop) : State → Prop := fun t =>
  ∃ o, t.status = .running ∧ Ended t below o ∧ vx_Q Qc XC mc ms free a s o t
theorem vx_ret {g : JFrame} {mc ms : Nat} (k : W p l e R s m args below meth c H locs cells slots (MQ below Qc args s mc ms free) g) : W p l e R s m args below meth c H locs cells slots (vx_MQ below Qc XC args s mc ms free) g := by
  intro T hT X
  obtain ⟨t, a1, o, b1, b2, b3, b4⟩ := k T hT X
  exact ⟨t, a1, o, b1, b2, Or.inl ⟨b3, b4⟩⟩
/-- not caught here: it goes on to the caller -/
theorem vx_widen {g : JFrame} {q : Addr} {k n : Nat} (h1 : cells ≤ k) (h2 : slots ≤ n) (kk : vx_W p l e R s m args below meth c H locs k n Q g q) : vx_W p l e R s m args below meth c H locs cells slots Q g q := fun T hT X => kk T hT (stand_widen X h1 h2)
theorem vx_out {pc : Nat} {E : String} {ce : Cell} {q : Addr} {mc ms : Nat} (hout : ∀ x ∈ c.exceptionTable.toList, covers x pc = false) (hlocks : meth.locks = false) (hcell : H[q]? = some ce) (hv : ce.vm = .none) (hcl : s.vm.findClass E = some ce.cls)
    (hx : ∀ t : State, t.heap = H → s.vm.Alike t.vm → XC E s t) (hf : ∀ z ∈ locs, free z.base) (hc : cells ≤ mc) (hs : slots ≤ ms) :
    vx_W p l e R s m args below meth c H locs cells slots (vx_MQ below Qc XC args s mc ms free) (F0 m pc ls rest) q := by
  intro T hT X
  obtain ⟨st1, hrun, hend, hW, hsm⟩ := X.leaveThrown q (g := F0 m pc ls rest) rfl rfl rfl hout hlocks
  have hcell9 : (T.setFrames (.throwing q :: below)).heap[q]? = some ce := by
    show T.heap[q]? = some ce
    rw [hT]; exact hcell
  exact ⟨_, st1, .threw q, hrun, hend, Or.inr ⟨q, rfl, E, ce, locs, hx _ hT hW.alike, hcell9, hv, hcl, hW, hsm.mono hc hs, hf⟩⟩
theorem vx_frame {U : State} {k n : Nat} (h : s.sameButNew ({ U with vm := s.vm } : State) locs k n) : s.heap.size ≤ U.heap.size ∧ ∀ q : Nat, q < s.heap.size → (∀ z ∈ locs, z.base ≠ q) → U.heap[q]? = s.heap[q]? := by
  obtain ⟨-, h2, -, -, -, h6⟩ := h
  refine ⟨h2, fun q hq hz => ?_⟩
  obtain ⟨c9, e1, e2, e3, e4⟩ := h6 q _ (Array.getElem?_eq_getElem hq)
  have hs : c9.slots = (s.heap[q]).slots := Array.ext_getElem? fun i => e4 i fun hm => hz _ hm rfl
  have h9 : c9 = s.heap[q] := by
    rw [hs] at e2
    exact e2
  have e5 : U.heap[q]? = some c9 := e1
  rw [e5, h9, Array.getElem?_eq_getElem hq]
/-- the words of a throw but the four that speak of the heap -/
def vx_no (w : Cond) : Bool := decide (w ≠ .isRef (.static Bundle.tN "UNASSIGNED_STACK" Bundle.steD)) && decide (w ≠ .isRef (.static Bundle.tN "SUPPRESSED_SENTINEL" Bundle.listD)) && decide (w ≠ .laysStatic Bundle.tN "UNASSIGNED_STACK" Bundle.steD) && decide (w ≠ .laysStatic Bundle.tN "SUPPRESSED_SENTINEL" Bundle.listD)
def vx_at0 (own : String) (ic : Nat) (X : String) (names : List String) : List Cond := (Bundle.ownAtoms0 own ic X names).filter vx_no
def vx_atS (own : String) (ic : Nat) (X : String) (names : List String) : List Cond := (Bundle.ownAtoms own ic X names).filter vx_no
/-- a word that the tables alone decide, or a good one -/
def vx_ot (w : Cond) : Bool := w.onTables || goodWord w
theorem vx_ot_at {args a' : Array Value} {s U : State} {w : Cond} (hW : s.WarmedH U.vm) (hvm : s.vm = U.vm) (hg : vx_ot w = true) (h : w.before args s = true) : w.before a' U = true := by
  simp only [vx_ot, Bool.or_eq_true] at hg
  rcases hg with hg | hg
  · exact va_tabs hg hvm h
  · exact word_at hW (good_of_word hg) h
/-- a list's words: the good ones out of the method's own list, the others by premises of their own -/
theorem vx_hat {args : Array Value} {s : State} {L B : List Cond} (h1 : ∀ w ∈ L.filter goodWord, w.before args s = true) (h2 : ∀ w ∈ L.filter (fun w => !goodWord w), w ∈ B) (h3 : ∀ w ∈ B, w.before args s = true) : ∀ w ∈ L, w.before args s = true := by
  intro w hw
  by_cases g : goodWord w = true
  · exact h1 w (List.mem_filter.mpr ⟨hw, g⟩)
  · refine h3 w (h2 w (List.mem_filter.mpr ⟨hw, ?_⟩))
    show (!goodWord w) = true
    cases hgw : goodWord w
    · rfl
    · exact absurd hgw g
theorem vx_c {args : Array Value} {s : State} {w : Cond} {B : List Cond} (h : w.before args s = true) (t : ∀ w ∈ B, w.before args s = true) : ∀ w' ∈ w :: B, w'.before args s = true := fun w' h' => (List.mem_cons.mp h').elim (fun e => by rw [e]; exact h) (t w')
theorem vx_n {args : Array Value} {s : State} : ∀ w ∈ ([] : List Cond), w.before args s = true := fun _ h => nomatch h
theorem vx_own {args : Array Value} {s : State} {L : List Cond} (h1 : ∀ w ∈ L.filter vx_no, w.before args s = true)
    (hU : (Cond.isRef (.static Bundle.tN "UNASSIGNED_STACK" Bundle.steD)).before args s = true) (hN : (Cond.isRef (.static Bundle.tN "SUPPRESSED_SENTINEL" Bundle.listD)).before args s = true)
    (lU : (Cond.laysStatic Bundle.tN "UNASSIGNED_STACK" Bundle.steD).before args s = true) (lN : (Cond.laysStatic Bundle.tN "SUPPRESSED_SENTINEL" Bundle.listD).before args s = true) : ∀ w ∈ L, w.before args s = true := by
  intro w hw
  by_cases e1 : w = .isRef (.static Bundle.tN "UNASSIGNED_STACK" Bundle.steD)
  · rw [e1]; exact hU
  · by_cases e2 : w = .isRef (.static Bundle.tN "SUPPRESSED_SENTINEL" Bundle.listD)
    · rw [e2]; exact hN
    · by_cases e3 : w = .laysStatic Bundle.tN "UNASSIGNED_STACK" Bundle.steD
      · rw [e3]; exact lU
      · by_cases e4 : w = .laysStatic Bundle.tN "SUPPRESSED_SENTINEL" Bundle.listD
        · rw [e4]; exact lN
        · exact h1 w (List.mem_filter.mpr ⟨hw, by unfold vx_no; rw [decide_eq_true e1, decide_eq_true e2, decide_eq_true e3, decide_eq_true e4]; rfl⟩)
/-- where a static field lies, its class's statics cell in H -/
def vx_L (C n d : String) (A : Nat → Prop) (U : State) (H : Heap) : Prop := ∃ (c : ClassId) (k : Class) (i : Nat) (f : Field) (a : Nat) (cell : Cell), U.vm.findClass C = some c ∧ U.fieldFound? C n d = some (c, k, i, f) ∧ f.isStatic = true ∧ k.statics = some a ∧ H[a]? = some cell ∧ cell.vm.isStatics = true ∧ cell.cls = c ∧ f.slot < cell.slots.size ∧ k.staticTypes[f.slot]? = some f.type ∧ ¬ A a
theorem vx_L.moved {C n d : String} {A : Nat → Prop} {u U : State} {H : Heap} (hvm : u.vm.Alike U.vm) (h : vx_L C n d A u H) : vx_L C n d A U H := by
  obtain ⟨c, k, i, f, a, cell, h1, h2, h3, h4, h5, h6, h7, h8, h9, h10⟩ := h
  obtain ⟨k', hi', he⟩ := State.fieldFound?_setVm hvm h2
  exact ⟨c, k', i, f, a, cell, by rw [hvm.findClass]; exact h1, hi', h3, by rw [he]; exact h4, h5, h6, h7, h8, by rw [he]; exact h9, h10⟩
theorem vx_L.kept {C n d : String} {A : Nat → Prop} {U : State} {H H1 : Heap} (h : vx_L C n d A U H) (hq : ∀ a : Nat, a < H.size → ¬ A a → H1[a]? = H[a]?) : vx_L C n d A U H1 := by
  obtain ⟨c, k, i, f, a, cell, h1, h2, h3, h4, h5, h6, h7, h8, h9, h10⟩ := h
  exact ⟨c, k, i, f, a, cell, h1, h2, h3, h4, by rw [hq a (Array.getElem?_eq_some_iff.mp h5).1 h10]; exact h5, h6, h7, h8, h9, h10⟩
theorem vx_L.narrow {C n d : String} {A B : Nat → Prop} {U : State} {H : Heap} (h : vx_L C n d A U H) (hAB : ∀ q, B q → A q) : vx_L C n d B U H := by
  obtain ⟨c, k, i, f, a, cell, h1, h2, h3, h4, h5, h6, h7, h8, h9, h10⟩ := h
  exact ⟨c, k, i, f, a, cell, h1, h2, h3, h4, h5, h6, h7, h8, h9, fun z => h10 (hAB _ z)⟩
theorem vx_L.word {C n d : String} {A : Nat → Prop} {s : State} {args : Array Value} (h : vx_L C n d A s s.heap) : (Cond.laysStatic C n d).before args s = true := by
  obtain ⟨c, k, i, f, a, cell, h1, h2, h3, h4, h5, h6, h7, h8, h9, -⟩ := h
  show (Cond.laysStatic C n d).holds args s none s [] = true
  exact Cond.laysStatic_of h1 h2 h3 h4 h5 h6 h7 h8 h9
/-- .. and what it holds: null or some reference -/
def vx_Zq (C n d : String) (A : Nat → Prop) (U : State) (H : Heap) : Prop := va_Zq C n d A U H ∧ vx_L C n d A U H
theorem vx_Zq.moved {C n d : String} {A : Nat → Prop} {u U : State} {H : Heap} (hvm : u.vm.Alike U.vm) (h : vx_Zq C n d A u H) : vx_Zq C n d A U H := ⟨va_Zq.moved hvm h.1, vx_L.moved hvm h.2⟩
theorem vx_Zq.kept {C n d : String} {A : Nat → Prop} {U : State} {H H1 : Heap} (h : vx_Zq C n d A U H) (hq : ∀ a : Nat, a < H.size → ¬ A a → H1[a]? = H[a]?) : vx_Zq C n d A U H1 := ⟨va_Zq.kept h.1 hq, vx_L.kept h.2 hq⟩
theorem vx_Zq.narrow {C n d : String} {A B : Nat → Prop} {U : State} {H : Heap} (h : vx_Zq C n d A U H) (hAB : ∀ q, B q → A q) : vx_Zq C n d B U H := ⟨va_Zq.narrow h.1 hAB, vx_L.narrow h.2 hAB⟩
theorem vx_Zqof {args : Array Value} {s : State} {C n d : String} {A : Nat → Prop} (hl : (Cond.laysStatic C n d).before args s = true) (hini : (Cond.initialized C).before args s = true) (h : (Cond.isRef (.static C n d)).before args s = true) (hA : ∀ a : Nat, a < s.heap.size → ¬ A a) : vx_Zq C n d A s s.heap := by
  refine ⟨va_Zqof hl hini h hA, ?_⟩
  obtain ⟨c, k, i, f, a, cell, h1, h2, h3, h4, h5, h6, h7, h8, h9⟩ := Cond.laysStatic_spec hl
  exact ⟨c, k, i, f, a, cell, h1, h2, h3, h4, h5, h6, h7, h8, h9, hA a (Array.getElem?_eq_some_iff.mp h5).1⟩
theorem vx_isRef {C n d : String} {v : Value} {A : Nat → Prop} {s : State} {args : Array Value} (h : va_Z C n d v A s s.heap) (hv : v.isRef = true) : (Cond.isRef (.static C n d)).before args s = true := by
  obtain ⟨cf, kf, fi, f, a, cell, h1, h2, h3, h4, h5, h6, h7, -⟩ := h
  have he : (Term.static C n d).eval args s none [] s = some v := by
    simp [Term.eval, State.fieldNamed?, h1, h2, h4, h5, h6, h7]
  simp only [Cond.before, Cond.holds, Cond.value, he]
  cases v <;> simp_all [Value.isRef]
theorem vx_isRefq {C n d : String} {A : Nat → Prop} {s : State} {args : Array Value} (h : va_Zq C n d A s s.heap) : (Cond.isRef (.static C n d)).before args s = true := by
  rcases h with h | ⟨t, h⟩
  · exact vx_isRef h rfl
  · exact vx_isRef h rfl
/-- the same frame, seen from here: as if the method were called anew in this heap -/
theorem vx_rebase {T : State} (X : Stand p l e R s m args below meth c T locs cells slots) {R' : Room} (hf : R'.frames ≤ R.frames) (hl : R'.locals ≤ R.locals) (hc : cells + R'.cells ≤ R.cells) (hs : slots + R'.slots ≤ R.slots) :
    Stand p l e R' ((T.setVm s.vm).setFrames (.invoking m args :: below)) m args below meth c T [] 0 0 := by
  have htop : (T.setVm s.vm).topJava?.isSome := X.here.top
  have hF : ((T.setVm s.vm).setFrames (.invoking m args :: below)).frames = .invoking m args :: below := State.frames_setFrames _ (State.cur_lt_of_top htop)
  obtain ⟨g₀, hg0⟩ := Option.isSome_iff_exists.mp htop
  obtain ⟨r, hr⟩ := State.topJava?_eq_some.mp hg0
  have hl9 : e.platform.stackLimits (T.setVm s.vm).me = e.platform.stackLimits s.me := X.limits
  have hb9 : (T.setVm s.vm).me.stackBytes = s.me.stackBytes := X.bytes
  refine ⟨X.admits, X.cas, X.clock, hF, ?_, X.hears, X.method, X.code, X.here, X.tail, X.warmed, ?_, ?_, ?_⟩
  · have h := X.room
    have hU : ((T.setVm s.vm).setFrames (.invoking m args :: below)).localsInUse = s.localsInUse := by
      rw [State.localsInUse_invoking hF (meth := meth) (c := c) X.method X.code, State.localsInUse_invoking X.frames X.method X.code]
    simp only [State.hasRoom, Bool.and_eq_true, decide_eq_true_eq] at h ⊢
    obtain ⟨⟨⟨⟨h1, h2, h3, h4, h5, h6⟩, h7⟩, h8⟩, h9⟩ := h
    rw [X.frames, List.length_cons] at h2 h3
    have q1 := X.heapSize
    have q2 := X.used
    simp only [hF, hU, List.length_cons, State.stackLimits_setFrames, State.stackBytes_setFrames, hl9, hb9]
    refine ⟨⟨⟨⟨by omega, by omega, by omega, by omega, by omega, h6⟩, ?_⟩, ?_⟩, X.book⟩
    · show T.heap.size + R'.cells ≤ e.platform.maxCells
      omega
    · show T.slotsUsed + R'.slots ≤ e.platform.maxSlots
      omega
  · rw [State.stackLimits_setFrames]; rfl
  · rw [State.stackBytes_setFrames]; rfl
  · refine ⟨?_, Nat.le_refl _, Nat.le_refl _, ?_, ?_, fun a c9 h9 => ⟨c9, h9, rfl, rfl, fun _ _ => rfl⟩⟩
    · obtain ⟨t, ht, -⟩ := State.frames_cons hr
      show T.setVm s.vm = { ((T.setVm s.vm).setFrames (.invoking m args :: below)).setFrames (T.setVm s.vm).frames with heap := T.heap, slotsUsed := T.slotsUsed }
      rw [State.setFrames_setFrames, State.setFrames_self ht]
      rfl
    · show T.slotsUsed = T.slotsUsed + ((T.heap.toList.drop T.heap.size).map (·.slots.size)).sum
      rw [List.drop_eq_nil_of_le (Nat.le_of_eq Array.length_toList)]
      rfl
    · show ((T.heap.toList.drop T.heap.size).map (·.slots.size)).sum ≤ 0
      rw [List.drop_eq_nil_of_le (Nat.le_of_eq Array.length_toList)]
      exact Nat.le_refl _
/-- 'throw new E()': new; dup; invokespecial; athrow -/
theorem vx_throw0 {cc : ByteArray} {pc : Nat} (hexec : p.tables.exec = Jvm.exec) (hb : c.code = cc) (hl : l.stackTraces = false) {own cls : String} {names : List String} {ik ic mc ms : Nat} {A : Nat → Prop}
    (hown : s.vm.findClass own = some m.cls) (hcls : Bundle.fit cls = true) (hnames : ∀ n ∈ names, Bundle.fit n = true)
    (hk : (Cond.classLink own ik cls).before args s = true) (hini : (Cond.initialized cls).before args s = true) (hat : ∀ w ∈ vx_at0 own ic cls names, w.before args s = true)
    (hgood : ∀ w ∈ Cond.classLink own ik cls :: Cond.initialized cls :: vx_at0 own ic cls names, vx_ot w = true)
    (hU : vx_Zq Bundle.tN "UNASSIGNED_STACK" Bundle.steD A s s.heap) (hN : vx_Zq Bundle.tN "SUPPRESSED_SENTINEL" Bundle.listD A s s.heap) (hS : va_S A s.heap H locs) (hsize : ls.size = c.maxLocals)
    (d0 : decode cc pc = .ok (.new ik, 3)) (d3 : decode cc (pc + 3) = .ok (.dup, 1)) (d4 : decode cc (pc + 4) = .ok (.invokespecial ic, 3)) (d7 : decode cc (pc + 7) = .ok (.athrow, 1))
    (hout : ∀ x ∈ c.exceptionTable.toList, covers x (pc + 7) = false)
    (hRframes : names.length + 3 < R.frames) (hRlocals : (rest.map fun v => v.category).sum + (13 * (names.length + 1) + 42) ≤ R.locals) (hRcells : cells + 1 ≤ R.cells) (hRslots : slots + 6 ≤ R.slots) (hlocks : meth.locks = false)
    (hx : ∀ t : State, s.vm.Alike t.vm → H.size ≤ t.heap.size → (∀ q : Nat, q < H.size → t.heap[q]? = H[q]?) → XC cls s t)
    (hf : ∀ z ∈ locs, free z.base) (hc : cells + 1 ≤ mc) (hs : slots + 6 ≤ ms) :
    W p l e R s m args below meth c H locs cells slots (vx_MQ below Qc XC args s mc ms free) (F0 m pc ls rest) := by
  intro T hT X
  have htr : e.platform.stackTraces = false := (show e.platform.stackTraces = l.stackTraces by rw [X.admits.platform]).trans hl
  have Y := vx_rebase X (R' := { frames := R.frames, locals := R.locals, cells := 1, slots := 6 }) (Nat.le_refl _) (Nat.le_refl _) hRcells hRslots
  obtain ⟨s', hA⟩ : ∃ z, z = (T.setVm s.vm).setFrames (.invoking m args :: below) := ⟨_, rfl⟩
  rw [← hA] at Y
  have hvm : s'.vm = s.vm := by rw [hA]; rfl
  have hhp : s'.heap = H := by rw [hA]; exact hT
  have hW0 : s.WarmedH s'.vm := by rw [hvm]; exact State.WarmedH.refl s
  have hat' : ∀ w ∈ vx_at0 own ic cls names, w.before args s' = true := fun w hw => vx_ot_at hW0 hvm.symm (hgood w (List.mem_cons_of_mem _ (List.mem_cons_of_mem _ hw))) (hat w hw)
  have hk' : (Cond.classLink own ik cls).before args s' = true := vx_ot_at hW0 hvm.symm (hgood _ List.mem_cons_self) hk
  have hini' : (Cond.initialized cls).before args s' = true := vx_ot_at hW0 hvm.symm (hgood _ (List.mem_cons_of_mem _ List.mem_cons_self)) hini
  have hU' : vx_Zq Bundle.tN "UNASSIGNED_STACK" Bundle.steD A s' s'.heap := by rw [hhp]; exact vx_Zq.moved hW0.alike (hU.kept hS.2.1)
  have hN' : vx_Zq Bundle.tN "SUPPRESSED_SENTINEL" Bundle.listD A s' s'.heap := by rw [hhp]; exact vx_Zq.moved hW0.alike (hN.kept hS.2.1)
  have h : ∀ w ∈ Bundle.ownAtoms0 own ic cls names, w.before args s' = true := vx_own hat' (vx_isRefq hU'.1) (vx_isRefq hN'.1) hU'.2.word hN'.2.word
  have hown' : s'.vm.findClass own = some m.cls := by rw [hvm]; exact hown
  have hins : (Cond.instantiable cls 6).before args s' = true := h _ (by simp [Bundle.ownAtoms0])
  obtain ⟨vm₁, cX, kX, hfX, hkX, -, -, X₁, st1⟩ := Y.newCold hexec (own := own) (C := cls) (index := ik) (n := 6) hown' hk' hins hini'
    (g := F0 m pc ls rest) rfl (by rw [hb]; exact d0) (Nat.le_refl _) (Nat.le_refl _)
  generalize hT1 : (T.setVm vm₁).pushCell { cls := cX, slots := kX.instanceTypes.map defaultValue, vm := .none } = T1 at X₁ st1
  have hcat : (Value.ref T.heap.size).category = 1 := rfl
  have hcellA : T1.heap[T.heap.size]? = some (freshCell cX kX) := by rw [← hT1]; exact State.heap_pushCell_size _ _
  have d3' : decode c.code (pc + 3) = .ok (.dup, 1) := by rw [hb]; exact d3
  obtain ⟨U, hsteps, hrun, hend, hW, hsame, ce, hce, hO⟩ := X₁.ctorThrow0 hexec htr (own := own) (cls := cls) (names := names) (ic := ic) hown' hcls hnames h (fun x hx => nomatch hx) hfX hkX hcellA (by rw [hhp, hT]; exact Nat.le_refl _)
    (g := { method := m, pc := pc + 4, locals := ls, stack := .ref T.heap.size :: .ref T.heap.size :: rest, locked := none }) rfl hsize rfl rfl (rest := rest) rfl
    (by rw [hb]; exact d4) (by rw [hb]; exact d7) hout hRframes (by simp only [List.map_cons, List.sum_cons, hcat]; omega) hlocks
  obtain ⟨f1, f2⟩ := vx_frame hsame
  rw [hhp] at f1 f2
  have hWs : s.WarmedH U.vm := State.WarmedH.trans hW0 hW
  have hcl : s.vm.findClass cls = some ce.cls := by
    have h9 := hO.cls
    rw [hvm] at h9
    exact h9
  have hall : s.sameButNew ({ U with vm := s.vm } : State) locs mc ms := by
    subst hA
    obtain ⟨e1, e2⟩ := hsame
    rw [State.setFrames_setFrames] at e1
    have h2 : (T.setVm s.vm).sameButNew ({ U with vm := s.vm } : State) [] (0 + 1) (0 + 6) := ⟨e1, e2⟩
    have h3 := X.same.trans h2
    rw [List.append_nil] at h3
    exact h3.mono hc hs
  refine ⟨U, ?_, .threw T.heap.size, hrun, hend, Or.inr ⟨T.heap.size, rfl, cls, ce, locs, hx U hWs.alike f1 (fun q hq => f2 q hq (fun z hz => nomatch hz)), hce, hO.vm, hcl, hWs, hall, hf⟩⟩
  refine st1 _ ?_
  show Steps p.tables e below (T1.setTop { method := m, pc := pc + 3, locals := ls, stack := .ref T.heap.size :: rest, locked := none }) _
  jvm_step X₁.here [X₁.here.top, hexec, d3', Value.category]
  exact hsteps
/-- 'throw new E("text")': new; dup; ldc; invokespecial; athrow -/
theorem vx_throwS {cc : ByteArray} {pc : Nat} (hexec : p.tables.exec = Jvm.exec) (hb : c.code = cc) (hl : l.stackTraces = false) {own cls text : String} {names : List String} {ik is ic mc ms sa : Nat} {A : Nat → Prop}
    (hown : s.vm.findClass own = some m.cls) (hcls : Bundle.fit cls = true) (hnames : ∀ n ∈ names, Bundle.fit n = true)
    (hk : (Cond.classLink own ik cls).before args s = true) (hini : (Cond.initialized cls).before args s = true) (hstr : vk_R own is text sa s) (hat : ∀ w ∈ vx_atS own ic cls names, w.before args s = true)
    (hgood : ∀ w ∈ Cond.classLink own ik cls :: Cond.initialized cls :: vx_atS own ic cls names, vx_ot w = true)
    (hU : vx_Zq Bundle.tN "UNASSIGNED_STACK" Bundle.steD A s s.heap) (hN : vx_Zq Bundle.tN "SUPPRESSED_SENTINEL" Bundle.listD A s s.heap) (hS : va_S A s.heap H locs) (hsize : ls.size = c.maxLocals)
    (d0 : decode cc pc = .ok (.new ik, 3)) (d3 : decode cc (pc + 3) = .ok (.dup, 1)) (d4 : decode cc (pc + 4) = .ok (.ldc is, 2)) (d6 : decode cc (pc + 6) = .ok (.invokespecial ic, 3)) (d9 : decode cc (pc + 9) = .ok (.athrow, 1))
    (hout : ∀ x ∈ c.exceptionTable.toList, covers x (pc + 9) = false)
    (hRframes : names.length + 3 < R.frames) (hRlocals : (rest.map fun v => v.category).sum + (13 * (names.length + 1) + 43) ≤ R.locals) (hRcells : cells + 1 ≤ R.cells) (hRslots : slots + 6 ≤ R.slots) (hlocks : meth.locks = false)
    (hx : ∀ t : State, s.vm.Alike t.vm → H.size ≤ t.heap.size → (∀ q : Nat, q < H.size → t.heap[q]? = H[q]?) → XC cls s t)
    (hf : ∀ z ∈ locs, free z.base) (hc : cells + 1 ≤ mc) (hs : slots + 6 ≤ ms) :
    W p l e R s m args below meth c H locs cells slots (vx_MQ below Qc XC args s mc ms free) (F0 m pc ls rest) := by
  intro T hT X
  have htr : e.platform.stackTraces = false := (show e.platform.stackTraces = l.stackTraces by rw [X.admits.platform]).trans hl
  have Y := vx_rebase X (R' := { frames := R.frames, locals := R.locals, cells := 1, slots := 6 }) (Nat.le_refl _) (Nat.le_refl _) hRcells hRslots
  obtain ⟨s', hA⟩ : ∃ z, z = (T.setVm s.vm).setFrames (.invoking m args :: below) := ⟨_, rfl⟩
  rw [← hA] at Y
  have hvm : s'.vm = s.vm := by rw [hA]; rfl
  have hhp : s'.heap = H := by rw [hA]; exact hT
  have hW0 : s.WarmedH s'.vm := by rw [hvm]; exact State.WarmedH.refl s
  have hat' : ∀ w ∈ vx_atS own ic cls names, w.before args s' = true := fun w hw => vx_ot_at hW0 hvm.symm (hgood w (List.mem_cons_of_mem _ (List.mem_cons_of_mem _ hw))) (hat w hw)
  have hk' : (Cond.classLink own ik cls).before args s' = true := vx_ot_at hW0 hvm.symm (hgood _ List.mem_cons_self) hk
  have hini' : (Cond.initialized cls).before args s' = true := vx_ot_at hW0 hvm.symm (hgood _ (List.mem_cons_of_mem _ List.mem_cons_self)) hini
  have hU' : vx_Zq Bundle.tN "UNASSIGNED_STACK" Bundle.steD A s' s'.heap := by rw [hhp]; exact vx_Zq.moved hW0.alike (hU.kept hS.2.1)
  have hN' : vx_Zq Bundle.tN "SUPPRESSED_SENTINEL" Bundle.listD A s' s'.heap := by rw [hhp]; exact vx_Zq.moved hW0.alike (hN.kept hS.2.1)
  have h : ∀ w ∈ Bundle.ownAtoms own ic cls names, w.before args s' = true := vx_own hat' (vx_isRefq hU'.1) (vx_isRefq hN'.1) hU'.2.word hN'.2.word
  have hown' : s'.vm.findClass own = some m.cls := by rw [hvm]; exact hown
  have hins : (Cond.instantiable cls 6).before args s' = true := h _ (by simp [Bundle.ownAtoms])
  obtain ⟨vm₁, cX, kX, hfX, hkX, -, -, X₁, st1⟩ := Y.newCold hexec (own := own) (C := cls) (index := ik) (n := 6) hown' hk' hins hini'
    (g := F0 m pc ls rest) rfl (by rw [hb]; exact d0) (Nat.le_refl _) (Nat.le_refl _)
  generalize hT1 : (T.setVm vm₁).pushCell { cls := cX, slots := kX.instanceTypes.map defaultValue, vm := .none } = T1 at X₁ st1
  have hcat : (Value.ref T.heap.size).category = 1 := rfl
  have hcellA : T1.heap[T.heap.size]? = some (freshCell cX kX) := by rw [← hT1]; exact State.heap_pushCell_size _ _
  have d3' : decode c.code (pc + 3) = .ok (.dup, 1) := by rw [hb]; exact d3
  have d4' : decode c.code (pc + 4) = .ok (.ldc is, 2) := by rw [hb]; exact d4
  have hstr' : vk_R own is text sa s' := vk_R.warm hW0 hstr
  obtain ⟨U, hsteps, hrun, hend, hW, hsame, ce, hce, hO⟩ := X₁.ctorThrowS hexec htr (own := own) (cls := cls) (names := names) (ic := ic) hown' hcls hnames h (fun x hx => nomatch hx) hfX hkX hcellA (by rw [hhp, hT]; exact Nat.le_refl _) (msg := .ref sa) rfl
    (g := { method := m, pc := pc + 6, locals := ls, stack := .ref sa :: .ref T.heap.size :: .ref T.heap.size :: rest, locked := none }) rfl hsize rfl rfl (rest := rest) rfl
    (by rw [hb]; exact d6) (by rw [hb]; exact d9) hout hRframes (by simp only [List.map_cons, List.sum_cons, hcat]; omega) hlocks
  obtain ⟨f1, f2⟩ := vx_frame hsame
  rw [hhp] at f1 f2
  have hWs : s.WarmedH U.vm := State.WarmedH.trans hW0 hW
  have hcl : s.vm.findClass cls = some ce.cls := by
    have h9 := hO.cls
    rw [hvm] at h9
    exact h9
  have hall : s.sameButNew ({ U with vm := s.vm } : State) locs mc ms := by
    subst hA
    obtain ⟨e1, e2⟩ := hsame
    rw [State.setFrames_setFrames] at e1
    have h2 : (T.setVm s.vm).sameButNew ({ U with vm := s.vm } : State) [] (0 + 1) (0 + 6) := ⟨e1, e2⟩
    have h3 := X.same.trans h2
    rw [List.append_nil] at h3
    exact h3.mono hc hs
  refine ⟨U, ?_, .threw T.heap.size, hrun, hend, Or.inr ⟨T.heap.size, rfl, cls, ce, locs, hx U hWs.alike f1 (fun q hq => f2 q hq (fun z hz => nomatch hz)), hce, hO.vm, hcl, hWs, hall, hf⟩⟩
  refine st1 _ ?_
  show Steps p.tables e below (T1.setTop { method := m, pc := pc + 3, locals := ls, stack := .ref T.heap.size :: rest, locked := none }) _
  jvm_step X₁.here [X₁.here.top, hexec, d3', Value.category]
  exact X₁.ldcString hexec (own := own) (text := text) (index := is) (a := sa) hown' hstr'.1 hstr'.2
    (g := { method := m, pc := pc + 4, locals := ls, stack := .ref T.heap.size :: .ref T.heap.size :: rest, locked := none }) rfl d4' _ hsteps
/-- 'throw new E("text")', the text by a wide index -/
theorem vx_throwSW {cc : ByteArray} {pc : Nat} (hexec : p.tables.exec = Jvm.exec) (hb : c.code = cc) (hl : l.stackTraces = false) {own cls text : String} {names : List String} {ik is ic mc ms sa : Nat} {A : Nat → Prop}
    (hown : s.vm.findClass own = some m.cls) (hcls : Bundle.fit cls = true) (hnames : ∀ n ∈ names, Bundle.fit n = true)
    (hk : (Cond.classLink own ik cls).before args s = true) (hini : (Cond.initialized cls).before args s = true) (hstr : vk_R own is text sa s) (hat : ∀ w ∈ vx_atS own ic cls names, w.before args s = true)
    (hgood : ∀ w ∈ Cond.classLink own ik cls :: Cond.initialized cls :: vx_atS own ic cls names, vx_ot w = true)
    (hU : vx_Zq Bundle.tN "UNASSIGNED_STACK" Bundle.steD A s s.heap) (hN : vx_Zq Bundle.tN "SUPPRESSED_SENTINEL" Bundle.listD A s s.heap) (hS : va_S A s.heap H locs) (hsize : ls.size = c.maxLocals)
    (d0 : decode cc pc = .ok (.new ik, 3)) (d3 : decode cc (pc + 3) = .ok (.dup, 1)) (d4 : decode cc (pc + 4) = .ok (.ldc_w is, 3)) (d7 : decode cc (pc + 7) = .ok (.invokespecial ic, 3)) (d10 : decode cc (pc + 10) = .ok (.athrow, 1))
    (hout : ∀ x ∈ c.exceptionTable.toList, covers x (pc + 10) = false)
    (hRframes : names.length + 3 < R.frames) (hRlocals : (rest.map fun v => v.category).sum + (13 * (names.length + 1) + 43) ≤ R.locals) (hRcells : cells + 1 ≤ R.cells) (hRslots : slots + 6 ≤ R.slots) (hlocks : meth.locks = false)
    (hx : ∀ t : State, s.vm.Alike t.vm → H.size ≤ t.heap.size → (∀ q : Nat, q < H.size → t.heap[q]? = H[q]?) → XC cls s t)
    (hf : ∀ z ∈ locs, free z.base) (hc : cells + 1 ≤ mc) (hs : slots + 6 ≤ ms) :
    W p l e R s m args below meth c H locs cells slots (vx_MQ below Qc XC args s mc ms free) (F0 m pc ls rest) := by
  intro T hT X
  have htr : e.platform.stackTraces = false := (show e.platform.stackTraces = l.stackTraces by rw [X.admits.platform]).trans hl
  have Y := vx_rebase X (R' := { frames := R.frames, locals := R.locals, cells := 1, slots := 6 }) (Nat.le_refl _) (Nat.le_refl _) hRcells hRslots
  obtain ⟨s', hA⟩ : ∃ z, z = (T.setVm s.vm).setFrames (.invoking m args :: below) := ⟨_, rfl⟩
  rw [← hA] at Y
  have hvm : s'.vm = s.vm := by rw [hA]; rfl
  have hhp : s'.heap = H := by rw [hA]; exact hT
  have hW0 : s.WarmedH s'.vm := by rw [hvm]; exact State.WarmedH.refl s
  have hat' : ∀ w ∈ vx_atS own ic cls names, w.before args s' = true := fun w hw => vx_ot_at hW0 hvm.symm (hgood w (List.mem_cons_of_mem _ (List.mem_cons_of_mem _ hw))) (hat w hw)
  have hk' : (Cond.classLink own ik cls).before args s' = true := vx_ot_at hW0 hvm.symm (hgood _ List.mem_cons_self) hk
  have hini' : (Cond.initialized cls).before args s' = true := vx_ot_at hW0 hvm.symm (hgood _ (List.mem_cons_of_mem _ List.mem_cons_self)) hini
  have hU' : vx_Zq Bundle.tN "UNASSIGNED_STACK" Bundle.steD A s' s'.heap := by rw [hhp]; exact vx_Zq.moved hW0.alike (hU.kept hS.2.1)
  have hN' : vx_Zq Bundle.tN "SUPPRESSED_SENTINEL" Bundle.listD A s' s'.heap := by rw [hhp]; exact vx_Zq.moved hW0.alike (hN.kept hS.2.1)
  have h : ∀ w ∈ Bundle.ownAtoms own ic cls names, w.before args s' = true := vx_own hat' (vx_isRefq hU'.1) (vx_isRefq hN'.1) hU'.2.word hN'.2.word
  have hown' : s'.vm.findClass own = some m.cls := by rw [hvm]; exact hown
  have hins : (Cond.instantiable cls 6).before args s' = true := h _ (by simp [Bundle.ownAtoms])
  obtain ⟨vm₁, cX, kX, hfX, hkX, -, -, X₁, st1⟩ := Y.newCold hexec (own := own) (C := cls) (index := ik) (n := 6) hown' hk' hins hini'
    (g := F0 m pc ls rest) rfl (by rw [hb]; exact d0) (Nat.le_refl _) (Nat.le_refl _)
  generalize hT1 : (T.setVm vm₁).pushCell { cls := cX, slots := kX.instanceTypes.map defaultValue, vm := .none } = T1 at X₁ st1
  have hcat : (Value.ref T.heap.size).category = 1 := rfl
  have hcellA : T1.heap[T.heap.size]? = some (freshCell cX kX) := by rw [← hT1]; exact State.heap_pushCell_size _ _
  have d3' : decode c.code (pc + 3) = .ok (.dup, 1) := by rw [hb]; exact d3
  have d4' : decode c.code (pc + 4) = .ok (.ldc_w is, 3) := by rw [hb]; exact d4
  have hstr' : vk_R own is text sa s' := vk_R.warm hW0 hstr
  obtain ⟨U, hsteps, hrun, hend, hW, hsame, ce, hce, hO⟩ := X₁.ctorThrowS hexec htr (own := own) (cls := cls) (names := names) (ic := ic) hown' hcls hnames h (fun x hx => nomatch hx) hfX hkX hcellA (by rw [hhp, hT]; exact Nat.le_refl _) (msg := .ref sa) rfl
    (g := { method := m, pc := pc + 7, locals := ls, stack := .ref sa :: .ref T.heap.size :: .ref T.heap.size :: rest, locked := none }) rfl hsize rfl rfl (rest := rest) rfl
    (by rw [hb]; exact d7) (by rw [hb]; exact d10) hout hRframes (by simp only [List.map_cons, List.sum_cons, hcat]; omega) hlocks
  obtain ⟨f1, f2⟩ := vx_frame hsame
  rw [hhp] at f1 f2
  have hWs : s.WarmedH U.vm := State.WarmedH.trans hW0 hW
  have hcl : s.vm.findClass cls = some ce.cls := by
    have h9 := hO.cls
    rw [hvm] at h9
    exact h9
  have hall : s.sameButNew ({ U with vm := s.vm } : State) locs mc ms := by
    subst hA
    obtain ⟨e1, e2⟩ := hsame
    rw [State.setFrames_setFrames] at e1
    have h2 : (T.setVm s.vm).sameButNew ({ U with vm := s.vm } : State) [] (0 + 1) (0 + 6) := ⟨e1, e2⟩
    have h3 := X.same.trans h2
    rw [List.append_nil] at h3
    exact h3.mono hc hs
  refine ⟨U, ?_, .threw T.heap.size, hrun, hend, Or.inr ⟨T.heap.size, rfl, cls, ce, locs, hx U hWs.alike f1 (fun q hq => f2 q hq (fun z hz => nomatch hz)), hce, hO.vm, hcl, hWs, hall, hf⟩⟩
  refine st1 _ ?_
  show Steps p.tables e below (T1.setTop { method := m, pc := pc + 3, locals := ls, stack := .ref T.heap.size :: rest, locked := none }) _
  jvm_step X₁.here [X₁.here.top, hexec, d3', Value.category]
  exact X₁.ldcStringW hexec (own := own) (text := text) (index := is) (a := sa) hown' hstr'.1 hstr'.2
    (g := { method := m, pc := pc + 4, locals := ls, stack := .ref T.heap.size :: .ref T.heap.size :: rest, locked := none }) rfl d4' _ hsteps
end Ends
section Bodies
variable {l : Launch}
theorem vx_ofW {y : MethodName} {ws ws' : List Cond} {rm : Room} {Pc : Array Value → State → Prop} {Qc : Array Value → State → Outcome → State → Prop} {XC : String → State → State → Prop} {mc ms : Nat} {free : Addr → Prop} {cc : ByteArray} {maxL : Nat} {ret : Option FieldType}
    (hy : plainName y.cls = true) (hw : ws = Cond.code y cc maxL ret :: ws')
    (body : ∀ p e s m args below meth c s₁, BodyLoose p l y (headSpec ws rm) cc maxL ret e s m args below meth c s₁ → c.maxLocals = maxL → (∀ x ∈ c.exceptionTable.toList, False) → Pc args s →
      W p l e (headSpec ws rm).room s m args below meth c s.heap [] 0 0 (vx_MQ below Qc XC args s mc ms free) (entryFrame m args maxL)) : vx_Met l y ws rm Pc Qc XC mc ms free := by
  refine MetFree.of_bodyS (code := cc) (maxLocals := maxL) (ret := ret) hy ?_ ?_
  · intro args s m h hn
    obtain ⟨meth, c, h1, h2, h3, h4, h5, h6, -, -⟩ := Cond.code_spec hn (atoms_spec (ws := ws) h _ (by rw [hw]; exact List.mem_cons_self))
    exact ⟨meth, c, h1, h2, h3, h4, h5, h6⟩
  · intro p e s m args below meth c s₁ B hml hP _
    have hh0 : s₁.heap = s.heap := by rw [B.state]; rfl
    have ht : ∀ x ∈ c.exceptionTable.toList, False := by
      obtain ⟨meth9, c9, h1, h2, -, -, -, -, h7, -⟩ := Cond.code_spec B.named (atoms_spec (ws := ws) B.pre _ (by rw [hw]; exact List.mem_cons_self))
      cases Option.some.inj (h1.symm.trans B.method)
      cases Option.some.inj (h2.symm.trans (Stand.of_body B).code)
      intro x hx
      rw [Array.isEmpty_iff.mp h7] at hx
      cases hx
    obtain ⟨t, a1, o, b1, b2, b3⟩ := body p e s m args below meth c s₁ B hml ht hP s₁ hh0 (Stand.of_body B)
    exact ⟨t, o, a1, b1, b2, b3⟩
/-- the table of a body with handlers -/
theorem vx_table {p : Program} {x y : MethodName} {S : Spec} {cc bytes : ByteArray} {maxL maxL' : Nat} {ret ret' : Option FieldType} {e : Env} {s s₁ : State} {m : MethodId} {args : Array Value} {below : List Frame} {meth : Method} {c : Code} {hh : List (Nat × Nat × Nat × Nat)}
    (B : BodyLoose p l y S cc maxL ret e s m args below meth c s₁) (h : (Cond.codeWith y bytes maxL' ret' hh).before args s = true) : c.exceptionTable.toList = tableOf hh := by
  obtain ⟨m9, meth9, c9, hn9, h1, h2, -, -, h6, -⟩ := Cond.codeWith_spec h
  cases Option.some.inj (hn9.symm.trans B.named)
  cases Option.some.inj (h1.symm.trans B.method)
  cases Option.some.inj (h2.symm.trans (Stand.of_body B).code)
  rw [← h6, table_eq]
end Bodies
end VXA
/-! ===== END ===== -/
/-! ===== BEGIN a static call of a method with an exception table ===== -/
section VXS
variable {p : Program} {l : Launch} {e : Env} {R : Room} {s : State} {m : MethodId} {args : Array Value} {below : List Frame} {meth : Method} {c : Code} {T : State} {H : Heap} {locs : List Loc} {cells slots : Nat}
abbrev vx_CSW (R : Room) (s : State) (args : Array Value) (own : String) (index : Nat) (y : MethodName) (bytes : ByteArray) (maxL : Nat) (ret : Option FieldType) (hh : List (Nat × Nat × Nat × Nat)) (ws : List Cond) (rm : Room) (mc ms n : Nat) : Prop :=
  (rm.cells = mc ∧ rm.slots = ms ∧ rm.frames + 1 ≤ R.frames ∧ 8 + (maxL + 11) + rm.locals ≤ R.locals ∧ (∀ w ∈ ws, ∀ (a' : Array Value) (U : State), s.WarmedH U.vm → w.before a' U = true) ∧ Cond.codeWith y bytes maxL ret hh ∈ ws) ∧
  (Cond.codeWith y bytes maxL ret hh).before args s = true ∧ (Cond.initialized y.cls).before args s = true ∧ (y.cls ≠ "java/lang/invoke/MethodHandle" ∧ y.cls ≠ "java/lang/invoke/VarHandle") ∧
  (∀ sig, parseMethodDescriptor y.desc = some sig → n = sig.parameters.length) ∧ (Cond.methodLink own index y).before args s = true ∧ (Cond.static y).before args s = true
theorem vx_cwSW {own : String} {index maxL mc ms : Nat} {y : MethodName} {bytes : ByteArray} {ret : Option FieldType} {hh : List (Nat × Nat × Nat × Nat)} {Ts ws ws' : List Cond} {rm : Room} (n : Nat) (ht : ∀ w ∈ Ts, w.before args s = true) (hT : GoodIn Ts (va_wsS own index y ws)) (hw : ws = Cond.codeWith y bytes maxL ret hh :: ws') (hrc : rm.cells = mc) (hrs : rm.slots = ms)
    (hd : y.cls ≠ "java/lang/invoke/MethodHandle" ∧ y.cls ≠ "java/lang/invoke/VarHandle" ∧ (parseMethodDescriptor y.desc).map (fun d => d.parameters.length) = some n) (hR : rm.frames + 1 ≤ R.frames ∧ 8 + (maxL + 11) + rm.locals ≤ R.locals) :
    vx_CSW R s args own index y bytes maxL ret hh ws rm mc ms n := by
  have ok : ∀ w ∈ va_wsS own index y ws, w.before args s = true := fun w h => ht w (hT w h).1
  have hG : GoodIn Ts ws := fun w h => hT w (by unfold va_wsS; exact List.mem_append_right _ h)
  have hc : Cond.codeWith y bytes maxL ret hh ∈ ws := by rw [hw]; exact List.mem_cons_self
  refine ⟨⟨hrc, hrs, hR.1, hR.2, pay_in ht hG, hc⟩, ht _ (hG _ hc).1, ok _ (by simp [va_wsS]), ⟨hd.1, hd.2.1⟩, fun sig h => ?_, ok _ (by simp [va_wsS]), ok _ (by simp [va_wsS])⟩
  have h2 := hd.2.2
  rw [h] at h2
  exact (Option.some.inj h2).symm
theorem vx_callSW (X : Stand p l e R s m args below meth c T locs cells slots) (hexec : p.tables.exec = Jvm.exec) {own : String} {index : Nat} {y : MethodName} {bytes : ByteArray} {maxL : Nat} {ret : Option FieldType} {hh : List (Nat × Nat × Nat × Nat)}
    (hown : s.vm.findClass own = some m.cls) (hlink : (Cond.methodLink own index y).before args s = true) (hstat : (Cond.static y).before args s = true) (hinit : (Cond.initialized y.cls).before args s = true)
    (hcode : (Cond.codeWith y bytes maxL ret hh).before args s = true) (hy : y.cls ≠ "java/lang/invoke/MethodHandle" ∧ y.cls ≠ "java/lang/invoke/VarHandle")
    {W9 : Nat} {Pre : Pt → Array Value → Prop} {Post : Pt → Array Value → Option Value → Pt → Prop} (hK : Back l R p e below s args y 3 W9 Pre Post)
    {g : JFrame} (hg : g.method = m) (hsize : g.locals.size = c.maxLocals) {argsL rest : List Value} (hlen : ∀ sig, parseMethodDescriptor y.desc = some sig → argsL.length = sig.parameters.length)
    (hstack : g.stack = argsL.reverse ++ rest) (hW : 2 * g.monitorRoom + (rest.map fun v => v.category).sum ≤ W9) (hdg : decode c.code g.pc = .ok (.invokestatic index, 3))
    (hpre : ∀ vm₁, s.WarmedH vm₁ → Pre ⟨T.setVm vm₁, locs, cells, slots⟩ argsL.toArray) :
    ∃ (v : Option Value) (vm₁ : Vm) (B : Pt), s.WarmedH vm₁ ∧ Stand p l e R s m args below meth c B.U B.locs B.cells B.slots ∧ Post ⟨T.setVm vm₁, locs, cells, slots⟩ argsL.toArray v B ∧
      ∀ target, Steps p.tables e below (B.U.setTop { g with pc := g.pc + 3, stack := v.toList ++ rest }) target → Steps p.tables e below (T.setTop g) target := by
  obtain ⟨mk, methM, cM, hnamed, hmethM, -, -, -, -, -, -, hsigM⟩ := Cond.codeWith_spec hcode
  have hstatic : methM.isStatic = true := Cond.static_spec hnamed hmethM hstat
  obtain ⟨kP, hkP, -⟩ := className_of_methodNamed hnamed
  have hinitP : kP.init = .initialized := Cond.initialized_spec (findClass_of_methodNamed hnamed) hkP hinit
  obtain ⟨vm₁, X₁, hstep₁⟩ := X.invokestatic hexec hown hlink hnamed hmethM hstatic hkP hinitP hy (g := g) hg (argsL := argsL) (rest := rest) (hlen _ hsigM) hstack hdg
  obtain ⟨v, B, X', hpost, hsteps⟩ := hK m meth c ⟨T.setVm vm₁, locs, cells, slots⟩ { g with stack := rest } (.invokestatic index) mk argsL.toArray X₁ hg hsize hdg hW (X₁.named hnamed) (hpre vm₁ X₁.warmed)
  exact ⟨v, vm₁, B, X₁.warmed, X', hpost, fun target h => hstep₁ _ fun acts => by rw [doInvoke_state]; exact hsteps.trans h⟩
theorem vx_runSW {y : MethodName} {bytes cc : ByteArray} {maxL nL mc ms n index : Nat} {ret : Option FieldType} {hh : List (Nat × Nat × Nat × Nat)} {ws : List Cond} {rm : Room} {Pc : Array Value → State → Prop} {Qc : Array Value → State → Outcome → State → Prop} {free : Addr → Prop} {Ts : List Cond} {own : String} {As rest : List Value} {g : JFrame}
    (S : CallFix p m c cc nL s args Ts own) (hM : Met l y ws rm Pc Qc mc ms free) (cw : vx_CSW R s args own index y bytes maxL ret hh ws rm mc ms n) (hp : PreS s H Pc As)
    (hg : g.method = m) (hn : As.length = n) (hsize : g.locals.size = nL) (hstack : g.stack = As.reverse ++ rest) (hW : 2 * g.monitorRoom + (rest.map fun v => v.category).sum ≤ 8) (hdg : decode cc g.pc = .ok (.invokestatic index, 3)) (hf : cells + mc ≤ R.cells ∧ slots + ms ≤ R.slots) :
    va_Run p l e R s m args below meth c H locs cells slots mc ms g rest (Qc As.toArray) (free) := by
  obtain ⟨⟨hrc, hrs, hfr, hlo, hws, hcw⟩, hcode, hini, hy, hlen, hl, hstt⟩ := cw
  have hK : Back l R p e below s args y 3 8 (PreOf R mc ms Pc) (PostOf Qc mc ms free) := va_backW (hh := hh) (bytes := bytes) (maxL := maxL) (ret := ret) hM hp.1 hrc hrs hfr hlo hws hcw (fun a' U hW => word_at hW (Or.inl (by first | rfl | simp [Cond.onTables, Cond.keeps, Cond.steady])) hini)
  obtain ⟨hx, hb, hml, ho, -⟩ := S
  intro T hT X
  obtain ⟨v, vm₁, ⟨U', l2, c2, s2⟩, hW₁, X', ⟨g', mk, t, L, e1, e2, hq, h1, hL, h2, h3⟩, st⟩ := vx_callSW X hx (hh := hh) (bytes := bytes) (maxL := maxL) (ret := ret) ho hl hstt hini hcode hy hK hg (hsize.trans hml.symm) (argsL := As) (rest := rest) (fun sig h => hn.trans (hlen sig h)) hstack hW (by rw [hb]; exact hdg)
    (fun vm₁ hW₁ => ⟨hf.1, hf.2, hp.2 (T.setVm vm₁) hT hW₁⟩)
  dsimp only [Pt.U, Pt.locs, Pt.cells, Pt.slots] at X' e1 e2 h1 h2 h3 st
  subst h1; subst h2; subst h3
  exact ⟨v, (T.setVm vm₁).calling g' mk As.toArray, t, U', L, hT, X', hL, e1, e2, hq, st⟩
/-- not caught here, past rows that name other classes: it goes on to the caller -/
theorem vx_outP {p : Program} {l : Launch} {e : Env} {R : Room} {s : State} {m : MethodId} {args : Array Value} {below : List Frame} {meth : Method} {c : Code} {H : Heap} {locs : List Loc} {cells slots : Nat} {free : Addr → Prop} {ls : Array Slot} {rest : List Value} {Qc : Array Value → State → Outcome → State → Prop} {XC : String → State → State → Prop}
    {pc : Nat} {own E : String} {ce : Cell} {q : Addr} {mc ms : Nat} (hown : s.vm.findClass own = some m.cls) (hlocks : meth.locks = false)
    (hpass : ∀ z ∈ c.exceptionTable.toList, covers z pc = false ∨ (z.catchType ≠ 0 ∧ ∃ nm : String, (Cond.classLink own z.catchType nm).before args s = true ∧ va_Nc E nm s)) (hcell : H[q]? = some ce) (hv : ce.vm = .none) (hcl : s.vm.findClass E = some ce.cls)
    (hx : ∀ t : State, t.heap = H → s.vm.Alike t.vm → XC E s t) (hf : ∀ z ∈ locs, free z.base) (hc : cells ≤ mc) (hs : slots ≤ ms) :
    vx_W p l e R s m args below meth c H locs cells slots (vx_MQ below Qc XC args s mc ms free) (F0 m pc ls rest) q := by
  intro T hT X
  have hpl : e.platform.magicAccessors = ({} : Platform).magicAccessors := by rw [X.admits.platform]
  obtain ⟨vm', hW', X', st⟩ := X.outThrough hlocks q (g := F0 m pc ls rest) rfl rfl rfl (cell := ce) (by rw [hT]; exact hcell) (by rw [hv]; rfl)
    (by obtain ⟨k9, h9, -⟩ := Vm.findClass_spec hcl; exact ⟨k9, h9⟩) (fun z hz => by
      rcases hpass z hz with h | ⟨hz0, nm, hl1, hn1⟩
      · exact Or.inl h
      · obtain ⟨c6, hc6, hcl6⟩ := Cond.classLink_spec hown hl1 e.platform hpl
        obtain ⟨a8, b8, h1, h2, h3⟩ := hn1
        cases Option.some.inj (h1.symm.trans hcl)
        cases Option.some.inj (h2.symm.trans hc6)
        exact Or.inr ⟨hz0, _, hcl6, h3⟩)
  obtain ⟨g₀, hfr⟩ := X'.frames_eq
  have hcell9 : ((T.setVm vm').setFrames (.throwing q :: below)).heap[q]? = some ce := by
    show T.heap[q]? = some ce
    rw [hT]; exact hcell
  have hend : Ended ((T.setVm vm').setFrames (.throwing q :: below)) below (.threw q) := State.frames_setFrames _ (State.cur_lt_of_frames hfr)
  refine ⟨(T.setVm vm').setFrames (.throwing q :: below), ?_, .threw q, X'.here.running, hend, Or.inr ⟨q, rfl, E, ce, locs, hx _ hT (X'.ends _).1.alike, hcell9, hv, hcl, (X'.ends _).1, (X'.ends _).2.mono hc hs, hf⟩⟩
  rw [X.pushThrowing_eq]
  exact st
/-- a thing of a world lies in the heap -/
theorem vx_lt {D : va_G} {cl : List vw_C} {ws : va_W} {H1 : Heap} (h : va_P D cl ws H1) {k : Nat} {q : Nat × va_E} (hk : ws[k]? = some q) : q.1 < H1.size := (h k q hk).lt
end VXS
/-! ===== END ===== -/
/-! ===== BEGIN methods with a table of their own: called by a name, returning or throwing ===== -/
section VXH
/-! vx_backW, vx_callVX, vx_callSX, vx_callVW, vx_runVW, vx_runVX, vx_runSX, vx_ofWH follow the same proofs as their sisters above (Free/Laws.lean, Shelf42/LK1.lean); vx_outP calls Shelf42/NT130.lean (outThrough). -/
section
variable {l : Launch} {R : Room} {p : Program} {e : Env} {below : List Frame} {s : State} {sargs : Array Value} {y : MethodName} {len W9 : Nat}
theorem vx_backW {ws : List Cond} {rm : Room} {Pc : Array Value → State → Prop} {Qc : Array Value → State → Outcome → State → Prop} {XC : String → State → State → Prop} {mc ms : Nat} {free : Addr → Prop} {bytes : ByteArray} {maxL : Nat} {ret : Option FieldType} {hh : List (Nat × Nat × Nat × Nat)}
    (hM : vx_Met l y ws rm Pc Qc XC mc ms free) (hblind : FrameBlind Pc) (hrc : rm.cells = mc) (hrs : rm.slots = ms)
    (hframes : rm.frames + 1 ≤ R.frames) (hlocals : W9 + (maxL + 11) + rm.locals ≤ R.locals)
    (hws : ∀ w ∈ ws, ∀ a' U, s.WarmedH U.vm → w.before a' U = true) (hcode : Cond.codeWith y bytes maxL ret hh ∈ ws) (hinit : ∀ a' U, s.WarmedH U.vm → (Cond.initialized y.cls).before a' U = true) :
    vx_Back l R p e below s sargs y len W9 (PreOf R mc ms Pc) (PostOf Qc mc ms free) (vx_Post XC mc ms free) := by
  intro m meth c A g ig mk a X hg hsize hdg hW hn hp
  have h1 : (headSpec ws rm).pre.before a A.U = true := atoms_intro fun w hw => hws w hw _ _ X.warmed
  have h2 : (Cond.codeWith y bytes maxL ret hh).before a A.U = true := hws _ hcode _ _ X.warmed
  have h3 : (Cond.initialized y.cls).before a A.U = true := hinit _ _ X.warmed
  have h4 : A.cells + (headSpec ws rm).room.cells ≤ R.cells := by rw [show (headSpec ws rm).room.cells = mc from hrc]; exact hp.1
  have h5 : A.slots + (headSpec ws rm).room.slots ≤ R.slots := by rw [show (headSpec ws rm).room.slots = ms from hrs]; exact hp.2.1
  have hPc : Pc a (A.U.calling g mk a) := hblind _ _ _ _ hp.2.2
  obtain ⟨U, Ls, c0, s0⟩ := A
  dsimp only [Pt.U, Pt.locs, Pt.cells, Pt.slots] at h1 h2 h3 h4 h5 X hn hPc ⊢
  obtain ⟨m9, methY, cY, hn9, hmY, hcY, -, hlY, -⟩ := Cond.codeWith_spec h2
  cases Option.some.inj (hn9.symm.trans hn)
  obtain ⟨kY, hkY, -⟩ := className_of_methodNamed hn
  have hinitY : kY.init = .initialized := Cond.initialized_spec (findClass_of_methodNamed hn) hkY h3
  have h : At U g.method c below := by rw [hg]; exact X.here
  have hlocals9 : W9 + (maxL + 11) + (headSpec ws rm).room.locals ≤ R.locals := hlocals
  have happ : (headSpec ws rm).appliesLoose y e.platform (U.calling g mk a) = true :=
    Spec.appliesLoose_calling (g := g) h hdg hn hkY hinitY
      (X.room_calling (g := g) (R' := (headSpec ws rm).room) hsize hmY hcY hframes (by rw [hlY]; omega) h4 h5) h1
  obtain ⟨mid, hmid⟩ := h.above
  have hfr : (U.setTop g).frames = (.java g :: mid) ++ below := by rw [State.frames_setTop' g h.top, hmid]; rfl
  obtain ⟨o, s₂, hsteps, -, hend, hq⟩ := Steps.callFree hM p X.admits X.cas X.clock (acts := []) hfr happ hPc trivial
  have hq' : vx_Q Qc XC mc ms free a (U.calling g mk a) o s₂ := hq
  rw [State.frames_setTop' g h.top] at hend
  obtain ⟨g₀, hg0⟩ := Option.isSome_iff_exists.mp h.top
  obtain ⟨r, hr⟩ := State.topJava?_eq_some.mp hg0
  have hr' : (({ U with heap := s₂.heap, slotsUsed := s₂.slotsUsed } : State).setVm s₂.vm).frames = .java g₀ :: r := hr
  rcases hq' with ⟨hqc, L, hfe, hL⟩ | ⟨q, rfl, E, ce, L, hx, hce, hcv, hcl, hW₂, hsm, hL⟩
  · obtain ⟨⟨v, rfl⟩, hW₂, e2, q2, q3, q4, q5, q6⟩ := id hfe
    have e3 : s₂ = ({ (U.calling g mk a).setFrames s₂.frames with heap := s₂.heap, slotsUsed := s₂.slotsUsed } : State).setVm s₂.vm := by
      have : s₂ = ({ s₂ with vm := (U.calling g mk a).vm } : State).setVm s₂.vm := rfl
      rw [e2] at this
      exact this
    obtain ⟨c₂, i₂, len₂, hc₂, hd₂, hf₂⟩ := hend
    have hW' : U.WarmedH s₂.vm := hW₂
    have hcc : c₂ = c := by
      have h1 : s₂.code? g.method = U.code? g.method := by
        rw [State.code?_eq, State.code?_eq, hW'.alike.method?]
      exact Option.some.inj (hc₂.symm.trans (h1.trans h.code))
    subst hcc
    have hlen : len₂ = len := by rw [hdg] at hd₂; cases hd₂; rfl
    subst hlen
    have hs₂ : s₂ = (({ U with heap := s₂.heap, slotsUsed := s₂.slotsUsed } : State).setVm s₂.vm).setTop { g with pc := g.pc + len₂, stack := v.toList ++ g.stack } := by
      refine e3.trans ?_
      rw [hf₂, State.calling_eq h.top, State.setFrames_setFrames, State.setTop_of_frames _ hr', hr]
      rfl
    have hsame : U.sameButNew ({ U with heap := s₂.heap, slotsUsed := s₂.slotsUsed } : State) L mc ms := by
      refine ⟨?_, q2, q3, q4, q5, q6⟩
      obtain ⟨t, ht, -⟩ := State.frames_cons hr
      show ({ U with heap := s₂.heap, slotsUsed := s₂.slotsUsed } : State) = { U.setFrames U.frames with heap := s₂.heap, slotsUsed := s₂.slotsUsed }
      rw [State.setFrames_self ht]
    subst hg
    refine Or.inl ⟨v, ⟨(({ U with heap := s₂.heap, slotsUsed := s₂.slotsUsed } : State).setVm s₂.vm), Ls ++ L, c0 + mc, s0 + ms⟩,
      ⟨X.admits, X.cas, X.clock, X.frames, X.room, X.hears, X.method, X.code, (X.here.setHeapUsed s₂.heap s₂.slotsUsed).setVm hW'.alike, X.tail, State.WarmedH.trans X.warmed hW', X.limits, X.bytes, X.same.trans (hsame.setVm s.vm)⟩,
      ⟨g, mk, s₂, L, rfl, rfl, hqc, rfl, hL, rfl, rfl⟩, ?_⟩
    show Steps p.tables e below _ ((({ U with heap := s₂.heap, slotsUsed := s₂.slotsUsed } : State).setVm s₂.vm).setTop { g with pc := g.pc + len₂, stack := v.toList ++ g.stack })
    rw [← hs₂]
    exact hsteps
  · obtain ⟨e2, q2, q3, q4, q5, q6⟩ := id hsm
    have e3 : s₂ = ({ (U.calling g mk a).setFrames s₂.frames with heap := s₂.heap, slotsUsed := s₂.slotsUsed } : State).setVm s₂.vm := by
      have : s₂ = ({ s₂ with vm := (U.calling g mk a).vm } : State).setVm s₂.vm := rfl
      rw [e2] at this
      exact this
    have hf₂ : s₂.frames = .throwing q :: .java g :: U.frames.tail := hend
    have hW' : U.WarmedH s₂.vm := hW₂
    have hs₂ : s₂ = ((({ U with heap := s₂.heap, slotsUsed := s₂.slotsUsed } : State).setVm s₂.vm).setTop g).pushFrame (.throwing q) := by
      refine e3.trans ?_
      rw [hf₂, State.calling_eq h.top, State.setFrames_setFrames, State.pushFrame, State.frames_setTop _ hr', State.setTop_of_frames _ hr', State.setFrames_setFrames, hr]
      rfl
    have hsame : U.sameButNew ({ U with heap := s₂.heap, slotsUsed := s₂.slotsUsed } : State) L mc ms := by
      refine ⟨?_, q2, q3, q4, q5, q6⟩
      obtain ⟨t, ht, -⟩ := State.frames_cons hr
      show ({ U with heap := s₂.heap, slotsUsed := s₂.slotsUsed } : State) = { U.setFrames U.frames with heap := s₂.heap, slotsUsed := s₂.slotsUsed }
      rw [State.setFrames_self ht]
    subst hg
    refine Or.inr ⟨q, ⟨(({ U with heap := s₂.heap, slotsUsed := s₂.slotsUsed } : State).setVm s₂.vm), Ls ++ L, c0 + mc, s0 + ms⟩,
      ⟨X.admits, X.cas, X.clock, X.frames, X.room, X.hears, X.method, X.code, (X.here.setHeapUsed s₂.heap s₂.slotsUsed).setVm hW'.alike, X.tail, State.WarmedH.trans X.warmed hW', X.limits, X.bytes, X.same.trans (hsame.setVm s.vm)⟩,
      ⟨g, mk, s₂, L, E, ce, rfl, rfl, hx, hce, hcv, hcl, rfl, hL, rfl, rfl⟩, ?_⟩
    show Steps p.tables e below _ (((({ U with heap := s₂.heap, slotsUsed := s₂.slotsUsed } : State).setVm s₂.vm).setTop g).pushFrame (.throwing q))
    rw [← hs₂]
    exact hsteps
end
variable {p : Program} {l : Launch} {e : Env} {R : Room} {s : State} {m : MethodId} {args : Array Value} {below : List Frame} {meth : Method} {c : Code} {T : State} {H : Heap} {locs : List Loc} {cells slots : Nat}
theorem vx_callVX (X : Stand p l e R s m args below meth c T locs cells slots) (hexec : p.tables.exec = Jvm.exec) {own C : String} {index : Nat} {y : MethodName} {bytes : ByteArray} {maxL : Nat} {ret : Option FieldType} {hh : List (Nat × Nat × Nat × Nat)}
    (hown : s.vm.findClass own = some m.cls) (hlink : (Cond.methodLink own index y).before args s = true) (hinst : (Cond.instanceMethod y).before args s = true) (hsel : (Cond.selects C y y).before args s = true)
    (hcode : (Cond.codeWith y bytes maxL ret hh).before args s = true) (hy : y.cls ≠ "java/lang/invoke/MethodHandle" ∧ y.cls ≠ "java/lang/invoke/VarHandle")
    {W9 : Nat} {Pre : Pt → Array Value → Prop} {Post : Pt → Array Value → Option Value → Pt → Prop} {PostX : Pt → Array Value → Addr → Pt → Prop} (hK : vx_Back l R p e below s args y 3 W9 Pre Post PostX)
    {b : Addr} {cellB : Cell} (hcell : T.heap[b]? = some cellB) (hobj : cellB.vm.isStatics = false) (hcls : s.vm.findClass C = some cellB.cls)
    {g : JFrame} (hg : g.method = m) (hsize : g.locals.size = c.maxLocals) {argsL rest : List Value} (hlen : ∀ sig, parseMethodDescriptor y.desc = some sig → argsL.length = sig.parameters.length)
    (hstack : g.stack = argsL.reverse ++ .ref b :: rest) (hW : 2 * g.monitorRoom + (rest.map fun v => v.category).sum ≤ W9) (hdg : decode c.code g.pc = .ok (.invokevirtual index, 3))
    (hpre : ∀ vm₁, s.WarmedH vm₁ → Pre ⟨T.setVm vm₁, locs, cells, slots⟩ (Value.ref b :: argsL).toArray) :
    (∃ (v : Option Value) (vm₁ : Vm) (B : Pt), s.WarmedH vm₁ ∧ Stand p l e R s m args below meth c B.U B.locs B.cells B.slots ∧ Post ⟨T.setVm vm₁, locs, cells, slots⟩ (Value.ref b :: argsL).toArray v B ∧
      ∀ target, Steps p.tables e below (B.U.setTop { g with pc := g.pc + 3, stack := v.toList ++ rest }) target → Steps p.tables e below (T.setTop g) target) ∨
    (∃ (q : Addr) (vm₁ : Vm) (B : Pt), s.WarmedH vm₁ ∧ Stand p l e R s m args below meth c B.U B.locs B.cells B.slots ∧ PostX ⟨T.setVm vm₁, locs, cells, slots⟩ (Value.ref b :: argsL).toArray q B ∧
      Steps p.tables e below (T.setTop g) ((B.U.setTop { g with stack := rest }).pushFrame (.throwing q))) := by
  obtain ⟨mk, methM, hnamed, hmethM, hstM, habM⟩ := Cond.instanceMethod_spec hinst
  obtain ⟨m8, methM', cM, hn8, hmethM', -, -, -, -, -, -, hsigM⟩ := Cond.codeWith_spec hcode
  cases Option.some.inj (hn8.symm.trans hnamed)
  cases hmethM.symm.trans hmethM'
  obtain ⟨c2, r2, m2, q1, q2, q3, q4, kP, hkP, hkPi⟩ := Cond.selects_spec hsel
  cases hcls.symm.trans q1
  cases (State.methodFound?_of_named hnamed hy).symm.trans q2
  cases hnamed.symm.trans q3
  have hselP : selectMethod e.platform s.vm cellB.cls mk = .method mk := by rw [Launch.admits_selectMethod X.admits]; exact q4
  obtain ⟨vm₁, X₁, hstep₁⟩ := X.invokevirtual hexec hown hlink hnamed hmethM hstM hkP hkPi hy (a := b) (cell := cellB) hcell
    (fun z h => by rw [h] at hobj; cases hobj) hselP hmethM habM hkP hkPi (g := g) hg (argsL := argsL) (rest := rest) (hlen _ hsigM) hstack hdg
  rcases hK m meth c ⟨T.setVm vm₁, locs, cells, slots⟩ { g with stack := rest } (.invokevirtual index) mk (Value.ref b :: argsL).toArray X₁ hg hsize hdg hW (X₁.named hnamed) (hpre vm₁ X₁.warmed) with ⟨v, B, X', hpost, hsteps⟩ | ⟨q, B, X', hpost, hsteps⟩
  · exact Or.inl ⟨v, vm₁, B, X₁.warmed, X', hpost, fun target h => hstep₁ _ fun acts => by rw [doInvoke_state]; exact hsteps.trans h⟩
  · exact Or.inr ⟨q, vm₁, B, X₁.warmed, X', hpost, hstep₁ _ fun acts => by rw [doInvoke_state]; exact hsteps⟩
theorem vx_callSX (X : Stand p l e R s m args below meth c T locs cells slots) (hexec : p.tables.exec = Jvm.exec) {own : String} {index : Nat} {y : MethodName} {bytes : ByteArray} {maxL : Nat} {ret : Option FieldType} {hh : List (Nat × Nat × Nat × Nat)}
    (hown : s.vm.findClass own = some m.cls) (hlink : (Cond.methodLink own index y).before args s = true) (hstat : (Cond.static y).before args s = true) (hinit : (Cond.initialized y.cls).before args s = true)
    (hcode : (Cond.codeWith y bytes maxL ret hh).before args s = true) (hy : y.cls ≠ "java/lang/invoke/MethodHandle" ∧ y.cls ≠ "java/lang/invoke/VarHandle")
    {W9 : Nat} {Pre : Pt → Array Value → Prop} {Post : Pt → Array Value → Option Value → Pt → Prop} {PostX : Pt → Array Value → Addr → Pt → Prop} (hK : vx_Back l R p e below s args y 3 W9 Pre Post PostX)
    {g : JFrame} (hg : g.method = m) (hsize : g.locals.size = c.maxLocals) {argsL rest : List Value} (hlen : ∀ sig, parseMethodDescriptor y.desc = some sig → argsL.length = sig.parameters.length)
    (hstack : g.stack = argsL.reverse ++ rest) (hW : 2 * g.monitorRoom + (rest.map fun v => v.category).sum ≤ W9) (hdg : decode c.code g.pc = .ok (.invokestatic index, 3))
    (hpre : ∀ vm₁, s.WarmedH vm₁ → Pre ⟨T.setVm vm₁, locs, cells, slots⟩ argsL.toArray) :
    (∃ (v : Option Value) (vm₁ : Vm) (B : Pt), s.WarmedH vm₁ ∧ Stand p l e R s m args below meth c B.U B.locs B.cells B.slots ∧ Post ⟨T.setVm vm₁, locs, cells, slots⟩ argsL.toArray v B ∧
      ∀ target, Steps p.tables e below (B.U.setTop { g with pc := g.pc + 3, stack := v.toList ++ rest }) target → Steps p.tables e below (T.setTop g) target) ∨
    (∃ (q : Addr) (vm₁ : Vm) (B : Pt), s.WarmedH vm₁ ∧ Stand p l e R s m args below meth c B.U B.locs B.cells B.slots ∧ PostX ⟨T.setVm vm₁, locs, cells, slots⟩ argsL.toArray q B ∧
      Steps p.tables e below (T.setTop g) ((B.U.setTop { g with stack := rest }).pushFrame (.throwing q))) := by
  obtain ⟨mk, methM, cM, hnamed, hmethM, -, -, -, -, -, -, hsigM⟩ := Cond.codeWith_spec hcode
  have hstatic : methM.isStatic = true := Cond.static_spec hnamed hmethM hstat
  obtain ⟨kP, hkP, -⟩ := className_of_methodNamed hnamed
  have hinitP : kP.init = .initialized := Cond.initialized_spec (findClass_of_methodNamed hnamed) hkP hinit
  obtain ⟨vm₁, X₁, hstep₁⟩ := X.invokestatic hexec hown hlink hnamed hmethM hstatic hkP hinitP hy (g := g) hg (argsL := argsL) (rest := rest) (hlen _ hsigM) hstack hdg
  rcases hK m meth c ⟨T.setVm vm₁, locs, cells, slots⟩ { g with stack := rest } (.invokestatic index) mk argsL.toArray X₁ hg hsize hdg hW (X₁.named hnamed) (hpre vm₁ X₁.warmed) with ⟨v, B, X', hpost, hsteps⟩ | ⟨q, B, X', hpost, hsteps⟩
  · exact Or.inl ⟨v, vm₁, B, X₁.warmed, X', hpost, fun target h => hstep₁ _ fun acts => by rw [doInvoke_state]; exact hsteps.trans h⟩
  · exact Or.inr ⟨q, vm₁, B, X₁.warmed, X', hpost, hstep₁ _ fun acts => by rw [doInvoke_state]; exact hsteps⟩
theorem vx_callVW (X : Stand p l e R s m args below meth c T locs cells slots) (hexec : p.tables.exec = Jvm.exec) {own C : String} {index : Nat} {y : MethodName} {bytes : ByteArray} {maxL : Nat} {ret : Option FieldType} {hh : List (Nat × Nat × Nat × Nat)}
    (hown : s.vm.findClass own = some m.cls) (hlink : (Cond.methodLink own index y).before args s = true) (hinst : (Cond.instanceMethod y).before args s = true) (hsel : (Cond.selects C y y).before args s = true)
    (hcode : (Cond.codeWith y bytes maxL ret hh).before args s = true) (hy : y.cls ≠ "java/lang/invoke/MethodHandle" ∧ y.cls ≠ "java/lang/invoke/VarHandle")
    {W9 : Nat} {Pre : Pt → Array Value → Prop} {Post : Pt → Array Value → Option Value → Pt → Prop} (hK : Back l R p e below s args y 3 W9 Pre Post)
    {b : Addr} {cellB : Cell} (hcell : T.heap[b]? = some cellB) (hobj : cellB.vm.isStatics = false) (hcls : s.vm.findClass C = some cellB.cls)
    {g : JFrame} (hg : g.method = m) (hsize : g.locals.size = c.maxLocals) {argsL rest : List Value} (hlen : ∀ sig, parseMethodDescriptor y.desc = some sig → argsL.length = sig.parameters.length)
    (hstack : g.stack = argsL.reverse ++ .ref b :: rest) (hW : 2 * g.monitorRoom + (rest.map fun v => v.category).sum ≤ W9) (hdg : decode c.code g.pc = .ok (.invokevirtual index, 3))
    (hpre : ∀ vm₁, s.WarmedH vm₁ → Pre ⟨T.setVm vm₁, locs, cells, slots⟩ (Value.ref b :: argsL).toArray) :
    ∃ (v : Option Value) (vm₁ : Vm) (B : Pt), s.WarmedH vm₁ ∧ Stand p l e R s m args below meth c B.U B.locs B.cells B.slots ∧ Post ⟨T.setVm vm₁, locs, cells, slots⟩ (Value.ref b :: argsL).toArray v B ∧
      ∀ target, Steps p.tables e below (B.U.setTop { g with pc := g.pc + 3, stack := v.toList ++ rest }) target → Steps p.tables e below (T.setTop g) target := by
  obtain ⟨mk, methM, hnamed, hmethM, hstM, habM⟩ := Cond.instanceMethod_spec hinst
  obtain ⟨m8, methM', cM, hn8, hmethM', -, -, -, -, -, -, hsigM⟩ := Cond.codeWith_spec hcode
  cases Option.some.inj (hn8.symm.trans hnamed)
  cases hmethM.symm.trans hmethM'
  obtain ⟨c2, r2, m2, q1, q2, q3, q4, kP, hkP, hkPi⟩ := Cond.selects_spec hsel
  cases hcls.symm.trans q1
  cases (State.methodFound?_of_named hnamed hy).symm.trans q2
  cases hnamed.symm.trans q3
  have hselP : selectMethod e.platform s.vm cellB.cls mk = .method mk := by rw [Launch.admits_selectMethod X.admits]; exact q4
  obtain ⟨vm₁, X₁, hstep₁⟩ := X.invokevirtual hexec hown hlink hnamed hmethM hstM hkP hkPi hy (a := b) (cell := cellB) hcell
    (fun z h => by rw [h] at hobj; cases hobj) hselP hmethM habM hkP hkPi (g := g) hg (argsL := argsL) (rest := rest) (hlen _ hsigM) hstack hdg
  obtain ⟨v, B, X', hpost, hsteps⟩ := hK m meth c ⟨T.setVm vm₁, locs, cells, slots⟩ { g with stack := rest } (.invokevirtual index) mk (Value.ref b :: argsL).toArray X₁ hg hsize hdg hW (X₁.named hnamed) (hpre vm₁ X₁.warmed)
  exact ⟨v, vm₁, B, X₁.warmed, X', hpost, fun target h => hstep₁ _ fun acts => by rw [doInvoke_state]; exact hsteps.trans h⟩
abbrev vx_CVW (R : Room) (s : State) (args : Array Value) (own C : String) (index : Nat) (y : MethodName) (bytes : ByteArray) (maxL : Nat) (ret : Option FieldType) (hh : List (Nat × Nat × Nat × Nat)) (ws : List Cond) (rm : Room) (mc ms n : Nat) : Prop :=
  (rm.cells = mc ∧ rm.slots = ms ∧ rm.frames + 1 ≤ R.frames ∧ 8 + (maxL + 11) + rm.locals ≤ R.locals ∧ (∀ w ∈ ws, ∀ (a' : Array Value) (U : State), s.WarmedH U.vm → w.before a' U = true) ∧ Cond.codeWith y bytes maxL ret hh ∈ ws) ∧
  (Cond.codeWith y bytes maxL ret hh).before args s = true ∧ (Cond.initialized y.cls).before args s = true ∧ (y.cls ≠ "java/lang/invoke/MethodHandle" ∧ y.cls ≠ "java/lang/invoke/VarHandle") ∧
  (∀ sig, parseMethodDescriptor y.desc = some sig → n = sig.parameters.length) ∧ (Cond.methodLink own index y).before args s = true ∧ (Cond.instanceMethod y).before args s = true ∧ (Cond.selects C y y).before args s = true
theorem vx_cwVW {own C : String} {index maxL mc ms : Nat} {y : MethodName} {bytes : ByteArray} {ret : Option FieldType} {hh : List (Nat × Nat × Nat × Nat)} {Ts ws ws' : List Cond} {rm : Room} (n : Nat) (ht : ∀ w ∈ Ts, w.before args s = true) (hT : GoodIn Ts (wsV own index C y ws)) (hw : ws = Cond.codeWith y bytes maxL ret hh :: ws') (hrc : rm.cells = mc) (hrs : rm.slots = ms)
    (hd : y.cls = C ∧ y.cls ≠ "java/lang/invoke/MethodHandle" ∧ y.cls ≠ "java/lang/invoke/VarHandle" ∧ (parseMethodDescriptor y.desc).map (fun d => d.parameters.length) = some n) (hR : rm.frames + 1 ≤ R.frames ∧ 8 + (maxL + 11) + rm.locals ≤ R.locals) :
    vx_CVW R s args own C index y bytes maxL ret hh ws rm mc ms n := by
  obtain ⟨hC, hd⟩ := hd
  subst hC
  have ok : ∀ w ∈ wsV own index y.cls y ws, w.before args s = true := fun w h => ht w (hT w h).1
  have hG : GoodIn Ts ws := fun w h => hT w (by unfold wsV; exact List.mem_append_right _ h)
  have hc : Cond.codeWith y bytes maxL ret hh ∈ ws := by rw [hw]; exact List.mem_cons_self
  refine ⟨⟨hrc, hrs, hR.1, hR.2, pay_in ht hG, hc⟩, ht _ (hG _ hc).1, ok _ (by simp [wsV]), ⟨hd.1, hd.2.1⟩, fun sig h => ?_, ok _ (by simp [wsV]), ok _ (by simp [wsV]), ok _ (by simp [wsV])⟩
  have h2 := hd.2.2
  rw [h] at h2
  exact (Option.some.inj h2).symm
theorem vx_runVW {y : MethodName} {bytes cc : ByteArray} {maxL nL mc ms n index : Nat} {ret : Option FieldType} {hh : List (Nat × Nat × Nat × Nat)} {ws : List Cond} {rm : Room} {Pc : Array Value → State → Prop} {Qc : Array Value → State → Outcome → State → Prop} {free : Addr → Prop} {Ts : List Cond} {own C : String} {b : Addr} {As rest : List Value} {g : JFrame}
    (S : CallFix p m c cc nL s args Ts own) (hM : Met l y ws rm Pc Qc mc ms free) (cw : vx_CVW R s args own C index y bytes maxL ret hh ws rm mc ms n) (hp : PreV s H C b Pc As)
    (hg : g.method = m) (hn : As.length = n) (hsize : g.locals.size = nL) (hstack : g.stack = As.reverse ++ .ref b :: rest) (hW : 2 * g.monitorRoom + (rest.map fun v => v.category).sum ≤ 8) (hdg : decode cc g.pc = .ok (.invokevirtual index, 3)) (hf : cells + mc ≤ R.cells ∧ slots + ms ≤ R.slots) :
    va_Run p l e R s m args below meth c H locs cells slots mc ms g rest (Qc (Value.ref b :: As).toArray) free := by
  obtain ⟨⟨hrc, hrs, hfr, hlo, hws, hcw⟩, hcode, hini, hy, hlen, hl, hin, hse⟩ := cw
  have hK : Back l R p e below s args y 3 8 (PreOf R mc ms Pc) (PostOf Qc mc ms free) := va_backW (hh := hh) (bytes := bytes) (maxL := maxL) (ret := ret) hM hp.1 hrc hrs hfr hlo hws hcw (fun a' U hW => word_at hW (Or.inl (by first | rfl | simp [Cond.onTables, Cond.keeps, Cond.steady])) hini)
  obtain ⟨hx, hb, hml, ho, -⟩ := S
  obtain ⟨-, ⟨cellB, hcB, hoB, hclB⟩, hPc⟩ := hp
  intro T hT X
  obtain ⟨v, vm₁, ⟨U', l2, c2, s2⟩, hW₁, X', ⟨g', mk, t, L, e1, e2, hq, h1, hL, h2, h3⟩, st⟩ := vx_callVW X hx (C := C) (hh := hh) (bytes := bytes) (maxL := maxL) (ret := ret) ho hl hin hse hcode hy hK (by rw [hT]; exact hcB) hoB hclB hg (hsize.trans hml.symm) (argsL := As) (rest := rest) (fun sig h => hn.trans (hlen sig h)) hstack hW (by rw [hb]; exact hdg)
    (fun vm₁ hW₁ => ⟨hf.1, hf.2, hPc (T.setVm vm₁) hT hW₁⟩)
  dsimp only [Pt.U, Pt.locs, Pt.cells, Pt.slots] at X' e1 e2 h1 h2 h3 st
  subst h1; subst h2; subst h3
  exact ⟨v, (T.setVm vm₁).calling g' mk (Value.ref b :: As).toArray, t, U', L, hT, X', hL, e1, e2, hq, st⟩
section
variable {y : MethodName} {bytes cc : ByteArray} {maxL nL mc ms n index : Nat} {ret : Option FieldType} {ws : List Cond} {rm : Room} {Pc : Array Value → State → Prop} {Qc : Array Value → State → Outcome → State → Prop} {XC : String → State → State → Prop} {free : Addr → Prop} {Ts : List Cond} {own C : String} {b : Addr} {As rest : List Value} {g : JFrame}
theorem vx_runVX {hh : List (Nat × Nat × Nat × Nat)} (S : CallFix p m c cc nL s args Ts own) (hM : vx_Met l y ws rm Pc Qc XC mc ms free) (cw : vx_CVW R s args own C index y bytes maxL ret hh ws rm mc ms n) (hp : PreV s H C b Pc As)
    (hg : g.method = m) (hn : As.length = n) (hsize : g.locals.size = nL) (hstack : g.stack = As.reverse ++ .ref b :: rest) (hW : 2 * g.monitorRoom + (rest.map fun v => v.category).sum ≤ 8) (hdg : decode cc g.pc = .ok (.invokevirtual index, 3)) (hf : cells + mc ≤ R.cells ∧ slots + ms ≤ R.slots) :
    vx_Run p l e R s m args below meth c H locs cells slots mc ms g rest (Qc (Value.ref b :: As).toArray) XC free := by
  obtain ⟨⟨hrc, hrs, hfr, hlo, hws, hcw⟩, hcode, hini, hy, hlen, hl, hin, hse⟩ := cw
  have hK : vx_Back l R p e below s args y 3 8 (PreOf R mc ms Pc) (PostOf Qc mc ms free) (vx_Post XC mc ms free) := vx_backW (hh := hh) (bytes := bytes) (maxL := maxL) (ret := ret) hM hp.1 hrc hrs hfr hlo hws hcw (fun a' U hW => word_at hW (Or.inl (by first | rfl | simp [Cond.onTables, Cond.keeps, Cond.steady])) hini)
  obtain ⟨hx, hb, hml, ho, -⟩ := S
  obtain ⟨-, ⟨cellB, hcB, hoB, hclB⟩, hPc⟩ := hp
  intro T hT X
  rcases vx_callVX X hx (C := C) (hh := hh) (bytes := bytes) (maxL := maxL) (ret := ret) ho hl hin hse hcode hy hK (by rw [hT]; exact hcB) hoB hclB hg (hsize.trans hml.symm) (argsL := As) (rest := rest) (fun sig h => hn.trans (hlen sig h)) hstack hW (by rw [hb]; exact hdg)
    (fun vm₁ hW₁ => ⟨hf.1, hf.2, hPc (T.setVm vm₁) hT hW₁⟩) with ⟨v, vm₁, ⟨U', l2, c2, s2⟩, hW₁, X', ⟨g', mk, t, L, e1, e2, hq, h1, hL, h2, h3⟩, st⟩ | ⟨q, vm₁, ⟨U', l2, c2, s2⟩, hW₁, X', ⟨g', mk, t, L, E, ce, e1, e2, hq, hce, hcv, hcl, h1, hL, h2, h3⟩, st⟩
  · dsimp only [Pt.U, Pt.locs, Pt.cells, Pt.slots] at X' e1 e2 h1 h2 h3 st
    subst h1; subst h2; subst h3
    exact Or.inl ⟨v, (T.setVm vm₁).calling g' mk (Value.ref b :: As).toArray, t, U', L, hT, X', hL, e1, e2, hq, st⟩
  · dsimp only [Pt.U, Pt.locs, Pt.cells, Pt.slots] at X' e1 e2 h1 h2 h3 st hcl
    subst h1; subst h2; subst h3
    exact Or.inr ⟨q, (T.setVm vm₁).calling g' mk (Value.ref b :: As).toArray, t, U', L, E, ce, hT, X', hL, e1, e2, hq, hce, hcv, vx_cls hW₁ hcl, st⟩
theorem vx_runSX {hh : List (Nat × Nat × Nat × Nat)} (S : CallFix p m c cc nL s args Ts own) (hM : vx_Met l y ws rm Pc Qc XC mc ms free) (cw : vx_CSW R s args own index y bytes maxL ret hh ws rm mc ms n) (hp : PreS s H Pc As)
    (hg : g.method = m) (hn : As.length = n) (hsize : g.locals.size = nL) (hstack : g.stack = As.reverse ++ rest) (hW : 2 * g.monitorRoom + (rest.map fun v => v.category).sum ≤ 8) (hdg : decode cc g.pc = .ok (.invokestatic index, 3)) (hf : cells + mc ≤ R.cells ∧ slots + ms ≤ R.slots) :
    vx_Run p l e R s m args below meth c H locs cells slots mc ms g rest (Qc As.toArray) XC free := by
  obtain ⟨⟨hrc, hrs, hfr, hlo, hws, hcw⟩, hcode, hini, hy, hlen, hl, hstt⟩ := cw
  have hK : vx_Back l R p e below s args y 3 8 (PreOf R mc ms Pc) (PostOf Qc mc ms free) (vx_Post XC mc ms free) := vx_backW (hh := hh) (bytes := bytes) (maxL := maxL) (ret := ret) hM hp.1 hrc hrs hfr hlo hws hcw (fun a' U hW => word_at hW (Or.inl (by first | rfl | simp [Cond.onTables, Cond.keeps, Cond.steady])) hini)
  obtain ⟨hx, hb, hml, ho, -⟩ := S
  intro T hT X
  rcases vx_callSX X hx (hh := hh) (bytes := bytes) (maxL := maxL) (ret := ret) ho hl hstt hini hcode hy hK hg (hsize.trans hml.symm) (argsL := As) (rest := rest) (fun sig h => hn.trans (hlen sig h)) hstack hW (by rw [hb]; exact hdg)
    (fun vm₁ hW₁ => ⟨hf.1, hf.2, hp.2 (T.setVm vm₁) hT hW₁⟩) with ⟨v, vm₁, ⟨U', l2, c2, s2⟩, hW₁, X', ⟨g', mk, t, L, e1, e2, hq, h1, hL, h2, h3⟩, st⟩ | ⟨q, vm₁, ⟨U', l2, c2, s2⟩, hW₁, X', ⟨g', mk, t, L, E, ce, e1, e2, hq, hce, hcv, hcl, h1, hL, h2, h3⟩, st⟩
  · dsimp only [Pt.U, Pt.locs, Pt.cells, Pt.slots] at X' e1 e2 h1 h2 h3 st
    subst h1; subst h2; subst h3
    exact Or.inl ⟨v, (T.setVm vm₁).calling g' mk As.toArray, t, U', L, hT, X', hL, e1, e2, hq, st⟩
  · dsimp only [Pt.U, Pt.locs, Pt.cells, Pt.slots] at X' e1 e2 h1 h2 h3 st hcl
    subst h1; subst h2; subst h3
    exact Or.inr ⟨q, (T.setVm vm₁).calling g' mk As.toArray, t, U', L, E, ce, hT, X', hL, e1, e2, hq, hce, hcv, vx_cls hW₁ hcl, st⟩
end
end VXH
theorem vx_ofWH {l : Launch} {y : MethodName} {ws ws' : List Cond} {rm : Room} {Pc : Array Value → State → Prop} {Qc : Array Value → State → Outcome → State → Prop} {XC : String → State → State → Prop} {mc ms : Nat} {free : Addr → Prop} {cc : ByteArray} {maxL : Nat} {ret : Option FieldType} {hh : List (Nat × Nat × Nat × Nat)}
    (hy : plainName y.cls = true) (hw : ws = Cond.codeWith y cc maxL ret hh :: ws')
    (body : ∀ p e s m args below meth c s₁, BodyLoose p l y (headSpec ws rm) cc maxL ret e s m args below meth c s₁ → c.maxLocals = maxL → Pc args s →
      W p l e (headSpec ws rm).room s m args below meth c s.heap [] 0 0 (vx_MQ below Qc XC args s mc ms free) (entryFrame m args maxL)) : vx_Met l y ws rm Pc Qc XC mc ms free := by
  refine MetFree.of_bodyS (code := cc) (maxLocals := maxL) (ret := ret) hy ?_ ?_
  · intro args s m h hn
    obtain ⟨m9, meth, c, hn9, h1, h2, h3, h4, -, h5, h6, -⟩ := Cond.codeWith_spec (atoms_spec (ws := ws) h _ (by rw [hw]; exact List.mem_cons_self))
    cases hn.symm.trans hn9
    exact ⟨meth, c, h1, h2, h3, h4, h5, h6⟩
  · intro p e s m args below meth c s₁ B hml hP _
    have hh0 : s₁.heap = s.heap := by rw [B.state]; rfl
    obtain ⟨t, a1, o, b1, b2, b3⟩ := body p e s m args below meth c s₁ B hml hP s₁ hh0 (Stand.of_body B)
    exact ⟨t, o, a1, b1, b2, b3⟩
/-! ===== END ===== -/
end
section
def R_L : String := "PageStoreLaw"
def R_B : String := "PageStore$Block"
def R_K : String := "PageStore$Blocks"
def R_U : String := "PageStore$Fuse"
def R_Y : String := "PageStore$LastingBytes"
def R_Z : String := "PageStore$Layer"
def R_S : String := "PageStore"
def R_M : String := "PageStoreModel"
def F_B : u_T := fun k => match k with
  | _ => ("PageStore$Block", "bytes", "[B", true)
def t_B : Nat → FieldType := fun k => match k with
  | _ => .array .byte
theorem n_B : ∀ a, a < 1 → ∀ b, b < 1 → a ≠ b → (F_B a).2.1 ≠ (F_B b).2.1 := by decide +kernel
theorem ok_B : ∀ k, k < 1 → parseFieldDescriptor (F_B k).2.2.1 = some (t_B k) := by decide +kernel
def F_K : u_T := fun k => match k with
  | _ => ("PageStore$Blocks", "made", "[LPageStore$Block;", true)
def t_K : Nat → FieldType := fun k => match k with
  | _ => .array (.object "PageStore$Block")
theorem n_K : ∀ a, a < 1 → ∀ b, b < 1 → a ≠ b → (F_K a).2.1 ≠ (F_K b).2.1 := by decide +kernel
theorem ok_K : ∀ k, k < 1 → parseFieldDescriptor (F_K k).2.2.1 = some (t_K k) := by decide +kernel
def F_U : u_T := fun k => match k with
  | 0 => ("PageStore$Fuse", "when", "I", false)
  | 1 => ("PageStore$Fuse", "k", "I", false)
  | 2 => ("PageStore$Fuse", "b", "I", false)
  | _ => ("PageStore$Fuse", "blown", "Z", false)
def t_U : Nat → FieldType := fun k => match k with
  | 0 => .int
  | 1 => .int
  | 2 => .int
  | _ => .boolean
theorem n_U : ∀ a, a < 4 → ∀ b, b < 4 → a ≠ b → (F_U a).2.1 ≠ (F_U b).2.1 := by decide +kernel
theorem ok_U : ∀ k, k < 4 → parseFieldDescriptor (F_U k).2.2.1 = some (t_U k) := by decide +kernel
def F_Y : u_T := fun k => match k with
  | 0 => ("PageStore$LastingBytes", "blocks", "LPageStore$Blocks;", true)
  | _ => ("PageStore$LastingBytes", "length", "I", false)
def t_Y : Nat → FieldType := fun k => match k with
  | 0 => .object "PageStore$Blocks"
  | _ => .int
theorem n_Y : ∀ a, a < 2 → ∀ b, b < 2 → a ≠ b → (F_Y a).2.1 ≠ (F_Y b).2.1 := by decide +kernel
theorem ok_Y : ∀ k, k < 2 → parseFieldDescriptor (F_Y k).2.2.1 = some (t_Y k) := by decide +kernel
def F_Z : u_T := fun k => match k with
  | 0 => ("PageStore$Layer", "blocks", "LPageStore$Blocks;", true)
  | 1 => ("PageStore$Layer", "held", "[Z", true)
  | _ => ("PageStore$Layer", "pagesBelow", "I", false)
def t_Z : Nat → FieldType := fun k => match k with
  | 0 => .object "PageStore$Blocks"
  | 1 => .array .boolean
  | _ => .int
theorem n_Z : ∀ a, a < 3 → ∀ b, b < 3 → a ≠ b → (F_Z a).2.1 ≠ (F_Z b).2.1 := by decide +kernel
theorem ok_Z : ∀ k, k < 3 → parseFieldDescriptor (F_Z k).2.2.1 = some (t_Z k) := by decide +kernel
def F_S : u_T := fun k => match k with
  | 0 => ("PageStore", "file", "LPageStore$LastingBytes;", true)
  | 1 => ("PageStore", "journal", "LPageStore$LastingBytes;", true)
  | 2 => ("PageStore", "layers", "[LPageStore$Layer;", true)
  | 3 => ("PageStore", "fuse", "LPageStore$Fuse;", true)
  | 4 => ("PageStore", "record", "[B", true)
  | 5 => ("PageStore", "on", "Z", false)
  | 6 => ("PageStore", "open", "Z", false)
  | 7 => ("PageStore", "marks", "I", false)
  | 8 => ("PageStore", "count", "I", false)
  | _ => ("PageStore", "lasting", "I", false)
def t_S : Nat → FieldType := fun k => match k with
  | 0 => .object "PageStore$LastingBytes"
  | 1 => .object "PageStore$LastingBytes"
  | 2 => .array (.object "PageStore$Layer")
  | 3 => .object "PageStore$Fuse"
  | 4 => .array .byte
  | 5 => .boolean
  | 6 => .boolean
  | 7 => .int
  | 8 => .int
  | _ => .int
theorem n_S : ∀ a, a < 10 → ∀ b, b < 10 → a ≠ b → (F_S a).2.1 ≠ (F_S b).2.1 := by decide +kernel
theorem ok_S : ∀ k, k < 10 → parseFieldDescriptor (F_S k).2.2.1 = some (t_S k) := by decide +kernel
def F_M : u_T := fun k => match k with
  | 0 => ("PageStoreModel", "bytes", "[B", true)
  | 1 => ("PageStoreModel", "stand", "[I", true)
  | 2 => ("PageStoreModel", "versions", "I", false)
  | 3 => ("PageStoreModel", "stands", "I", false)
  | 4 => ("PageStoreModel", "now", "[I", true)
  | 5 => ("PageStoreModel", "lasting", "[I", true)
  | 6 => ("PageStoreModel", "marked", "[I", true)
  | 7 => ("PageStoreModel", "markedMany", "[I", true)
  | 8 => ("PageStoreModel", "many", "I", false)
  | 9 => ("PageStoreModel", "lastingMany", "I", false)
  | 10 => ("PageStoreModel", "marks", "I", false)
  | 11 => ("PageStoreModel", "commits", "I", false)
  | 12 => ("PageStoreModel", "isOff", "Z", false)
  | 13 => ("PageStoreModel", "isOpen", "Z", false)
  | 14 => ("PageStoreModel", "when", "I", false)
  | 15 => ("PageStoreModel", "after", "I", false)
  | _ => ("PageStoreModel", "thrown", "I", false)
def t_M : Nat → FieldType := fun k => match k with
  | 0 => .array .byte
  | 1 => .array .int
  | 2 => .int
  | 3 => .int
  | 4 => .array .int
  | 5 => .array .int
  | 6 => .array .int
  | 7 => .array .int
  | 8 => .int
  | 9 => .int
  | 10 => .int
  | 11 => .int
  | 12 => .boolean
  | 13 => .boolean
  | 14 => .int
  | 15 => .int
  | _ => .int
theorem n_M : ∀ a, a < 17 → ∀ b, b < 17 → a ≠ b → (F_M a).2.1 ≠ (F_M b).2.1 := by decide +kernel
theorem ok_M : ∀ k, k < 17 → parseFieldDescriptor (F_M k).2.2.1 = some (t_M k) := by decide +kernel
abbrev Cl : List vw_C := [(R_B, F_B, 1), (R_K, F_K, 1), (R_U, F_U, 4), (R_Y, F_Y, 2), (R_Z, F_Z, 3), (R_S, F_S, 10), (R_M, F_M, 17)]
abbrev b_S_init : ByteArray := prog_1_method_1_code
def y_S_init : MethodName := ⟨R_S, "<init>", "()V"⟩
abbrev b_S_pages : ByteArray := prog_1_method_2_code
def y_S_pages : MethodName := ⟨R_S, "pages", "()I"⟩
abbrev b_S_add : ByteArray := prog_1_method_3_code
def y_S_add : MethodName := ⟨R_S, "add", "()I"⟩
abbrev b_S_get : ByteArray := prog_1_method_4_code
def y_S_get : MethodName := ⟨R_S, "get", "(II)I"⟩
abbrev b_S_put : ByteArray := prog_1_method_5_code
def y_S_put : MethodName := ⟨R_S, "put", "(III)I"⟩
abbrev b_S_move : ByteArray := prog_1_method_6_code
def y_S_move : MethodName := ⟨R_S, "move", "(IIIII)V"⟩
abbrev b_S_sum : ByteArray := prog_1_method_7_code
def y_S_sum : MethodName := ⟨R_S, "sum", "(I)J"⟩
abbrev b_S_begin : ByteArray := prog_1_method_8_code
def y_S_begin : MethodName := ⟨R_S, "begin", "()V"⟩
abbrev b_S_commit : ByteArray := prog_1_method_9_code
def y_S_commit : MethodName := ⟨R_S, "commit", "()V"⟩
abbrev b_S_rollback : ByteArray := prog_1_method_10_code
def y_S_rollback : MethodName := ⟨R_S, "rollback", "()V"⟩
abbrev b_S_mark : ByteArray := prog_1_method_11_code
def y_S_mark : MethodName := ⟨R_S, "mark", "()I"⟩
abbrev b_S_back : ByteArray := prog_1_method_12_code
def y_S_back : MethodName := ⟨R_S, "back", "(I)V"⟩
abbrev b_S_keep : ByteArray := prog_1_method_13_code
def y_S_keep : MethodName := ⟨R_S, "keep", "(I)V"⟩
abbrev b_S_power : ByteArray := prog_1_method_14_code
def y_S_power : MethodName := ⟨R_S, "power", "(III)V"⟩
abbrev b_S_reopen : ByteArray := prog_1_method_15_code
def y_S_reopen : MethodName := ⟨R_S, "reopen", "()I"⟩
abbrev b_S_told : ByteArray := prog_1_method_16_code
def y_S_told : MethodName := ⟨R_S, "told", "(I)I"⟩
abbrev b_S_requireOn : ByteArray := prog_1_method_17_code
def y_S_requireOn : MethodName := ⟨R_S, "requireOn", "()V"⟩
abbrev b_S_requireOpen : ByteArray := prog_1_method_18_code
def y_S_requireOpen : MethodName := ⟨R_S, "requireOpen", "()V"⟩
abbrev b_S_requirePage : ByteArray := prog_1_method_19_code
def y_S_requirePage : MethodName := ⟨R_S, "requirePage", "(I)V"⟩
abbrev b_S_requireByte : ByteArray := prog_1_method_20_code
def y_S_requireByte : MethodName := ⟨R_S, "requireByte", "(II)V"⟩
abbrev b_S_requireSpan : ByteArray := prog_1_method_21_code
def y_S_requireSpan : MethodName := ⟨R_S, "requireSpan", "(II)V"⟩
abbrev b_S_requireMark : ByteArray := prog_1_method_22_code
def y_S_requireMark : MethodName := ⟨R_S, "requireMark", "(I)V"⟩
abbrev b_S_bytesOf : ByteArray := prog_1_method_23_code
def y_S_bytesOf : MethodName := ⟨R_S, "bytesOf", "(I)[B"⟩
abbrev b_S_bytesToChange : ByteArray := prog_1_method_24_code
def y_S_bytesToChange : MethodName := ⟨R_S, "bytesToChange", "(I)[B"⟩
abbrev b_S_foldMarks : ByteArray := prog_1_method_25_code
def y_S_foldMarks : MethodName := ⟨R_S, "foldMarks", "(I)V"⟩
abbrev b_S_endTransaction : ByteArray := prog_1_method_26_code
def y_S_endTransaction : MethodName := ⟨R_S, "endTransaction", "()V"⟩
abbrev b_S_settle : ByteArray := prog_1_method_27_code
def y_S_settle : MethodName := ⟨R_S, "settle", "(Z)V"⟩
abbrev b_S_pagesInFile : ByteArray := prog_1_method_28_code
def y_S_pagesInFile : MethodName := ⟨R_S, "pagesInFile", "()I"⟩
abbrev b_S_writeJournal : ByteArray := prog_1_method_29_code
def y_S_writeJournal : MethodName := ⟨R_S, "writeJournal", "()Z"⟩
abbrev b_S_writeFile : ByteArray := prog_1_method_30_code
def y_S_writeFile : MethodName := ⟨R_S, "writeFile", "()Z"⟩
abbrev b_S_undo : ByteArray := prog_1_method_31_code
def y_S_undo : MethodName := ⟨R_S, "undo", "()Z"⟩
abbrev b_S_write : ByteArray := prog_1_method_32_code
def y_S_write : MethodName := ⟨R_S, "write", "(LPageStore$LastingBytes;[BIII)Z"⟩
abbrev b_S_setNumber : ByteArray := prog_1_method_33_code
def y_S_setNumber : MethodName := ⟨R_S, "setNumber", "(I)V"⟩
abbrev b_S_journalNumber : ByteArray := prog_1_method_34_code
def y_S_journalNumber : MethodName := ⟨R_S, "journalNumber", "(I)I"⟩
abbrev b_M_init : ByteArray := prog_8_method_1_code
def y_M_init : MethodName := ⟨R_M, "<init>", "()V"⟩
abbrev b_M_thrown : ByteArray := prog_8_method_2_code
def y_M_thrown : MethodName := ⟨R_M, "thrown", "()I"⟩
abbrev b_M_fails : ByteArray := prog_8_method_3_code
def y_M_fails : MethodName := ⟨R_M, "fails", "(ZZ)Z"⟩
abbrev b_M_isPage : ByteArray := prog_8_method_4_code
def y_M_isPage : MethodName := ⟨R_M, "isPage", "(I)Z"⟩
abbrev b_M_at : ByteArray := prog_8_method_5_code
def y_M_at : MethodName := ⟨R_M, "at", "(II)I"⟩
abbrev b_M_pages : ByteArray := prog_8_method_6_code
def y_M_pages : MethodName := ⟨R_M, "pages", "()I"⟩
abbrev b_M_add : ByteArray := prog_8_method_7_code
def y_M_add : MethodName := ⟨R_M, "add", "()I"⟩
abbrev b_M_get : ByteArray := prog_8_method_8_code
def y_M_get : MethodName := ⟨R_M, "get", "(II)I"⟩
abbrev b_M_own : ByteArray := prog_8_method_9_code
def y_M_own : MethodName := ⟨R_M, "own", "(I)V"⟩
abbrev b_M_put : ByteArray := prog_8_method_10_code
def y_M_put : MethodName := ⟨R_M, "put", "(III)I"⟩
abbrev b_M_isPart : ByteArray := prog_8_method_11_code
def y_M_isPart : MethodName := ⟨R_M, "isPart", "(II)Z"⟩
abbrev b_M_move : ByteArray := prog_8_method_12_code
def y_M_move : MethodName := ⟨R_M, "move", "(IIIII)V"⟩
abbrev b_M_sum : ByteArray := prog_8_method_13_code
def y_M_sum : MethodName := ⟨R_M, "sum", "(I)J"⟩
abbrev b_M_begin : ByteArray := prog_8_method_14_code
def y_M_begin : MethodName := ⟨R_M, "begin", "()V"⟩
abbrev b_M_lasts : ByteArray := prog_8_method_15_code
def y_M_lasts : MethodName := ⟨R_M, "lasts", "()V"⟩
abbrev b_M_fall : ByteArray := prog_8_method_16_code
def y_M_fall : MethodName := ⟨R_M, "fall", "()V"⟩
abbrev b_M_commit : ByteArray := prog_8_method_17_code
def y_M_commit : MethodName := ⟨R_M, "commit", "()V"⟩
abbrev b_M_rollback : ByteArray := prog_8_method_18_code
def y_M_rollback : MethodName := ⟨R_M, "rollback", "()V"⟩
abbrev b_M_mark : ByteArray := prog_8_method_19_code
def y_M_mark : MethodName := ⟨R_M, "mark", "()I"⟩
abbrev b_M_back : ByteArray := prog_8_method_20_code
def y_M_back : MethodName := ⟨R_M, "back", "(I)V"⟩
abbrev b_M_keep : ByteArray := prog_8_method_21_code
def y_M_keep : MethodName := ⟨R_M, "keep", "(I)V"⟩
abbrev b_M_power : ByteArray := prog_8_method_22_code
def y_M_power : MethodName := ⟨R_M, "power", "(III)V"⟩
abbrev b_M_reopen : ByteArray := prog_8_method_23_code
def y_M_reopen : MethodName := ⟨R_M, "reopen", "()I"⟩
abbrev b_M_told : ByteArray := prog_8_method_24_code
def y_M_told : MethodName := ⟨R_M, "told", "(I)I"⟩
abbrev b_B_init : ByteArray := prog_2_method_1_code
def y_B_init : MethodName := ⟨R_B, "<init>", "()V"⟩
abbrev b_K_init : ByteArray := prog_3_method_1_code
def y_K_init : MethodName := ⟨R_K, "<init>", "(I)V"⟩
abbrev b_K_bytesOf : ByteArray := prog_3_method_2_code
def y_K_bytesOf : MethodName := ⟨R_K, "bytesOf", "(I)[B"⟩
abbrev b_K_swap : ByteArray := prog_3_method_3_code
def y_K_swap : MethodName := ⟨R_K, "swap", "(ILPageStore$Blocks;)V"⟩
abbrev b_U_init : ByteArray := prog_4_method_1_code
def y_U_init : MethodName := ⟨R_U, "<init>", "()V"⟩
abbrev b_U_set : ByteArray := prog_4_method_2_code
def y_U_set : MethodName := ⟨R_U, "set", "(III)V"⟩
abbrev b_U_forget : ByteArray := prog_4_method_3_code
def y_U_forget : MethodName := ⟨R_U, "forget", "()V"⟩
abbrev b_U_blown : ByteArray := prog_4_method_4_code
def y_U_blown : MethodName := ⟨R_U, "blown", "()Z"⟩
abbrev b_U_bytesThrough : ByteArray := prog_4_method_5_code
def y_U_bytesThrough : MethodName := ⟨R_U, "bytesThrough", "(II)I"⟩
abbrev b_U_blowsBeforeEmptying : ByteArray := prog_4_method_6_code
def y_U_blowsBeforeEmptying : MethodName := ⟨R_U, "blowsBeforeEmptying", "()Z"⟩
abbrev b_U_blowsBehindEmptying : ByteArray := prog_4_method_7_code
def y_U_blowsBehindEmptying : MethodName := ⟨R_U, "blowsBehindEmptying", "()Z"⟩
abbrev b_U_blowsInReopen : ByteArray := prog_4_method_8_code
def y_U_blowsInReopen : MethodName := ⟨R_U, "blowsInReopen", "()Z"⟩
abbrev b_Y_init : ByteArray := prog_5_method_1_code
def y_Y_init : MethodName := ⟨R_Y, "<init>", "(I)V"⟩
abbrev b_Y_length : ByteArray := prog_5_method_2_code
def y_Y_length : MethodName := ⟨R_Y, "length", "()I"⟩
abbrev b_Y_block : ByteArray := prog_5_method_3_code
def y_Y_block : MethodName := ⟨R_Y, "block", "(I)[B"⟩
abbrev b_Y_write : ByteArray := prog_5_method_4_code
def y_Y_write : MethodName := ⟨R_Y, "write", "(I[BI)V"⟩
abbrev b_Y_read : ByteArray := prog_5_method_5_code
def y_Y_read : MethodName := ⟨R_Y, "read", "(I[BI)V"⟩
abbrev b_Y_cutTo : ByteArray := prog_5_method_6_code
def y_Y_cutTo : MethodName := ⟨R_Y, "cutTo", "(I)V"⟩
abbrev b_Z_init : ByteArray := prog_6_method_1_code
def y_Z_init : MethodName := ⟨R_Z, "<init>", "()V"⟩
abbrev b_Z_lay : ByteArray := prog_6_method_2_code
def y_Z_lay : MethodName := ⟨R_Z, "lay", "(I)V"⟩
abbrev b_Z_pagesBelow : ByteArray := prog_6_method_3_code
def y_Z_pagesBelow : MethodName := ⟨R_Z, "pagesBelow", "()I"⟩
abbrev b_Z_holds : ByteArray := prog_6_method_4_code
def y_Z_holds : MethodName := ⟨R_Z, "holds", "(I)Z"⟩
abbrev b_Z_holdsAny : ByteArray := prog_6_method_5_code
def y_Z_holdsAny : MethodName := ⟨R_Z, "holdsAny", "(I)Z"⟩
abbrev b_Z_bytesOf : ByteArray := prog_6_method_6_code
def y_Z_bytesOf : MethodName := ⟨R_Z, "bytesOf", "(I)[B"⟩
abbrev b_Z_hold : ByteArray := prog_6_method_7_code
def y_Z_hold : MethodName := ⟨R_Z, "hold", "(I)[B"⟩
abbrev b_Z_takeOver : ByteArray := prog_6_method_8_code
def y_Z_takeOver : MethodName := ⟨R_Z, "takeOver", "(LPageStore$Layer;)V"⟩
abbrev b_L_pages : ByteArray := method_3_code
def y_L_pages : MethodName := ⟨R_L, "pages", "(LPageStore;[J)I"⟩
abbrev b_L_add : ByteArray := method_4_code
def y_L_add : MethodName := ⟨R_L, "add", "(LPageStore;[J)I"⟩
abbrev b_L_get : ByteArray := method_5_code
def y_L_get : MethodName := ⟨R_L, "get", "(LPageStore;II[J)I"⟩
abbrev b_L_put : ByteArray := method_6_code
def y_L_put : MethodName := ⟨R_L, "put", "(LPageStore;III[J)I"⟩
abbrev b_L_move : ByteArray := method_7_code
def y_L_move : MethodName := ⟨R_L, "move", "(LPageStore;IIIII)I"⟩
abbrev b_L_sum : ByteArray := method_8_code
def y_L_sum : MethodName := ⟨R_L, "sum", "(LPageStore;I[J)I"⟩
abbrev b_L_begin : ByteArray := method_9_code
def y_L_begin : MethodName := ⟨R_L, "begin", "(LPageStore;)I"⟩
abbrev b_L_commit : ByteArray := method_10_code
def y_L_commit : MethodName := ⟨R_L, "commit", "(LPageStore;)I"⟩
abbrev b_L_rollback : ByteArray := method_11_code
def y_L_rollback : MethodName := ⟨R_L, "rollback", "(LPageStore;)I"⟩
abbrev b_L_mark : ByteArray := method_12_code
def y_L_mark : MethodName := ⟨R_L, "mark", "(LPageStore;[J)I"⟩
abbrev b_L_back : ByteArray := method_13_code
def y_L_back : MethodName := ⟨R_L, "back", "(LPageStore;I)I"⟩
abbrev b_L_keep : ByteArray := method_14_code
def y_L_keep : MethodName := ⟨R_L, "keep", "(LPageStore;I)I"⟩
abbrev b_L_power : ByteArray := method_15_code
def y_L_power : MethodName := ⟨R_L, "power", "(LPageStore;III)I"⟩
abbrev b_L_reopen : ByteArray := method_16_code
def y_L_reopen : MethodName := ⟨R_L, "reopen", "(LPageStore;[J)I"⟩
abbrev b_L_told : ByteArray := method_17_code
def y_L_told : MethodName := ⟨R_L, "told", "(LPageStore;I[J)I"⟩
def WS : List Cond := lw_tbl.filter goodWord
theorem WS_tbl {w : Cond} (h : w ∈ WS) : w ∈ lw_tbl := (List.mem_filter.mp h).1
theorem WS_good {w : Cond} (h : w ∈ WS) : (w.onTables && w.keeps) = true ∨ ∃ ty, w = .arrayClass ty := good_of_word (List.mem_filter.mp h).2
theorem ws_B : ∀ w ∈ u_ws R_B F_B 1, w ∈ WS := by decide +kernel
theorem ws_K : ∀ w ∈ u_ws R_K F_K 1, w ∈ WS := by decide +kernel
theorem ws_U : ∀ w ∈ u_ws R_U F_U 4, w ∈ WS := by decide +kernel
theorem ws_Y : ∀ w ∈ u_ws R_Y F_Y 2, w ∈ WS := by decide +kernel
theorem ws_Z : ∀ w ∈ u_ws R_Z F_Z 3, w ∈ WS := by decide +kernel
theorem ws_S : ∀ w ∈ u_ws R_S F_S 10, w ∈ WS := by decide +kernel
theorem ws_M : ∀ w ∈ u_ws R_M F_M 17, w ∈ WS := by decide +kernel
theorem ws_t1 {i : Nat} {w : Cond} (h : tables_1_1[i]? = some w) (hg : goodWord w = true) : w ∈ WS := List.mem_filter.mpr ⟨List.mem_append_right _ (show w ∈ tables_1 from by unfold tables_1; exact List.mem_append_left _ (List.mem_of_getElem? h)), hg⟩
theorem ws_t2 {i : Nat} {w : Cond} (h : tables_1_2[i]? = some w) (hg : goodWord w = true) : w ∈ WS := List.mem_filter.mpr ⟨List.mem_append_right _ (show w ∈ tables_1 from by unfold tables_1; exact List.mem_append_right _ (List.mem_append_left _ (List.mem_of_getElem? h))), hg⟩
theorem ws_t3 {i : Nat} {w : Cond} (h : tables_1_3[i]? = some w) (hg : goodWord w = true) : w ∈ WS := List.mem_filter.mpr ⟨List.mem_append_right _ (show w ∈ tables_1 from by unfold tables_1; exact List.mem_append_right _ (List.mem_append_right _ (List.mem_of_getElem? h))), hg⟩
end
section
theorem in_L : Cond.initialized R_L ∈ WS := ws_t1 (i := 0) (by decide +kernel) (by decide +kernel)
theorem in_S : Cond.initialized R_S ∈ WS := ws_t1 (i := 1) (by decide +kernel) (by decide +kernel)
theorem in_Y : Cond.initialized R_Y ∈ WS := ws_t1 (i := 2) (by decide +kernel) (by decide +kernel)
theorem in_K : Cond.initialized R_K ∈ WS := ws_t1 (i := 3) (by decide +kernel) (by decide +kernel)
theorem in_U : Cond.initialized R_U ∈ WS := ws_t1 (i := 4) (by decide +kernel) (by decide +kernel)
theorem in_Z : Cond.initialized R_Z ∈ WS := ws_t1 (i := 5) (by decide +kernel) (by decide +kernel)
theorem in_M : Cond.initialized R_M ∈ WS := ws_t1 (i := 6) (by decide +kernel) (by decide +kernel)
theorem in_Throwable : Cond.initialized "java/lang/Throwable" ∈ WS := ws_t1 (i := 7) (by decide +kernel) (by decide +kernel)
theorem in_Exception : Cond.initialized "java/lang/Exception" ∈ WS := ws_t1 (i := 8) (by decide +kernel) (by decide +kernel)
theorem in_RuntimeException : Cond.initialized "java/lang/RuntimeException" ∈ WS := ws_t1 (i := 9) (by decide +kernel) (by decide +kernel)
theorem in_IllegalStateException : Cond.initialized "java/lang/IllegalStateException" ∈ WS := ws_t1 (i := 10) (by decide +kernel) (by decide +kernel)
theorem in_B : Cond.initialized R_B ∈ WS := ws_t1 (i := 11) (by decide +kernel) (by decide +kernel)
theorem in_Arrays : Cond.initialized "java/util/Arrays" ∈ WS := ws_t1 (i := 12) (by decide +kernel) (by decide +kernel)
theorem in_IndexOutOfBoundsException : Cond.initialized "java/lang/IndexOutOfBoundsException" ∈ WS := ws_t1 (i := 13) (by decide +kernel) (by decide +kernel)
theorem in_System : Cond.initialized "java/lang/System" ∈ WS := ws_t1 (i := 14) (by decide +kernel) (by decide +kernel)
theorem in_Math : Cond.initialized "java/lang/Math" ∈ WS := ws_t1 (i := 15) (by decide +kernel) (by decide +kernel)
theorem in_ArithmeticException : Cond.initialized "java/lang/ArithmeticException" ∈ WS := ws_t1 (i := 16) (by decide +kernel) (by decide +kernel)
theorem in_IllegalArgumentException : Cond.initialized "java/lang/IllegalArgumentException" ∈ WS := ws_t1 (i := 17) (by decide +kernel) (by decide +kernel)
theorem cl_L_8 : Cond.classLink R_L 8 R_S ∈ WS := ws_t1 (i := 18) (by decide +kernel) (by decide +kernel)
theorem ib_S : Cond.instantiable R_S 10 ∈ WS := ws_t1 (i := 19) (by decide +kernel) (by decide +kernel)
theorem ml_L_70 : Cond.methodLink R_L 70 y_S_init ∈ WS := ws_t1 (i := 20) (by decide +kernel) (by decide +kernel)
theorem im_S_init : Cond.instanceMethod y_S_init ∈ WS := ws_t1 (i := 21) (by decide +kernel) (by decide +kernel)
theorem cd_S_init : Cond.code y_S_init b_S_init 2 (.none : Option Jvm.ClassFile.FieldType) ∈ WS := ws_t1 (i := 22) (by decide +kernel) (by decide +kernel)
theorem ml_S_3 : Cond.methodLink R_S 3 ⟨"java/lang/Object", "<init>", "()V"⟩ ∈ WS := ws_t1 (i := 23) (by decide +kernel) (by decide +kernel)
theorem cl_S_9 : Cond.classLink R_S 9 R_Y ∈ WS := ws_t1 (i := 26) (by decide +kernel) (by decide +kernel)
theorem ib_Y : Cond.instantiable R_Y 2 ∈ WS := ws_t1 (i := 27) (by decide +kernel) (by decide +kernel)
theorem co_S_11 : Cond.constant R_S 11 (196608) ∈ WS := ws_t1 (i := 28) (by decide +kernel) (by decide +kernel)
theorem ml_S_12 : Cond.methodLink R_S 12 y_Y_init ∈ WS := ws_t1 (i := 29) (by decide +kernel) (by decide +kernel)
theorem im_Y_init : Cond.instanceMethod y_Y_init ∈ WS := ws_t1 (i := 30) (by decide +kernel) (by decide +kernel)
theorem cd_Y_init : Cond.code y_Y_init b_Y_init 2 (.none : Option Jvm.ClassFile.FieldType) ∈ WS := ws_t1 (i := 31) (by decide +kernel) (by decide +kernel)
theorem ml_Y_3 : Cond.methodLink R_Y 3 ⟨"java/lang/Object", "<init>", "()V"⟩ ∈ WS := ws_t1 (i := 32) (by decide +kernel) (by decide +kernel)
theorem cl_Y_15 : Cond.classLink R_Y 15 R_K ∈ WS := ws_t1 (i := 33) (by decide +kernel) (by decide +kernel)
theorem ib_K : Cond.instantiable R_K 1 ∈ WS := ws_t1 (i := 34) (by decide +kernel) (by decide +kernel)
theorem ml_Y_17 : Cond.methodLink R_Y 17 y_K_init ∈ WS := ws_t1 (i := 35) (by decide +kernel) (by decide +kernel)
theorem im_K_init : Cond.instanceMethod y_K_init ∈ WS := ws_t1 (i := 36) (by decide +kernel) (by decide +kernel)
theorem cd_K_init : Cond.code y_K_init b_K_init 2 (.none : Option Jvm.ClassFile.FieldType) ∈ WS := ws_t1 (i := 37) (by decide +kernel) (by decide +kernel)
theorem ml_K_1 : Cond.methodLink R_K 1 ⟨"java/lang/Object", "<init>", "()V"⟩ ∈ WS := ws_t1 (i := 38) (by decide +kernel) (by decide +kernel)
theorem cl_K_7 : Cond.classLink R_K 7 R_B ∈ WS := ws_t1 (i := 39) (by decide +kernel) (by decide +kernel)
theorem fl_K_9 : Cond.fieldLink R_K 9 "PageStore$Blocks" "made" "[LPageStore$Block;" ∈ WS := ws_t1 (i := 41) (by decide +kernel) (by decide +kernel)
theorem fl_Y_20 : Cond.fieldLink R_Y 20 "PageStore$LastingBytes" "blocks" "LPageStore$Blocks;" ∈ WS := ws_t1 (i := 45) (by decide +kernel) (by decide +kernel)
theorem fl_Y_9 : Cond.fieldLink R_Y 9 "PageStore$LastingBytes" "length" "I" ∈ WS := ws_t1 (i := 46) (by decide +kernel) (by decide +kernel)
theorem co_S_19 : Cond.constant R_S 19 (199684) ∈ WS := ws_t1 (i := 52) (by decide +kernel) (by decide +kernel)
theorem cl_S_23 : Cond.classLink R_S 23 R_Z ∈ WS := ws_t1 (i := 53) (by decide +kernel) (by decide +kernel)
theorem cl_S_29 : Cond.classLink R_S 29 R_U ∈ WS := ws_t1 (i := 55) (by decide +kernel) (by decide +kernel)
theorem ib_U : Cond.instantiable R_U 4 ∈ WS := ws_t1 (i := 56) (by decide +kernel) (by decide +kernel)
theorem im_U_init : Cond.instanceMethod y_U_init ∈ WS := ws_t1 (i := 58) (by decide +kernel) (by decide +kernel)
theorem cd_U_init : Cond.code y_U_init b_U_init 1 (.none : Option Jvm.ClassFile.FieldType) ∈ WS := ws_t1 (i := 59) (by decide +kernel) (by decide +kernel)
theorem ml_U_3 : Cond.methodLink R_U 3 ⟨"java/lang/Object", "<init>", "()V"⟩ ∈ WS := ws_t1 (i := 60) (by decide +kernel) (by decide +kernel)
theorem fl_U_9 : Cond.fieldLink R_U 9 "PageStore$Fuse" "when" "I" ∈ WS := ws_t1 (i := 61) (by decide +kernel) (by decide +kernel)
theorem fl_U_15 : Cond.fieldLink R_U 15 "PageStore$Fuse" "k" "I" ∈ WS := ws_t1 (i := 62) (by decide +kernel) (by decide +kernel)
theorem fl_U_18 : Cond.fieldLink R_U 18 "PageStore$Fuse" "b" "I" ∈ WS := ws_t1 (i := 63) (by decide +kernel) (by decide +kernel)
theorem fl_U_21 : Cond.fieldLink R_U 21 "PageStore$Fuse" "blown" "Z" ∈ WS := ws_t1 (i := 64) (by decide +kernel) (by decide +kernel)
theorem ib_Z : Cond.instantiable R_Z 3 ∈ WS := ws_t1 (i := 74) (by decide +kernel) (by decide +kernel)
theorem im_Z_init : Cond.instanceMethod y_Z_init ∈ WS := ws_t1 (i := 76) (by decide +kernel) (by decide +kernel)
theorem cd_Z_init : Cond.code y_Z_init b_Z_init 1 (.none : Option Jvm.ClassFile.FieldType) ∈ WS := ws_t1 (i := 77) (by decide +kernel) (by decide +kernel)
theorem ml_Z_3 : Cond.methodLink R_Z 3 ⟨"java/lang/Object", "<init>", "()V"⟩ ∈ WS := ws_t1 (i := 78) (by decide +kernel) (by decide +kernel)
theorem cl_Z_9 : Cond.classLink R_Z 9 R_K ∈ WS := ws_t1 (i := 79) (by decide +kernel) (by decide +kernel)
theorem ml_Z_11 : Cond.methodLink R_Z 11 y_K_init ∈ WS := ws_t1 (i := 80) (by decide +kernel) (by decide +kernel)
theorem fl_Z_14 : Cond.fieldLink R_Z 14 "PageStore$Layer" "blocks" "LPageStore$Blocks;" ∈ WS := ws_t1 (i := 81) (by decide +kernel) (by decide +kernel)
theorem fl_Z_20 : Cond.fieldLink R_Z 20 "PageStore$Layer" "held" "[Z" ∈ WS := ws_t1 (i := 82) (by decide +kernel) (by decide +kernel)
theorem fl_Z_24 : Cond.fieldLink R_Z 24 "PageStore$Layer" "pagesBelow" "I" ∈ WS := ws_t1 (i := 83) (by decide +kernel) (by decide +kernel)
theorem ac_byte : Cond.arrayClass .byte ∈ WS := ws_t1 (i := 91) (by decide +kernel) (by decide +kernel)
theorem ac_boolean : Cond.arrayClass .boolean ∈ WS := ws_t1 (i := 92) (by decide +kernel) (by decide +kernel)
theorem fl_S_15 : Cond.fieldLink R_S 15 "PageStore" "file" "LPageStore$LastingBytes;" ∈ WS := ws_t1 (i := 93) (by decide +kernel) (by decide +kernel)
theorem fl_S_20 : Cond.fieldLink R_S 20 "PageStore" "journal" "LPageStore$LastingBytes;" ∈ WS := ws_t1 (i := 94) (by decide +kernel) (by decide +kernel)
theorem fl_S_25 : Cond.fieldLink R_S 25 "PageStore" "layers" "[LPageStore$Layer;" ∈ WS := ws_t1 (i := 95) (by decide +kernel) (by decide +kernel)
theorem fl_S_32 : Cond.fieldLink R_S 32 "PageStore" "fuse" "LPageStore$Fuse;" ∈ WS := ws_t1 (i := 96) (by decide +kernel) (by decide +kernel)
theorem fl_S_36 : Cond.fieldLink R_S 36 "PageStore" "record" "[B" ∈ WS := ws_t1 (i := 97) (by decide +kernel) (by decide +kernel)
theorem fl_S_40 : Cond.fieldLink R_S 40 "PageStore" "on" "Z" ∈ WS := ws_t1 (i := 98) (by decide +kernel) (by decide +kernel)
theorem fl_S_44 : Cond.fieldLink R_S 44 "PageStore" "open" "Z" ∈ WS := ws_t1 (i := 99) (by decide +kernel) (by decide +kernel)
theorem fl_S_47 : Cond.fieldLink R_S 47 "PageStore" "marks" "I" ∈ WS := ws_t1 (i := 100) (by decide +kernel) (by decide +kernel)
theorem fl_S_51 : Cond.fieldLink R_S 51 "PageStore" "count" "I" ∈ WS := ws_t1 (i := 101) (by decide +kernel) (by decide +kernel)
theorem fl_S_54 : Cond.fieldLink R_S 54 "PageStore" "lasting" "I" ∈ WS := ws_t1 (i := 102) (by decide +kernel) (by decide +kernel)
theorem ml_L_74 : Cond.methodLink R_L 74 y_L_pages ∈ WS := ws_t1 (i := 124) (by decide +kernel) (by decide +kernel)
theorem st_L_pages : Cond.static y_L_pages ∈ WS := ws_t1 (i := 125) (by decide +kernel) (by decide +kernel)
theorem cd_L_pages : Cond.codeWith y_L_pages b_L_pages 3 (some .int) [(0, 8, 11, 13)] ∈ WS := ws_t1 (i := 126) (by decide +kernel) (by decide +kernel)
theorem cl_L_13 : Cond.classLink R_L 13 "java/lang/IllegalStateException" ∈ WS := ws_t1 (i := 127) (by decide +kernel) (by decide +kernel)
theorem ml_L_7 : Cond.methodLink R_L 7 y_S_pages ∈ WS := ws_t1 (i := 128) (by decide +kernel) (by decide +kernel)
theorem im_S_pages : Cond.instanceMethod y_S_pages ∈ WS := ws_t1 (i := 129) (by decide +kernel) (by decide +kernel)
theorem se_S_pages : Cond.selects R_S y_S_pages y_S_pages ∈ WS := ws_t1 (i := 130) (by decide +kernel) (by decide +kernel)
theorem cd_S_pages : Cond.code y_S_pages b_S_pages 1 (some .int) ∈ WS := ws_t1 (i := 131) (by decide +kernel) (by decide +kernel)
theorem ml_S_58 : Cond.methodLink R_S 58 y_S_requireOn ∈ WS := ws_t1 (i := 132) (by decide +kernel) (by decide +kernel)
theorem se_S_requireOn : Cond.selects R_S y_S_requireOn y_S_requireOn ∈ WS := by decide +kernel
theorem im_S_requireOn : Cond.instanceMethod y_S_requireOn ∈ WS := ws_t1 (i := 134) (by decide +kernel) (by decide +kernel)
theorem cd_S_requireOn : Cond.code y_S_requireOn b_S_requireOn 1 (.none : Option Jvm.ClassFile.FieldType) ∈ WS := ws_t1 (i := 135) (by decide +kernel) (by decide +kernel)
theorem cl_S_64 : Cond.classLink R_S 64 "java/lang/IllegalStateException" ∈ WS := ws_t1 (i := 136) (by decide +kernel) (by decide +kernel)
theorem ib_IllegalStateException : Cond.instantiable "java/lang/IllegalStateException" 6 ∈ WS := ws_t1 (i := 137) (by decide +kernel) (by decide +kernel)
theorem ib_Throwable : Cond.instantiable "java/lang/Throwable" 6 ∈ WS := ws_t1 (i := 176) (by decide +kernel) (by decide +kernel)
theorem ml_S_68 : Cond.methodLink R_S 68 ⟨"java/lang/IllegalStateException", "<init>", "(Ljava/lang/String;)V"⟩ ∈ WS := ws_t1 (i := 179) (by decide +kernel) (by decide +kernel)
theorem ml_L_80 : Cond.methodLink R_L 80 y_L_add ∈ WS := ws_t1 (i := 204) (by decide +kernel) (by decide +kernel)
theorem st_L_add : Cond.static y_L_add ∈ WS := ws_t1 (i := 205) (by decide +kernel) (by decide +kernel)
theorem cd_L_add : Cond.codeWith y_L_add b_L_add 3 (some .int) [(0, 8, 11, 13)] ∈ WS := ws_t1 (i := 206) (by decide +kernel) (by decide +kernel)
theorem ml_L_15 : Cond.methodLink R_L 15 y_S_add ∈ WS := ws_t1 (i := 207) (by decide +kernel) (by decide +kernel)
theorem im_S_add : Cond.instanceMethod y_S_add ∈ WS := ws_t1 (i := 208) (by decide +kernel) (by decide +kernel)
theorem se_S_add : Cond.selects R_S y_S_add y_S_add ∈ WS := ws_t1 (i := 209) (by decide +kernel) (by decide +kernel)
theorem cd_S_add : Cond.code y_S_add b_S_add 1 (some .int) ∈ WS := ws_t1 (i := 210) (by decide +kernel) (by decide +kernel)
theorem ml_S_61 : Cond.methodLink R_S 61 y_S_requireOpen ∈ WS := ws_t1 (i := 211) (by decide +kernel) (by decide +kernel)
theorem se_S_requireOpen : Cond.selects R_S y_S_requireOpen y_S_requireOpen ∈ WS := by decide +kernel
theorem im_S_requireOpen : Cond.instanceMethod y_S_requireOpen ∈ WS := ws_t1 (i := 213) (by decide +kernel) (by decide +kernel)
theorem cd_S_requireOpen : Cond.code y_S_requireOpen b_S_requireOpen 1 (.none : Option Jvm.ClassFile.FieldType) ∈ WS := ws_t1 (i := 214) (by decide +kernel) (by decide +kernel)
theorem ml_S_71 : Cond.methodLink R_S 71 y_Z_hold ∈ WS := ws_t1 (i := 217) (by decide +kernel) (by decide +kernel)
theorem im_Z_hold : Cond.instanceMethod y_Z_hold ∈ WS := ws_t1 (i := 218) (by decide +kernel) (by decide +kernel)
theorem se_Z_hold : Cond.selects R_Z y_Z_hold y_Z_hold ∈ WS := ws_t1 (i := 219) (by decide +kernel) (by decide +kernel)
theorem cd_Z_hold : Cond.code y_Z_hold b_Z_hold 2 (some (.array .byte)) ∈ WS := ws_t1 (i := 220) (by decide +kernel) (by decide +kernel)
theorem ml_Z_28 : Cond.methodLink R_Z 28 y_K_bytesOf ∈ WS := ws_t1 (i := 221) (by decide +kernel) (by decide +kernel)
theorem im_K_bytesOf : Cond.instanceMethod y_K_bytesOf ∈ WS := ws_t1 (i := 222) (by decide +kernel) (by decide +kernel)
theorem se_K_bytesOf : Cond.selects R_K y_K_bytesOf y_K_bytesOf ∈ WS := ws_t1 (i := 223) (by decide +kernel) (by decide +kernel)
theorem cd_K_bytesOf : Cond.code y_K_bytesOf b_K_bytesOf 2 (some (.array .byte)) ∈ WS := ws_t1 (i := 224) (by decide +kernel) (by decide +kernel)
theorem ib_B : Cond.instantiable R_B 1 ∈ WS := ws_t1 (i := 225) (by decide +kernel) (by decide +kernel)
theorem im_B_init : Cond.instanceMethod y_B_init ∈ WS := ws_t1 (i := 227) (by decide +kernel) (by decide +kernel)
theorem cd_B_init : Cond.code y_B_init b_B_init 1 (.none : Option Jvm.ClassFile.FieldType) ∈ WS := ws_t1 (i := 228) (by decide +kernel) (by decide +kernel)
theorem ml_B_3 : Cond.methodLink R_B 3 ⟨"java/lang/Object", "<init>", "()V"⟩ ∈ WS := ws_t1 (i := 229) (by decide +kernel) (by decide +kernel)
theorem fl_B_9 : Cond.fieldLink R_B 9 "PageStore$Block" "bytes" "[B" ∈ WS := ws_t1 (i := 230) (by decide +kernel) (by decide +kernel)
theorem ml_S_75 : Cond.methodLink R_S 75 ⟨"java/util/Arrays", "fill", "([BB)V"⟩ ∈ WS := ws_t1 (i := 235) (by decide +kernel) (by decide +kernel)
theorem ml_L_83 : Cond.methodLink R_L 83 y_L_get ∈ WS := ws_t1 (i := 238) (by decide +kernel) (by decide +kernel)
theorem st_L_get : Cond.static y_L_get ∈ WS := ws_t1 (i := 239) (by decide +kernel) (by decide +kernel)
theorem cd_L_get : Cond.codeWith y_L_get b_L_get 5 (some .int) [(0, 10, 13, 13), (0, 10, 17, 22)] ∈ WS := ws_t2 (i := 0) (by decide +kernel) (by decide +kernel)
theorem cl_L_22 : Cond.classLink R_L 22 "java/lang/IndexOutOfBoundsException" ∈ WS := ws_t2 (i := 1) (by decide +kernel) (by decide +kernel)
theorem ml_L_18 : Cond.methodLink R_L 18 y_S_get ∈ WS := ws_t2 (i := 2) (by decide +kernel) (by decide +kernel)
theorem im_S_get : Cond.instanceMethod y_S_get ∈ WS := ws_t2 (i := 3) (by decide +kernel) (by decide +kernel)
theorem se_S_get : Cond.selects R_S y_S_get y_S_get ∈ WS := ws_t2 (i := 4) (by decide +kernel) (by decide +kernel)
theorem cd_S_get : Cond.code y_S_get b_S_get 3 (some .int) ∈ WS := ws_t2 (i := 5) (by decide +kernel) (by decide +kernel)
theorem ml_S_81 : Cond.methodLink R_S 81 y_S_requireByte ∈ WS := ws_t2 (i := 6) (by decide +kernel) (by decide +kernel)
theorem se_S_requireByte : Cond.selects R_S y_S_requireByte y_S_requireByte ∈ WS := by decide +kernel
theorem im_S_requireByte : Cond.instanceMethod y_S_requireByte ∈ WS := ws_t2 (i := 8) (by decide +kernel) (by decide +kernel)
theorem cd_S_requireByte : Cond.code y_S_requireByte b_S_requireByte 3 (.none : Option Jvm.ClassFile.FieldType) ∈ WS := ws_t2 (i := 9) (by decide +kernel) (by decide +kernel)
theorem ml_S_91 : Cond.methodLink R_S 91 y_S_requirePage ∈ WS := ws_t2 (i := 10) (by decide +kernel) (by decide +kernel)
theorem se_S_requirePage : Cond.selects R_S y_S_requirePage y_S_requirePage ∈ WS := by decide +kernel
theorem im_S_requirePage : Cond.instanceMethod y_S_requirePage ∈ WS := ws_t2 (i := 12) (by decide +kernel) (by decide +kernel)
theorem cd_S_requirePage : Cond.code y_S_requirePage b_S_requirePage 2 (.none : Option Jvm.ClassFile.FieldType) ∈ WS := ws_t2 (i := 13) (by decide +kernel) (by decide +kernel)
theorem cl_S_172 : Cond.classLink R_S 172 "java/lang/IndexOutOfBoundsException" ∈ WS := ws_t2 (i := 14) (by decide +kernel) (by decide +kernel)
theorem ib_IndexOutOfBoundsException : Cond.instantiable "java/lang/IndexOutOfBoundsException" 6 ∈ WS := ws_t2 (i := 15) (by decide +kernel) (by decide +kernel)
theorem ml_S_176 : Cond.methodLink R_S 176 ⟨"java/lang/IndexOutOfBoundsException", "<init>", "(Ljava/lang/String;)V"⟩ ∈ WS := ws_t2 (i := 24) (by decide +kernel) (by decide +kernel)
theorem ml_S_85 : Cond.methodLink R_S 85 y_S_bytesOf ∈ WS := ws_t2 (i := 31) (by decide +kernel) (by decide +kernel)
theorem se_S_bytesOf : Cond.selects R_S y_S_bytesOf y_S_bytesOf ∈ WS := by decide +kernel
theorem im_S_bytesOf : Cond.instanceMethod y_S_bytesOf ∈ WS := ws_t2 (i := 33) (by decide +kernel) (by decide +kernel)
theorem cd_S_bytesOf : Cond.code y_S_bytesOf b_S_bytesOf 3 (some (.array .byte)) ∈ WS := ws_t2 (i := 34) (by decide +kernel) (by decide +kernel)
theorem ml_S_183 : Cond.methodLink R_S 183 y_Z_holds ∈ WS := ws_t2 (i := 35) (by decide +kernel) (by decide +kernel)
theorem im_Z_holds : Cond.instanceMethod y_Z_holds ∈ WS := ws_t2 (i := 36) (by decide +kernel) (by decide +kernel)
theorem se_Z_holds : Cond.selects R_Z y_Z_holds y_Z_holds ∈ WS := ws_t2 (i := 37) (by decide +kernel) (by decide +kernel)
theorem cd_Z_holds : Cond.code y_Z_holds b_Z_holds 2 (some .boolean) ∈ WS := ws_t2 (i := 38) (by decide +kernel) (by decide +kernel)
theorem ml_S_187 : Cond.methodLink R_S 187 y_Z_bytesOf ∈ WS := ws_t2 (i := 39) (by decide +kernel) (by decide +kernel)
theorem im_Z_bytesOf : Cond.instanceMethod y_Z_bytesOf ∈ WS := ws_t2 (i := 40) (by decide +kernel) (by decide +kernel)
theorem se_Z_bytesOf : Cond.selects R_Z y_Z_bytesOf y_Z_bytesOf ∈ WS := ws_t2 (i := 41) (by decide +kernel) (by decide +kernel)
theorem cd_Z_bytesOf : Cond.code y_Z_bytesOf b_Z_bytesOf 2 (some (.array .byte)) ∈ WS := ws_t2 (i := 42) (by decide +kernel) (by decide +kernel)
theorem ml_S_188 : Cond.methodLink R_S 188 y_Y_block ∈ WS := ws_t2 (i := 43) (by decide +kernel) (by decide +kernel)
theorem im_Y_block : Cond.instanceMethod y_Y_block ∈ WS := ws_t2 (i := 44) (by decide +kernel) (by decide +kernel)
theorem se_Y_block : Cond.selects R_Y y_Y_block y_Y_block ∈ WS := ws_t2 (i := 45) (by decide +kernel) (by decide +kernel)
theorem cd_Y_block : Cond.code y_Y_block b_Y_block 2 (some (.array .byte)) ∈ WS := ws_t2 (i := 46) (by decide +kernel) (by decide +kernel)
theorem ml_Y_24 : Cond.methodLink R_Y 24 y_K_bytesOf ∈ WS := ws_t2 (i := 47) (by decide +kernel) (by decide +kernel)
theorem ml_L_87 : Cond.methodLink R_L 87 y_L_put ∈ WS := ws_t2 (i := 48) (by decide +kernel) (by decide +kernel)
theorem st_L_put : Cond.static y_L_put ∈ WS := ws_t2 (i := 49) (by decide +kernel) (by decide +kernel)
theorem cd_L_put : Cond.codeWith y_L_put b_L_put 6 (some .int) [(0, 12, 15, 13), (0, 12, 19, 22)] ∈ WS := ws_t2 (i := 50) (by decide +kernel) (by decide +kernel)
theorem ml_L_24 : Cond.methodLink R_L 24 y_S_put ∈ WS := ws_t2 (i := 51) (by decide +kernel) (by decide +kernel)
theorem im_S_put : Cond.instanceMethod y_S_put ∈ WS := ws_t2 (i := 52) (by decide +kernel) (by decide +kernel)
theorem se_S_put : Cond.selects R_S y_S_put y_S_put ∈ WS := ws_t2 (i := 53) (by decide +kernel) (by decide +kernel)
theorem cd_S_put : Cond.code y_S_put b_S_put 6 (some .int) ∈ WS := ws_t2 (i := 54) (by decide +kernel) (by decide +kernel)
theorem ml_S_88 : Cond.methodLink R_S 88 y_S_bytesToChange ∈ WS := ws_t2 (i := 55) (by decide +kernel) (by decide +kernel)
theorem se_S_bytesToChange : Cond.selects R_S y_S_bytesToChange y_S_bytesToChange ∈ WS := by decide +kernel
theorem im_S_bytesToChange : Cond.instanceMethod y_S_bytesToChange ∈ WS := ws_t2 (i := 57) (by decide +kernel) (by decide +kernel)
theorem cd_S_bytesToChange : Cond.code y_S_bytesToChange b_S_bytesToChange 4 (some (.array .byte)) ∈ WS := ws_t2 (i := 58) (by decide +kernel) (by decide +kernel)
theorem ml_S_97 : Cond.methodLink R_S 97 ⟨"java/lang/System", "arraycopy", "(Ljava/lang/Object;ILjava/lang/Object;II)V"⟩ ∈ WS := ws_t2 (i := 59) (by decide +kernel) (by decide +kernel)
theorem ml_L_91 : Cond.methodLink R_L 91 y_L_move ∈ WS := ws_t2 (i := 62) (by decide +kernel) (by decide +kernel)
theorem st_L_move : Cond.static y_L_move ∈ WS := ws_t2 (i := 63) (by decide +kernel) (by decide +kernel)
theorem cd_L_move : Cond.codeWith y_L_move b_L_move 7 (some .int) [(0, 11, 14, 13), (0, 11, 18, 22)] ∈ WS := ws_t2 (i := 64) (by decide +kernel) (by decide +kernel)
theorem ml_L_28 : Cond.methodLink R_L 28 y_S_move ∈ WS := ws_t2 (i := 65) (by decide +kernel) (by decide +kernel)
theorem im_S_move : Cond.instanceMethod y_S_move ∈ WS := ws_t2 (i := 66) (by decide +kernel) (by decide +kernel)
theorem se_S_move : Cond.selects R_S y_S_move y_S_move ∈ WS := ws_t2 (i := 67) (by decide +kernel) (by decide +kernel)
theorem cd_S_move : Cond.code y_S_move b_S_move 7 (.none : Option Jvm.ClassFile.FieldType) ∈ WS := ws_t2 (i := 68) (by decide +kernel) (by decide +kernel)
theorem ml_S_94 : Cond.methodLink R_S 94 y_S_requireSpan ∈ WS := ws_t2 (i := 69) (by decide +kernel) (by decide +kernel)
theorem se_S_requireSpan : Cond.selects R_S y_S_requireSpan y_S_requireSpan ∈ WS := by decide +kernel
theorem im_S_requireSpan : Cond.instanceMethod y_S_requireSpan ∈ WS := ws_t2 (i := 71) (by decide +kernel) (by decide +kernel)
theorem cd_S_requireSpan : Cond.code y_S_requireSpan b_S_requireSpan 3 (.none : Option Jvm.ClassFile.FieldType) ∈ WS := ws_t2 (i := 72) (by decide +kernel) (by decide +kernel)
theorem ml_L_95 : Cond.methodLink R_L 95 y_L_sum ∈ WS := ws_t2 (i := 74) (by decide +kernel) (by decide +kernel)
theorem st_L_sum : Cond.static y_L_sum ∈ WS := ws_t2 (i := 75) (by decide +kernel) (by decide +kernel)
theorem cd_L_sum : Cond.codeWith y_L_sum b_L_sum 4 (some .int) [(0, 8, 11, 13), (0, 8, 14, 22)] ∈ WS := ws_t2 (i := 76) (by decide +kernel) (by decide +kernel)
theorem ml_L_32 : Cond.methodLink R_L 32 y_S_sum ∈ WS := ws_t2 (i := 77) (by decide +kernel) (by decide +kernel)
theorem im_S_sum : Cond.instanceMethod y_S_sum ∈ WS := ws_t2 (i := 78) (by decide +kernel) (by decide +kernel)
theorem se_S_sum : Cond.selects R_S y_S_sum y_S_sum ∈ WS := ws_t2 (i := 79) (by decide +kernel) (by decide +kernel)
theorem cd_S_sum : Cond.code y_S_sum b_S_sum 6 (some .long) ∈ WS := ws_t2 (i := 80) (by decide +kernel) (by decide +kernel)
theorem co_S_103 : Cond.constantLong R_S 103 (7) ∈ WS := ws_t2 (i := 81) (by decide +kernel) (by decide +kernel)
theorem co_S_105 : Cond.constantLong R_S 105 (31) ∈ WS := ws_t2 (i := 82) (by decide +kernel) (by decide +kernel)
theorem ml_L_99 : Cond.methodLink R_L 99 y_L_begin ∈ WS := ws_t2 (i := 83) (by decide +kernel) (by decide +kernel)
theorem st_L_begin : Cond.static y_L_begin ∈ WS := ws_t2 (i := 84) (by decide +kernel) (by decide +kernel)
theorem cd_L_begin : Cond.codeWith y_L_begin b_L_begin 2 (some .int) [(0, 4, 7, 13)] ∈ WS := ws_t2 (i := 85) (by decide +kernel) (by decide +kernel)
theorem ml_L_36 : Cond.methodLink R_L 36 y_S_begin ∈ WS := ws_t2 (i := 86) (by decide +kernel) (by decide +kernel)
theorem im_S_begin : Cond.instanceMethod y_S_begin ∈ WS := ws_t2 (i := 87) (by decide +kernel) (by decide +kernel)
theorem se_S_begin : Cond.selects R_S y_S_begin y_S_begin ∈ WS := ws_t2 (i := 88) (by decide +kernel) (by decide +kernel)
theorem cd_S_begin : Cond.code y_S_begin b_S_begin 1 (.none : Option Jvm.ClassFile.FieldType) ∈ WS := ws_t2 (i := 89) (by decide +kernel) (by decide +kernel)
theorem ml_L_103 : Cond.methodLink R_L 103 y_L_commit ∈ WS := ws_t2 (i := 91) (by decide +kernel) (by decide +kernel)
theorem st_L_commit : Cond.static y_L_commit ∈ WS := ws_t2 (i := 92) (by decide +kernel) (by decide +kernel)
theorem cd_L_commit : Cond.codeWith y_L_commit b_L_commit 2 (some .int) [(0, 4, 7, 13), (0, 4, 10, 42)] ∈ WS := ws_t2 (i := 93) (by decide +kernel) (by decide +kernel)
theorem cl_L_42 : Cond.classLink R_L 42 "java/lang/ArithmeticException" ∈ WS := ws_t2 (i := 94) (by decide +kernel) (by decide +kernel)
theorem ml_L_39 : Cond.methodLink R_L 39 y_S_commit ∈ WS := ws_t2 (i := 95) (by decide +kernel) (by decide +kernel)
theorem im_S_commit : Cond.instanceMethod y_S_commit ∈ WS := ws_t2 (i := 96) (by decide +kernel) (by decide +kernel)
theorem se_S_commit : Cond.selects R_S y_S_commit y_S_commit ∈ WS := ws_t2 (i := 97) (by decide +kernel) (by decide +kernel)
theorem cd_S_commit : Cond.code y_S_commit b_S_commit 2 (.none : Option Jvm.ClassFile.FieldType) ∈ WS := ws_t2 (i := 98) (by decide +kernel) (by decide +kernel)
theorem ml_S_109 : Cond.methodLink R_S 109 y_S_foldMarks ∈ WS := ws_t2 (i := 99) (by decide +kernel) (by decide +kernel)
theorem se_S_foldMarks : Cond.selects R_S y_S_foldMarks y_S_foldMarks ∈ WS := by decide +kernel
theorem im_S_foldMarks : Cond.instanceMethod y_S_foldMarks ∈ WS := ws_t2 (i := 101) (by decide +kernel) (by decide +kernel)
theorem cd_S_foldMarks : Cond.code y_S_foldMarks b_S_foldMarks 3 (.none : Option Jvm.ClassFile.FieldType) ∈ WS := ws_t2 (i := 102) (by decide +kernel) (by decide +kernel)
theorem ml_S_191 : Cond.methodLink R_S 191 y_Z_takeOver ∈ WS := ws_t2 (i := 103) (by decide +kernel) (by decide +kernel)
theorem im_Z_takeOver : Cond.instanceMethod y_Z_takeOver ∈ WS := ws_t2 (i := 104) (by decide +kernel) (by decide +kernel)
theorem se_Z_takeOver : Cond.selects R_Z y_Z_takeOver y_Z_takeOver ∈ WS := ws_t2 (i := 105) (by decide +kernel) (by decide +kernel)
theorem cd_Z_takeOver : Cond.code y_Z_takeOver b_Z_takeOver 3 (.none : Option Jvm.ClassFile.FieldType) ∈ WS := ws_t2 (i := 106) (by decide +kernel) (by decide +kernel)
theorem ml_Z_32 : Cond.methodLink R_Z 32 y_K_swap ∈ WS := ws_t2 (i := 107) (by decide +kernel) (by decide +kernel)
theorem im_K_swap : Cond.instanceMethod y_K_swap ∈ WS := ws_t2 (i := 108) (by decide +kernel) (by decide +kernel)
theorem se_K_swap : Cond.selects R_K y_K_swap y_K_swap ∈ WS := ws_t2 (i := 109) (by decide +kernel) (by decide +kernel)
theorem cd_K_swap : Cond.code y_K_swap b_K_swap 4 (.none : Option Jvm.ClassFile.FieldType) ∈ WS := ws_t2 (i := 110) (by decide +kernel) (by decide +kernel)
theorem ml_S_112 : Cond.methodLink R_S 112 y_S_writeJournal ∈ WS := ws_t2 (i := 111) (by decide +kernel) (by decide +kernel)
theorem se_S_writeJournal : Cond.selects R_S y_S_writeJournal y_S_writeJournal ∈ WS := by decide +kernel
theorem im_S_writeJournal : Cond.instanceMethod y_S_writeJournal ∈ WS := ws_t2 (i := 113) (by decide +kernel) (by decide +kernel)
theorem cd_S_writeJournal : Cond.code y_S_writeJournal b_S_writeJournal 4 (some .boolean) ∈ WS := ws_t2 (i := 114) (by decide +kernel) (by decide +kernel)
theorem ml_S_209 : Cond.methodLink R_S 209 y_Z_holdsAny ∈ WS := ws_t2 (i := 115) (by decide +kernel) (by decide +kernel)
theorem im_Z_holdsAny : Cond.instanceMethod y_Z_holdsAny ∈ WS := ws_t2 (i := 116) (by decide +kernel) (by decide +kernel)
theorem se_Z_holdsAny : Cond.selects R_Z y_Z_holdsAny y_Z_holdsAny ∈ WS := ws_t2 (i := 117) (by decide +kernel) (by decide +kernel)
theorem cd_Z_holdsAny : Cond.code y_Z_holdsAny b_Z_holdsAny 3 (some .boolean) ∈ WS := ws_t2 (i := 118) (by decide +kernel) (by decide +kernel)
theorem ml_S_195 : Cond.methodLink R_S 195 y_S_pagesInFile ∈ WS := ws_t2 (i := 119) (by decide +kernel) (by decide +kernel)
theorem se_S_pagesInFile : Cond.selects R_S y_S_pagesInFile y_S_pagesInFile ∈ WS := by decide +kernel
theorem im_S_pagesInFile : Cond.instanceMethod y_S_pagesInFile ∈ WS := ws_t2 (i := 121) (by decide +kernel) (by decide +kernel)
theorem cd_S_pagesInFile : Cond.code y_S_pagesInFile b_S_pagesInFile 1 (some .int) ∈ WS := ws_t2 (i := 122) (by decide +kernel) (by decide +kernel)
theorem ml_S_206 : Cond.methodLink R_S 206 y_Y_length ∈ WS := ws_t2 (i := 123) (by decide +kernel) (by decide +kernel)
theorem im_Y_length : Cond.instanceMethod y_Y_length ∈ WS := ws_t2 (i := 124) (by decide +kernel) (by decide +kernel)
theorem se_Y_length : Cond.selects R_Y y_Y_length y_Y_length ∈ WS := ws_t2 (i := 125) (by decide +kernel) (by decide +kernel)
theorem cd_Y_length : Cond.code y_Y_length b_Y_length 1 (some .int) ∈ WS := ws_t2 (i := 126) (by decide +kernel) (by decide +kernel)
theorem ml_S_212 : Cond.methodLink R_S 212 y_S_setNumber ∈ WS := ws_t2 (i := 127) (by decide +kernel) (by decide +kernel)
theorem se_S_setNumber : Cond.selects R_S y_S_setNumber y_S_setNumber ∈ WS := by decide +kernel
theorem im_S_setNumber : Cond.instanceMethod y_S_setNumber ∈ WS := ws_t2 (i := 129) (by decide +kernel) (by decide +kernel)
theorem cd_S_setNumber : Cond.code y_S_setNumber b_S_setNumber 3 (.none : Option Jvm.ClassFile.FieldType) ∈ WS := ws_t2 (i := 130) (by decide +kernel) (by decide +kernel)
theorem ml_S_215 : Cond.methodLink R_S 215 y_S_write ∈ WS := ws_t2 (i := 131) (by decide +kernel) (by decide +kernel)
theorem se_S_write : Cond.selects R_S y_S_write y_S_write ∈ WS := by decide +kernel
theorem im_S_write : Cond.instanceMethod y_S_write ∈ WS := ws_t2 (i := 133) (by decide +kernel) (by decide +kernel)
theorem cd_S_write : Cond.code y_S_write b_S_write 6 (some .boolean) ∈ WS := ws_t2 (i := 134) (by decide +kernel) (by decide +kernel)
theorem ml_S_227 : Cond.methodLink R_S 227 y_U_bytesThrough ∈ WS := ws_t2 (i := 135) (by decide +kernel) (by decide +kernel)
theorem im_U_bytesThrough : Cond.instanceMethod y_U_bytesThrough ∈ WS := ws_t2 (i := 136) (by decide +kernel) (by decide +kernel)
theorem se_U_bytesThrough : Cond.selects R_U y_U_bytesThrough y_U_bytesThrough ∈ WS := ws_t2 (i := 137) (by decide +kernel) (by decide +kernel)
theorem cd_U_bytesThrough : Cond.code y_U_bytesThrough b_U_bytesThrough 3 (some .int) ∈ WS := ws_t2 (i := 138) (by decide +kernel) (by decide +kernel)
theorem ml_U_29 : Cond.methodLink R_U 29 ⟨"java/lang/Math", "min", "(II)I"⟩ ∈ WS := ws_t2 (i := 139) (by decide +kernel) (by decide +kernel)
theorem ml_S_231 : Cond.methodLink R_S 231 y_Y_write ∈ WS := ws_t2 (i := 142) (by decide +kernel) (by decide +kernel)
theorem im_Y_write : Cond.instanceMethod y_Y_write ∈ WS := ws_t2 (i := 143) (by decide +kernel) (by decide +kernel)
theorem se_Y_write : Cond.selects R_Y y_Y_write y_Y_write ∈ WS := ws_t2 (i := 144) (by decide +kernel) (by decide +kernel)
theorem cd_Y_write : Cond.code y_Y_write b_Y_write 5 (.none : Option Jvm.ClassFile.FieldType) ∈ WS := ws_t2 (i := 145) (by decide +kernel) (by decide +kernel)
theorem ml_Y_28 : Cond.methodLink R_Y 28 ⟨"java/lang/Math", "max", "(II)I"⟩ ∈ WS := ws_t2 (i := 146) (by decide +kernel) (by decide +kernel)
theorem ml_S_233 : Cond.methodLink R_S 233 y_U_blown ∈ WS := ws_t2 (i := 149) (by decide +kernel) (by decide +kernel)
theorem im_U_blown : Cond.instanceMethod y_U_blown ∈ WS := ws_t2 (i := 150) (by decide +kernel) (by decide +kernel)
theorem se_U_blown : Cond.selects R_U y_U_blown y_U_blown ∈ WS := ws_t2 (i := 151) (by decide +kernel) (by decide +kernel)
theorem cd_U_blown : Cond.code y_U_blown b_U_blown 1 (some .boolean) ∈ WS := ws_t2 (i := 152) (by decide +kernel) (by decide +kernel)
theorem ml_S_116 : Cond.methodLink R_S 116 y_S_writeFile ∈ WS := ws_t2 (i := 153) (by decide +kernel) (by decide +kernel)
theorem se_S_writeFile : Cond.selects R_S y_S_writeFile y_S_writeFile ∈ WS := by decide +kernel
theorem im_S_writeFile : Cond.instanceMethod y_S_writeFile ∈ WS := ws_t2 (i := 155) (by decide +kernel) (by decide +kernel)
theorem cd_S_writeFile : Cond.code y_S_writeFile b_S_writeFile 3 (some .boolean) ∈ WS := ws_t2 (i := 156) (by decide +kernel) (by decide +kernel)
theorem ml_S_119 : Cond.methodLink R_S 119 y_U_blowsBeforeEmptying ∈ WS := ws_t2 (i := 157) (by decide +kernel) (by decide +kernel)
theorem im_U_blowsBeforeEmptying : Cond.instanceMethod y_U_blowsBeforeEmptying ∈ WS := ws_t2 (i := 158) (by decide +kernel) (by decide +kernel)
theorem se_U_blowsBeforeEmptying : Cond.selects R_U y_U_blowsBeforeEmptying y_U_blowsBeforeEmptying ∈ WS := ws_t2 (i := 159) (by decide +kernel) (by decide +kernel)
theorem cd_U_blowsBeforeEmptying : Cond.code y_U_blowsBeforeEmptying b_U_blowsBeforeEmptying 1 (some .boolean) ∈ WS := ws_t2 (i := 160) (by decide +kernel) (by decide +kernel)
theorem ml_S_122 : Cond.methodLink R_S 122 y_Y_cutTo ∈ WS := ws_t2 (i := 161) (by decide +kernel) (by decide +kernel)
theorem im_Y_cutTo : Cond.instanceMethod y_Y_cutTo ∈ WS := ws_t2 (i := 162) (by decide +kernel) (by decide +kernel)
theorem se_Y_cutTo : Cond.selects R_Y y_Y_cutTo y_Y_cutTo ∈ WS := ws_t2 (i := 163) (by decide +kernel) (by decide +kernel)
theorem cd_Y_cutTo : Cond.code y_Y_cutTo b_Y_cutTo 2 (.none : Option Jvm.ClassFile.FieldType) ∈ WS := ws_t2 (i := 164) (by decide +kernel) (by decide +kernel)
theorem ml_Y_34 : Cond.methodLink R_Y 34 ⟨"java/lang/Math", "min", "(II)I"⟩ ∈ WS := ws_t2 (i := 165) (by decide +kernel) (by decide +kernel)
theorem ml_S_125 : Cond.methodLink R_S 125 y_U_blowsBehindEmptying ∈ WS := ws_t2 (i := 166) (by decide +kernel) (by decide +kernel)
theorem im_U_blowsBehindEmptying : Cond.instanceMethod y_U_blowsBehindEmptying ∈ WS := ws_t2 (i := 167) (by decide +kernel) (by decide +kernel)
theorem se_U_blowsBehindEmptying : Cond.selects R_U y_U_blowsBehindEmptying y_U_blowsBehindEmptying ∈ WS := ws_t2 (i := 168) (by decide +kernel) (by decide +kernel)
theorem cd_U_blowsBehindEmptying : Cond.code y_U_blowsBehindEmptying b_U_blowsBehindEmptying 1 (some .boolean) ∈ WS := ws_t2 (i := 169) (by decide +kernel) (by decide +kernel)
theorem ml_S_128 : Cond.methodLink R_S 128 y_S_settle ∈ WS := ws_t2 (i := 170) (by decide +kernel) (by decide +kernel)
theorem se_S_settle : Cond.selects R_S y_S_settle y_S_settle ∈ WS := by decide +kernel
theorem im_S_settle : Cond.instanceMethod y_S_settle ∈ WS := ws_t2 (i := 172) (by decide +kernel) (by decide +kernel)
theorem cd_S_settle : Cond.code y_S_settle b_S_settle 2 (.none : Option Jvm.ClassFile.FieldType) ∈ WS := ws_t2 (i := 173) (by decide +kernel) (by decide +kernel)
theorem ml_S_198 : Cond.methodLink R_S 198 y_U_forget ∈ WS := ws_t2 (i := 174) (by decide +kernel) (by decide +kernel)
theorem im_U_forget : Cond.instanceMethod y_U_forget ∈ WS := ws_t2 (i := 175) (by decide +kernel) (by decide +kernel)
theorem se_U_forget : Cond.selects R_U y_U_forget y_U_forget ∈ WS := ws_t2 (i := 176) (by decide +kernel) (by decide +kernel)
theorem cd_U_forget : Cond.code y_U_forget b_U_forget 1 (.none : Option Jvm.ClassFile.FieldType) ∈ WS := ws_t2 (i := 177) (by decide +kernel) (by decide +kernel)
theorem ml_U_25 : Cond.methodLink R_U 25 y_U_set ∈ WS := ws_t2 (i := 178) (by decide +kernel) (by decide +kernel)
theorem im_U_set : Cond.instanceMethod y_U_set ∈ WS := ws_t2 (i := 179) (by decide +kernel) (by decide +kernel)
theorem se_U_set : Cond.selects R_U y_U_set y_U_set ∈ WS := ws_t2 (i := 180) (by decide +kernel) (by decide +kernel)
theorem cd_U_set : Cond.code y_U_set b_U_set 4 (.none : Option Jvm.ClassFile.FieldType) ∈ WS := ws_t2 (i := 181) (by decide +kernel) (by decide +kernel)
theorem ml_S_132 : Cond.methodLink R_S 132 y_S_endTransaction ∈ WS := ws_t2 (i := 182) (by decide +kernel) (by decide +kernel)
theorem se_S_endTransaction : Cond.selects R_S y_S_endTransaction y_S_endTransaction ∈ WS := by decide +kernel
theorem im_S_endTransaction : Cond.instanceMethod y_S_endTransaction ∈ WS := ws_t2 (i := 184) (by decide +kernel) (by decide +kernel)
theorem cd_S_endTransaction : Cond.code y_S_endTransaction b_S_endTransaction 1 (.none : Option Jvm.ClassFile.FieldType) ∈ WS := ws_t2 (i := 185) (by decide +kernel) (by decide +kernel)
theorem ml_S_137 : Cond.methodLink R_S 137 y_Z_lay ∈ WS := ws_t2 (i := 186) (by decide +kernel) (by decide +kernel)
theorem im_Z_lay : Cond.instanceMethod y_Z_lay ∈ WS := ws_t2 (i := 187) (by decide +kernel) (by decide +kernel)
theorem se_Z_lay : Cond.selects R_Z y_Z_lay y_Z_lay ∈ WS := ws_t2 (i := 188) (by decide +kernel) (by decide +kernel)
theorem cd_Z_lay : Cond.code y_Z_lay b_Z_lay 3 (.none : Option Jvm.ClassFile.FieldType) ∈ WS := ws_t2 (i := 189) (by decide +kernel) (by decide +kernel)
theorem cl_S_201 : Cond.classLink R_S 201 "java/lang/ArithmeticException" ∈ WS := ws_t2 (i := 190) (by decide +kernel) (by decide +kernel)
theorem ib_ArithmeticException : Cond.instantiable "java/lang/ArithmeticException" 6 ∈ WS := ws_t2 (i := 191) (by decide +kernel) (by decide +kernel)
theorem ml_S_205 : Cond.methodLink R_S 205 ⟨"java/lang/ArithmeticException", "<init>", "(Ljava/lang/String;)V"⟩ ∈ WS := ws_t2 (i := 200) (by decide +kernel) (by decide +kernel)
theorem ml_L_106 : Cond.methodLink R_L 106 y_L_rollback ∈ WS := ws_t2 (i := 206) (by decide +kernel) (by decide +kernel)
theorem st_L_rollback : Cond.static y_L_rollback ∈ WS := ws_t2 (i := 207) (by decide +kernel) (by decide +kernel)
theorem cd_L_rollback : Cond.codeWith y_L_rollback b_L_rollback 2 (some .int) [(0, 4, 7, 13)] ∈ WS := ws_t2 (i := 208) (by decide +kernel) (by decide +kernel)
theorem ml_L_44 : Cond.methodLink R_L 44 y_S_rollback ∈ WS := ws_t2 (i := 209) (by decide +kernel) (by decide +kernel)
theorem im_S_rollback : Cond.instanceMethod y_S_rollback ∈ WS := ws_t2 (i := 210) (by decide +kernel) (by decide +kernel)
theorem se_S_rollback : Cond.selects R_S y_S_rollback y_S_rollback ∈ WS := ws_t2 (i := 211) (by decide +kernel) (by decide +kernel)
theorem cd_S_rollback : Cond.code y_S_rollback b_S_rollback 1 (.none : Option Jvm.ClassFile.FieldType) ∈ WS := ws_t2 (i := 212) (by decide +kernel) (by decide +kernel)
theorem ml_L_109 : Cond.methodLink R_L 109 y_L_mark ∈ WS := ws_t2 (i := 213) (by decide +kernel) (by decide +kernel)
theorem st_L_mark : Cond.static y_L_mark ∈ WS := ws_t2 (i := 214) (by decide +kernel) (by decide +kernel)
theorem cd_L_mark : Cond.codeWith y_L_mark b_L_mark 3 (some .int) [(0, 8, 11, 13)] ∈ WS := ws_t2 (i := 215) (by decide +kernel) (by decide +kernel)
theorem ml_L_47 : Cond.methodLink R_L 47 y_S_mark ∈ WS := ws_t2 (i := 216) (by decide +kernel) (by decide +kernel)
theorem im_S_mark : Cond.instanceMethod y_S_mark ∈ WS := ws_t2 (i := 217) (by decide +kernel) (by decide +kernel)
theorem se_S_mark : Cond.selects R_S y_S_mark y_S_mark ∈ WS := ws_t2 (i := 218) (by decide +kernel) (by decide +kernel)
theorem cd_S_mark : Cond.code y_S_mark b_S_mark 1 (some .int) ∈ WS := ws_t2 (i := 219) (by decide +kernel) (by decide +kernel)
theorem ml_L_112 : Cond.methodLink R_L 112 y_L_back ∈ WS := ws_t2 (i := 221) (by decide +kernel) (by decide +kernel)
theorem st_L_back : Cond.static y_L_back ∈ WS := ws_t2 (i := 222) (by decide +kernel) (by decide +kernel)
theorem cd_L_back : Cond.codeWith y_L_back b_L_back 3 (some .int) [(0, 5, 8, 13), (0, 5, 11, 22)] ∈ WS := ws_t2 (i := 223) (by decide +kernel) (by decide +kernel)
theorem ml_L_50 : Cond.methodLink R_L 50 y_S_back ∈ WS := ws_t2 (i := 224) (by decide +kernel) (by decide +kernel)
theorem im_S_back : Cond.instanceMethod y_S_back ∈ WS := ws_t2 (i := 225) (by decide +kernel) (by decide +kernel)
theorem se_S_back : Cond.selects R_S y_S_back y_S_back ∈ WS := ws_t2 (i := 226) (by decide +kernel) (by decide +kernel)
theorem cd_S_back : Cond.code y_S_back b_S_back 2 (.none : Option Jvm.ClassFile.FieldType) ∈ WS := ws_t2 (i := 227) (by decide +kernel) (by decide +kernel)
theorem ml_S_140 : Cond.methodLink R_S 140 y_S_requireMark ∈ WS := ws_t2 (i := 228) (by decide +kernel) (by decide +kernel)
theorem se_S_requireMark : Cond.selects R_S y_S_requireMark y_S_requireMark ∈ WS := by decide +kernel
theorem im_S_requireMark : Cond.instanceMethod y_S_requireMark ∈ WS := ws_t2 (i := 230) (by decide +kernel) (by decide +kernel)
theorem cd_S_requireMark : Cond.code y_S_requireMark b_S_requireMark 2 (.none : Option Jvm.ClassFile.FieldType) ∈ WS := ws_t2 (i := 231) (by decide +kernel) (by decide +kernel)
theorem ml_S_143 : Cond.methodLink R_S 143 y_Z_pagesBelow ∈ WS := ws_t2 (i := 233) (by decide +kernel) (by decide +kernel)
theorem im_Z_pagesBelow : Cond.instanceMethod y_Z_pagesBelow ∈ WS := ws_t2 (i := 234) (by decide +kernel) (by decide +kernel)
theorem se_Z_pagesBelow : Cond.selects R_Z y_Z_pagesBelow y_Z_pagesBelow ∈ WS := ws_t2 (i := 235) (by decide +kernel) (by decide +kernel)
theorem cd_Z_pagesBelow : Cond.code y_Z_pagesBelow b_Z_pagesBelow 1 (some .int) ∈ WS := ws_t2 (i := 236) (by decide +kernel) (by decide +kernel)
theorem ml_L_116 : Cond.methodLink R_L 116 y_L_keep ∈ WS := ws_t2 (i := 237) (by decide +kernel) (by decide +kernel)
theorem st_L_keep : Cond.static y_L_keep ∈ WS := ws_t2 (i := 238) (by decide +kernel) (by decide +kernel)
theorem cd_L_keep : Cond.codeWith y_L_keep b_L_keep 3 (some .int) [(0, 5, 8, 13), (0, 5, 11, 22)] ∈ WS := ws_t2 (i := 239) (by decide +kernel) (by decide +kernel)
theorem ml_L_54 : Cond.methodLink R_L 54 y_S_keep ∈ WS := ws_t3 (i := 0) (by decide +kernel) (by decide +kernel)
theorem im_S_keep : Cond.instanceMethod y_S_keep ∈ WS := ws_t3 (i := 1) (by decide +kernel) (by decide +kernel)
theorem se_S_keep : Cond.selects R_S y_S_keep y_S_keep ∈ WS := ws_t3 (i := 2) (by decide +kernel) (by decide +kernel)
theorem cd_S_keep : Cond.code y_S_keep b_S_keep 2 (.none : Option Jvm.ClassFile.FieldType) ∈ WS := ws_t3 (i := 3) (by decide +kernel) (by decide +kernel)
theorem ml_L_119 : Cond.methodLink R_L 119 y_L_power ∈ WS := ws_t3 (i := 4) (by decide +kernel) (by decide +kernel)
theorem st_L_power : Cond.static y_L_power ∈ WS := ws_t3 (i := 5) (by decide +kernel) (by decide +kernel)
theorem cd_L_power : Cond.codeWith y_L_power b_L_power 5 (some .int) [(0, 7, 10, 61)] ∈ WS := ws_t3 (i := 6) (by decide +kernel) (by decide +kernel)
theorem cl_L_61 : Cond.classLink R_L 61 "java/lang/IllegalArgumentException" ∈ WS := ws_t3 (i := 7) (by decide +kernel) (by decide +kernel)
theorem ml_L_57 : Cond.methodLink R_L 57 y_S_power ∈ WS := ws_t3 (i := 8) (by decide +kernel) (by decide +kernel)
theorem im_S_power : Cond.instanceMethod y_S_power ∈ WS := ws_t3 (i := 9) (by decide +kernel) (by decide +kernel)
theorem se_S_power : Cond.selects R_S y_S_power y_S_power ∈ WS := ws_t3 (i := 10) (by decide +kernel) (by decide +kernel)
theorem cd_S_power : Cond.code y_S_power b_S_power 4 (.none : Option Jvm.ClassFile.FieldType) ∈ WS := ws_t3 (i := 11) (by decide +kernel) (by decide +kernel)
theorem cl_S_147 : Cond.classLink R_S 147 "java/lang/IllegalArgumentException" ∈ WS := ws_t3 (i := 12) (by decide +kernel) (by decide +kernel)
theorem ib_IllegalArgumentException : Cond.instantiable "java/lang/IllegalArgumentException" 6 ∈ WS := ws_t3 (i := 13) (by decide +kernel) (by decide +kernel)
theorem ml_S_151 : Cond.methodLink R_S 151 ⟨"java/lang/IllegalArgumentException", "<init>", "(Ljava/lang/String;)V"⟩ ∈ WS := ws_t3 (i := 22) (by decide +kernel) (by decide +kernel)
theorem ml_S_156 : Cond.methodLink R_S 156 y_U_set ∈ WS := ws_t3 (i := 30) (by decide +kernel) (by decide +kernel)
theorem ml_L_126 : Cond.methodLink R_L 126 y_L_reopen ∈ WS := ws_t3 (i := 31) (by decide +kernel) (by decide +kernel)
theorem st_L_reopen : Cond.static y_L_reopen ∈ WS := ws_t3 (i := 32) (by decide +kernel) (by decide +kernel)
theorem cd_L_reopen : Cond.codeWith y_L_reopen b_L_reopen 3 (some .int) [(0, 8, 11, 42)] ∈ WS := ws_t3 (i := 33) (by decide +kernel) (by decide +kernel)
theorem ml_L_63 : Cond.methodLink R_L 63 y_S_reopen ∈ WS := ws_t3 (i := 34) (by decide +kernel) (by decide +kernel)
theorem im_S_reopen : Cond.instanceMethod y_S_reopen ∈ WS := ws_t3 (i := 35) (by decide +kernel) (by decide +kernel)
theorem se_S_reopen : Cond.selects R_S y_S_reopen y_S_reopen ∈ WS := ws_t3 (i := 36) (by decide +kernel) (by decide +kernel)
theorem cd_S_reopen : Cond.code y_S_reopen b_S_reopen 2 (some .int) ∈ WS := ws_t3 (i := 37) (by decide +kernel) (by decide +kernel)
theorem ml_S_160 : Cond.methodLink R_S 160 y_S_undo ∈ WS := ws_t3 (i := 38) (by decide +kernel) (by decide +kernel)
theorem se_S_undo : Cond.selects R_S y_S_undo y_S_undo ∈ WS := by decide +kernel
theorem im_S_undo : Cond.instanceMethod y_S_undo ∈ WS := ws_t3 (i := 40) (by decide +kernel) (by decide +kernel)
theorem cd_S_undo : Cond.code y_S_undo b_S_undo 7 (some .boolean) ∈ WS := ws_t3 (i := 41) (by decide +kernel) (by decide +kernel)
theorem ml_S_219 : Cond.methodLink R_S 219 y_S_journalNumber ∈ WS := ws_t3 (i := 42) (by decide +kernel) (by decide +kernel)
theorem se_S_journalNumber : Cond.selects R_S y_S_journalNumber y_S_journalNumber ∈ WS := by decide +kernel
theorem im_S_journalNumber : Cond.instanceMethod y_S_journalNumber ∈ WS := ws_t3 (i := 44) (by decide +kernel) (by decide +kernel)
theorem cd_S_journalNumber : Cond.code y_S_journalNumber b_S_journalNumber 4 (some .int) ∈ WS := ws_t3 (i := 45) (by decide +kernel) (by decide +kernel)
theorem ml_S_223 : Cond.methodLink R_S 223 y_Y_read ∈ WS := ws_t3 (i := 46) (by decide +kernel) (by decide +kernel)
theorem im_Y_read : Cond.instanceMethod y_Y_read ∈ WS := ws_t3 (i := 47) (by decide +kernel) (by decide +kernel)
theorem se_Y_read : Cond.selects R_Y y_Y_read y_Y_read ∈ WS := ws_t3 (i := 48) (by decide +kernel) (by decide +kernel)
theorem cd_Y_read : Cond.code y_Y_read b_Y_read 5 (.none : Option Jvm.ClassFile.FieldType) ∈ WS := ws_t3 (i := 49) (by decide +kernel) (by decide +kernel)
theorem ml_S_163 : Cond.methodLink R_S 163 y_U_blowsInReopen ∈ WS := ws_t3 (i := 50) (by decide +kernel) (by decide +kernel)
theorem im_U_blowsInReopen : Cond.instanceMethod y_U_blowsInReopen ∈ WS := ws_t3 (i := 51) (by decide +kernel) (by decide +kernel)
theorem se_U_blowsInReopen : Cond.selects R_U y_U_blowsInReopen y_U_blowsInReopen ∈ WS := ws_t3 (i := 52) (by decide +kernel) (by decide +kernel)
theorem cd_U_blowsInReopen : Cond.code y_U_blowsInReopen b_U_blowsInReopen 1 (some .boolean) ∈ WS := ws_t3 (i := 53) (by decide +kernel) (by decide +kernel)
theorem ml_L_129 : Cond.methodLink R_L 129 y_L_told ∈ WS := ws_t3 (i := 54) (by decide +kernel) (by decide +kernel)
theorem st_L_told : Cond.static y_L_told ∈ WS := ws_t3 (i := 55) (by decide +kernel) (by decide +kernel)
theorem cd_L_told : Cond.codeWith y_L_told b_L_told 4 (some .int) [(0, 9, 12, 61)] ∈ WS := ws_t3 (i := 56) (by decide +kernel) (by decide +kernel)
theorem ml_L_66 : Cond.methodLink R_L 66 y_S_told ∈ WS := ws_t3 (i := 57) (by decide +kernel) (by decide +kernel)
theorem im_S_told : Cond.instanceMethod y_S_told ∈ WS := ws_t3 (i := 58) (by decide +kernel) (by decide +kernel)
theorem se_S_told : Cond.selects R_S y_S_told y_S_told ∈ WS := ws_t3 (i := 59) (by decide +kernel) (by decide +kernel)
theorem cd_S_told : Cond.code y_S_told b_S_told 2 (some .int) ∈ WS := ws_t3 (i := 60) (by decide +kernel) (by decide +kernel)
theorem cl_L_71 : Cond.classLink R_L 71 R_M ∈ WS := ws_t3 (i := 62) (by decide +kernel) (by decide +kernel)
theorem ib_M : Cond.instantiable R_M 17 ∈ WS := ws_t3 (i := 63) (by decide +kernel) (by decide +kernel)
theorem ml_L_73 : Cond.methodLink R_L 73 y_M_init ∈ WS := ws_t3 (i := 64) (by decide +kernel) (by decide +kernel)
theorem im_M_init : Cond.instanceMethod y_M_init ∈ WS := ws_t3 (i := 65) (by decide +kernel) (by decide +kernel)
theorem cd_M_init : Cond.code y_M_init b_M_init 1 (.none : Option Jvm.ClassFile.FieldType) ∈ WS := ws_t3 (i := 66) (by decide +kernel) (by decide +kernel)
theorem ml_M_1 : Cond.methodLink R_M 1 ⟨"java/lang/Object", "<init>", "()V"⟩ ∈ WS := ws_t3 (i := 67) (by decide +kernel) (by decide +kernel)
theorem co_M_7 : Cond.constant R_M 7 (1048832) ∈ WS := ws_t3 (i := 68) (by decide +kernel) (by decide +kernel)
theorem fl_M_8 : Cond.fieldLink R_M 8 "PageStoreModel" "bytes" "[B" ∈ WS := ws_t3 (i := 69) (by decide +kernel) (by decide +kernel)
theorem fl_M_14 : Cond.fieldLink R_M 14 "PageStoreModel" "stand" "[I" ∈ WS := ws_t3 (i := 70) (by decide +kernel) (by decide +kernel)
theorem fl_M_18 : Cond.fieldLink R_M 18 "PageStoreModel" "versions" "I" ∈ WS := ws_t3 (i := 71) (by decide +kernel) (by decide +kernel)
theorem fl_M_22 : Cond.fieldLink R_M 22 "PageStoreModel" "stands" "I" ∈ WS := ws_t3 (i := 72) (by decide +kernel) (by decide +kernel)
theorem fl_M_25 : Cond.fieldLink R_M 25 "PageStoreModel" "now" "[I" ∈ WS := ws_t3 (i := 73) (by decide +kernel) (by decide +kernel)
theorem fl_M_28 : Cond.fieldLink R_M 28 "PageStoreModel" "lasting" "[I" ∈ WS := ws_t3 (i := 74) (by decide +kernel) (by decide +kernel)
theorem fl_M_31 : Cond.fieldLink R_M 31 "PageStoreModel" "marked" "[I" ∈ WS := ws_t3 (i := 75) (by decide +kernel) (by decide +kernel)
theorem fl_M_34 : Cond.fieldLink R_M 34 "PageStoreModel" "markedMany" "[I" ∈ WS := ws_t3 (i := 76) (by decide +kernel) (by decide +kernel)
theorem fl_M_43 : Cond.fieldLink R_M 43 "PageStoreModel" "many" "I" ∈ WS := ws_t3 (i := 77) (by decide +kernel) (by decide +kernel)
theorem fl_M_80 : Cond.fieldLink R_M 80 "PageStoreModel" "lastingMany" "I" ∈ WS := ws_t3 (i := 78) (by decide +kernel) (by decide +kernel)
theorem fl_M_77 : Cond.fieldLink R_M 77 "PageStoreModel" "marks" "I" ∈ WS := ws_t3 (i := 79) (by decide +kernel) (by decide +kernel)
theorem fl_M_83 : Cond.fieldLink R_M 83 "PageStoreModel" "commits" "I" ∈ WS := ws_t3 (i := 80) (by decide +kernel) (by decide +kernel)
theorem fl_M_46 : Cond.fieldLink R_M 46 "PageStoreModel" "isOff" "Z" ∈ WS := ws_t3 (i := 81) (by decide +kernel) (by decide +kernel)
theorem fl_M_54 : Cond.fieldLink R_M 54 "PageStoreModel" "isOpen" "Z" ∈ WS := ws_t3 (i := 82) (by decide +kernel) (by decide +kernel)
theorem fl_M_37 : Cond.fieldLink R_M 37 "PageStoreModel" "when" "I" ∈ WS := ws_t3 (i := 83) (by decide +kernel) (by decide +kernel)
theorem fl_M_86 : Cond.fieldLink R_M 86 "PageStoreModel" "after" "I" ∈ WS := ws_t3 (i := 84) (by decide +kernel) (by decide +kernel)
theorem fl_M_40 : Cond.fieldLink R_M 40 "PageStoreModel" "thrown" "I" ∈ WS := ws_t3 (i := 85) (by decide +kernel) (by decide +kernel)
theorem ac_int : Cond.arrayClass .int ∈ WS := ws_t3 (i := 121) (by decide +kernel) (by decide +kernel)
theorem ml_L_123 : Cond.methodLink R_L 123 y_M_thrown ∈ WS := ws_t3 (i := 122) (by decide +kernel) (by decide +kernel)
theorem im_M_thrown : Cond.instanceMethod y_M_thrown ∈ WS := ws_t3 (i := 123) (by decide +kernel) (by decide +kernel)
theorem se_M_thrown : Cond.selects R_M y_M_thrown y_M_thrown ∈ WS := ws_t3 (i := 124) (by decide +kernel) (by decide +kernel)
theorem cd_M_thrown : Cond.code y_M_thrown b_M_thrown 1 (some .int) ∈ WS := ws_t3 (i := 125) (by decide +kernel) (by decide +kernel)
theorem ml_L_79 : Cond.methodLink R_L 79 y_M_pages ∈ WS := ws_t3 (i := 126) (by decide +kernel) (by decide +kernel)
theorem im_M_pages : Cond.instanceMethod y_M_pages ∈ WS := ws_t3 (i := 127) (by decide +kernel) (by decide +kernel)
theorem se_M_pages : Cond.selects R_M y_M_pages y_M_pages ∈ WS := ws_t3 (i := 128) (by decide +kernel) (by decide +kernel)
theorem cd_M_pages : Cond.code y_M_pages b_M_pages 1 (some .int) ∈ WS := ws_t3 (i := 129) (by decide +kernel) (by decide +kernel)
theorem ml_M_50 : Cond.methodLink R_M 50 y_M_fails ∈ WS := ws_t3 (i := 130) (by decide +kernel) (by decide +kernel)
theorem se_M_fails : Cond.selects R_M y_M_fails y_M_fails ∈ WS := by decide +kernel
theorem im_M_fails : Cond.instanceMethod y_M_fails ∈ WS := ws_t3 (i := 132) (by decide +kernel) (by decide +kernel)
theorem cd_M_fails : Cond.code y_M_fails b_M_fails 3 (some .boolean) ∈ WS := ws_t3 (i := 133) (by decide +kernel) (by decide +kernel)
theorem ml_L_82 : Cond.methodLink R_L 82 y_M_add ∈ WS := ws_t3 (i := 134) (by decide +kernel) (by decide +kernel)
theorem im_M_add : Cond.instanceMethod y_M_add ∈ WS := ws_t3 (i := 135) (by decide +kernel) (by decide +kernel)
theorem se_M_add : Cond.selects R_M y_M_add y_M_add ∈ WS := ws_t3 (i := 136) (by decide +kernel) (by decide +kernel)
theorem cd_M_add : Cond.code y_M_add b_M_add 1 (some .int) ∈ WS := ws_t3 (i := 137) (by decide +kernel) (by decide +kernel)
theorem ml_L_86 : Cond.methodLink R_L 86 y_M_get ∈ WS := ws_t3 (i := 138) (by decide +kernel) (by decide +kernel)
theorem im_M_get : Cond.instanceMethod y_M_get ∈ WS := ws_t3 (i := 139) (by decide +kernel) (by decide +kernel)
theorem se_M_get : Cond.selects R_M y_M_get y_M_get ∈ WS := ws_t3 (i := 140) (by decide +kernel) (by decide +kernel)
theorem cd_M_get : Cond.code y_M_get b_M_get 3 (some .int) ∈ WS := ws_t3 (i := 141) (by decide +kernel) (by decide +kernel)
theorem ml_M_57 : Cond.methodLink R_M 57 y_M_isPage ∈ WS := ws_t3 (i := 142) (by decide +kernel) (by decide +kernel)
theorem se_M_isPage : Cond.selects R_M y_M_isPage y_M_isPage ∈ WS := by decide +kernel
theorem im_M_isPage : Cond.instanceMethod y_M_isPage ∈ WS := ws_t3 (i := 144) (by decide +kernel) (by decide +kernel)
theorem cd_M_isPage : Cond.code y_M_isPage b_M_isPage 2 (some .boolean) ∈ WS := ws_t3 (i := 145) (by decide +kernel) (by decide +kernel)
theorem ml_M_61 : Cond.methodLink R_M 61 y_M_at ∈ WS := ws_t3 (i := 146) (by decide +kernel) (by decide +kernel)
theorem se_M_at : Cond.selects R_M y_M_at y_M_at ∈ WS := by decide +kernel
theorem im_M_at : Cond.instanceMethod y_M_at ∈ WS := ws_t3 (i := 148) (by decide +kernel) (by decide +kernel)
theorem cd_M_at : Cond.code y_M_at b_M_at 3 (some .int) ∈ WS := ws_t3 (i := 149) (by decide +kernel) (by decide +kernel)
theorem ml_L_90 : Cond.methodLink R_L 90 y_M_put ∈ WS := ws_t3 (i := 150) (by decide +kernel) (by decide +kernel)
theorem im_M_put : Cond.instanceMethod y_M_put ∈ WS := ws_t3 (i := 151) (by decide +kernel) (by decide +kernel)
theorem se_M_put : Cond.selects R_M y_M_put y_M_put ∈ WS := ws_t3 (i := 152) (by decide +kernel) (by decide +kernel)
theorem cd_M_put : Cond.code y_M_put b_M_put 5 (some .int) ∈ WS := ws_t3 (i := 153) (by decide +kernel) (by decide +kernel)
theorem ml_M_65 : Cond.methodLink R_M 65 y_M_own ∈ WS := ws_t3 (i := 154) (by decide +kernel) (by decide +kernel)
theorem se_M_own : Cond.selects R_M y_M_own y_M_own ∈ WS := by decide +kernel
theorem im_M_own : Cond.instanceMethod y_M_own ∈ WS := ws_t3 (i := 156) (by decide +kernel) (by decide +kernel)
theorem cd_M_own : Cond.code y_M_own b_M_own 4 (.none : Option Jvm.ClassFile.FieldType) ∈ WS := ws_t3 (i := 157) (by decide +kernel) (by decide +kernel)
theorem ml_L_94 : Cond.methodLink R_L 94 y_M_move ∈ WS := ws_t3 (i := 158) (by decide +kernel) (by decide +kernel)
theorem im_M_move : Cond.instanceMethod y_M_move ∈ WS := ws_t3 (i := 159) (by decide +kernel) (by decide +kernel)
theorem se_M_move : Cond.selects R_M y_M_move y_M_move ∈ WS := ws_t3 (i := 160) (by decide +kernel) (by decide +kernel)
theorem cd_M_move : Cond.code y_M_move b_M_move 8 (.none : Option Jvm.ClassFile.FieldType) ∈ WS := ws_t3 (i := 161) (by decide +kernel) (by decide +kernel)
theorem ml_M_69 : Cond.methodLink R_M 69 y_M_isPart ∈ WS := ws_t3 (i := 162) (by decide +kernel) (by decide +kernel)
theorem st_M_isPart : Cond.static y_M_isPart ∈ WS := ws_t3 (i := 163) (by decide +kernel) (by decide +kernel)
theorem cd_M_isPart : Cond.code y_M_isPart b_M_isPart 2 (some .boolean) ∈ WS := ws_t3 (i := 164) (by decide +kernel) (by decide +kernel)
theorem ml_L_98 : Cond.methodLink R_L 98 y_M_sum ∈ WS := ws_t3 (i := 165) (by decide +kernel) (by decide +kernel)
theorem im_M_sum : Cond.instanceMethod y_M_sum ∈ WS := ws_t3 (i := 166) (by decide +kernel) (by decide +kernel)
theorem se_M_sum : Cond.selects R_M y_M_sum y_M_sum ∈ WS := ws_t3 (i := 167) (by decide +kernel) (by decide +kernel)
theorem cd_M_sum : Cond.code y_M_sum b_M_sum 5 (some .long) ∈ WS := ws_t3 (i := 168) (by decide +kernel) (by decide +kernel)
theorem co_M_73 : Cond.constantLong R_M 73 (7) ∈ WS := ws_t3 (i := 169) (by decide +kernel) (by decide +kernel)
theorem co_M_75 : Cond.constantLong R_M 75 (31) ∈ WS := ws_t3 (i := 170) (by decide +kernel) (by decide +kernel)
theorem ml_L_102 : Cond.methodLink R_L 102 y_M_begin ∈ WS := ws_t3 (i := 171) (by decide +kernel) (by decide +kernel)
theorem im_M_begin : Cond.instanceMethod y_M_begin ∈ WS := ws_t3 (i := 172) (by decide +kernel) (by decide +kernel)
theorem se_M_begin : Cond.selects R_M y_M_begin y_M_begin ∈ WS := ws_t3 (i := 173) (by decide +kernel) (by decide +kernel)
theorem cd_M_begin : Cond.code y_M_begin b_M_begin 1 (.none : Option Jvm.ClassFile.FieldType) ∈ WS := ws_t3 (i := 174) (by decide +kernel) (by decide +kernel)
theorem ml_L_105 : Cond.methodLink R_L 105 y_M_commit ∈ WS := ws_t3 (i := 175) (by decide +kernel) (by decide +kernel)
theorem im_M_commit : Cond.instanceMethod y_M_commit ∈ WS := ws_t3 (i := 176) (by decide +kernel) (by decide +kernel)
theorem se_M_commit : Cond.selects R_M y_M_commit y_M_commit ∈ WS := ws_t3 (i := 177) (by decide +kernel) (by decide +kernel)
theorem cd_M_commit : Cond.code y_M_commit b_M_commit 2 (.none : Option Jvm.ClassFile.FieldType) ∈ WS := ws_t3 (i := 178) (by decide +kernel) (by decide +kernel)
theorem ml_M_89 : Cond.methodLink R_M 89 y_M_lasts ∈ WS := ws_t3 (i := 179) (by decide +kernel) (by decide +kernel)
theorem se_M_lasts : Cond.selects R_M y_M_lasts y_M_lasts ∈ WS := by decide +kernel
theorem im_M_lasts : Cond.instanceMethod y_M_lasts ∈ WS := ws_t3 (i := 181) (by decide +kernel) (by decide +kernel)
theorem cd_M_lasts : Cond.code y_M_lasts b_M_lasts 2 (.none : Option Jvm.ClassFile.FieldType) ∈ WS := ws_t3 (i := 182) (by decide +kernel) (by decide +kernel)
theorem ml_M_92 : Cond.methodLink R_M 92 y_M_fall ∈ WS := ws_t3 (i := 183) (by decide +kernel) (by decide +kernel)
theorem se_M_fall : Cond.selects R_M y_M_fall y_M_fall ∈ WS := by decide +kernel
theorem im_M_fall : Cond.instanceMethod y_M_fall ∈ WS := ws_t3 (i := 185) (by decide +kernel) (by decide +kernel)
theorem cd_M_fall : Cond.code y_M_fall b_M_fall 2 (.none : Option Jvm.ClassFile.FieldType) ∈ WS := ws_t3 (i := 186) (by decide +kernel) (by decide +kernel)
theorem ml_L_108 : Cond.methodLink R_L 108 y_M_rollback ∈ WS := ws_t3 (i := 187) (by decide +kernel) (by decide +kernel)
theorem im_M_rollback : Cond.instanceMethod y_M_rollback ∈ WS := ws_t3 (i := 188) (by decide +kernel) (by decide +kernel)
theorem se_M_rollback : Cond.selects R_M y_M_rollback y_M_rollback ∈ WS := ws_t3 (i := 189) (by decide +kernel) (by decide +kernel)
theorem cd_M_rollback : Cond.code y_M_rollback b_M_rollback 1 (.none : Option Jvm.ClassFile.FieldType) ∈ WS := ws_t3 (i := 190) (by decide +kernel) (by decide +kernel)
theorem ml_L_111 : Cond.methodLink R_L 111 y_M_mark ∈ WS := ws_t3 (i := 191) (by decide +kernel) (by decide +kernel)
theorem im_M_mark : Cond.instanceMethod y_M_mark ∈ WS := ws_t3 (i := 192) (by decide +kernel) (by decide +kernel)
theorem se_M_mark : Cond.selects R_M y_M_mark y_M_mark ∈ WS := ws_t3 (i := 193) (by decide +kernel) (by decide +kernel)
theorem cd_M_mark : Cond.code y_M_mark b_M_mark 2 (some .int) ∈ WS := ws_t3 (i := 194) (by decide +kernel) (by decide +kernel)
theorem ml_L_115 : Cond.methodLink R_L 115 y_M_back ∈ WS := ws_t3 (i := 195) (by decide +kernel) (by decide +kernel)
theorem im_M_back : Cond.instanceMethod y_M_back ∈ WS := ws_t3 (i := 196) (by decide +kernel) (by decide +kernel)
theorem se_M_back : Cond.selects R_M y_M_back y_M_back ∈ WS := ws_t3 (i := 197) (by decide +kernel) (by decide +kernel)
theorem cd_M_back : Cond.code y_M_back b_M_back 3 (.none : Option Jvm.ClassFile.FieldType) ∈ WS := ws_t3 (i := 198) (by decide +kernel) (by decide +kernel)
theorem ml_L_118 : Cond.methodLink R_L 118 y_M_keep ∈ WS := ws_t3 (i := 199) (by decide +kernel) (by decide +kernel)
theorem im_M_keep : Cond.instanceMethod y_M_keep ∈ WS := ws_t3 (i := 200) (by decide +kernel) (by decide +kernel)
theorem se_M_keep : Cond.selects R_M y_M_keep y_M_keep ∈ WS := ws_t3 (i := 201) (by decide +kernel) (by decide +kernel)
theorem cd_M_keep : Cond.code y_M_keep b_M_keep 2 (.none : Option Jvm.ClassFile.FieldType) ∈ WS := ws_t3 (i := 202) (by decide +kernel) (by decide +kernel)
theorem ml_L_122 : Cond.methodLink R_L 122 y_M_power ∈ WS := ws_t3 (i := 203) (by decide +kernel) (by decide +kernel)
theorem im_M_power : Cond.instanceMethod y_M_power ∈ WS := ws_t3 (i := 204) (by decide +kernel) (by decide +kernel)
theorem se_M_power : Cond.selects R_M y_M_power y_M_power ∈ WS := ws_t3 (i := 205) (by decide +kernel) (by decide +kernel)
theorem cd_M_power : Cond.code y_M_power b_M_power 4 (.none : Option Jvm.ClassFile.FieldType) ∈ WS := ws_t3 (i := 206) (by decide +kernel) (by decide +kernel)
theorem ml_L_128 : Cond.methodLink R_L 128 y_M_reopen ∈ WS := ws_t3 (i := 207) (by decide +kernel) (by decide +kernel)
theorem im_M_reopen : Cond.instanceMethod y_M_reopen ∈ WS := ws_t3 (i := 208) (by decide +kernel) (by decide +kernel)
theorem se_M_reopen : Cond.selects R_M y_M_reopen y_M_reopen ∈ WS := ws_t3 (i := 209) (by decide +kernel) (by decide +kernel)
theorem cd_M_reopen : Cond.code y_M_reopen b_M_reopen 1 (some .int) ∈ WS := ws_t3 (i := 210) (by decide +kernel) (by decide +kernel)
theorem ml_L_131 : Cond.methodLink R_L 131 y_M_told ∈ WS := ws_t3 (i := 211) (by decide +kernel) (by decide +kernel)
theorem im_M_told : Cond.instanceMethod y_M_told ∈ WS := ws_t3 (i := 212) (by decide +kernel) (by decide +kernel)
theorem se_M_told : Cond.selects R_M y_M_told y_M_told ∈ WS := ws_t3 (i := 213) (by decide +kernel) (by decide +kernel)
theorem cd_M_told : Cond.code y_M_told b_M_told 2 (some .int) ∈ WS := ws_t3 (i := 214) (by decide +kernel) (by decide +kernel)
theorem ac_long : Cond.arrayClass .long ∈ WS := ws_t3 (i := 215) (by decide +kernel) (by decide +kernel)
end
section
theorem d_S_init_0 : decode b_S_init 0 = .ok (.aload_n 0, 1) := by decide +kernel
theorem d_S_init_1 : decode b_S_init 1 = .ok (.invokespecial 3, 3) := by decide +kernel
theorem d_S_init_4 : decode b_S_init 4 = .ok (.aload_n 0, 1) := by decide +kernel
theorem d_S_init_5 : decode b_S_init 5 = .ok (.new 9, 3) := by decide +kernel
theorem d_S_init_8 : decode b_S_init 8 = .ok (.dup, 1) := by decide +kernel
theorem d_S_init_9 : decode b_S_init 9 = .ok (.ldc 11, 2) := by decide +kernel
theorem d_S_init_11 : decode b_S_init 11 = .ok (.invokespecial 12, 3) := by decide +kernel
theorem d_S_init_14 : decode b_S_init 14 = .ok (.putfield 15, 3) := by decide +kernel
theorem d_S_init_17 : decode b_S_init 17 = .ok (.aload_n 0, 1) := by decide +kernel
theorem d_S_init_18 : decode b_S_init 18 = .ok (.new 9, 3) := by decide +kernel
theorem d_S_init_21 : decode b_S_init 21 = .ok (.dup, 1) := by decide +kernel
theorem d_S_init_22 : decode b_S_init 22 = .ok (.ldc 19, 2) := by decide +kernel
theorem d_S_init_24 : decode b_S_init 24 = .ok (.invokespecial 12, 3) := by decide +kernel
theorem d_S_init_27 : decode b_S_init 27 = .ok (.putfield 20, 3) := by decide +kernel
theorem d_S_init_30 : decode b_S_init 30 = .ok (.aload_n 0, 1) := by decide +kernel
theorem d_S_init_31 : decode b_S_init 31 = .ok (.bipush 6, 2) := by decide +kernel
theorem d_S_init_33 : decode b_S_init 33 = .ok (.anewarray 23, 3) := by decide +kernel
theorem d_S_init_36 : decode b_S_init 36 = .ok (.putfield 25, 3) := by decide +kernel
theorem d_S_init_39 : decode b_S_init 39 = .ok (.aload_n 0, 1) := by decide +kernel
theorem d_S_init_40 : decode b_S_init 40 = .ok (.new 29, 3) := by decide +kernel
theorem d_S_init_43 : decode b_S_init 43 = .ok (.dup, 1) := by decide +kernel
theorem d_S_init_44 : decode b_S_init 44 = .ok (.invokespecial 31, 3) := by decide +kernel
theorem d_S_init_47 : decode b_S_init 47 = .ok (.putfield 32, 3) := by decide +kernel
theorem d_S_init_50 : decode b_S_init 50 = .ok (.aload_n 0, 1) := by decide +kernel
theorem d_S_init_51 : decode b_S_init 51 = .ok (.sipush 260, 3) := by decide +kernel
theorem d_S_init_54 : decode b_S_init 54 = .ok (.newarray .byte, 2) := by decide +kernel
theorem d_S_init_56 : decode b_S_init 56 = .ok (.putfield 36, 3) := by decide +kernel
theorem d_S_init_59 : decode b_S_init 59 = .ok (.aload_n 0, 1) := by decide +kernel
theorem d_S_init_60 : decode b_S_init 60 = .ok (.iconst 1, 1) := by decide +kernel
theorem d_S_init_61 : decode b_S_init 61 = .ok (.putfield 40, 3) := by decide +kernel
theorem d_S_init_64 : decode b_S_init 64 = .ok (.aload_n 0, 1) := by decide +kernel
theorem d_S_init_65 : decode b_S_init 65 = .ok (.iconst 0, 1) := by decide +kernel
theorem d_S_init_66 : decode b_S_init 66 = .ok (.putfield 44, 3) := by decide +kernel
theorem d_S_init_69 : decode b_S_init 69 = .ok (.aload_n 0, 1) := by decide +kernel
theorem d_S_init_70 : decode b_S_init 70 = .ok (.iconst 0, 1) := by decide +kernel
theorem d_S_init_71 : decode b_S_init 71 = .ok (.putfield 47, 3) := by decide +kernel
theorem d_S_init_74 : decode b_S_init 74 = .ok (.aload_n 0, 1) := by decide +kernel
theorem d_S_init_75 : decode b_S_init 75 = .ok (.iconst 0, 1) := by decide +kernel
theorem d_S_init_76 : decode b_S_init 76 = .ok (.putfield 51, 3) := by decide +kernel
theorem d_S_init_79 : decode b_S_init 79 = .ok (.aload_n 0, 1) := by decide +kernel
theorem d_S_init_80 : decode b_S_init 80 = .ok (.iconst 0, 1) := by decide +kernel
theorem d_S_init_81 : decode b_S_init 81 = .ok (.putfield 54, 3) := by decide +kernel
theorem d_S_init_84 : decode b_S_init 84 = .ok (.iconst 0, 1) := by decide +kernel
theorem d_S_init_85 : decode b_S_init 85 = .ok (.istore_n 1, 1) := by decide +kernel
theorem d_S_init_86 : decode b_S_init 86 = .ok (.iload_n 1, 1) := by decide +kernel
theorem d_S_init_87 : decode b_S_init 87 = .ok (.iconst 5, 1) := by decide +kernel
theorem d_S_init_88 : decode b_S_init 88 = .ok (.if_icmp .gt 22, 3) := by decide +kernel
theorem d_S_init_91 : decode b_S_init 91 = .ok (.aload_n 0, 1) := by decide +kernel
theorem d_S_init_92 : decode b_S_init 92 = .ok (.getfield 25, 3) := by decide +kernel
theorem d_S_init_95 : decode b_S_init 95 = .ok (.iload_n 1, 1) := by decide +kernel
theorem d_S_init_96 : decode b_S_init 96 = .ok (.new 23, 3) := by decide +kernel
theorem d_S_init_99 : decode b_S_init 99 = .ok (.dup, 1) := by decide +kernel
theorem d_S_init_100 : decode b_S_init 100 = .ok (.invokespecial 57, 3) := by decide +kernel
theorem d_S_init_103 : decode b_S_init 103 = .ok (.aastore, 1) := by decide +kernel
theorem d_S_init_104 : decode b_S_init 104 = .ok (.iinc 1 1, 3) := by decide +kernel
theorem d_S_init_107 : decode b_S_init 107 = .ok (.goto (-21), 3) := by decide +kernel
theorem d_S_init_110 : decode b_S_init 110 = .ok (.return_, 1) := by decide +kernel
theorem d_S_pages_0 : decode b_S_pages 0 = .ok (.aload_n 0, 1) := by decide +kernel
theorem d_S_pages_1 : decode b_S_pages 1 = .ok (.invokevirtual 58, 3) := by decide +kernel
theorem d_S_pages_4 : decode b_S_pages 4 = .ok (.aload_n 0, 1) := by decide +kernel
theorem d_S_pages_5 : decode b_S_pages 5 = .ok (.getfield 51, 3) := by decide +kernel
theorem d_S_pages_8 : decode b_S_pages 8 = .ok (.ireturn, 1) := by decide +kernel
theorem d_S_add_0 : decode b_S_add 0 = .ok (.aload_n 0, 1) := by decide +kernel
theorem d_S_add_1 : decode b_S_add 1 = .ok (.invokevirtual 61, 3) := by decide +kernel
theorem d_S_add_4 : decode b_S_add 4 = .ok (.aload_n 0, 1) := by decide +kernel
theorem d_S_add_5 : decode b_S_add 5 = .ok (.getfield 51, 3) := by decide +kernel
theorem d_S_add_8 : decode b_S_add 8 = .ok (.sipush 768, 3) := by decide +kernel
theorem d_S_add_11 : decode b_S_add 11 = .ok (.if_icmp .lt 13, 3) := by decide +kernel
theorem d_S_add_14 : decode b_S_add 14 = .ok (.new 64, 3) := by decide +kernel
theorem d_S_add_17 : decode b_S_add 17 = .ok (.dup, 1) := by decide +kernel
theorem d_S_add_18 : decode b_S_add 18 = .ok (.ldc 66, 2) := by decide +kernel
theorem d_S_add_20 : decode b_S_add 20 = .ok (.invokespecial 68, 3) := by decide +kernel
theorem d_S_add_23 : decode b_S_add 23 = .ok (.athrow, 1) := by decide +kernel
theorem d_S_add_24 : decode b_S_add 24 = .ok (.aload_n 0, 1) := by decide +kernel
theorem d_S_add_25 : decode b_S_add 25 = .ok (.getfield 25, 3) := by decide +kernel
theorem d_S_add_28 : decode b_S_add 28 = .ok (.aload_n 0, 1) := by decide +kernel
theorem d_S_add_29 : decode b_S_add 29 = .ok (.getfield 47, 3) := by decide +kernel
theorem d_S_add_32 : decode b_S_add 32 = .ok (.aaload, 1) := by decide +kernel
theorem d_S_add_33 : decode b_S_add 33 = .ok (.aload_n 0, 1) := by decide +kernel
theorem d_S_add_34 : decode b_S_add 34 = .ok (.getfield 51, 3) := by decide +kernel
theorem d_S_add_37 : decode b_S_add 37 = .ok (.invokevirtual 71, 3) := by decide +kernel
theorem d_S_add_40 : decode b_S_add 40 = .ok (.iconst 0, 1) := by decide +kernel
theorem d_S_add_41 : decode b_S_add 41 = .ok (.invokestatic 75, 3) := by decide +kernel
theorem d_S_add_44 : decode b_S_add 44 = .ok (.aload_n 0, 1) := by decide +kernel
theorem d_S_add_45 : decode b_S_add 45 = .ok (.dup, 1) := by decide +kernel
theorem d_S_add_46 : decode b_S_add 46 = .ok (.getfield 51, 3) := by decide +kernel
theorem d_S_add_49 : decode b_S_add 49 = .ok (.iconst 1, 1) := by decide +kernel
theorem d_S_add_50 : decode b_S_add 50 = .ok (.iadd, 1) := by decide +kernel
theorem d_S_add_51 : decode b_S_add 51 = .ok (.putfield 51, 3) := by decide +kernel
theorem d_S_add_54 : decode b_S_add 54 = .ok (.aload_n 0, 1) := by decide +kernel
theorem d_S_add_55 : decode b_S_add 55 = .ok (.getfield 51, 3) := by decide +kernel
theorem d_S_add_58 : decode b_S_add 58 = .ok (.iconst 1, 1) := by decide +kernel
theorem d_S_add_59 : decode b_S_add 59 = .ok (.isub, 1) := by decide +kernel
theorem d_S_add_60 : decode b_S_add 60 = .ok (.ireturn, 1) := by decide +kernel
theorem d_S_get_0 : decode b_S_get 0 = .ok (.aload_n 0, 1) := by decide +kernel
theorem d_S_get_1 : decode b_S_get 1 = .ok (.invokevirtual 58, 3) := by decide +kernel
theorem d_S_get_4 : decode b_S_get 4 = .ok (.aload_n 0, 1) := by decide +kernel
theorem d_S_get_5 : decode b_S_get 5 = .ok (.iload_n 1, 1) := by decide +kernel
theorem d_S_get_6 : decode b_S_get 6 = .ok (.iload_n 2, 1) := by decide +kernel
theorem d_S_get_7 : decode b_S_get 7 = .ok (.invokevirtual 81, 3) := by decide +kernel
theorem d_S_get_10 : decode b_S_get 10 = .ok (.aload_n 0, 1) := by decide +kernel
theorem d_S_get_11 : decode b_S_get 11 = .ok (.iload_n 1, 1) := by decide +kernel
theorem d_S_get_12 : decode b_S_get 12 = .ok (.invokevirtual 85, 3) := by decide +kernel
theorem d_S_get_15 : decode b_S_get 15 = .ok (.iload_n 2, 1) := by decide +kernel
theorem d_S_get_16 : decode b_S_get 16 = .ok (.baload, 1) := by decide +kernel
theorem d_S_get_17 : decode b_S_get 17 = .ok (.sipush 255, 3) := by decide +kernel
theorem d_S_get_20 : decode b_S_get 20 = .ok (.iand, 1) := by decide +kernel
theorem d_S_get_21 : decode b_S_get 21 = .ok (.ireturn, 1) := by decide +kernel
theorem d_S_put_0 : decode b_S_put 0 = .ok (.aload_n 0, 1) := by decide +kernel
theorem d_S_put_1 : decode b_S_put 1 = .ok (.invokevirtual 61, 3) := by decide +kernel
theorem d_S_put_4 : decode b_S_put 4 = .ok (.aload_n 0, 1) := by decide +kernel
theorem d_S_put_5 : decode b_S_put 5 = .ok (.iload_n 1, 1) := by decide +kernel
theorem d_S_put_6 : decode b_S_put 6 = .ok (.iload_n 2, 1) := by decide +kernel
theorem d_S_put_7 : decode b_S_put 7 = .ok (.invokevirtual 81, 3) := by decide +kernel
theorem d_S_put_10 : decode b_S_put 10 = .ok (.aload_n 0, 1) := by decide +kernel
theorem d_S_put_11 : decode b_S_put 11 = .ok (.iload_n 1, 1) := by decide +kernel
theorem d_S_put_12 : decode b_S_put 12 = .ok (.invokevirtual 88, 3) := by decide +kernel
theorem d_S_put_15 : decode b_S_put 15 = .ok (.astore 4, 2) := by decide +kernel
theorem d_S_put_17 : decode b_S_put 17 = .ok (.aload 4, 2) := by decide +kernel
theorem d_S_put_19 : decode b_S_put 19 = .ok (.iload_n 2, 1) := by decide +kernel
theorem d_S_put_20 : decode b_S_put 20 = .ok (.baload, 1) := by decide +kernel
theorem d_S_put_21 : decode b_S_put 21 = .ok (.sipush 255, 3) := by decide +kernel
theorem d_S_put_24 : decode b_S_put 24 = .ok (.iand, 1) := by decide +kernel
theorem d_S_put_25 : decode b_S_put 25 = .ok (.istore 5, 2) := by decide +kernel
theorem d_S_put_27 : decode b_S_put 27 = .ok (.aload 4, 2) := by decide +kernel
theorem d_S_put_29 : decode b_S_put 29 = .ok (.iload_n 2, 1) := by decide +kernel
theorem d_S_put_30 : decode b_S_put 30 = .ok (.iload_n 3, 1) := by decide +kernel
theorem d_S_put_31 : decode b_S_put 31 = .ok (.i2b, 1) := by decide +kernel
theorem d_S_put_32 : decode b_S_put 32 = .ok (.bastore, 1) := by decide +kernel
theorem d_S_put_33 : decode b_S_put 33 = .ok (.iload 5, 2) := by decide +kernel
theorem d_S_put_35 : decode b_S_put 35 = .ok (.ireturn, 1) := by decide +kernel
theorem d_S_move_0 : decode b_S_move 0 = .ok (.aload_n 0, 1) := by decide +kernel
theorem d_S_move_1 : decode b_S_move 1 = .ok (.invokevirtual 61, 3) := by decide +kernel
theorem d_S_move_4 : decode b_S_move 4 = .ok (.aload_n 0, 1) := by decide +kernel
theorem d_S_move_5 : decode b_S_move 5 = .ok (.iload_n 1, 1) := by decide +kernel
theorem d_S_move_6 : decode b_S_move 6 = .ok (.invokevirtual 91, 3) := by decide +kernel
theorem d_S_move_9 : decode b_S_move 9 = .ok (.aload_n 0, 1) := by decide +kernel
theorem d_S_move_10 : decode b_S_move 10 = .ok (.iload_n 3, 1) := by decide +kernel
theorem d_S_move_11 : decode b_S_move 11 = .ok (.invokevirtual 91, 3) := by decide +kernel
theorem d_S_move_14 : decode b_S_move 14 = .ok (.aload_n 0, 1) := by decide +kernel
theorem d_S_move_15 : decode b_S_move 15 = .ok (.iload_n 2, 1) := by decide +kernel
theorem d_S_move_16 : decode b_S_move 16 = .ok (.iload 5, 2) := by decide +kernel
theorem d_S_move_18 : decode b_S_move 18 = .ok (.invokevirtual 94, 3) := by decide +kernel
theorem d_S_move_21 : decode b_S_move 21 = .ok (.aload_n 0, 1) := by decide +kernel
theorem d_S_move_22 : decode b_S_move 22 = .ok (.iload 4, 2) := by decide +kernel
theorem d_S_move_24 : decode b_S_move 24 = .ok (.iload 5, 2) := by decide +kernel
theorem d_S_move_26 : decode b_S_move 26 = .ok (.invokevirtual 94, 3) := by decide +kernel
theorem d_S_move_29 : decode b_S_move 29 = .ok (.aload_n 0, 1) := by decide +kernel
theorem d_S_move_30 : decode b_S_move 30 = .ok (.iload_n 3, 1) := by decide +kernel
theorem d_S_move_31 : decode b_S_move 31 = .ok (.invokevirtual 88, 3) := by decide +kernel
theorem d_S_move_34 : decode b_S_move 34 = .ok (.astore 6, 2) := by decide +kernel
theorem d_S_move_36 : decode b_S_move 36 = .ok (.aload_n 0, 1) := by decide +kernel
theorem d_S_move_37 : decode b_S_move 37 = .ok (.iload_n 1, 1) := by decide +kernel
theorem d_S_move_38 : decode b_S_move 38 = .ok (.invokevirtual 85, 3) := by decide +kernel
theorem d_S_move_41 : decode b_S_move 41 = .ok (.iload_n 2, 1) := by decide +kernel
theorem d_S_move_42 : decode b_S_move 42 = .ok (.aload 6, 2) := by decide +kernel
theorem d_S_move_44 : decode b_S_move 44 = .ok (.iload 4, 2) := by decide +kernel
theorem d_S_move_46 : decode b_S_move 46 = .ok (.iload 5, 2) := by decide +kernel
theorem d_S_move_48 : decode b_S_move 48 = .ok (.invokestatic 97, 3) := by decide +kernel
theorem d_S_move_51 : decode b_S_move 51 = .ok (.return_, 1) := by decide +kernel
theorem d_S_sum_0 : decode b_S_sum 0 = .ok (.aload_n 0, 1) := by decide +kernel
theorem d_S_sum_1 : decode b_S_sum 1 = .ok (.invokevirtual 58, 3) := by decide +kernel
theorem d_S_sum_4 : decode b_S_sum 4 = .ok (.aload_n 0, 1) := by decide +kernel
theorem d_S_sum_5 : decode b_S_sum 5 = .ok (.iload_n 1, 1) := by decide +kernel
theorem d_S_sum_6 : decode b_S_sum 6 = .ok (.invokevirtual 91, 3) := by decide +kernel
theorem d_S_sum_9 : decode b_S_sum 9 = .ok (.aload_n 0, 1) := by decide +kernel
theorem d_S_sum_10 : decode b_S_sum 10 = .ok (.iload_n 1, 1) := by decide +kernel
theorem d_S_sum_11 : decode b_S_sum 11 = .ok (.invokevirtual 85, 3) := by decide +kernel
theorem d_S_sum_14 : decode b_S_sum 14 = .ok (.astore_n 2, 1) := by decide +kernel
theorem d_S_sum_15 : decode b_S_sum 15 = .ok (.ldc2_w 103, 3) := by decide +kernel
theorem d_S_sum_18 : decode b_S_sum 18 = .ok (.lstore_n 3, 1) := by decide +kernel
theorem d_S_sum_19 : decode b_S_sum 19 = .ok (.iconst 0, 1) := by decide +kernel
theorem d_S_sum_20 : decode b_S_sum 20 = .ok (.istore 5, 2) := by decide +kernel
theorem d_S_sum_22 : decode b_S_sum 22 = .ok (.iload 5, 2) := by decide +kernel
theorem d_S_sum_24 : decode b_S_sum 24 = .ok (.sipush 256, 3) := by decide +kernel
theorem d_S_sum_27 : decode b_S_sum 27 = .ok (.if_icmp .ge 25, 3) := by decide +kernel
theorem d_S_sum_30 : decode b_S_sum 30 = .ok (.ldc2_w 105, 3) := by decide +kernel
theorem d_S_sum_33 : decode b_S_sum 33 = .ok (.lload_n 3, 1) := by decide +kernel
theorem d_S_sum_34 : decode b_S_sum 34 = .ok (.lmul, 1) := by decide +kernel
theorem d_S_sum_35 : decode b_S_sum 35 = .ok (.aload_n 2, 1) := by decide +kernel
theorem d_S_sum_36 : decode b_S_sum 36 = .ok (.iload 5, 2) := by decide +kernel
theorem d_S_sum_38 : decode b_S_sum 38 = .ok (.baload, 1) := by decide +kernel
theorem d_S_sum_39 : decode b_S_sum 39 = .ok (.sipush 255, 3) := by decide +kernel
theorem d_S_sum_42 : decode b_S_sum 42 = .ok (.iand, 1) := by decide +kernel
theorem d_S_sum_43 : decode b_S_sum 43 = .ok (.i2l, 1) := by decide +kernel
theorem d_S_sum_44 : decode b_S_sum 44 = .ok (.ladd, 1) := by decide +kernel
theorem d_S_sum_45 : decode b_S_sum 45 = .ok (.lstore_n 3, 1) := by decide +kernel
theorem d_S_sum_46 : decode b_S_sum 46 = .ok (.iinc 5 1, 3) := by decide +kernel
theorem d_S_sum_49 : decode b_S_sum 49 = .ok (.goto (-27), 3) := by decide +kernel
theorem d_S_sum_52 : decode b_S_sum 52 = .ok (.lload_n 3, 1) := by decide +kernel
theorem d_S_sum_53 : decode b_S_sum 53 = .ok (.lreturn, 1) := by decide +kernel
theorem d_S_begin_0 : decode b_S_begin 0 = .ok (.aload_n 0, 1) := by decide +kernel
theorem d_S_begin_1 : decode b_S_begin 1 = .ok (.invokevirtual 58, 3) := by decide +kernel
theorem d_S_begin_4 : decode b_S_begin 4 = .ok (.aload_n 0, 1) := by decide +kernel
theorem d_S_begin_5 : decode b_S_begin 5 = .ok (.getfield 44, 3) := by decide +kernel
theorem d_S_begin_8 : decode b_S_begin 8 = .ok (.ifCond .eq 13, 3) := by decide +kernel
theorem d_S_begin_11 : decode b_S_begin 11 = .ok (.new 64, 3) := by decide +kernel
theorem d_S_begin_14 : decode b_S_begin 14 = .ok (.dup, 1) := by decide +kernel
theorem d_S_begin_15 : decode b_S_begin 15 = .ok (.ldc 107, 2) := by decide +kernel
theorem d_S_begin_17 : decode b_S_begin 17 = .ok (.invokespecial 68, 3) := by decide +kernel
theorem d_S_begin_20 : decode b_S_begin 20 = .ok (.athrow, 1) := by decide +kernel
theorem d_S_begin_21 : decode b_S_begin 21 = .ok (.aload_n 0, 1) := by decide +kernel
theorem d_S_begin_22 : decode b_S_begin 22 = .ok (.iconst 1, 1) := by decide +kernel
theorem d_S_begin_23 : decode b_S_begin 23 = .ok (.putfield 44, 3) := by decide +kernel
theorem d_S_begin_26 : decode b_S_begin 26 = .ok (.return_, 1) := by decide +kernel
theorem d_S_commit_0 : decode b_S_commit 0 = .ok (.aload_n 0, 1) := by decide +kernel
theorem d_S_commit_1 : decode b_S_commit 1 = .ok (.invokevirtual 61, 3) := by decide +kernel
theorem d_S_commit_4 : decode b_S_commit 4 = .ok (.aload_n 0, 1) := by decide +kernel
theorem d_S_commit_5 : decode b_S_commit 5 = .ok (.iconst 1, 1) := by decide +kernel
theorem d_S_commit_6 : decode b_S_commit 6 = .ok (.invokevirtual 109, 3) := by decide +kernel
theorem d_S_commit_9 : decode b_S_commit 9 = .ok (.aload_n 0, 1) := by decide +kernel
theorem d_S_commit_10 : decode b_S_commit 10 = .ok (.invokevirtual 112, 3) := by decide +kernel
theorem d_S_commit_13 : decode b_S_commit 13 = .ok (.ifCond .eq 24, 3) := by decide +kernel
theorem d_S_commit_16 : decode b_S_commit 16 = .ok (.aload_n 0, 1) := by decide +kernel
theorem d_S_commit_17 : decode b_S_commit 17 = .ok (.invokevirtual 116, 3) := by decide +kernel
theorem d_S_commit_20 : decode b_S_commit 20 = .ok (.ifCond .eq 17, 3) := by decide +kernel
theorem d_S_commit_23 : decode b_S_commit 23 = .ok (.aload_n 0, 1) := by decide +kernel
theorem d_S_commit_24 : decode b_S_commit 24 = .ok (.getfield 32, 3) := by decide +kernel
theorem d_S_commit_27 : decode b_S_commit 27 = .ok (.invokevirtual 119, 3) := by decide +kernel
theorem d_S_commit_30 : decode b_S_commit 30 = .ok (.ifCond .ne 7, 3) := by decide +kernel
theorem d_S_commit_33 : decode b_S_commit 33 = .ok (.iconst 1, 1) := by decide +kernel
theorem d_S_commit_34 : decode b_S_commit 34 = .ok (.goto 4, 3) := by decide +kernel
theorem d_S_commit_37 : decode b_S_commit 37 = .ok (.iconst 0, 1) := by decide +kernel
theorem d_S_commit_38 : decode b_S_commit 38 = .ok (.istore_n 1, 1) := by decide +kernel
theorem d_S_commit_39 : decode b_S_commit 39 = .ok (.iload_n 1, 1) := by decide +kernel
theorem d_S_commit_40 : decode b_S_commit 40 = .ok (.ifCond .eq 37, 3) := by decide +kernel
theorem d_S_commit_43 : decode b_S_commit 43 = .ok (.aload_n 0, 1) := by decide +kernel
theorem d_S_commit_44 : decode b_S_commit 44 = .ok (.getfield 20, 3) := by decide +kernel
theorem d_S_commit_47 : decode b_S_commit 47 = .ok (.iconst 0, 1) := by decide +kernel
theorem d_S_commit_48 : decode b_S_commit 48 = .ok (.invokevirtual 122, 3) := by decide +kernel
theorem d_S_commit_51 : decode b_S_commit 51 = .ok (.aload_n 0, 1) := by decide +kernel
theorem d_S_commit_52 : decode b_S_commit 52 = .ok (.dup, 1) := by decide +kernel
theorem d_S_commit_53 : decode b_S_commit 53 = .ok (.getfield 54, 3) := by decide +kernel
theorem d_S_commit_56 : decode b_S_commit 56 = .ok (.iconst 1, 1) := by decide +kernel
theorem d_S_commit_57 : decode b_S_commit 57 = .ok (.iadd, 1) := by decide +kernel
theorem d_S_commit_58 : decode b_S_commit 58 = .ok (.putfield 54, 3) := by decide +kernel
theorem d_S_commit_61 : decode b_S_commit 61 = .ok (.aload_n 0, 1) := by decide +kernel
theorem d_S_commit_62 : decode b_S_commit 62 = .ok (.getfield 32, 3) := by decide +kernel
theorem d_S_commit_65 : decode b_S_commit 65 = .ok (.invokevirtual 125, 3) := by decide +kernel
theorem d_S_commit_68 : decode b_S_commit 68 = .ok (.ifCond .ne 7, 3) := by decide +kernel
theorem d_S_commit_71 : decode b_S_commit 71 = .ok (.iconst 1, 1) := by decide +kernel
theorem d_S_commit_72 : decode b_S_commit 72 = .ok (.goto 4, 3) := by decide +kernel
theorem d_S_commit_75 : decode b_S_commit 75 = .ok (.iconst 0, 1) := by decide +kernel
theorem d_S_commit_76 : decode b_S_commit 76 = .ok (.istore_n 1, 1) := by decide +kernel
theorem d_S_commit_77 : decode b_S_commit 77 = .ok (.aload_n 0, 1) := by decide +kernel
theorem d_S_commit_78 : decode b_S_commit 78 = .ok (.iload_n 1, 1) := by decide +kernel
theorem d_S_commit_79 : decode b_S_commit 79 = .ok (.invokevirtual 128, 3) := by decide +kernel
theorem d_S_commit_82 : decode b_S_commit 82 = .ok (.return_, 1) := by decide +kernel
theorem d_S_rollback_0 : decode b_S_rollback 0 = .ok (.aload_n 0, 1) := by decide +kernel
theorem d_S_rollback_1 : decode b_S_rollback 1 = .ok (.invokevirtual 61, 3) := by decide +kernel
theorem d_S_rollback_4 : decode b_S_rollback 4 = .ok (.aload_n 0, 1) := by decide +kernel
theorem d_S_rollback_5 : decode b_S_rollback 5 = .ok (.invokevirtual 132, 3) := by decide +kernel
theorem d_S_rollback_8 : decode b_S_rollback 8 = .ok (.return_, 1) := by decide +kernel
theorem d_S_mark_0 : decode b_S_mark 0 = .ok (.aload_n 0, 1) := by decide +kernel
theorem d_S_mark_1 : decode b_S_mark 1 = .ok (.invokevirtual 61, 3) := by decide +kernel
theorem d_S_mark_4 : decode b_S_mark 4 = .ok (.aload_n 0, 1) := by decide +kernel
theorem d_S_mark_5 : decode b_S_mark 5 = .ok (.getfield 47, 3) := by decide +kernel
theorem d_S_mark_8 : decode b_S_mark 8 = .ok (.iconst 5, 1) := by decide +kernel
theorem d_S_mark_9 : decode b_S_mark 9 = .ok (.if_icmp .lt 13, 3) := by decide +kernel
theorem d_S_mark_12 : decode b_S_mark 12 = .ok (.new 64, 3) := by decide +kernel
theorem d_S_mark_15 : decode b_S_mark 15 = .ok (.dup, 1) := by decide +kernel
theorem d_S_mark_16 : decode b_S_mark 16 = .ok (.ldc 135, 2) := by decide +kernel
theorem d_S_mark_18 : decode b_S_mark 18 = .ok (.invokespecial 68, 3) := by decide +kernel
theorem d_S_mark_21 : decode b_S_mark 21 = .ok (.athrow, 1) := by decide +kernel
theorem d_S_mark_22 : decode b_S_mark 22 = .ok (.aload_n 0, 1) := by decide +kernel
theorem d_S_mark_23 : decode b_S_mark 23 = .ok (.dup, 1) := by decide +kernel
theorem d_S_mark_24 : decode b_S_mark 24 = .ok (.getfield 47, 3) := by decide +kernel
theorem d_S_mark_27 : decode b_S_mark 27 = .ok (.iconst 1, 1) := by decide +kernel
theorem d_S_mark_28 : decode b_S_mark 28 = .ok (.iadd, 1) := by decide +kernel
theorem d_S_mark_29 : decode b_S_mark 29 = .ok (.putfield 47, 3) := by decide +kernel
theorem d_S_mark_32 : decode b_S_mark 32 = .ok (.aload_n 0, 1) := by decide +kernel
theorem d_S_mark_33 : decode b_S_mark 33 = .ok (.getfield 25, 3) := by decide +kernel
theorem d_S_mark_36 : decode b_S_mark 36 = .ok (.aload_n 0, 1) := by decide +kernel
theorem d_S_mark_37 : decode b_S_mark 37 = .ok (.getfield 47, 3) := by decide +kernel
theorem d_S_mark_40 : decode b_S_mark 40 = .ok (.aaload, 1) := by decide +kernel
theorem d_S_mark_41 : decode b_S_mark 41 = .ok (.aload_n 0, 1) := by decide +kernel
theorem d_S_mark_42 : decode b_S_mark 42 = .ok (.getfield 51, 3) := by decide +kernel
theorem d_S_mark_45 : decode b_S_mark 45 = .ok (.invokevirtual 137, 3) := by decide +kernel
theorem d_S_mark_48 : decode b_S_mark 48 = .ok (.aload_n 0, 1) := by decide +kernel
theorem d_S_mark_49 : decode b_S_mark 49 = .ok (.getfield 47, 3) := by decide +kernel
theorem d_S_mark_52 : decode b_S_mark 52 = .ok (.ireturn, 1) := by decide +kernel
theorem d_S_back_0 : decode b_S_back 0 = .ok (.aload_n 0, 1) := by decide +kernel
theorem d_S_back_1 : decode b_S_back 1 = .ok (.invokevirtual 61, 3) := by decide +kernel
theorem d_S_back_4 : decode b_S_back 4 = .ok (.aload_n 0, 1) := by decide +kernel
theorem d_S_back_5 : decode b_S_back 5 = .ok (.iload_n 1, 1) := by decide +kernel
theorem d_S_back_6 : decode b_S_back 6 = .ok (.invokevirtual 140, 3) := by decide +kernel
theorem d_S_back_9 : decode b_S_back 9 = .ok (.aload_n 0, 1) := by decide +kernel
theorem d_S_back_10 : decode b_S_back 10 = .ok (.iload_n 1, 1) := by decide +kernel
theorem d_S_back_11 : decode b_S_back 11 = .ok (.putfield 47, 3) := by decide +kernel
theorem d_S_back_14 : decode b_S_back 14 = .ok (.aload_n 0, 1) := by decide +kernel
theorem d_S_back_15 : decode b_S_back 15 = .ok (.aload_n 0, 1) := by decide +kernel
theorem d_S_back_16 : decode b_S_back 16 = .ok (.getfield 25, 3) := by decide +kernel
theorem d_S_back_19 : decode b_S_back 19 = .ok (.iload_n 1, 1) := by decide +kernel
theorem d_S_back_20 : decode b_S_back 20 = .ok (.aaload, 1) := by decide +kernel
theorem d_S_back_21 : decode b_S_back 21 = .ok (.invokevirtual 143, 3) := by decide +kernel
theorem d_S_back_24 : decode b_S_back 24 = .ok (.putfield 51, 3) := by decide +kernel
theorem d_S_back_27 : decode b_S_back 27 = .ok (.aload_n 0, 1) := by decide +kernel
theorem d_S_back_28 : decode b_S_back 28 = .ok (.getfield 25, 3) := by decide +kernel
theorem d_S_back_31 : decode b_S_back 31 = .ok (.iload_n 1, 1) := by decide +kernel
theorem d_S_back_32 : decode b_S_back 32 = .ok (.aaload, 1) := by decide +kernel
theorem d_S_back_33 : decode b_S_back 33 = .ok (.aload_n 0, 1) := by decide +kernel
theorem d_S_back_34 : decode b_S_back 34 = .ok (.getfield 51, 3) := by decide +kernel
theorem d_S_back_37 : decode b_S_back 37 = .ok (.invokevirtual 137, 3) := by decide +kernel
theorem d_S_back_40 : decode b_S_back 40 = .ok (.return_, 1) := by decide +kernel
theorem d_S_keep_0 : decode b_S_keep 0 = .ok (.aload_n 0, 1) := by decide +kernel
theorem d_S_keep_1 : decode b_S_keep 1 = .ok (.invokevirtual 61, 3) := by decide +kernel
theorem d_S_keep_4 : decode b_S_keep 4 = .ok (.aload_n 0, 1) := by decide +kernel
theorem d_S_keep_5 : decode b_S_keep 5 = .ok (.iload_n 1, 1) := by decide +kernel
theorem d_S_keep_6 : decode b_S_keep 6 = .ok (.invokevirtual 140, 3) := by decide +kernel
theorem d_S_keep_9 : decode b_S_keep 9 = .ok (.aload_n 0, 1) := by decide +kernel
theorem d_S_keep_10 : decode b_S_keep 10 = .ok (.iload_n 1, 1) := by decide +kernel
theorem d_S_keep_11 : decode b_S_keep 11 = .ok (.invokevirtual 109, 3) := by decide +kernel
theorem d_S_keep_14 : decode b_S_keep 14 = .ok (.return_, 1) := by decide +kernel
theorem d_S_power_0 : decode b_S_power 0 = .ok (.iload_n 1, 1) := by decide +kernel
theorem d_S_power_1 : decode b_S_power 1 = .ok (.ifCond .lt 8, 3) := by decide +kernel
theorem d_S_power_4 : decode b_S_power 4 = .ok (.iload_n 1, 1) := by decide +kernel
theorem d_S_power_5 : decode b_S_power 5 = .ok (.iconst 4, 1) := by decide +kernel
theorem d_S_power_6 : decode b_S_power 6 = .ok (.if_icmp .le 13, 3) := by decide +kernel
theorem d_S_power_9 : decode b_S_power 9 = .ok (.new 147, 3) := by decide +kernel
theorem d_S_power_12 : decode b_S_power 12 = .ok (.dup, 1) := by decide +kernel
theorem d_S_power_13 : decode b_S_power 13 = .ok (.ldc 149, 2) := by decide +kernel
theorem d_S_power_15 : decode b_S_power 15 = .ok (.invokespecial 151, 3) := by decide +kernel
theorem d_S_power_18 : decode b_S_power 18 = .ok (.athrow, 1) := by decide +kernel
theorem d_S_power_19 : decode b_S_power 19 = .ok (.iload_n 2, 1) := by decide +kernel
theorem d_S_power_20 : decode b_S_power 20 = .ok (.ifCond .lt 10, 3) := by decide +kernel
theorem d_S_power_23 : decode b_S_power 23 = .ok (.iload_n 2, 1) := by decide +kernel
theorem d_S_power_24 : decode b_S_power 24 = .ok (.sipush 1000, 3) := by decide +kernel
theorem d_S_power_27 : decode b_S_power 27 = .ok (.if_icmp .le 13, 3) := by decide +kernel
theorem d_S_power_30 : decode b_S_power 30 = .ok (.new 147, 3) := by decide +kernel
theorem d_S_power_33 : decode b_S_power 33 = .ok (.dup, 1) := by decide +kernel
theorem d_S_power_34 : decode b_S_power 34 = .ok (.ldc 152, 2) := by decide +kernel
theorem d_S_power_36 : decode b_S_power 36 = .ok (.invokespecial 151, 3) := by decide +kernel
theorem d_S_power_39 : decode b_S_power 39 = .ok (.athrow, 1) := by decide +kernel
theorem d_S_power_40 : decode b_S_power 40 = .ok (.iload_n 3, 1) := by decide +kernel
theorem d_S_power_41 : decode b_S_power 41 = .ok (.ifCond .lt 10, 3) := by decide +kernel
theorem d_S_power_44 : decode b_S_power 44 = .ok (.iload_n 3, 1) := by decide +kernel
theorem d_S_power_45 : decode b_S_power 45 = .ok (.sipush 300, 3) := by decide +kernel
theorem d_S_power_48 : decode b_S_power 48 = .ok (.if_icmp .le 13, 3) := by decide +kernel
theorem d_S_power_51 : decode b_S_power 51 = .ok (.new 147, 3) := by decide +kernel
theorem d_S_power_54 : decode b_S_power 54 = .ok (.dup, 1) := by decide +kernel
theorem d_S_power_55 : decode b_S_power 55 = .ok (.ldc 154, 2) := by decide +kernel
theorem d_S_power_57 : decode b_S_power 57 = .ok (.invokespecial 151, 3) := by decide +kernel
theorem d_S_power_60 : decode b_S_power 60 = .ok (.athrow, 1) := by decide +kernel
theorem d_S_power_61 : decode b_S_power 61 = .ok (.aload_n 0, 1) := by decide +kernel
theorem d_S_power_62 : decode b_S_power 62 = .ok (.getfield 32, 3) := by decide +kernel
theorem d_S_power_65 : decode b_S_power 65 = .ok (.iload_n 1, 1) := by decide +kernel
theorem d_S_power_66 : decode b_S_power 66 = .ok (.iload_n 2, 1) := by decide +kernel
theorem d_S_power_67 : decode b_S_power 67 = .ok (.iload_n 3, 1) := by decide +kernel
theorem d_S_power_68 : decode b_S_power 68 = .ok (.invokevirtual 156, 3) := by decide +kernel
theorem d_S_power_71 : decode b_S_power 71 = .ok (.return_, 1) := by decide +kernel
theorem d_S_reopen_0 : decode b_S_reopen 0 = .ok (.aload_n 0, 1) := by decide +kernel
theorem d_S_reopen_1 : decode b_S_reopen 1 = .ok (.invokevirtual 160, 3) := by decide +kernel
theorem d_S_reopen_4 : decode b_S_reopen 4 = .ok (.ifCond .eq 17, 3) := by decide +kernel
theorem d_S_reopen_7 : decode b_S_reopen 7 = .ok (.aload_n 0, 1) := by decide +kernel
theorem d_S_reopen_8 : decode b_S_reopen 8 = .ok (.getfield 32, 3) := by decide +kernel
theorem d_S_reopen_11 : decode b_S_reopen 11 = .ok (.invokevirtual 163, 3) := by decide +kernel
theorem d_S_reopen_14 : decode b_S_reopen 14 = .ok (.ifCond .ne 7, 3) := by decide +kernel
theorem d_S_reopen_17 : decode b_S_reopen 17 = .ok (.iconst 1, 1) := by decide +kernel
theorem d_S_reopen_18 : decode b_S_reopen 18 = .ok (.goto 4, 3) := by decide +kernel
theorem d_S_reopen_21 : decode b_S_reopen 21 = .ok (.iconst 0, 1) := by decide +kernel
theorem d_S_reopen_22 : decode b_S_reopen 22 = .ok (.istore_n 1, 1) := by decide +kernel
theorem d_S_reopen_23 : decode b_S_reopen 23 = .ok (.iload_n 1, 1) := by decide +kernel
theorem d_S_reopen_24 : decode b_S_reopen 24 = .ok (.ifCond .eq 11, 3) := by decide +kernel
theorem d_S_reopen_27 : decode b_S_reopen 27 = .ok (.aload_n 0, 1) := by decide +kernel
theorem d_S_reopen_28 : decode b_S_reopen 28 = .ok (.getfield 20, 3) := by decide +kernel
theorem d_S_reopen_31 : decode b_S_reopen 31 = .ok (.iconst 0, 1) := by decide +kernel
theorem d_S_reopen_32 : decode b_S_reopen 32 = .ok (.invokevirtual 122, 3) := by decide +kernel
theorem d_S_reopen_35 : decode b_S_reopen 35 = .ok (.aload_n 0, 1) := by decide +kernel
theorem d_S_reopen_36 : decode b_S_reopen 36 = .ok (.iload_n 1, 1) := by decide +kernel
theorem d_S_reopen_37 : decode b_S_reopen 37 = .ok (.invokevirtual 128, 3) := by decide +kernel
theorem d_S_reopen_40 : decode b_S_reopen 40 = .ok (.aload_n 0, 1) := by decide +kernel
theorem d_S_reopen_41 : decode b_S_reopen 41 = .ok (.getfield 51, 3) := by decide +kernel
theorem d_S_reopen_44 : decode b_S_reopen 44 = .ok (.ireturn, 1) := by decide +kernel
theorem d_S_told_0 : decode b_S_told 0 = .ok (.iload_n 1, 1) := by decide +kernel
theorem d_S_told_1 : decode b_S_told 1 = .ok (.tableswitch 67 0 3 #[31, 44, 57, 62], 31) := by decide +kernel
theorem d_S_told_32 : decode b_S_told 32 = .ok (.aload_n 0, 1) := by decide +kernel
theorem d_S_told_33 : decode b_S_told 33 = .ok (.getfield 40, 3) := by decide +kernel
theorem d_S_told_36 : decode b_S_told 36 = .ok (.ifCond .eq 7, 3) := by decide +kernel
theorem d_S_told_39 : decode b_S_told 39 = .ok (.iconst 1, 1) := by decide +kernel
theorem d_S_told_40 : decode b_S_told 40 = .ok (.goto 4, 3) := by decide +kernel
theorem d_S_told_43 : decode b_S_told 43 = .ok (.iconst 0, 1) := by decide +kernel
theorem d_S_told_44 : decode b_S_told 44 = .ok (.ireturn, 1) := by decide +kernel
theorem d_S_told_45 : decode b_S_told 45 = .ok (.aload_n 0, 1) := by decide +kernel
theorem d_S_told_46 : decode b_S_told 46 = .ok (.getfield 44, 3) := by decide +kernel
theorem d_S_told_49 : decode b_S_told 49 = .ok (.ifCond .eq 7, 3) := by decide +kernel
theorem d_S_told_52 : decode b_S_told 52 = .ok (.iconst 1, 1) := by decide +kernel
theorem d_S_told_53 : decode b_S_told 53 = .ok (.goto 4, 3) := by decide +kernel
theorem d_S_told_56 : decode b_S_told 56 = .ok (.iconst 0, 1) := by decide +kernel
theorem d_S_told_57 : decode b_S_told 57 = .ok (.ireturn, 1) := by decide +kernel
theorem d_S_told_58 : decode b_S_told 58 = .ok (.aload_n 0, 1) := by decide +kernel
theorem d_S_told_59 : decode b_S_told 59 = .ok (.getfield 47, 3) := by decide +kernel
theorem d_S_told_62 : decode b_S_told 62 = .ok (.ireturn, 1) := by decide +kernel
theorem d_S_told_63 : decode b_S_told 63 = .ok (.aload_n 0, 1) := by decide +kernel
theorem d_S_told_64 : decode b_S_told 64 = .ok (.getfield 54, 3) := by decide +kernel
theorem d_S_told_67 : decode b_S_told 67 = .ok (.ireturn, 1) := by decide +kernel
theorem d_S_told_68 : decode b_S_told 68 = .ok (.new 147, 3) := by decide +kernel
theorem d_S_told_71 : decode b_S_told 71 = .ok (.dup, 1) := by decide +kernel
theorem d_S_told_72 : decode b_S_told 72 = .ok (.ldc 166, 2) := by decide +kernel
theorem d_S_told_74 : decode b_S_told 74 = .ok (.invokespecial 151, 3) := by decide +kernel
theorem d_S_told_77 : decode b_S_told 77 = .ok (.athrow, 1) := by decide +kernel
theorem d_S_requireOn_0 : decode b_S_requireOn 0 = .ok (.aload_n 0, 1) := by decide +kernel
theorem d_S_requireOn_1 : decode b_S_requireOn 1 = .ok (.getfield 40, 3) := by decide +kernel
theorem d_S_requireOn_4 : decode b_S_requireOn 4 = .ok (.ifCond .ne 13, 3) := by decide +kernel
theorem d_S_requireOn_7 : decode b_S_requireOn 7 = .ok (.new 64, 3) := by decide +kernel
theorem d_S_requireOn_10 : decode b_S_requireOn 10 = .ok (.dup, 1) := by decide +kernel
theorem d_S_requireOn_11 : decode b_S_requireOn 11 = .ok (.ldc 168, 2) := by decide +kernel
theorem d_S_requireOn_13 : decode b_S_requireOn 13 = .ok (.invokespecial 68, 3) := by decide +kernel
theorem d_S_requireOn_16 : decode b_S_requireOn 16 = .ok (.athrow, 1) := by decide +kernel
theorem d_S_requireOn_17 : decode b_S_requireOn 17 = .ok (.return_, 1) := by decide +kernel
theorem d_S_requireOpen_0 : decode b_S_requireOpen 0 = .ok (.aload_n 0, 1) := by decide +kernel
theorem d_S_requireOpen_1 : decode b_S_requireOpen 1 = .ok (.invokevirtual 58, 3) := by decide +kernel
theorem d_S_requireOpen_4 : decode b_S_requireOpen 4 = .ok (.aload_n 0, 1) := by decide +kernel
theorem d_S_requireOpen_5 : decode b_S_requireOpen 5 = .ok (.getfield 44, 3) := by decide +kernel
theorem d_S_requireOpen_8 : decode b_S_requireOpen 8 = .ok (.ifCond .ne 13, 3) := by decide +kernel
theorem d_S_requireOpen_11 : decode b_S_requireOpen 11 = .ok (.new 64, 3) := by decide +kernel
theorem d_S_requireOpen_14 : decode b_S_requireOpen 14 = .ok (.dup, 1) := by decide +kernel
theorem d_S_requireOpen_15 : decode b_S_requireOpen 15 = .ok (.ldc 170, 2) := by decide +kernel
theorem d_S_requireOpen_17 : decode b_S_requireOpen 17 = .ok (.invokespecial 68, 3) := by decide +kernel
theorem d_S_requireOpen_20 : decode b_S_requireOpen 20 = .ok (.athrow, 1) := by decide +kernel
theorem d_S_requireOpen_21 : decode b_S_requireOpen 21 = .ok (.return_, 1) := by decide +kernel
theorem d_S_requirePage_0 : decode b_S_requirePage 0 = .ok (.iload_n 1, 1) := by decide +kernel
theorem d_S_requirePage_1 : decode b_S_requirePage 1 = .ok (.ifCond .lt 11, 3) := by decide +kernel
theorem d_S_requirePage_4 : decode b_S_requirePage 4 = .ok (.iload_n 1, 1) := by decide +kernel
theorem d_S_requirePage_5 : decode b_S_requirePage 5 = .ok (.aload_n 0, 1) := by decide +kernel
theorem d_S_requirePage_6 : decode b_S_requirePage 6 = .ok (.getfield 51, 3) := by decide +kernel
theorem d_S_requirePage_9 : decode b_S_requirePage 9 = .ok (.if_icmp .lt 13, 3) := by decide +kernel
theorem d_S_requirePage_12 : decode b_S_requirePage 12 = .ok (.new 172, 3) := by decide +kernel
theorem d_S_requirePage_15 : decode b_S_requirePage 15 = .ok (.dup, 1) := by decide +kernel
theorem d_S_requirePage_16 : decode b_S_requirePage 16 = .ok (.ldc 174, 2) := by decide +kernel
theorem d_S_requirePage_18 : decode b_S_requirePage 18 = .ok (.invokespecial 176, 3) := by decide +kernel
theorem d_S_requirePage_21 : decode b_S_requirePage 21 = .ok (.athrow, 1) := by decide +kernel
theorem d_S_requirePage_22 : decode b_S_requirePage 22 = .ok (.return_, 1) := by decide +kernel
theorem d_S_requireByte_0 : decode b_S_requireByte 0 = .ok (.aload_n 0, 1) := by decide +kernel
theorem d_S_requireByte_1 : decode b_S_requireByte 1 = .ok (.iload_n 1, 1) := by decide +kernel
theorem d_S_requireByte_2 : decode b_S_requireByte 2 = .ok (.invokevirtual 91, 3) := by decide +kernel
theorem d_S_requireByte_5 : decode b_S_requireByte 5 = .ok (.iload_n 2, 1) := by decide +kernel
theorem d_S_requireByte_6 : decode b_S_requireByte 6 = .ok (.ifCond .lt 10, 3) := by decide +kernel
theorem d_S_requireByte_9 : decode b_S_requireByte 9 = .ok (.iload_n 2, 1) := by decide +kernel
theorem d_S_requireByte_10 : decode b_S_requireByte 10 = .ok (.sipush 256, 3) := by decide +kernel
theorem d_S_requireByte_13 : decode b_S_requireByte 13 = .ok (.if_icmp .lt 13, 3) := by decide +kernel
theorem d_S_requireByte_16 : decode b_S_requireByte 16 = .ok (.new 172, 3) := by decide +kernel
theorem d_S_requireByte_19 : decode b_S_requireByte 19 = .ok (.dup, 1) := by decide +kernel
theorem d_S_requireByte_20 : decode b_S_requireByte 20 = .ok (.ldc 177, 2) := by decide +kernel
theorem d_S_requireByte_22 : decode b_S_requireByte 22 = .ok (.invokespecial 176, 3) := by decide +kernel
theorem d_S_requireByte_25 : decode b_S_requireByte 25 = .ok (.athrow, 1) := by decide +kernel
theorem d_S_requireByte_26 : decode b_S_requireByte 26 = .ok (.return_, 1) := by decide +kernel
theorem d_S_requireSpan_0 : decode b_S_requireSpan 0 = .ok (.iload_n 2, 1) := by decide +kernel
theorem d_S_requireSpan_1 : decode b_S_requireSpan 1 = .ok (.ifCond .lt 16, 3) := by decide +kernel
theorem d_S_requireSpan_4 : decode b_S_requireSpan 4 = .ok (.iload_n 1, 1) := by decide +kernel
theorem d_S_requireSpan_5 : decode b_S_requireSpan 5 = .ok (.ifCond .lt 12, 3) := by decide +kernel
theorem d_S_requireSpan_8 : decode b_S_requireSpan 8 = .ok (.iload_n 1, 1) := by decide +kernel
theorem d_S_requireSpan_9 : decode b_S_requireSpan 9 = .ok (.sipush 256, 3) := by decide +kernel
theorem d_S_requireSpan_12 : decode b_S_requireSpan 12 = .ok (.iload_n 2, 1) := by decide +kernel
theorem d_S_requireSpan_13 : decode b_S_requireSpan 13 = .ok (.isub, 1) := by decide +kernel
theorem d_S_requireSpan_14 : decode b_S_requireSpan 14 = .ok (.if_icmp .le 13, 3) := by decide +kernel
theorem d_S_requireSpan_17 : decode b_S_requireSpan 17 = .ok (.new 172, 3) := by decide +kernel
theorem d_S_requireSpan_20 : decode b_S_requireSpan 20 = .ok (.dup, 1) := by decide +kernel
theorem d_S_requireSpan_21 : decode b_S_requireSpan 21 = .ok (.ldc 179, 2) := by decide +kernel
theorem d_S_requireSpan_23 : decode b_S_requireSpan 23 = .ok (.invokespecial 176, 3) := by decide +kernel
theorem d_S_requireSpan_26 : decode b_S_requireSpan 26 = .ok (.athrow, 1) := by decide +kernel
theorem d_S_requireSpan_27 : decode b_S_requireSpan 27 = .ok (.return_, 1) := by decide +kernel
theorem d_S_requireMark_0 : decode b_S_requireMark 0 = .ok (.iload_n 1, 1) := by decide +kernel
theorem d_S_requireMark_1 : decode b_S_requireMark 1 = .ok (.iconst 1, 1) := by decide +kernel
theorem d_S_requireMark_2 : decode b_S_requireMark 2 = .ok (.if_icmp .lt 11, 3) := by decide +kernel
theorem d_S_requireMark_5 : decode b_S_requireMark 5 = .ok (.iload_n 1, 1) := by decide +kernel
theorem d_S_requireMark_6 : decode b_S_requireMark 6 = .ok (.aload_n 0, 1) := by decide +kernel
theorem d_S_requireMark_7 : decode b_S_requireMark 7 = .ok (.getfield 47, 3) := by decide +kernel
theorem d_S_requireMark_10 : decode b_S_requireMark 10 = .ok (.if_icmp .le 13, 3) := by decide +kernel
theorem d_S_requireMark_13 : decode b_S_requireMark 13 = .ok (.new 172, 3) := by decide +kernel
theorem d_S_requireMark_16 : decode b_S_requireMark 16 = .ok (.dup, 1) := by decide +kernel
theorem d_S_requireMark_17 : decode b_S_requireMark 17 = .ok (.ldc 181, 2) := by decide +kernel
theorem d_S_requireMark_19 : decode b_S_requireMark 19 = .ok (.invokespecial 176, 3) := by decide +kernel
theorem d_S_requireMark_22 : decode b_S_requireMark 22 = .ok (.athrow, 1) := by decide +kernel
theorem d_S_requireMark_23 : decode b_S_requireMark 23 = .ok (.return_, 1) := by decide +kernel
theorem d_S_bytesOf_0 : decode b_S_bytesOf 0 = .ok (.aload_n 0, 1) := by decide +kernel
theorem d_S_bytesOf_1 : decode b_S_bytesOf 1 = .ok (.getfield 47, 3) := by decide +kernel
theorem d_S_bytesOf_4 : decode b_S_bytesOf 4 = .ok (.istore_n 2, 1) := by decide +kernel
theorem d_S_bytesOf_5 : decode b_S_bytesOf 5 = .ok (.iload_n 2, 1) := by decide +kernel
theorem d_S_bytesOf_6 : decode b_S_bytesOf 6 = .ok (.ifCond .lt 33, 3) := by decide +kernel
theorem d_S_bytesOf_9 : decode b_S_bytesOf 9 = .ok (.aload_n 0, 1) := by decide +kernel
theorem d_S_bytesOf_10 : decode b_S_bytesOf 10 = .ok (.getfield 25, 3) := by decide +kernel
theorem d_S_bytesOf_13 : decode b_S_bytesOf 13 = .ok (.iload_n 2, 1) := by decide +kernel
theorem d_S_bytesOf_14 : decode b_S_bytesOf 14 = .ok (.aaload, 1) := by decide +kernel
theorem d_S_bytesOf_15 : decode b_S_bytesOf 15 = .ok (.iload_n 1, 1) := by decide +kernel
theorem d_S_bytesOf_16 : decode b_S_bytesOf 16 = .ok (.invokevirtual 183, 3) := by decide +kernel
theorem d_S_bytesOf_19 : decode b_S_bytesOf 19 = .ok (.ifCond .eq 14, 3) := by decide +kernel
theorem d_S_bytesOf_22 : decode b_S_bytesOf 22 = .ok (.aload_n 0, 1) := by decide +kernel
theorem d_S_bytesOf_23 : decode b_S_bytesOf 23 = .ok (.getfield 25, 3) := by decide +kernel
theorem d_S_bytesOf_26 : decode b_S_bytesOf 26 = .ok (.iload_n 2, 1) := by decide +kernel
theorem d_S_bytesOf_27 : decode b_S_bytesOf 27 = .ok (.aaload, 1) := by decide +kernel
theorem d_S_bytesOf_28 : decode b_S_bytesOf 28 = .ok (.iload_n 1, 1) := by decide +kernel
theorem d_S_bytesOf_29 : decode b_S_bytesOf 29 = .ok (.invokevirtual 187, 3) := by decide +kernel
theorem d_S_bytesOf_32 : decode b_S_bytesOf 32 = .ok (.areturn, 1) := by decide +kernel
theorem d_S_bytesOf_33 : decode b_S_bytesOf 33 = .ok (.iinc 2 (-1), 3) := by decide +kernel
theorem d_S_bytesOf_36 : decode b_S_bytesOf 36 = .ok (.goto (-31), 3) := by decide +kernel
theorem d_S_bytesOf_39 : decode b_S_bytesOf 39 = .ok (.aload_n 0, 1) := by decide +kernel
theorem d_S_bytesOf_40 : decode b_S_bytesOf 40 = .ok (.getfield 15, 3) := by decide +kernel
theorem d_S_bytesOf_43 : decode b_S_bytesOf 43 = .ok (.iload_n 1, 1) := by decide +kernel
theorem d_S_bytesOf_44 : decode b_S_bytesOf 44 = .ok (.invokevirtual 188, 3) := by decide +kernel
theorem d_S_bytesOf_47 : decode b_S_bytesOf 47 = .ok (.areturn, 1) := by decide +kernel
theorem d_S_bytesToChange_0 : decode b_S_bytesToChange 0 = .ok (.aload_n 0, 1) := by decide +kernel
theorem d_S_bytesToChange_1 : decode b_S_bytesToChange 1 = .ok (.getfield 25, 3) := by decide +kernel
theorem d_S_bytesToChange_4 : decode b_S_bytesToChange 4 = .ok (.aload_n 0, 1) := by decide +kernel
theorem d_S_bytesToChange_5 : decode b_S_bytesToChange 5 = .ok (.getfield 47, 3) := by decide +kernel
theorem d_S_bytesToChange_8 : decode b_S_bytesToChange 8 = .ok (.aaload, 1) := by decide +kernel
theorem d_S_bytesToChange_9 : decode b_S_bytesToChange 9 = .ok (.astore_n 2, 1) := by decide +kernel
theorem d_S_bytesToChange_10 : decode b_S_bytesToChange 10 = .ok (.aload_n 2, 1) := by decide +kernel
theorem d_S_bytesToChange_11 : decode b_S_bytesToChange 11 = .ok (.iload_n 1, 1) := by decide +kernel
theorem d_S_bytesToChange_12 : decode b_S_bytesToChange 12 = .ok (.invokevirtual 183, 3) := by decide +kernel
theorem d_S_bytesToChange_15 : decode b_S_bytesToChange 15 = .ok (.ifCond .ne 23, 3) := by decide +kernel
theorem d_S_bytesToChange_18 : decode b_S_bytesToChange 18 = .ok (.aload_n 0, 1) := by decide +kernel
theorem d_S_bytesToChange_19 : decode b_S_bytesToChange 19 = .ok (.iload_n 1, 1) := by decide +kernel
theorem d_S_bytesToChange_20 : decode b_S_bytesToChange 20 = .ok (.invokevirtual 85, 3) := by decide +kernel
theorem d_S_bytesToChange_23 : decode b_S_bytesToChange 23 = .ok (.astore_n 3, 1) := by decide +kernel
theorem d_S_bytesToChange_24 : decode b_S_bytesToChange 24 = .ok (.aload_n 3, 1) := by decide +kernel
theorem d_S_bytesToChange_25 : decode b_S_bytesToChange 25 = .ok (.iconst 0, 1) := by decide +kernel
theorem d_S_bytesToChange_26 : decode b_S_bytesToChange 26 = .ok (.aload_n 2, 1) := by decide +kernel
theorem d_S_bytesToChange_27 : decode b_S_bytesToChange 27 = .ok (.iload_n 1, 1) := by decide +kernel
theorem d_S_bytesToChange_28 : decode b_S_bytesToChange 28 = .ok (.invokevirtual 71, 3) := by decide +kernel
theorem d_S_bytesToChange_31 : decode b_S_bytesToChange 31 = .ok (.iconst 0, 1) := by decide +kernel
theorem d_S_bytesToChange_32 : decode b_S_bytesToChange 32 = .ok (.sipush 256, 3) := by decide +kernel
theorem d_S_bytesToChange_35 : decode b_S_bytesToChange 35 = .ok (.invokestatic 97, 3) := by decide +kernel
theorem d_S_bytesToChange_38 : decode b_S_bytesToChange 38 = .ok (.aload_n 2, 1) := by decide +kernel
theorem d_S_bytesToChange_39 : decode b_S_bytesToChange 39 = .ok (.iload_n 1, 1) := by decide +kernel
theorem d_S_bytesToChange_40 : decode b_S_bytesToChange 40 = .ok (.invokevirtual 187, 3) := by decide +kernel
theorem d_S_bytesToChange_43 : decode b_S_bytesToChange 43 = .ok (.areturn, 1) := by decide +kernel
theorem d_S_foldMarks_0 : decode b_S_foldMarks 0 = .ok (.iload_n 1, 1) := by decide +kernel
theorem d_S_foldMarks_1 : decode b_S_foldMarks 1 = .ok (.istore_n 2, 1) := by decide +kernel
theorem d_S_foldMarks_2 : decode b_S_foldMarks 2 = .ok (.iload_n 2, 1) := by decide +kernel
theorem d_S_foldMarks_3 : decode b_S_foldMarks 3 = .ok (.aload_n 0, 1) := by decide +kernel
theorem d_S_foldMarks_4 : decode b_S_foldMarks 4 = .ok (.getfield 47, 3) := by decide +kernel
theorem d_S_foldMarks_7 : decode b_S_foldMarks 7 = .ok (.if_icmp .gt 26, 3) := by decide +kernel
theorem d_S_foldMarks_10 : decode b_S_foldMarks 10 = .ok (.aload_n 0, 1) := by decide +kernel
theorem d_S_foldMarks_11 : decode b_S_foldMarks 11 = .ok (.getfield 25, 3) := by decide +kernel
theorem d_S_foldMarks_14 : decode b_S_foldMarks 14 = .ok (.iload_n 1, 1) := by decide +kernel
theorem d_S_foldMarks_15 : decode b_S_foldMarks 15 = .ok (.iconst 1, 1) := by decide +kernel
theorem d_S_foldMarks_16 : decode b_S_foldMarks 16 = .ok (.isub, 1) := by decide +kernel
theorem d_S_foldMarks_17 : decode b_S_foldMarks 17 = .ok (.aaload, 1) := by decide +kernel
theorem d_S_foldMarks_18 : decode b_S_foldMarks 18 = .ok (.aload_n 0, 1) := by decide +kernel
theorem d_S_foldMarks_19 : decode b_S_foldMarks 19 = .ok (.getfield 25, 3) := by decide +kernel
theorem d_S_foldMarks_22 : decode b_S_foldMarks 22 = .ok (.iload_n 2, 1) := by decide +kernel
theorem d_S_foldMarks_23 : decode b_S_foldMarks 23 = .ok (.aaload, 1) := by decide +kernel
theorem d_S_foldMarks_24 : decode b_S_foldMarks 24 = .ok (.invokevirtual 191, 3) := by decide +kernel
theorem d_S_foldMarks_27 : decode b_S_foldMarks 27 = .ok (.iinc 2 1, 3) := by decide +kernel
theorem d_S_foldMarks_30 : decode b_S_foldMarks 30 = .ok (.goto (-28), 3) := by decide +kernel
theorem d_S_foldMarks_33 : decode b_S_foldMarks 33 = .ok (.aload_n 0, 1) := by decide +kernel
theorem d_S_foldMarks_34 : decode b_S_foldMarks 34 = .ok (.iload_n 1, 1) := by decide +kernel
theorem d_S_foldMarks_35 : decode b_S_foldMarks 35 = .ok (.iconst 1, 1) := by decide +kernel
theorem d_S_foldMarks_36 : decode b_S_foldMarks 36 = .ok (.isub, 1) := by decide +kernel
theorem d_S_foldMarks_37 : decode b_S_foldMarks 37 = .ok (.putfield 47, 3) := by decide +kernel
theorem d_S_foldMarks_40 : decode b_S_foldMarks 40 = .ok (.return_, 1) := by decide +kernel
theorem d_S_endTransaction_0 : decode b_S_endTransaction 0 = .ok (.aload_n 0, 1) := by decide +kernel
theorem d_S_endTransaction_1 : decode b_S_endTransaction 1 = .ok (.iconst 0, 1) := by decide +kernel
theorem d_S_endTransaction_2 : decode b_S_endTransaction 2 = .ok (.putfield 44, 3) := by decide +kernel
theorem d_S_endTransaction_5 : decode b_S_endTransaction 5 = .ok (.aload_n 0, 1) := by decide +kernel
theorem d_S_endTransaction_6 : decode b_S_endTransaction 6 = .ok (.iconst 0, 1) := by decide +kernel
theorem d_S_endTransaction_7 : decode b_S_endTransaction 7 = .ok (.putfield 47, 3) := by decide +kernel
theorem d_S_endTransaction_10 : decode b_S_endTransaction 10 = .ok (.aload_n 0, 1) := by decide +kernel
theorem d_S_endTransaction_11 : decode b_S_endTransaction 11 = .ok (.aload_n 0, 1) := by decide +kernel
theorem d_S_endTransaction_12 : decode b_S_endTransaction 12 = .ok (.invokevirtual 195, 3) := by decide +kernel
theorem d_S_endTransaction_15 : decode b_S_endTransaction 15 = .ok (.putfield 51, 3) := by decide +kernel
theorem d_S_endTransaction_18 : decode b_S_endTransaction 18 = .ok (.aload_n 0, 1) := by decide +kernel
theorem d_S_endTransaction_19 : decode b_S_endTransaction 19 = .ok (.getfield 25, 3) := by decide +kernel
theorem d_S_endTransaction_22 : decode b_S_endTransaction 22 = .ok (.iconst 0, 1) := by decide +kernel
theorem d_S_endTransaction_23 : decode b_S_endTransaction 23 = .ok (.aaload, 1) := by decide +kernel
theorem d_S_endTransaction_24 : decode b_S_endTransaction 24 = .ok (.aload_n 0, 1) := by decide +kernel
theorem d_S_endTransaction_25 : decode b_S_endTransaction 25 = .ok (.getfield 51, 3) := by decide +kernel
theorem d_S_endTransaction_28 : decode b_S_endTransaction 28 = .ok (.invokevirtual 137, 3) := by decide +kernel
theorem d_S_endTransaction_31 : decode b_S_endTransaction 31 = .ok (.return_, 1) := by decide +kernel
theorem d_S_settle_0 : decode b_S_settle 0 = .ok (.aload_n 0, 1) := by decide +kernel
theorem d_S_settle_1 : decode b_S_settle 1 = .ok (.getfield 32, 3) := by decide +kernel
theorem d_S_settle_4 : decode b_S_settle 4 = .ok (.invokevirtual 198, 3) := by decide +kernel
theorem d_S_settle_7 : decode b_S_settle 7 = .ok (.aload_n 0, 1) := by decide +kernel
theorem d_S_settle_8 : decode b_S_settle 8 = .ok (.invokevirtual 132, 3) := by decide +kernel
theorem d_S_settle_11 : decode b_S_settle 11 = .ok (.aload_n 0, 1) := by decide +kernel
theorem d_S_settle_12 : decode b_S_settle 12 = .ok (.iload_n 1, 1) := by decide +kernel
theorem d_S_settle_13 : decode b_S_settle 13 = .ok (.putfield 40, 3) := by decide +kernel
theorem d_S_settle_16 : decode b_S_settle 16 = .ok (.iload_n 1, 1) := by decide +kernel
theorem d_S_settle_17 : decode b_S_settle 17 = .ok (.ifCond .ne 13, 3) := by decide +kernel
theorem d_S_settle_20 : decode b_S_settle 20 = .ok (.new 201, 3) := by decide +kernel
theorem d_S_settle_23 : decode b_S_settle 23 = .ok (.dup, 1) := by decide +kernel
theorem d_S_settle_24 : decode b_S_settle 24 = .ok (.ldc 203, 2) := by decide +kernel
theorem d_S_settle_26 : decode b_S_settle 26 = .ok (.invokespecial 205, 3) := by decide +kernel
theorem d_S_settle_29 : decode b_S_settle 29 = .ok (.athrow, 1) := by decide +kernel
theorem d_S_settle_30 : decode b_S_settle 30 = .ok (.return_, 1) := by decide +kernel
theorem d_S_pagesInFile_0 : decode b_S_pagesInFile 0 = .ok (.aload_n 0, 1) := by decide +kernel
theorem d_S_pagesInFile_1 : decode b_S_pagesInFile 1 = .ok (.getfield 15, 3) := by decide +kernel
theorem d_S_pagesInFile_4 : decode b_S_pagesInFile 4 = .ok (.invokevirtual 206, 3) := by decide +kernel
theorem d_S_pagesInFile_7 : decode b_S_pagesInFile 7 = .ok (.sipush 256, 3) := by decide +kernel
theorem d_S_pagesInFile_10 : decode b_S_pagesInFile 10 = .ok (.idiv, 1) := by decide +kernel
theorem d_S_pagesInFile_11 : decode b_S_pagesInFile 11 = .ok (.ireturn, 1) := by decide +kernel
theorem d_S_writeJournal_0 : decode b_S_writeJournal 0 = .ok (.aload_n 0, 1) := by decide +kernel
theorem d_S_writeJournal_1 : decode b_S_writeJournal 1 = .ok (.getfield 25, 3) := by decide +kernel
theorem d_S_writeJournal_4 : decode b_S_writeJournal 4 = .ok (.iconst 0, 1) := by decide +kernel
theorem d_S_writeJournal_5 : decode b_S_writeJournal 5 = .ok (.aaload, 1) := by decide +kernel
theorem d_S_writeJournal_6 : decode b_S_writeJournal 6 = .ok (.aload_n 0, 1) := by decide +kernel
theorem d_S_writeJournal_7 : decode b_S_writeJournal 7 = .ok (.getfield 51, 3) := by decide +kernel
theorem d_S_writeJournal_10 : decode b_S_writeJournal 10 = .ok (.invokevirtual 209, 3) := by decide +kernel
theorem d_S_writeJournal_13 : decode b_S_writeJournal 13 = .ok (.ifCond .ne 5, 3) := by decide +kernel
theorem d_S_writeJournal_16 : decode b_S_writeJournal 16 = .ok (.iconst 1, 1) := by decide +kernel
theorem d_S_writeJournal_17 : decode b_S_writeJournal 17 = .ok (.ireturn, 1) := by decide +kernel
theorem d_S_writeJournal_18 : decode b_S_writeJournal 18 = .ok (.aload_n 0, 1) := by decide +kernel
theorem d_S_writeJournal_19 : decode b_S_writeJournal 19 = .ok (.invokevirtual 195, 3) := by decide +kernel
theorem d_S_writeJournal_22 : decode b_S_writeJournal 22 = .ok (.istore_n 1, 1) := by decide +kernel
theorem d_S_writeJournal_23 : decode b_S_writeJournal 23 = .ok (.aload_n 0, 1) := by decide +kernel
theorem d_S_writeJournal_24 : decode b_S_writeJournal 24 = .ok (.iload_n 1, 1) := by decide +kernel
theorem d_S_writeJournal_25 : decode b_S_writeJournal 25 = .ok (.invokevirtual 212, 3) := by decide +kernel
theorem d_S_writeJournal_28 : decode b_S_writeJournal 28 = .ok (.aload_n 0, 1) := by decide +kernel
theorem d_S_writeJournal_29 : decode b_S_writeJournal 29 = .ok (.aload_n 0, 1) := by decide +kernel
theorem d_S_writeJournal_30 : decode b_S_writeJournal 30 = .ok (.getfield 20, 3) := by decide +kernel
theorem d_S_writeJournal_33 : decode b_S_writeJournal 33 = .ok (.aload_n 0, 1) := by decide +kernel
theorem d_S_writeJournal_34 : decode b_S_writeJournal 34 = .ok (.getfield 36, 3) := by decide +kernel
theorem d_S_writeJournal_37 : decode b_S_writeJournal 37 = .ok (.iconst 0, 1) := by decide +kernel
theorem d_S_writeJournal_38 : decode b_S_writeJournal 38 = .ok (.iconst 4, 1) := by decide +kernel
theorem d_S_writeJournal_39 : decode b_S_writeJournal 39 = .ok (.iconst 0, 1) := by decide +kernel
theorem d_S_writeJournal_40 : decode b_S_writeJournal 40 = .ok (.invokevirtual 215, 3) := by decide +kernel
theorem d_S_writeJournal_43 : decode b_S_writeJournal 43 = .ok (.istore_n 2, 1) := by decide +kernel
theorem d_S_writeJournal_44 : decode b_S_writeJournal 44 = .ok (.iconst 0, 1) := by decide +kernel
theorem d_S_writeJournal_45 : decode b_S_writeJournal 45 = .ok (.istore_n 3, 1) := by decide +kernel
theorem d_S_writeJournal_46 : decode b_S_writeJournal 46 = .ok (.iload_n 3, 1) := by decide +kernel
theorem d_S_writeJournal_47 : decode b_S_writeJournal 47 = .ok (.iload_n 1, 1) := by decide +kernel
theorem d_S_writeJournal_48 : decode b_S_writeJournal 48 = .ok (.if_icmp .ge 75, 3) := by decide +kernel
theorem d_S_writeJournal_51 : decode b_S_writeJournal 51 = .ok (.iload_n 2, 1) := by decide +kernel
theorem d_S_writeJournal_52 : decode b_S_writeJournal 52 = .ok (.ifCond .eq 71, 3) := by decide +kernel
theorem d_S_writeJournal_55 : decode b_S_writeJournal 55 = .ok (.aload_n 0, 1) := by decide +kernel
theorem d_S_writeJournal_56 : decode b_S_writeJournal 56 = .ok (.getfield 25, 3) := by decide +kernel
theorem d_S_writeJournal_59 : decode b_S_writeJournal 59 = .ok (.iconst 0, 1) := by decide +kernel
theorem d_S_writeJournal_60 : decode b_S_writeJournal 60 = .ok (.aaload, 1) := by decide +kernel
theorem d_S_writeJournal_61 : decode b_S_writeJournal 61 = .ok (.iload_n 3, 1) := by decide +kernel
theorem d_S_writeJournal_62 : decode b_S_writeJournal 62 = .ok (.invokevirtual 183, 3) := by decide +kernel
theorem d_S_writeJournal_65 : decode b_S_writeJournal 65 = .ok (.ifCond .eq 52, 3) := by decide +kernel
theorem d_S_writeJournal_68 : decode b_S_writeJournal 68 = .ok (.aload_n 0, 1) := by decide +kernel
theorem d_S_writeJournal_69 : decode b_S_writeJournal 69 = .ok (.iload_n 3, 1) := by decide +kernel
theorem d_S_writeJournal_70 : decode b_S_writeJournal 70 = .ok (.invokevirtual 212, 3) := by decide +kernel
theorem d_S_writeJournal_73 : decode b_S_writeJournal 73 = .ok (.aload_n 0, 1) := by decide +kernel
theorem d_S_writeJournal_74 : decode b_S_writeJournal 74 = .ok (.getfield 15, 3) := by decide +kernel
theorem d_S_writeJournal_77 : decode b_S_writeJournal 77 = .ok (.iload_n 3, 1) := by decide +kernel
theorem d_S_writeJournal_78 : decode b_S_writeJournal 78 = .ok (.invokevirtual 188, 3) := by decide +kernel
theorem d_S_writeJournal_81 : decode b_S_writeJournal 81 = .ok (.iconst 0, 1) := by decide +kernel
theorem d_S_writeJournal_82 : decode b_S_writeJournal 82 = .ok (.aload_n 0, 1) := by decide +kernel
theorem d_S_writeJournal_83 : decode b_S_writeJournal 83 = .ok (.getfield 36, 3) := by decide +kernel
theorem d_S_writeJournal_86 : decode b_S_writeJournal 86 = .ok (.iconst 4, 1) := by decide +kernel
theorem d_S_writeJournal_87 : decode b_S_writeJournal 87 = .ok (.sipush 256, 3) := by decide +kernel
theorem d_S_writeJournal_90 : decode b_S_writeJournal 90 = .ok (.invokestatic 97, 3) := by decide +kernel
theorem d_S_writeJournal_93 : decode b_S_writeJournal 93 = .ok (.aload_n 0, 1) := by decide +kernel
theorem d_S_writeJournal_94 : decode b_S_writeJournal 94 = .ok (.aload_n 0, 1) := by decide +kernel
theorem d_S_writeJournal_95 : decode b_S_writeJournal 95 = .ok (.getfield 20, 3) := by decide +kernel
theorem d_S_writeJournal_98 : decode b_S_writeJournal 98 = .ok (.aload_n 0, 1) := by decide +kernel
theorem d_S_writeJournal_99 : decode b_S_writeJournal 99 = .ok (.getfield 36, 3) := by decide +kernel
theorem d_S_writeJournal_102 : decode b_S_writeJournal 102 = .ok (.aload_n 0, 1) := by decide +kernel
theorem d_S_writeJournal_103 : decode b_S_writeJournal 103 = .ok (.getfield 20, 3) := by decide +kernel
theorem d_S_writeJournal_106 : decode b_S_writeJournal 106 = .ok (.invokevirtual 206, 3) := by decide +kernel
theorem d_S_writeJournal_109 : decode b_S_writeJournal 109 = .ok (.sipush 260, 3) := by decide +kernel
theorem d_S_writeJournal_112 : decode b_S_writeJournal 112 = .ok (.iconst 0, 1) := by decide +kernel
theorem d_S_writeJournal_113 : decode b_S_writeJournal 113 = .ok (.invokevirtual 215, 3) := by decide +kernel
theorem d_S_writeJournal_116 : decode b_S_writeJournal 116 = .ok (.istore_n 2, 1) := by decide +kernel
theorem d_S_writeJournal_117 : decode b_S_writeJournal 117 = .ok (.iinc 3 1, 3) := by decide +kernel
theorem d_S_writeJournal_120 : decode b_S_writeJournal 120 = .ok (.goto (-74), 3) := by decide +kernel
theorem d_S_writeJournal_123 : decode b_S_writeJournal 123 = .ok (.iload_n 2, 1) := by decide +kernel
theorem d_S_writeJournal_124 : decode b_S_writeJournal 124 = .ok (.ireturn, 1) := by decide +kernel
theorem d_S_writeFile_0 : decode b_S_writeFile 0 = .ok (.iconst 1, 1) := by decide +kernel
theorem d_S_writeFile_1 : decode b_S_writeFile 1 = .ok (.istore_n 1, 1) := by decide +kernel
theorem d_S_writeFile_2 : decode b_S_writeFile 2 = .ok (.iconst 0, 1) := by decide +kernel
theorem d_S_writeFile_3 : decode b_S_writeFile 3 = .ok (.istore_n 2, 1) := by decide +kernel
theorem d_S_writeFile_4 : decode b_S_writeFile 4 = .ok (.iload_n 2, 1) := by decide +kernel
theorem d_S_writeFile_5 : decode b_S_writeFile 5 = .ok (.aload_n 0, 1) := by decide +kernel
theorem d_S_writeFile_6 : decode b_S_writeFile 6 = .ok (.getfield 51, 3) := by decide +kernel
theorem d_S_writeFile_9 : decode b_S_writeFile 9 = .ok (.if_icmp .ge 54, 3) := by decide +kernel
theorem d_S_writeFile_12 : decode b_S_writeFile 12 = .ok (.iload_n 1, 1) := by decide +kernel
theorem d_S_writeFile_13 : decode b_S_writeFile 13 = .ok (.ifCond .eq 50, 3) := by decide +kernel
theorem d_S_writeFile_16 : decode b_S_writeFile 16 = .ok (.aload_n 0, 1) := by decide +kernel
theorem d_S_writeFile_17 : decode b_S_writeFile 17 = .ok (.getfield 25, 3) := by decide +kernel
theorem d_S_writeFile_20 : decode b_S_writeFile 20 = .ok (.iconst 0, 1) := by decide +kernel
theorem d_S_writeFile_21 : decode b_S_writeFile 21 = .ok (.aaload, 1) := by decide +kernel
theorem d_S_writeFile_22 : decode b_S_writeFile 22 = .ok (.iload_n 2, 1) := by decide +kernel
theorem d_S_writeFile_23 : decode b_S_writeFile 23 = .ok (.invokevirtual 183, 3) := by decide +kernel
theorem d_S_writeFile_26 : decode b_S_writeFile 26 = .ok (.ifCond .eq 31, 3) := by decide +kernel
theorem d_S_writeFile_29 : decode b_S_writeFile 29 = .ok (.aload_n 0, 1) := by decide +kernel
theorem d_S_writeFile_30 : decode b_S_writeFile 30 = .ok (.aload_n 0, 1) := by decide +kernel
theorem d_S_writeFile_31 : decode b_S_writeFile 31 = .ok (.getfield 15, 3) := by decide +kernel
theorem d_S_writeFile_34 : decode b_S_writeFile 34 = .ok (.aload_n 0, 1) := by decide +kernel
theorem d_S_writeFile_35 : decode b_S_writeFile 35 = .ok (.getfield 25, 3) := by decide +kernel
theorem d_S_writeFile_38 : decode b_S_writeFile 38 = .ok (.iconst 0, 1) := by decide +kernel
theorem d_S_writeFile_39 : decode b_S_writeFile 39 = .ok (.aaload, 1) := by decide +kernel
theorem d_S_writeFile_40 : decode b_S_writeFile 40 = .ok (.iload_n 2, 1) := by decide +kernel
theorem d_S_writeFile_41 : decode b_S_writeFile 41 = .ok (.invokevirtual 187, 3) := by decide +kernel
theorem d_S_writeFile_44 : decode b_S_writeFile 44 = .ok (.iload_n 2, 1) := by decide +kernel
theorem d_S_writeFile_45 : decode b_S_writeFile 45 = .ok (.sipush 256, 3) := by decide +kernel
theorem d_S_writeFile_48 : decode b_S_writeFile 48 = .ok (.imul, 1) := by decide +kernel
theorem d_S_writeFile_49 : decode b_S_writeFile 49 = .ok (.sipush 256, 3) := by decide +kernel
theorem d_S_writeFile_52 : decode b_S_writeFile 52 = .ok (.iconst 1, 1) := by decide +kernel
theorem d_S_writeFile_53 : decode b_S_writeFile 53 = .ok (.invokevirtual 215, 3) := by decide +kernel
theorem d_S_writeFile_56 : decode b_S_writeFile 56 = .ok (.istore_n 1, 1) := by decide +kernel
theorem d_S_writeFile_57 : decode b_S_writeFile 57 = .ok (.iinc 2 1, 3) := by decide +kernel
theorem d_S_writeFile_60 : decode b_S_writeFile 60 = .ok (.goto (-56), 3) := by decide +kernel
theorem d_S_writeFile_63 : decode b_S_writeFile 63 = .ok (.iload_n 1, 1) := by decide +kernel
theorem d_S_writeFile_64 : decode b_S_writeFile 64 = .ok (.ireturn, 1) := by decide +kernel
theorem d_S_undo_0 : decode b_S_undo 0 = .ok (.aload_n 0, 1) := by decide +kernel
theorem d_S_undo_1 : decode b_S_undo 1 = .ok (.getfield 20, 3) := by decide +kernel
theorem d_S_undo_4 : decode b_S_undo 4 = .ok (.invokevirtual 206, 3) := by decide +kernel
theorem d_S_undo_7 : decode b_S_undo 7 = .ok (.iconst 4, 1) := by decide +kernel
theorem d_S_undo_8 : decode b_S_undo 8 = .ok (.if_icmp .ge 5, 3) := by decide +kernel
theorem d_S_undo_11 : decode b_S_undo 11 = .ok (.iconst 1, 1) := by decide +kernel
theorem d_S_undo_12 : decode b_S_undo 12 = .ok (.ireturn, 1) := by decide +kernel
theorem d_S_undo_13 : decode b_S_undo 13 = .ok (.aload_n 0, 1) := by decide +kernel
theorem d_S_undo_14 : decode b_S_undo 14 = .ok (.iconst 0, 1) := by decide +kernel
theorem d_S_undo_15 : decode b_S_undo 15 = .ok (.invokevirtual 219, 3) := by decide +kernel
theorem d_S_undo_18 : decode b_S_undo 18 = .ok (.istore_n 1, 1) := by decide +kernel
theorem d_S_undo_19 : decode b_S_undo 19 = .ok (.aload_n 0, 1) := by decide +kernel
theorem d_S_undo_20 : decode b_S_undo 20 = .ok (.getfield 20, 3) := by decide +kernel
theorem d_S_undo_23 : decode b_S_undo 23 = .ok (.invokevirtual 206, 3) := by decide +kernel
theorem d_S_undo_26 : decode b_S_undo 26 = .ok (.iconst 4, 1) := by decide +kernel
theorem d_S_undo_27 : decode b_S_undo 27 = .ok (.isub, 1) := by decide +kernel
theorem d_S_undo_28 : decode b_S_undo 28 = .ok (.sipush 260, 3) := by decide +kernel
theorem d_S_undo_31 : decode b_S_undo 31 = .ok (.idiv, 1) := by decide +kernel
theorem d_S_undo_32 : decode b_S_undo 32 = .ok (.istore_n 2, 1) := by decide +kernel
theorem d_S_undo_33 : decode b_S_undo 33 = .ok (.iconst 1, 1) := by decide +kernel
theorem d_S_undo_34 : decode b_S_undo 34 = .ok (.istore_n 3, 1) := by decide +kernel
theorem d_S_undo_35 : decode b_S_undo 35 = .ok (.iconst 0, 1) := by decide +kernel
theorem d_S_undo_36 : decode b_S_undo 36 = .ok (.istore 4, 2) := by decide +kernel
theorem d_S_undo_38 : decode b_S_undo 38 = .ok (.iload 4, 2) := by decide +kernel
theorem d_S_undo_40 : decode b_S_undo 40 = .ok (.iload_n 2, 1) := by decide +kernel
theorem d_S_undo_41 : decode b_S_undo 41 = .ok (.if_icmp .ge 85, 3) := by decide +kernel
theorem d_S_undo_44 : decode b_S_undo 44 = .ok (.iload_n 3, 1) := by decide +kernel
theorem d_S_undo_45 : decode b_S_undo 45 = .ok (.ifCond .eq 81, 3) := by decide +kernel
theorem d_S_undo_48 : decode b_S_undo 48 = .ok (.iconst 4, 1) := by decide +kernel
theorem d_S_undo_49 : decode b_S_undo 49 = .ok (.iload 4, 2) := by decide +kernel
theorem d_S_undo_51 : decode b_S_undo 51 = .ok (.sipush 260, 3) := by decide +kernel
theorem d_S_undo_54 : decode b_S_undo 54 = .ok (.imul, 1) := by decide +kernel
theorem d_S_undo_55 : decode b_S_undo 55 = .ok (.iadd, 1) := by decide +kernel
theorem d_S_undo_56 : decode b_S_undo 56 = .ok (.istore 5, 2) := by decide +kernel
theorem d_S_undo_58 : decode b_S_undo 58 = .ok (.aload_n 0, 1) := by decide +kernel
theorem d_S_undo_59 : decode b_S_undo 59 = .ok (.iload 5, 2) := by decide +kernel
theorem d_S_undo_61 : decode b_S_undo 61 = .ok (.invokevirtual 219, 3) := by decide +kernel
theorem d_S_undo_64 : decode b_S_undo 64 = .ok (.istore 6, 2) := by decide +kernel
theorem d_S_undo_66 : decode b_S_undo 66 = .ok (.iload 6, 2) := by decide +kernel
theorem d_S_undo_68 : decode b_S_undo 68 = .ok (.ifCond .lt 52, 3) := by decide +kernel
theorem d_S_undo_71 : decode b_S_undo 71 = .ok (.iload 6, 2) := by decide +kernel
theorem d_S_undo_73 : decode b_S_undo 73 = .ok (.sipush 768, 3) := by decide +kernel
theorem d_S_undo_76 : decode b_S_undo 76 = .ok (.if_icmp .ge 44, 3) := by decide +kernel
theorem d_S_undo_79 : decode b_S_undo 79 = .ok (.aload_n 0, 1) := by decide +kernel
theorem d_S_undo_80 : decode b_S_undo 80 = .ok (.getfield 20, 3) := by decide +kernel
theorem d_S_undo_83 : decode b_S_undo 83 = .ok (.iload 5, 2) := by decide +kernel
theorem d_S_undo_85 : decode b_S_undo 85 = .ok (.iconst 4, 1) := by decide +kernel
theorem d_S_undo_86 : decode b_S_undo 86 = .ok (.iadd, 1) := by decide +kernel
theorem d_S_undo_87 : decode b_S_undo 87 = .ok (.aload_n 0, 1) := by decide +kernel
theorem d_S_undo_88 : decode b_S_undo 88 = .ok (.getfield 36, 3) := by decide +kernel
theorem d_S_undo_91 : decode b_S_undo 91 = .ok (.sipush 256, 3) := by decide +kernel
theorem d_S_undo_94 : decode b_S_undo 94 = .ok (.invokevirtual 223, 3) := by decide +kernel
theorem d_S_undo_97 : decode b_S_undo 97 = .ok (.aload_n 0, 1) := by decide +kernel
theorem d_S_undo_98 : decode b_S_undo 98 = .ok (.aload_n 0, 1) := by decide +kernel
theorem d_S_undo_99 : decode b_S_undo 99 = .ok (.getfield 15, 3) := by decide +kernel
theorem d_S_undo_102 : decode b_S_undo 102 = .ok (.aload_n 0, 1) := by decide +kernel
theorem d_S_undo_103 : decode b_S_undo 103 = .ok (.getfield 36, 3) := by decide +kernel
theorem d_S_undo_106 : decode b_S_undo 106 = .ok (.iload 6, 2) := by decide +kernel
theorem d_S_undo_108 : decode b_S_undo 108 = .ok (.sipush 256, 3) := by decide +kernel
theorem d_S_undo_111 : decode b_S_undo 111 = .ok (.imul, 1) := by decide +kernel
theorem d_S_undo_112 : decode b_S_undo 112 = .ok (.sipush 256, 3) := by decide +kernel
theorem d_S_undo_115 : decode b_S_undo 115 = .ok (.iconst 3, 1) := by decide +kernel
theorem d_S_undo_116 : decode b_S_undo 116 = .ok (.invokevirtual 215, 3) := by decide +kernel
theorem d_S_undo_119 : decode b_S_undo 119 = .ok (.istore_n 3, 1) := by decide +kernel
theorem d_S_undo_120 : decode b_S_undo 120 = .ok (.iinc 4 1, 3) := by decide +kernel
theorem d_S_undo_123 : decode b_S_undo 123 = .ok (.goto (-85), 3) := by decide +kernel
theorem d_S_undo_126 : decode b_S_undo 126 = .ok (.iload_n 3, 1) := by decide +kernel
theorem d_S_undo_127 : decode b_S_undo 127 = .ok (.ifCond .eq 15, 3) := by decide +kernel
theorem d_S_undo_130 : decode b_S_undo 130 = .ok (.aload_n 0, 1) := by decide +kernel
theorem d_S_undo_131 : decode b_S_undo 131 = .ok (.getfield 15, 3) := by decide +kernel
theorem d_S_undo_134 : decode b_S_undo 134 = .ok (.iload_n 1, 1) := by decide +kernel
theorem d_S_undo_135 : decode b_S_undo 135 = .ok (.sipush 256, 3) := by decide +kernel
theorem d_S_undo_138 : decode b_S_undo 138 = .ok (.imul, 1) := by decide +kernel
theorem d_S_undo_139 : decode b_S_undo 139 = .ok (.invokevirtual 122, 3) := by decide +kernel
theorem d_S_undo_142 : decode b_S_undo 142 = .ok (.iload_n 3, 1) := by decide +kernel
theorem d_S_undo_143 : decode b_S_undo 143 = .ok (.ireturn, 1) := by decide +kernel
theorem d_S_write_0 : decode b_S_write 0 = .ok (.aload_n 1, 1) := by decide +kernel
theorem d_S_write_1 : decode b_S_write 1 = .ok (.iload_n 3, 1) := by decide +kernel
theorem d_S_write_2 : decode b_S_write 2 = .ok (.aload_n 2, 1) := by decide +kernel
theorem d_S_write_3 : decode b_S_write 3 = .ok (.aload_n 0, 1) := by decide +kernel
theorem d_S_write_4 : decode b_S_write 4 = .ok (.getfield 32, 3) := by decide +kernel
theorem d_S_write_7 : decode b_S_write 7 = .ok (.iload 5, 2) := by decide +kernel
theorem d_S_write_9 : decode b_S_write 9 = .ok (.iload 4, 2) := by decide +kernel
theorem d_S_write_11 : decode b_S_write 11 = .ok (.invokevirtual 227, 3) := by decide +kernel
theorem d_S_write_14 : decode b_S_write 14 = .ok (.invokevirtual 231, 3) := by decide +kernel
theorem d_S_write_17 : decode b_S_write 17 = .ok (.aload_n 0, 1) := by decide +kernel
theorem d_S_write_18 : decode b_S_write 18 = .ok (.getfield 32, 3) := by decide +kernel
theorem d_S_write_21 : decode b_S_write 21 = .ok (.invokevirtual 233, 3) := by decide +kernel
theorem d_S_write_24 : decode b_S_write 24 = .ok (.ifCond .ne 7, 3) := by decide +kernel
theorem d_S_write_27 : decode b_S_write 27 = .ok (.iconst 1, 1) := by decide +kernel
theorem d_S_write_28 : decode b_S_write 28 = .ok (.goto 4, 3) := by decide +kernel
theorem d_S_write_31 : decode b_S_write 31 = .ok (.iconst 0, 1) := by decide +kernel
theorem d_S_write_32 : decode b_S_write 32 = .ok (.ireturn, 1) := by decide +kernel
theorem d_S_setNumber_0 : decode b_S_setNumber 0 = .ok (.iconst 0, 1) := by decide +kernel
theorem d_S_setNumber_1 : decode b_S_setNumber 1 = .ok (.istore_n 2, 1) := by decide +kernel
theorem d_S_setNumber_2 : decode b_S_setNumber 2 = .ok (.iload_n 2, 1) := by decide +kernel
theorem d_S_setNumber_3 : decode b_S_setNumber 3 = .ok (.iconst 4, 1) := by decide +kernel
theorem d_S_setNumber_4 : decode b_S_setNumber 4 = .ok (.if_icmp .ge 22, 3) := by decide +kernel
theorem d_S_setNumber_7 : decode b_S_setNumber 7 = .ok (.aload_n 0, 1) := by decide +kernel
theorem d_S_setNumber_8 : decode b_S_setNumber 8 = .ok (.getfield 36, 3) := by decide +kernel
theorem d_S_setNumber_11 : decode b_S_setNumber 11 = .ok (.iload_n 2, 1) := by decide +kernel
theorem d_S_setNumber_12 : decode b_S_setNumber 12 = .ok (.iload_n 1, 1) := by decide +kernel
theorem d_S_setNumber_13 : decode b_S_setNumber 13 = .ok (.bipush 8, 2) := by decide +kernel
theorem d_S_setNumber_15 : decode b_S_setNumber 15 = .ok (.iload_n 2, 1) := by decide +kernel
theorem d_S_setNumber_16 : decode b_S_setNumber 16 = .ok (.imul, 1) := by decide +kernel
theorem d_S_setNumber_17 : decode b_S_setNumber 17 = .ok (.ishr, 1) := by decide +kernel
theorem d_S_setNumber_18 : decode b_S_setNumber 18 = .ok (.i2b, 1) := by decide +kernel
theorem d_S_setNumber_19 : decode b_S_setNumber 19 = .ok (.bastore, 1) := by decide +kernel
theorem d_S_setNumber_20 : decode b_S_setNumber 20 = .ok (.iinc 2 1, 3) := by decide +kernel
theorem d_S_setNumber_23 : decode b_S_setNumber 23 = .ok (.goto (-21), 3) := by decide +kernel
theorem d_S_setNumber_26 : decode b_S_setNumber 26 = .ok (.return_, 1) := by decide +kernel
theorem d_S_journalNumber_0 : decode b_S_journalNumber 0 = .ok (.aload_n 0, 1) := by decide +kernel
theorem d_S_journalNumber_1 : decode b_S_journalNumber 1 = .ok (.getfield 20, 3) := by decide +kernel
theorem d_S_journalNumber_4 : decode b_S_journalNumber 4 = .ok (.iload_n 1, 1) := by decide +kernel
theorem d_S_journalNumber_5 : decode b_S_journalNumber 5 = .ok (.aload_n 0, 1) := by decide +kernel
theorem d_S_journalNumber_6 : decode b_S_journalNumber 6 = .ok (.getfield 36, 3) := by decide +kernel
theorem d_S_journalNumber_9 : decode b_S_journalNumber 9 = .ok (.iconst 4, 1) := by decide +kernel
theorem d_S_journalNumber_10 : decode b_S_journalNumber 10 = .ok (.invokevirtual 223, 3) := by decide +kernel
theorem d_S_journalNumber_13 : decode b_S_journalNumber 13 = .ok (.iconst 0, 1) := by decide +kernel
theorem d_S_journalNumber_14 : decode b_S_journalNumber 14 = .ok (.istore_n 2, 1) := by decide +kernel
theorem d_S_journalNumber_15 : decode b_S_journalNumber 15 = .ok (.iconst 0, 1) := by decide +kernel
theorem d_S_journalNumber_16 : decode b_S_journalNumber 16 = .ok (.istore_n 3, 1) := by decide +kernel
theorem d_S_journalNumber_17 : decode b_S_journalNumber 17 = .ok (.iload_n 3, 1) := by decide +kernel
theorem d_S_journalNumber_18 : decode b_S_journalNumber 18 = .ok (.iconst 4, 1) := by decide +kernel
theorem d_S_journalNumber_19 : decode b_S_journalNumber 19 = .ok (.if_icmp .ge 27, 3) := by decide +kernel
theorem d_S_journalNumber_22 : decode b_S_journalNumber 22 = .ok (.iload_n 2, 1) := by decide +kernel
theorem d_S_journalNumber_23 : decode b_S_journalNumber 23 = .ok (.aload_n 0, 1) := by decide +kernel
theorem d_S_journalNumber_24 : decode b_S_journalNumber 24 = .ok (.getfield 36, 3) := by decide +kernel
theorem d_S_journalNumber_27 : decode b_S_journalNumber 27 = .ok (.iload_n 3, 1) := by decide +kernel
theorem d_S_journalNumber_28 : decode b_S_journalNumber 28 = .ok (.baload, 1) := by decide +kernel
theorem d_S_journalNumber_29 : decode b_S_journalNumber 29 = .ok (.sipush 255, 3) := by decide +kernel
theorem d_S_journalNumber_32 : decode b_S_journalNumber 32 = .ok (.iand, 1) := by decide +kernel
theorem d_S_journalNumber_33 : decode b_S_journalNumber 33 = .ok (.bipush 8, 2) := by decide +kernel
theorem d_S_journalNumber_35 : decode b_S_journalNumber 35 = .ok (.iload_n 3, 1) := by decide +kernel
theorem d_S_journalNumber_36 : decode b_S_journalNumber 36 = .ok (.imul, 1) := by decide +kernel
theorem d_S_journalNumber_37 : decode b_S_journalNumber 37 = .ok (.ishl, 1) := by decide +kernel
theorem d_S_journalNumber_38 : decode b_S_journalNumber 38 = .ok (.ior, 1) := by decide +kernel
theorem d_S_journalNumber_39 : decode b_S_journalNumber 39 = .ok (.istore_n 2, 1) := by decide +kernel
theorem d_S_journalNumber_40 : decode b_S_journalNumber 40 = .ok (.iinc 3 1, 3) := by decide +kernel
theorem d_S_journalNumber_43 : decode b_S_journalNumber 43 = .ok (.goto (-26), 3) := by decide +kernel
theorem d_S_journalNumber_46 : decode b_S_journalNumber 46 = .ok (.iload_n 2, 1) := by decide +kernel
theorem d_S_journalNumber_47 : decode b_S_journalNumber 47 = .ok (.ireturn, 1) := by decide +kernel
theorem d_B_init_0 : decode b_B_init 0 = .ok (.aload_n 0, 1) := by decide +kernel
theorem d_B_init_1 : decode b_B_init 1 = .ok (.invokespecial 3, 3) := by decide +kernel
theorem d_B_init_4 : decode b_B_init 4 = .ok (.aload_n 0, 1) := by decide +kernel
theorem d_B_init_5 : decode b_B_init 5 = .ok (.sipush 256, 3) := by decide +kernel
theorem d_B_init_8 : decode b_B_init 8 = .ok (.newarray .byte, 2) := by decide +kernel
theorem d_B_init_10 : decode b_B_init 10 = .ok (.putfield 9, 3) := by decide +kernel
theorem d_B_init_13 : decode b_B_init 13 = .ok (.return_, 1) := by decide +kernel
theorem d_K_init_0 : decode b_K_init 0 = .ok (.aload_n 0, 1) := by decide +kernel
theorem d_K_init_1 : decode b_K_init 1 = .ok (.invokespecial 1, 3) := by decide +kernel
theorem d_K_init_4 : decode b_K_init 4 = .ok (.aload_n 0, 1) := by decide +kernel
theorem d_K_init_5 : decode b_K_init 5 = .ok (.iload_n 1, 1) := by decide +kernel
theorem d_K_init_6 : decode b_K_init 6 = .ok (.anewarray 7, 3) := by decide +kernel
theorem d_K_init_9 : decode b_K_init 9 = .ok (.putfield 9, 3) := by decide +kernel
theorem d_K_init_12 : decode b_K_init 12 = .ok (.return_, 1) := by decide +kernel
theorem d_K_bytesOf_0 : decode b_K_bytesOf 0 = .ok (.aload_n 0, 1) := by decide +kernel
theorem d_K_bytesOf_1 : decode b_K_bytesOf 1 = .ok (.getfield 9, 3) := by decide +kernel
theorem d_K_bytesOf_4 : decode b_K_bytesOf 4 = .ok (.iload_n 1, 1) := by decide +kernel
theorem d_K_bytesOf_5 : decode b_K_bytesOf 5 = .ok (.aaload, 1) := by decide +kernel
theorem d_K_bytesOf_6 : decode b_K_bytesOf 6 = .ok (.ifnonnull 16, 3) := by decide +kernel
theorem d_K_bytesOf_9 : decode b_K_bytesOf 9 = .ok (.aload_n 0, 1) := by decide +kernel
theorem d_K_bytesOf_10 : decode b_K_bytesOf 10 = .ok (.getfield 9, 3) := by decide +kernel
theorem d_K_bytesOf_13 : decode b_K_bytesOf 13 = .ok (.iload_n 1, 1) := by decide +kernel
theorem d_K_bytesOf_14 : decode b_K_bytesOf 14 = .ok (.new 7, 3) := by decide +kernel
theorem d_K_bytesOf_17 : decode b_K_bytesOf 17 = .ok (.dup, 1) := by decide +kernel
theorem d_K_bytesOf_18 : decode b_K_bytesOf 18 = .ok (.invokespecial 15, 3) := by decide +kernel
theorem d_K_bytesOf_21 : decode b_K_bytesOf 21 = .ok (.aastore, 1) := by decide +kernel
theorem d_K_bytesOf_22 : decode b_K_bytesOf 22 = .ok (.aload_n 0, 1) := by decide +kernel
theorem d_K_bytesOf_23 : decode b_K_bytesOf 23 = .ok (.getfield 9, 3) := by decide +kernel
theorem d_K_bytesOf_26 : decode b_K_bytesOf 26 = .ok (.iload_n 1, 1) := by decide +kernel
theorem d_K_bytesOf_27 : decode b_K_bytesOf 27 = .ok (.aaload, 1) := by decide +kernel
theorem d_K_bytesOf_28 : decode b_K_bytesOf 28 = .ok (.getfield 16, 3) := by decide +kernel
theorem d_K_bytesOf_31 : decode b_K_bytesOf 31 = .ok (.areturn, 1) := by decide +kernel
theorem d_K_swap_0 : decode b_K_swap 0 = .ok (.aload_n 0, 1) := by decide +kernel
theorem d_K_swap_1 : decode b_K_swap 1 = .ok (.getfield 9, 3) := by decide +kernel
theorem d_K_swap_4 : decode b_K_swap 4 = .ok (.iload_n 1, 1) := by decide +kernel
theorem d_K_swap_5 : decode b_K_swap 5 = .ok (.aaload, 1) := by decide +kernel
theorem d_K_swap_6 : decode b_K_swap 6 = .ok (.astore_n 3, 1) := by decide +kernel
theorem d_K_swap_7 : decode b_K_swap 7 = .ok (.aload_n 0, 1) := by decide +kernel
theorem d_K_swap_8 : decode b_K_swap 8 = .ok (.getfield 9, 3) := by decide +kernel
theorem d_K_swap_11 : decode b_K_swap 11 = .ok (.iload_n 1, 1) := by decide +kernel
theorem d_K_swap_12 : decode b_K_swap 12 = .ok (.aload_n 2, 1) := by decide +kernel
theorem d_K_swap_13 : decode b_K_swap 13 = .ok (.getfield 9, 3) := by decide +kernel
theorem d_K_swap_16 : decode b_K_swap 16 = .ok (.iload_n 1, 1) := by decide +kernel
theorem d_K_swap_17 : decode b_K_swap 17 = .ok (.aaload, 1) := by decide +kernel
theorem d_K_swap_18 : decode b_K_swap 18 = .ok (.aastore, 1) := by decide +kernel
theorem d_K_swap_19 : decode b_K_swap 19 = .ok (.aload_n 2, 1) := by decide +kernel
theorem d_K_swap_20 : decode b_K_swap 20 = .ok (.getfield 9, 3) := by decide +kernel
theorem d_K_swap_23 : decode b_K_swap 23 = .ok (.iload_n 1, 1) := by decide +kernel
theorem d_K_swap_24 : decode b_K_swap 24 = .ok (.aload_n 3, 1) := by decide +kernel
theorem d_K_swap_25 : decode b_K_swap 25 = .ok (.aastore, 1) := by decide +kernel
theorem d_K_swap_26 : decode b_K_swap 26 = .ok (.return_, 1) := by decide +kernel
theorem d_U_init_0 : decode b_U_init 0 = .ok (.aload_n 0, 1) := by decide +kernel
theorem d_U_init_1 : decode b_U_init 1 = .ok (.invokespecial 3, 3) := by decide +kernel
theorem d_U_init_4 : decode b_U_init 4 = .ok (.aload_n 0, 1) := by decide +kernel
theorem d_U_init_5 : decode b_U_init 5 = .ok (.iconst 4, 1) := by decide +kernel
theorem d_U_init_6 : decode b_U_init 6 = .ok (.putfield 9, 3) := by decide +kernel
theorem d_U_init_9 : decode b_U_init 9 = .ok (.aload_n 0, 1) := by decide +kernel
theorem d_U_init_10 : decode b_U_init 10 = .ok (.iconst 0, 1) := by decide +kernel
theorem d_U_init_11 : decode b_U_init 11 = .ok (.putfield 15, 3) := by decide +kernel
theorem d_U_init_14 : decode b_U_init 14 = .ok (.aload_n 0, 1) := by decide +kernel
theorem d_U_init_15 : decode b_U_init 15 = .ok (.iconst 0, 1) := by decide +kernel
theorem d_U_init_16 : decode b_U_init 16 = .ok (.putfield 18, 3) := by decide +kernel
theorem d_U_init_19 : decode b_U_init 19 = .ok (.aload_n 0, 1) := by decide +kernel
theorem d_U_init_20 : decode b_U_init 20 = .ok (.iconst 0, 1) := by decide +kernel
theorem d_U_init_21 : decode b_U_init 21 = .ok (.putfield 21, 3) := by decide +kernel
theorem d_U_init_24 : decode b_U_init 24 = .ok (.return_, 1) := by decide +kernel
theorem d_U_set_0 : decode b_U_set 0 = .ok (.aload_n 0, 1) := by decide +kernel
theorem d_U_set_1 : decode b_U_set 1 = .ok (.iload_n 1, 1) := by decide +kernel
theorem d_U_set_2 : decode b_U_set 2 = .ok (.putfield 9, 3) := by decide +kernel
theorem d_U_set_5 : decode b_U_set 5 = .ok (.aload_n 0, 1) := by decide +kernel
theorem d_U_set_6 : decode b_U_set 6 = .ok (.iload_n 2, 1) := by decide +kernel
theorem d_U_set_7 : decode b_U_set 7 = .ok (.putfield 15, 3) := by decide +kernel
theorem d_U_set_10 : decode b_U_set 10 = .ok (.aload_n 0, 1) := by decide +kernel
theorem d_U_set_11 : decode b_U_set 11 = .ok (.iload_n 3, 1) := by decide +kernel
theorem d_U_set_12 : decode b_U_set 12 = .ok (.putfield 18, 3) := by decide +kernel
theorem d_U_set_15 : decode b_U_set 15 = .ok (.aload_n 0, 1) := by decide +kernel
theorem d_U_set_16 : decode b_U_set 16 = .ok (.iconst 0, 1) := by decide +kernel
theorem d_U_set_17 : decode b_U_set 17 = .ok (.putfield 21, 3) := by decide +kernel
theorem d_U_set_20 : decode b_U_set 20 = .ok (.return_, 1) := by decide +kernel
theorem d_U_forget_0 : decode b_U_forget 0 = .ok (.aload_n 0, 1) := by decide +kernel
theorem d_U_forget_1 : decode b_U_forget 1 = .ok (.iconst 4, 1) := by decide +kernel
theorem d_U_forget_2 : decode b_U_forget 2 = .ok (.iconst 0, 1) := by decide +kernel
theorem d_U_forget_3 : decode b_U_forget 3 = .ok (.iconst 0, 1) := by decide +kernel
theorem d_U_forget_4 : decode b_U_forget 4 = .ok (.invokevirtual 25, 3) := by decide +kernel
theorem d_U_forget_7 : decode b_U_forget 7 = .ok (.return_, 1) := by decide +kernel
theorem d_U_blown_0 : decode b_U_blown 0 = .ok (.aload_n 0, 1) := by decide +kernel
theorem d_U_blown_1 : decode b_U_blown 1 = .ok (.getfield 21, 3) := by decide +kernel
theorem d_U_blown_4 : decode b_U_blown 4 = .ok (.ireturn, 1) := by decide +kernel
theorem d_U_bytesThrough_0 : decode b_U_bytesThrough 0 = .ok (.aload_n 0, 1) := by decide +kernel
theorem d_U_bytesThrough_1 : decode b_U_bytesThrough 1 = .ok (.getfield 9, 3) := by decide +kernel
theorem d_U_bytesThrough_4 : decode b_U_bytesThrough 4 = .ok (.iload_n 1, 1) := by decide +kernel
theorem d_U_bytesThrough_5 : decode b_U_bytesThrough 5 = .ok (.if_icmp .eq 5, 3) := by decide +kernel
theorem d_U_bytesThrough_8 : decode b_U_bytesThrough 8 = .ok (.iload_n 2, 1) := by decide +kernel
theorem d_U_bytesThrough_9 : decode b_U_bytesThrough 9 = .ok (.ireturn, 1) := by decide +kernel
theorem d_U_bytesThrough_10 : decode b_U_bytesThrough 10 = .ok (.aload_n 0, 1) := by decide +kernel
theorem d_U_bytesThrough_11 : decode b_U_bytesThrough 11 = .ok (.getfield 15, 3) := by decide +kernel
theorem d_U_bytesThrough_14 : decode b_U_bytesThrough 14 = .ok (.ifCond .le 15, 3) := by decide +kernel
theorem d_U_bytesThrough_17 : decode b_U_bytesThrough 17 = .ok (.aload_n 0, 1) := by decide +kernel
theorem d_U_bytesThrough_18 : decode b_U_bytesThrough 18 = .ok (.dup, 1) := by decide +kernel
theorem d_U_bytesThrough_19 : decode b_U_bytesThrough 19 = .ok (.getfield 15, 3) := by decide +kernel
theorem d_U_bytesThrough_22 : decode b_U_bytesThrough 22 = .ok (.iconst 1, 1) := by decide +kernel
theorem d_U_bytesThrough_23 : decode b_U_bytesThrough 23 = .ok (.isub, 1) := by decide +kernel
theorem d_U_bytesThrough_24 : decode b_U_bytesThrough 24 = .ok (.putfield 15, 3) := by decide +kernel
theorem d_U_bytesThrough_27 : decode b_U_bytesThrough 27 = .ok (.iload_n 2, 1) := by decide +kernel
theorem d_U_bytesThrough_28 : decode b_U_bytesThrough 28 = .ok (.ireturn, 1) := by decide +kernel
theorem d_U_bytesThrough_29 : decode b_U_bytesThrough 29 = .ok (.aload_n 0, 1) := by decide +kernel
theorem d_U_bytesThrough_30 : decode b_U_bytesThrough 30 = .ok (.iconst 1, 1) := by decide +kernel
theorem d_U_bytesThrough_31 : decode b_U_bytesThrough 31 = .ok (.putfield 21, 3) := by decide +kernel
theorem d_U_bytesThrough_34 : decode b_U_bytesThrough 34 = .ok (.aload_n 0, 1) := by decide +kernel
theorem d_U_bytesThrough_35 : decode b_U_bytesThrough 35 = .ok (.getfield 18, 3) := by decide +kernel
theorem d_U_bytesThrough_38 : decode b_U_bytesThrough 38 = .ok (.iload_n 2, 1) := by decide +kernel
theorem d_U_bytesThrough_39 : decode b_U_bytesThrough 39 = .ok (.invokestatic 29, 3) := by decide +kernel
theorem d_U_bytesThrough_42 : decode b_U_bytesThrough 42 = .ok (.ireturn, 1) := by decide +kernel
theorem d_U_blowsBeforeEmptying_0 : decode b_U_blowsBeforeEmptying 0 = .ok (.aload_n 0, 1) := by decide +kernel
theorem d_U_blowsBeforeEmptying_1 : decode b_U_blowsBeforeEmptying 1 = .ok (.getfield 9, 3) := by decide +kernel
theorem d_U_blowsBeforeEmptying_4 : decode b_U_blowsBeforeEmptying 4 = .ok (.ifCond .eq 26, 3) := by decide +kernel
theorem d_U_blowsBeforeEmptying_7 : decode b_U_blowsBeforeEmptying 7 = .ok (.aload_n 0, 1) := by decide +kernel
theorem d_U_blowsBeforeEmptying_8 : decode b_U_blowsBeforeEmptying 8 = .ok (.getfield 9, 3) := by decide +kernel
theorem d_U_blowsBeforeEmptying_11 : decode b_U_blowsBeforeEmptying 11 = .ok (.iconst 1, 1) := by decide +kernel
theorem d_U_blowsBeforeEmptying_12 : decode b_U_blowsBeforeEmptying 12 = .ok (.if_icmp .eq 18, 3) := by decide +kernel
theorem d_U_blowsBeforeEmptying_15 : decode b_U_blowsBeforeEmptying 15 = .ok (.aload_n 0, 1) := by decide +kernel
theorem d_U_blowsBeforeEmptying_16 : decode b_U_blowsBeforeEmptying 16 = .ok (.getfield 9, 3) := by decide +kernel
theorem d_U_blowsBeforeEmptying_19 : decode b_U_blowsBeforeEmptying 19 = .ok (.iconst 2, 1) := by decide +kernel
theorem d_U_blowsBeforeEmptying_20 : decode b_U_blowsBeforeEmptying 20 = .ok (.if_icmp .ne 14, 3) := by decide +kernel
theorem d_U_blowsBeforeEmptying_23 : decode b_U_blowsBeforeEmptying 23 = .ok (.aload_n 0, 1) := by decide +kernel
theorem d_U_blowsBeforeEmptying_24 : decode b_U_blowsBeforeEmptying 24 = .ok (.getfield 15, 3) := by decide +kernel
theorem d_U_blowsBeforeEmptying_27 : decode b_U_blowsBeforeEmptying 27 = .ok (.ifCond .ne 7, 3) := by decide +kernel
theorem d_U_blowsBeforeEmptying_30 : decode b_U_blowsBeforeEmptying 30 = .ok (.iconst 1, 1) := by decide +kernel
theorem d_U_blowsBeforeEmptying_31 : decode b_U_blowsBeforeEmptying 31 = .ok (.goto 4, 3) := by decide +kernel
theorem d_U_blowsBeforeEmptying_34 : decode b_U_blowsBeforeEmptying 34 = .ok (.iconst 0, 1) := by decide +kernel
theorem d_U_blowsBeforeEmptying_35 : decode b_U_blowsBeforeEmptying 35 = .ok (.ireturn, 1) := by decide +kernel
theorem d_U_blowsBehindEmptying_0 : decode b_U_blowsBehindEmptying 0 = .ok (.aload_n 0, 1) := by decide +kernel
theorem d_U_blowsBehindEmptying_1 : decode b_U_blowsBehindEmptying 1 = .ok (.getfield 9, 3) := by decide +kernel
theorem d_U_blowsBehindEmptying_4 : decode b_U_blowsBehindEmptying 4 = .ok (.iconst 2, 1) := by decide +kernel
theorem d_U_blowsBehindEmptying_5 : decode b_U_blowsBehindEmptying 5 = .ok (.if_icmp .ne 7, 3) := by decide +kernel
theorem d_U_blowsBehindEmptying_8 : decode b_U_blowsBehindEmptying 8 = .ok (.iconst 1, 1) := by decide +kernel
theorem d_U_blowsBehindEmptying_9 : decode b_U_blowsBehindEmptying 9 = .ok (.goto 4, 3) := by decide +kernel
theorem d_U_blowsBehindEmptying_12 : decode b_U_blowsBehindEmptying 12 = .ok (.iconst 0, 1) := by decide +kernel
theorem d_U_blowsBehindEmptying_13 : decode b_U_blowsBehindEmptying 13 = .ok (.ireturn, 1) := by decide +kernel
theorem d_U_blowsInReopen_0 : decode b_U_blowsInReopen 0 = .ok (.aload_n 0, 1) := by decide +kernel
theorem d_U_blowsInReopen_1 : decode b_U_blowsInReopen 1 = .ok (.getfield 9, 3) := by decide +kernel
theorem d_U_blowsInReopen_4 : decode b_U_blowsInReopen 4 = .ok (.iconst 3, 1) := by decide +kernel
theorem d_U_blowsInReopen_5 : decode b_U_blowsInReopen 5 = .ok (.if_icmp .ne 7, 3) := by decide +kernel
theorem d_U_blowsInReopen_8 : decode b_U_blowsInReopen 8 = .ok (.iconst 1, 1) := by decide +kernel
theorem d_U_blowsInReopen_9 : decode b_U_blowsInReopen 9 = .ok (.goto 4, 3) := by decide +kernel
theorem d_U_blowsInReopen_12 : decode b_U_blowsInReopen 12 = .ok (.iconst 0, 1) := by decide +kernel
theorem d_U_blowsInReopen_13 : decode b_U_blowsInReopen 13 = .ok (.ireturn, 1) := by decide +kernel
theorem d_Y_init_0 : decode b_Y_init 0 = .ok (.aload_n 0, 1) := by decide +kernel
theorem d_Y_init_1 : decode b_Y_init 1 = .ok (.invokespecial 3, 3) := by decide +kernel
theorem d_Y_init_4 : decode b_Y_init 4 = .ok (.aload_n 0, 1) := by decide +kernel
theorem d_Y_init_5 : decode b_Y_init 5 = .ok (.iconst 0, 1) := by decide +kernel
theorem d_Y_init_6 : decode b_Y_init 6 = .ok (.putfield 9, 3) := by decide +kernel
theorem d_Y_init_9 : decode b_Y_init 9 = .ok (.aload_n 0, 1) := by decide +kernel
theorem d_Y_init_10 : decode b_Y_init 10 = .ok (.new 15, 3) := by decide +kernel
theorem d_Y_init_13 : decode b_Y_init 13 = .ok (.dup, 1) := by decide +kernel
theorem d_Y_init_14 : decode b_Y_init 14 = .ok (.iload_n 1, 1) := by decide +kernel
theorem d_Y_init_15 : decode b_Y_init 15 = .ok (.sipush 256, 3) := by decide +kernel
theorem d_Y_init_18 : decode b_Y_init 18 = .ok (.iadd, 1) := by decide +kernel
theorem d_Y_init_19 : decode b_Y_init 19 = .ok (.iconst 1, 1) := by decide +kernel
theorem d_Y_init_20 : decode b_Y_init 20 = .ok (.isub, 1) := by decide +kernel
theorem d_Y_init_21 : decode b_Y_init 21 = .ok (.sipush 256, 3) := by decide +kernel
theorem d_Y_init_24 : decode b_Y_init 24 = .ok (.idiv, 1) := by decide +kernel
theorem d_Y_init_25 : decode b_Y_init 25 = .ok (.invokespecial 17, 3) := by decide +kernel
theorem d_Y_init_28 : decode b_Y_init 28 = .ok (.putfield 20, 3) := by decide +kernel
theorem d_Y_init_31 : decode b_Y_init 31 = .ok (.return_, 1) := by decide +kernel
theorem d_Y_length_0 : decode b_Y_length 0 = .ok (.aload_n 0, 1) := by decide +kernel
theorem d_Y_length_1 : decode b_Y_length 1 = .ok (.getfield 9, 3) := by decide +kernel
theorem d_Y_length_4 : decode b_Y_length 4 = .ok (.ireturn, 1) := by decide +kernel
theorem d_Y_block_0 : decode b_Y_block 0 = .ok (.aload_n 0, 1) := by decide +kernel
theorem d_Y_block_1 : decode b_Y_block 1 = .ok (.getfield 20, 3) := by decide +kernel
theorem d_Y_block_4 : decode b_Y_block 4 = .ok (.iload_n 1, 1) := by decide +kernel
theorem d_Y_block_5 : decode b_Y_block 5 = .ok (.invokevirtual 24, 3) := by decide +kernel
theorem d_Y_block_8 : decode b_Y_block 8 = .ok (.areturn, 1) := by decide +kernel
theorem d_Y_write_0 : decode b_Y_write 0 = .ok (.iconst 0, 1) := by decide +kernel
theorem d_Y_write_1 : decode b_Y_write 1 = .ok (.istore 4, 2) := by decide +kernel
theorem d_Y_write_3 : decode b_Y_write 3 = .ok (.iload 4, 2) := by decide +kernel
theorem d_Y_write_5 : decode b_Y_write 5 = .ok (.iload_n 3, 1) := by decide +kernel
theorem d_Y_write_6 : decode b_Y_write 6 = .ok (.if_icmp .ge 37, 3) := by decide +kernel
theorem d_Y_write_9 : decode b_Y_write 9 = .ok (.aload_n 0, 1) := by decide +kernel
theorem d_Y_write_10 : decode b_Y_write 10 = .ok (.getfield 20, 3) := by decide +kernel
theorem d_Y_write_13 : decode b_Y_write 13 = .ok (.iload_n 1, 1) := by decide +kernel
theorem d_Y_write_14 : decode b_Y_write 14 = .ok (.iload 4, 2) := by decide +kernel
theorem d_Y_write_16 : decode b_Y_write 16 = .ok (.iadd, 1) := by decide +kernel
theorem d_Y_write_17 : decode b_Y_write 17 = .ok (.sipush 256, 3) := by decide +kernel
theorem d_Y_write_20 : decode b_Y_write 20 = .ok (.idiv, 1) := by decide +kernel
theorem d_Y_write_21 : decode b_Y_write 21 = .ok (.invokevirtual 24, 3) := by decide +kernel
theorem d_Y_write_24 : decode b_Y_write 24 = .ok (.iload_n 1, 1) := by decide +kernel
theorem d_Y_write_25 : decode b_Y_write 25 = .ok (.iload 4, 2) := by decide +kernel
theorem d_Y_write_27 : decode b_Y_write 27 = .ok (.iadd, 1) := by decide +kernel
theorem d_Y_write_28 : decode b_Y_write 28 = .ok (.sipush 256, 3) := by decide +kernel
theorem d_Y_write_31 : decode b_Y_write 31 = .ok (.irem, 1) := by decide +kernel
theorem d_Y_write_32 : decode b_Y_write 32 = .ok (.aload_n 2, 1) := by decide +kernel
theorem d_Y_write_33 : decode b_Y_write 33 = .ok (.iload 4, 2) := by decide +kernel
theorem d_Y_write_35 : decode b_Y_write 35 = .ok (.baload, 1) := by decide +kernel
theorem d_Y_write_36 : decode b_Y_write 36 = .ok (.bastore, 1) := by decide +kernel
theorem d_Y_write_37 : decode b_Y_write 37 = .ok (.iinc 4 1, 3) := by decide +kernel
theorem d_Y_write_40 : decode b_Y_write 40 = .ok (.goto (-37), 3) := by decide +kernel
theorem d_Y_write_43 : decode b_Y_write 43 = .ok (.aload_n 0, 1) := by decide +kernel
theorem d_Y_write_44 : decode b_Y_write 44 = .ok (.aload_n 0, 1) := by decide +kernel
theorem d_Y_write_45 : decode b_Y_write 45 = .ok (.getfield 9, 3) := by decide +kernel
theorem d_Y_write_48 : decode b_Y_write 48 = .ok (.iload_n 1, 1) := by decide +kernel
theorem d_Y_write_49 : decode b_Y_write 49 = .ok (.iload_n 3, 1) := by decide +kernel
theorem d_Y_write_50 : decode b_Y_write 50 = .ok (.iadd, 1) := by decide +kernel
theorem d_Y_write_51 : decode b_Y_write 51 = .ok (.invokestatic 28, 3) := by decide +kernel
theorem d_Y_write_54 : decode b_Y_write 54 = .ok (.putfield 9, 3) := by decide +kernel
theorem d_Y_write_57 : decode b_Y_write 57 = .ok (.return_, 1) := by decide +kernel
theorem d_Y_read_0 : decode b_Y_read 0 = .ok (.iconst 0, 1) := by decide +kernel
theorem d_Y_read_1 : decode b_Y_read 1 = .ok (.istore 4, 2) := by decide +kernel
theorem d_Y_read_3 : decode b_Y_read 3 = .ok (.iload 4, 2) := by decide +kernel
theorem d_Y_read_5 : decode b_Y_read 5 = .ok (.iload_n 3, 1) := by decide +kernel
theorem d_Y_read_6 : decode b_Y_read 6 = .ok (.if_icmp .ge 37, 3) := by decide +kernel
theorem d_Y_read_9 : decode b_Y_read 9 = .ok (.aload_n 2, 1) := by decide +kernel
theorem d_Y_read_10 : decode b_Y_read 10 = .ok (.iload 4, 2) := by decide +kernel
theorem d_Y_read_12 : decode b_Y_read 12 = .ok (.aload_n 0, 1) := by decide +kernel
theorem d_Y_read_13 : decode b_Y_read 13 = .ok (.getfield 20, 3) := by decide +kernel
theorem d_Y_read_16 : decode b_Y_read 16 = .ok (.iload_n 1, 1) := by decide +kernel
theorem d_Y_read_17 : decode b_Y_read 17 = .ok (.iload 4, 2) := by decide +kernel
theorem d_Y_read_19 : decode b_Y_read 19 = .ok (.iadd, 1) := by decide +kernel
theorem d_Y_read_20 : decode b_Y_read 20 = .ok (.sipush 256, 3) := by decide +kernel
theorem d_Y_read_23 : decode b_Y_read 23 = .ok (.idiv, 1) := by decide +kernel
theorem d_Y_read_24 : decode b_Y_read 24 = .ok (.invokevirtual 24, 3) := by decide +kernel
theorem d_Y_read_27 : decode b_Y_read 27 = .ok (.iload_n 1, 1) := by decide +kernel
theorem d_Y_read_28 : decode b_Y_read 28 = .ok (.iload 4, 2) := by decide +kernel
theorem d_Y_read_30 : decode b_Y_read 30 = .ok (.iadd, 1) := by decide +kernel
theorem d_Y_read_31 : decode b_Y_read 31 = .ok (.sipush 256, 3) := by decide +kernel
theorem d_Y_read_34 : decode b_Y_read 34 = .ok (.irem, 1) := by decide +kernel
theorem d_Y_read_35 : decode b_Y_read 35 = .ok (.baload, 1) := by decide +kernel
theorem d_Y_read_36 : decode b_Y_read 36 = .ok (.bastore, 1) := by decide +kernel
theorem d_Y_read_37 : decode b_Y_read 37 = .ok (.iinc 4 1, 3) := by decide +kernel
theorem d_Y_read_40 : decode b_Y_read 40 = .ok (.goto (-37), 3) := by decide +kernel
theorem d_Y_read_43 : decode b_Y_read 43 = .ok (.return_, 1) := by decide +kernel
theorem d_Y_cutTo_0 : decode b_Y_cutTo 0 = .ok (.aload_n 0, 1) := by decide +kernel
theorem d_Y_cutTo_1 : decode b_Y_cutTo 1 = .ok (.aload_n 0, 1) := by decide +kernel
theorem d_Y_cutTo_2 : decode b_Y_cutTo 2 = .ok (.getfield 9, 3) := by decide +kernel
theorem d_Y_cutTo_5 : decode b_Y_cutTo 5 = .ok (.iload_n 1, 1) := by decide +kernel
theorem d_Y_cutTo_6 : decode b_Y_cutTo 6 = .ok (.invokestatic 34, 3) := by decide +kernel
theorem d_Y_cutTo_9 : decode b_Y_cutTo 9 = .ok (.putfield 9, 3) := by decide +kernel
theorem d_Y_cutTo_12 : decode b_Y_cutTo 12 = .ok (.return_, 1) := by decide +kernel
theorem d_Z_init_0 : decode b_Z_init 0 = .ok (.aload_n 0, 1) := by decide +kernel
theorem d_Z_init_1 : decode b_Z_init 1 = .ok (.invokespecial 3, 3) := by decide +kernel
theorem d_Z_init_4 : decode b_Z_init 4 = .ok (.aload_n 0, 1) := by decide +kernel
theorem d_Z_init_5 : decode b_Z_init 5 = .ok (.new 9, 3) := by decide +kernel
theorem d_Z_init_8 : decode b_Z_init 8 = .ok (.dup, 1) := by decide +kernel
theorem d_Z_init_9 : decode b_Z_init 9 = .ok (.sipush 768, 3) := by decide +kernel
theorem d_Z_init_12 : decode b_Z_init 12 = .ok (.invokespecial 11, 3) := by decide +kernel
theorem d_Z_init_15 : decode b_Z_init 15 = .ok (.putfield 14, 3) := by decide +kernel
theorem d_Z_init_18 : decode b_Z_init 18 = .ok (.aload_n 0, 1) := by decide +kernel
theorem d_Z_init_19 : decode b_Z_init 19 = .ok (.sipush 768, 3) := by decide +kernel
theorem d_Z_init_22 : decode b_Z_init 22 = .ok (.newarray .boolean, 2) := by decide +kernel
theorem d_Z_init_24 : decode b_Z_init 24 = .ok (.putfield 20, 3) := by decide +kernel
theorem d_Z_init_27 : decode b_Z_init 27 = .ok (.aload_n 0, 1) := by decide +kernel
theorem d_Z_init_28 : decode b_Z_init 28 = .ok (.iconst 0, 1) := by decide +kernel
theorem d_Z_init_29 : decode b_Z_init 29 = .ok (.putfield 24, 3) := by decide +kernel
theorem d_Z_init_32 : decode b_Z_init 32 = .ok (.return_, 1) := by decide +kernel
theorem d_Z_lay_0 : decode b_Z_lay 0 = .ok (.iconst 0, 1) := by decide +kernel
theorem d_Z_lay_1 : decode b_Z_lay 1 = .ok (.istore_n 2, 1) := by decide +kernel
theorem d_Z_lay_2 : decode b_Z_lay 2 = .ok (.iload_n 2, 1) := by decide +kernel
theorem d_Z_lay_3 : decode b_Z_lay 3 = .ok (.sipush 768, 3) := by decide +kernel
theorem d_Z_lay_6 : decode b_Z_lay 6 = .ok (.if_icmp .ge 16, 3) := by decide +kernel
theorem d_Z_lay_9 : decode b_Z_lay 9 = .ok (.aload_n 0, 1) := by decide +kernel
theorem d_Z_lay_10 : decode b_Z_lay 10 = .ok (.getfield 20, 3) := by decide +kernel
theorem d_Z_lay_13 : decode b_Z_lay 13 = .ok (.iload_n 2, 1) := by decide +kernel
theorem d_Z_lay_14 : decode b_Z_lay 14 = .ok (.iconst 0, 1) := by decide +kernel
theorem d_Z_lay_15 : decode b_Z_lay 15 = .ok (.bastore, 1) := by decide +kernel
theorem d_Z_lay_16 : decode b_Z_lay 16 = .ok (.iinc 2 1, 3) := by decide +kernel
theorem d_Z_lay_19 : decode b_Z_lay 19 = .ok (.goto (-17), 3) := by decide +kernel
theorem d_Z_lay_22 : decode b_Z_lay 22 = .ok (.aload_n 0, 1) := by decide +kernel
theorem d_Z_lay_23 : decode b_Z_lay 23 = .ok (.iload_n 1, 1) := by decide +kernel
theorem d_Z_lay_24 : decode b_Z_lay 24 = .ok (.putfield 24, 3) := by decide +kernel
theorem d_Z_lay_27 : decode b_Z_lay 27 = .ok (.return_, 1) := by decide +kernel
theorem d_Z_pagesBelow_0 : decode b_Z_pagesBelow 0 = .ok (.aload_n 0, 1) := by decide +kernel
theorem d_Z_pagesBelow_1 : decode b_Z_pagesBelow 1 = .ok (.getfield 24, 3) := by decide +kernel
theorem d_Z_pagesBelow_4 : decode b_Z_pagesBelow 4 = .ok (.ireturn, 1) := by decide +kernel
theorem d_Z_holds_0 : decode b_Z_holds 0 = .ok (.aload_n 0, 1) := by decide +kernel
theorem d_Z_holds_1 : decode b_Z_holds 1 = .ok (.getfield 20, 3) := by decide +kernel
theorem d_Z_holds_4 : decode b_Z_holds 4 = .ok (.iload_n 1, 1) := by decide +kernel
theorem d_Z_holds_5 : decode b_Z_holds 5 = .ok (.baload, 1) := by decide +kernel
theorem d_Z_holds_6 : decode b_Z_holds 6 = .ok (.ireturn, 1) := by decide +kernel
theorem d_Z_holdsAny_0 : decode b_Z_holdsAny 0 = .ok (.iconst 0, 1) := by decide +kernel
theorem d_Z_holdsAny_1 : decode b_Z_holdsAny 1 = .ok (.istore_n 2, 1) := by decide +kernel
theorem d_Z_holdsAny_2 : decode b_Z_holdsAny 2 = .ok (.iload_n 2, 1) := by decide +kernel
theorem d_Z_holdsAny_3 : decode b_Z_holdsAny 3 = .ok (.iload_n 1, 1) := by decide +kernel
theorem d_Z_holdsAny_4 : decode b_Z_holdsAny 4 = .ok (.if_icmp .ge 20, 3) := by decide +kernel
theorem d_Z_holdsAny_7 : decode b_Z_holdsAny 7 = .ok (.aload_n 0, 1) := by decide +kernel
theorem d_Z_holdsAny_8 : decode b_Z_holdsAny 8 = .ok (.getfield 20, 3) := by decide +kernel
theorem d_Z_holdsAny_11 : decode b_Z_holdsAny 11 = .ok (.iload_n 2, 1) := by decide +kernel
theorem d_Z_holdsAny_12 : decode b_Z_holdsAny 12 = .ok (.baload, 1) := by decide +kernel
theorem d_Z_holdsAny_13 : decode b_Z_holdsAny 13 = .ok (.ifCond .eq 5, 3) := by decide +kernel
theorem d_Z_holdsAny_16 : decode b_Z_holdsAny 16 = .ok (.iconst 1, 1) := by decide +kernel
theorem d_Z_holdsAny_17 : decode b_Z_holdsAny 17 = .ok (.ireturn, 1) := by decide +kernel
theorem d_Z_holdsAny_18 : decode b_Z_holdsAny 18 = .ok (.iinc 2 1, 3) := by decide +kernel
theorem d_Z_holdsAny_21 : decode b_Z_holdsAny 21 = .ok (.goto (-19), 3) := by decide +kernel
theorem d_Z_holdsAny_24 : decode b_Z_holdsAny 24 = .ok (.iconst 0, 1) := by decide +kernel
theorem d_Z_holdsAny_25 : decode b_Z_holdsAny 25 = .ok (.ireturn, 1) := by decide +kernel
theorem d_Z_bytesOf_0 : decode b_Z_bytesOf 0 = .ok (.aload_n 0, 1) := by decide +kernel
theorem d_Z_bytesOf_1 : decode b_Z_bytesOf 1 = .ok (.getfield 14, 3) := by decide +kernel
theorem d_Z_bytesOf_4 : decode b_Z_bytesOf 4 = .ok (.iload_n 1, 1) := by decide +kernel
theorem d_Z_bytesOf_5 : decode b_Z_bytesOf 5 = .ok (.invokevirtual 28, 3) := by decide +kernel
theorem d_Z_bytesOf_8 : decode b_Z_bytesOf 8 = .ok (.areturn, 1) := by decide +kernel
theorem d_Z_hold_0 : decode b_Z_hold 0 = .ok (.aload_n 0, 1) := by decide +kernel
theorem d_Z_hold_1 : decode b_Z_hold 1 = .ok (.getfield 20, 3) := by decide +kernel
theorem d_Z_hold_4 : decode b_Z_hold 4 = .ok (.iload_n 1, 1) := by decide +kernel
theorem d_Z_hold_5 : decode b_Z_hold 5 = .ok (.iconst 1, 1) := by decide +kernel
theorem d_Z_hold_6 : decode b_Z_hold 6 = .ok (.bastore, 1) := by decide +kernel
theorem d_Z_hold_7 : decode b_Z_hold 7 = .ok (.aload_n 0, 1) := by decide +kernel
theorem d_Z_hold_8 : decode b_Z_hold 8 = .ok (.getfield 14, 3) := by decide +kernel
theorem d_Z_hold_11 : decode b_Z_hold 11 = .ok (.iload_n 1, 1) := by decide +kernel
theorem d_Z_hold_12 : decode b_Z_hold 12 = .ok (.invokevirtual 28, 3) := by decide +kernel
theorem d_Z_hold_15 : decode b_Z_hold 15 = .ok (.areturn, 1) := by decide +kernel
theorem d_Z_takeOver_0 : decode b_Z_takeOver 0 = .ok (.iconst 0, 1) := by decide +kernel
theorem d_Z_takeOver_1 : decode b_Z_takeOver 1 = .ok (.istore_n 2, 1) := by decide +kernel
theorem d_Z_takeOver_2 : decode b_Z_takeOver 2 = .ok (.iload_n 2, 1) := by decide +kernel
theorem d_Z_takeOver_3 : decode b_Z_takeOver 3 = .ok (.sipush 768, 3) := by decide +kernel
theorem d_Z_takeOver_6 : decode b_Z_takeOver 6 = .ok (.if_icmp .ge 37, 3) := by decide +kernel
theorem d_Z_takeOver_9 : decode b_Z_takeOver 9 = .ok (.aload_n 1, 1) := by decide +kernel
theorem d_Z_takeOver_10 : decode b_Z_takeOver 10 = .ok (.getfield 20, 3) := by decide +kernel
theorem d_Z_takeOver_13 : decode b_Z_takeOver 13 = .ok (.iload_n 2, 1) := by decide +kernel
theorem d_Z_takeOver_14 : decode b_Z_takeOver 14 = .ok (.baload, 1) := by decide +kernel
theorem d_Z_takeOver_15 : decode b_Z_takeOver 15 = .ok (.ifCond .eq 22, 3) := by decide +kernel
theorem d_Z_takeOver_18 : decode b_Z_takeOver 18 = .ok (.aload_n 0, 1) := by decide +kernel
theorem d_Z_takeOver_19 : decode b_Z_takeOver 19 = .ok (.getfield 14, 3) := by decide +kernel
theorem d_Z_takeOver_22 : decode b_Z_takeOver 22 = .ok (.iload_n 2, 1) := by decide +kernel
theorem d_Z_takeOver_23 : decode b_Z_takeOver 23 = .ok (.aload_n 1, 1) := by decide +kernel
theorem d_Z_takeOver_24 : decode b_Z_takeOver 24 = .ok (.getfield 14, 3) := by decide +kernel
theorem d_Z_takeOver_27 : decode b_Z_takeOver 27 = .ok (.invokevirtual 32, 3) := by decide +kernel
theorem d_Z_takeOver_30 : decode b_Z_takeOver 30 = .ok (.aload_n 0, 1) := by decide +kernel
theorem d_Z_takeOver_31 : decode b_Z_takeOver 31 = .ok (.getfield 20, 3) := by decide +kernel
theorem d_Z_takeOver_34 : decode b_Z_takeOver 34 = .ok (.iload_n 2, 1) := by decide +kernel
theorem d_Z_takeOver_35 : decode b_Z_takeOver 35 = .ok (.iconst 1, 1) := by decide +kernel
theorem d_Z_takeOver_36 : decode b_Z_takeOver 36 = .ok (.bastore, 1) := by decide +kernel
theorem d_Z_takeOver_37 : decode b_Z_takeOver 37 = .ok (.iinc 2 1, 3) := by decide +kernel
theorem d_Z_takeOver_40 : decode b_Z_takeOver 40 = .ok (.goto (-38), 3) := by decide +kernel
theorem d_Z_takeOver_43 : decode b_Z_takeOver 43 = .ok (.return_, 1) := by decide +kernel
end
section
theorem d_M_init_0 : decode b_M_init 0 = .ok (.aload_n 0, 1) := by decide +kernel
theorem d_M_init_1 : decode b_M_init 1 = .ok (.invokespecial 1, 3) := by decide +kernel
theorem d_M_init_4 : decode b_M_init 4 = .ok (.aload_n 0, 1) := by decide +kernel
theorem d_M_init_5 : decode b_M_init 5 = .ok (.ldc 7, 2) := by decide +kernel
theorem d_M_init_7 : decode b_M_init 7 = .ok (.newarray .byte, 2) := by decide +kernel
theorem d_M_init_9 : decode b_M_init 9 = .ok (.putfield 8, 3) := by decide +kernel
theorem d_M_init_12 : decode b_M_init 12 = .ok (.aload_n 0, 1) := by decide +kernel
theorem d_M_init_13 : decode b_M_init 13 = .ok (.sipush 4097, 3) := by decide +kernel
theorem d_M_init_16 : decode b_M_init 16 = .ok (.newarray .int, 2) := by decide +kernel
theorem d_M_init_18 : decode b_M_init 18 = .ok (.putfield 14, 3) := by decide +kernel
theorem d_M_init_21 : decode b_M_init 21 = .ok (.aload_n 0, 1) := by decide +kernel
theorem d_M_init_22 : decode b_M_init 22 = .ok (.iconst 1, 1) := by decide +kernel
theorem d_M_init_23 : decode b_M_init 23 = .ok (.putfield 18, 3) := by decide +kernel
theorem d_M_init_26 : decode b_M_init 26 = .ok (.aload_n 0, 1) := by decide +kernel
theorem d_M_init_27 : decode b_M_init 27 = .ok (.iconst 1, 1) := by decide +kernel
theorem d_M_init_28 : decode b_M_init 28 = .ok (.putfield 22, 3) := by decide +kernel
theorem d_M_init_31 : decode b_M_init 31 = .ok (.aload_n 0, 1) := by decide +kernel
theorem d_M_init_32 : decode b_M_init 32 = .ok (.sipush 1024, 3) := by decide +kernel
theorem d_M_init_35 : decode b_M_init 35 = .ok (.newarray .int, 2) := by decide +kernel
theorem d_M_init_37 : decode b_M_init 37 = .ok (.putfield 25, 3) := by decide +kernel
theorem d_M_init_40 : decode b_M_init 40 = .ok (.aload_n 0, 1) := by decide +kernel
theorem d_M_init_41 : decode b_M_init 41 = .ok (.sipush 1024, 3) := by decide +kernel
theorem d_M_init_44 : decode b_M_init 44 = .ok (.newarray .int, 2) := by decide +kernel
theorem d_M_init_46 : decode b_M_init 46 = .ok (.putfield 28, 3) := by decide +kernel
theorem d_M_init_49 : decode b_M_init 49 = .ok (.aload_n 0, 1) := by decide +kernel
theorem d_M_init_50 : decode b_M_init 50 = .ok (.sipush 5120, 3) := by decide +kernel
theorem d_M_init_53 : decode b_M_init 53 = .ok (.newarray .int, 2) := by decide +kernel
theorem d_M_init_55 : decode b_M_init 55 = .ok (.putfield 31, 3) := by decide +kernel
theorem d_M_init_58 : decode b_M_init 58 = .ok (.aload_n 0, 1) := by decide +kernel
theorem d_M_init_59 : decode b_M_init 59 = .ok (.iconst 5, 1) := by decide +kernel
theorem d_M_init_60 : decode b_M_init 60 = .ok (.newarray .int, 2) := by decide +kernel
theorem d_M_init_62 : decode b_M_init 62 = .ok (.putfield 34, 3) := by decide +kernel
theorem d_M_init_65 : decode b_M_init 65 = .ok (.aload_n 0, 1) := by decide +kernel
theorem d_M_init_66 : decode b_M_init 66 = .ok (.iconst 4, 1) := by decide +kernel
theorem d_M_init_67 : decode b_M_init 67 = .ok (.putfield 37, 3) := by decide +kernel
theorem d_M_init_70 : decode b_M_init 70 = .ok (.return_, 1) := by decide +kernel
theorem d_M_thrown_0 : decode b_M_thrown 0 = .ok (.aload_n 0, 1) := by decide +kernel
theorem d_M_thrown_1 : decode b_M_thrown 1 = .ok (.getfield 40, 3) := by decide +kernel
theorem d_M_thrown_4 : decode b_M_thrown 4 = .ok (.ireturn, 1) := by decide +kernel
theorem d_M_fails_0 : decode b_M_fails 0 = .ok (.aload_n 0, 1) := by decide +kernel
theorem d_M_fails_1 : decode b_M_fails 1 = .ok (.iload_n 1, 1) := by decide +kernel
theorem d_M_fails_2 : decode b_M_fails 2 = .ok (.ifCond .eq 7, 3) := by decide +kernel
theorem d_M_fails_5 : decode b_M_fails 5 = .ok (.iconst 1, 1) := by decide +kernel
theorem d_M_fails_6 : decode b_M_fails 6 = .ok (.goto 12, 3) := by decide +kernel
theorem d_M_fails_9 : decode b_M_fails 9 = .ok (.iload_n 2, 1) := by decide +kernel
theorem d_M_fails_10 : decode b_M_fails 10 = .ok (.ifCond .eq 7, 3) := by decide +kernel
theorem d_M_fails_13 : decode b_M_fails 13 = .ok (.iconst 2, 1) := by decide +kernel
theorem d_M_fails_14 : decode b_M_fails 14 = .ok (.goto 4, 3) := by decide +kernel
theorem d_M_fails_17 : decode b_M_fails 17 = .ok (.iconst 0, 1) := by decide +kernel
theorem d_M_fails_18 : decode b_M_fails 18 = .ok (.putfield 40, 3) := by decide +kernel
theorem d_M_fails_21 : decode b_M_fails 21 = .ok (.aload_n 0, 1) := by decide +kernel
theorem d_M_fails_22 : decode b_M_fails 22 = .ok (.getfield 40, 3) := by decide +kernel
theorem d_M_fails_25 : decode b_M_fails 25 = .ok (.ifCond .le 7, 3) := by decide +kernel
theorem d_M_fails_28 : decode b_M_fails 28 = .ok (.iconst 1, 1) := by decide +kernel
theorem d_M_fails_29 : decode b_M_fails 29 = .ok (.goto 4, 3) := by decide +kernel
theorem d_M_fails_32 : decode b_M_fails 32 = .ok (.iconst 0, 1) := by decide +kernel
theorem d_M_fails_33 : decode b_M_fails 33 = .ok (.ireturn, 1) := by decide +kernel
theorem d_M_isPage_0 : decode b_M_isPage 0 = .ok (.iload_n 1, 1) := by decide +kernel
theorem d_M_isPage_1 : decode b_M_isPage 1 = .ok (.ifCond .lt 15, 3) := by decide +kernel
theorem d_M_isPage_4 : decode b_M_isPage 4 = .ok (.iload_n 1, 1) := by decide +kernel
theorem d_M_isPage_5 : decode b_M_isPage 5 = .ok (.aload_n 0, 1) := by decide +kernel
theorem d_M_isPage_6 : decode b_M_isPage 6 = .ok (.getfield 43, 3) := by decide +kernel
theorem d_M_isPage_9 : decode b_M_isPage 9 = .ok (.if_icmp .ge 7, 3) := by decide +kernel
theorem d_M_isPage_12 : decode b_M_isPage 12 = .ok (.iconst 1, 1) := by decide +kernel
theorem d_M_isPage_13 : decode b_M_isPage 13 = .ok (.goto 4, 3) := by decide +kernel
theorem d_M_isPage_16 : decode b_M_isPage 16 = .ok (.iconst 0, 1) := by decide +kernel
theorem d_M_isPage_17 : decode b_M_isPage 17 = .ok (.ireturn, 1) := by decide +kernel
theorem d_M_at_0 : decode b_M_at 0 = .ok (.aload_n 0, 1) := by decide +kernel
theorem d_M_at_1 : decode b_M_at 1 = .ok (.getfield 8, 3) := by decide +kernel
theorem d_M_at_4 : decode b_M_at 4 = .ok (.sipush 256, 3) := by decide +kernel
theorem d_M_at_7 : decode b_M_at 7 = .ok (.aload_n 0, 1) := by decide +kernel
theorem d_M_at_8 : decode b_M_at 8 = .ok (.getfield 25, 3) := by decide +kernel
theorem d_M_at_11 : decode b_M_at 11 = .ok (.iload_n 1, 1) := by decide +kernel
theorem d_M_at_12 : decode b_M_at 12 = .ok (.iaload, 1) := by decide +kernel
theorem d_M_at_13 : decode b_M_at 13 = .ok (.imul, 1) := by decide +kernel
theorem d_M_at_14 : decode b_M_at 14 = .ok (.iload_n 2, 1) := by decide +kernel
theorem d_M_at_15 : decode b_M_at 15 = .ok (.iadd, 1) := by decide +kernel
theorem d_M_at_16 : decode b_M_at 16 = .ok (.baload, 1) := by decide +kernel
theorem d_M_at_17 : decode b_M_at 17 = .ok (.sipush 255, 3) := by decide +kernel
theorem d_M_at_20 : decode b_M_at 20 = .ok (.iand, 1) := by decide +kernel
theorem d_M_at_21 : decode b_M_at 21 = .ok (.ireturn, 1) := by decide +kernel
theorem d_M_pages_0 : decode b_M_pages 0 = .ok (.aload_n 0, 1) := by decide +kernel
theorem d_M_pages_1 : decode b_M_pages 1 = .ok (.aload_n 0, 1) := by decide +kernel
theorem d_M_pages_2 : decode b_M_pages 2 = .ok (.getfield 46, 3) := by decide +kernel
theorem d_M_pages_5 : decode b_M_pages 5 = .ok (.iconst 0, 1) := by decide +kernel
theorem d_M_pages_6 : decode b_M_pages 6 = .ok (.invokevirtual 50, 3) := by decide +kernel
theorem d_M_pages_9 : decode b_M_pages 9 = .ok (.ifCond .eq 5, 3) := by decide +kernel
theorem d_M_pages_12 : decode b_M_pages 12 = .ok (.iconst 0, 1) := by decide +kernel
theorem d_M_pages_13 : decode b_M_pages 13 = .ok (.ireturn, 1) := by decide +kernel
theorem d_M_pages_14 : decode b_M_pages 14 = .ok (.aload_n 0, 1) := by decide +kernel
theorem d_M_pages_15 : decode b_M_pages 15 = .ok (.getfield 43, 3) := by decide +kernel
theorem d_M_pages_18 : decode b_M_pages 18 = .ok (.ireturn, 1) := by decide +kernel
theorem d_M_add_0 : decode b_M_add 0 = .ok (.aload_n 0, 1) := by decide +kernel
theorem d_M_add_1 : decode b_M_add 1 = .ok (.aload_n 0, 1) := by decide +kernel
theorem d_M_add_2 : decode b_M_add 2 = .ok (.getfield 46, 3) := by decide +kernel
theorem d_M_add_5 : decode b_M_add 5 = .ok (.ifCond .ne 20, 3) := by decide +kernel
theorem d_M_add_8 : decode b_M_add 8 = .ok (.aload_n 0, 1) := by decide +kernel
theorem d_M_add_9 : decode b_M_add 9 = .ok (.getfield 54, 3) := by decide +kernel
theorem d_M_add_12 : decode b_M_add 12 = .ok (.ifCond .eq 13, 3) := by decide +kernel
theorem d_M_add_15 : decode b_M_add 15 = .ok (.aload_n 0, 1) := by decide +kernel
theorem d_M_add_16 : decode b_M_add 16 = .ok (.getfield 43, 3) := by decide +kernel
theorem d_M_add_19 : decode b_M_add 19 = .ok (.sipush 768, 3) := by decide +kernel
theorem d_M_add_22 : decode b_M_add 22 = .ok (.if_icmp .ne 7, 3) := by decide +kernel
theorem d_M_add_25 : decode b_M_add 25 = .ok (.iconst 1, 1) := by decide +kernel
theorem d_M_add_26 : decode b_M_add 26 = .ok (.goto 4, 3) := by decide +kernel
theorem d_M_add_29 : decode b_M_add 29 = .ok (.iconst 0, 1) := by decide +kernel
theorem d_M_add_30 : decode b_M_add 30 = .ok (.iconst 0, 1) := by decide +kernel
theorem d_M_add_31 : decode b_M_add 31 = .ok (.invokevirtual 50, 3) := by decide +kernel
theorem d_M_add_34 : decode b_M_add 34 = .ok (.ifCond .eq 5, 3) := by decide +kernel
theorem d_M_add_37 : decode b_M_add 37 = .ok (.iconst 0, 1) := by decide +kernel
theorem d_M_add_38 : decode b_M_add 38 = .ok (.ireturn, 1) := by decide +kernel
theorem d_M_add_39 : decode b_M_add 39 = .ok (.aload_n 0, 1) := by decide +kernel
theorem d_M_add_40 : decode b_M_add 40 = .ok (.getfield 25, 3) := by decide +kernel
theorem d_M_add_43 : decode b_M_add 43 = .ok (.aload_n 0, 1) := by decide +kernel
theorem d_M_add_44 : decode b_M_add 44 = .ok (.getfield 43, 3) := by decide +kernel
theorem d_M_add_47 : decode b_M_add 47 = .ok (.iconst 0, 1) := by decide +kernel
theorem d_M_add_48 : decode b_M_add 48 = .ok (.iastore, 1) := by decide +kernel
theorem d_M_add_49 : decode b_M_add 49 = .ok (.aload_n 0, 1) := by decide +kernel
theorem d_M_add_50 : decode b_M_add 50 = .ok (.dup, 1) := by decide +kernel
theorem d_M_add_51 : decode b_M_add 51 = .ok (.getfield 43, 3) := by decide +kernel
theorem d_M_add_54 : decode b_M_add 54 = .ok (.iconst 1, 1) := by decide +kernel
theorem d_M_add_55 : decode b_M_add 55 = .ok (.iadd, 1) := by decide +kernel
theorem d_M_add_56 : decode b_M_add 56 = .ok (.putfield 43, 3) := by decide +kernel
theorem d_M_add_59 : decode b_M_add 59 = .ok (.aload_n 0, 1) := by decide +kernel
theorem d_M_add_60 : decode b_M_add 60 = .ok (.getfield 43, 3) := by decide +kernel
theorem d_M_add_63 : decode b_M_add 63 = .ok (.iconst 1, 1) := by decide +kernel
theorem d_M_add_64 : decode b_M_add 64 = .ok (.isub, 1) := by decide +kernel
theorem d_M_add_65 : decode b_M_add 65 = .ok (.ireturn, 1) := by decide +kernel
theorem d_M_get_0 : decode b_M_get 0 = .ok (.aload_n 0, 1) := by decide +kernel
theorem d_M_get_1 : decode b_M_get 1 = .ok (.aload_n 0, 1) := by decide +kernel
theorem d_M_get_2 : decode b_M_get 2 = .ok (.getfield 46, 3) := by decide +kernel
theorem d_M_get_5 : decode b_M_get 5 = .ok (.aload_n 0, 1) := by decide +kernel
theorem d_M_get_6 : decode b_M_get 6 = .ok (.iload_n 1, 1) := by decide +kernel
theorem d_M_get_7 : decode b_M_get 7 = .ok (.invokevirtual 57, 3) := by decide +kernel
theorem d_M_get_10 : decode b_M_get 10 = .ok (.ifCond .eq 14, 3) := by decide +kernel
theorem d_M_get_13 : decode b_M_get 13 = .ok (.iload_n 2, 1) := by decide +kernel
theorem d_M_get_14 : decode b_M_get 14 = .ok (.ifCond .lt 10, 3) := by decide +kernel
theorem d_M_get_17 : decode b_M_get 17 = .ok (.iload_n 2, 1) := by decide +kernel
theorem d_M_get_18 : decode b_M_get 18 = .ok (.sipush 256, 3) := by decide +kernel
theorem d_M_get_21 : decode b_M_get 21 = .ok (.if_icmp .lt 7, 3) := by decide +kernel
theorem d_M_get_24 : decode b_M_get 24 = .ok (.iconst 1, 1) := by decide +kernel
theorem d_M_get_25 : decode b_M_get 25 = .ok (.goto 4, 3) := by decide +kernel
theorem d_M_get_28 : decode b_M_get 28 = .ok (.iconst 0, 1) := by decide +kernel
theorem d_M_get_29 : decode b_M_get 29 = .ok (.invokevirtual 50, 3) := by decide +kernel
theorem d_M_get_32 : decode b_M_get 32 = .ok (.ifCond .eq 5, 3) := by decide +kernel
theorem d_M_get_35 : decode b_M_get 35 = .ok (.iconst 0, 1) := by decide +kernel
theorem d_M_get_36 : decode b_M_get 36 = .ok (.ireturn, 1) := by decide +kernel
theorem d_M_get_37 : decode b_M_get 37 = .ok (.aload_n 0, 1) := by decide +kernel
theorem d_M_get_38 : decode b_M_get 38 = .ok (.iload_n 1, 1) := by decide +kernel
theorem d_M_get_39 : decode b_M_get 39 = .ok (.iload_n 2, 1) := by decide +kernel
theorem d_M_get_40 : decode b_M_get 40 = .ok (.invokevirtual 61, 3) := by decide +kernel
theorem d_M_get_43 : decode b_M_get 43 = .ok (.ireturn, 1) := by decide +kernel
theorem d_M_own_0 : decode b_M_own 0 = .ok (.aload_n 0, 1) := by decide +kernel
theorem d_M_own_1 : decode b_M_own 1 = .ok (.getfield 25, 3) := by decide +kernel
theorem d_M_own_4 : decode b_M_own 4 = .ok (.iload_n 1, 1) := by decide +kernel
theorem d_M_own_5 : decode b_M_own 5 = .ok (.iaload, 1) := by decide +kernel
theorem d_M_own_6 : decode b_M_own 6 = .ok (.istore_n 2, 1) := by decide +kernel
theorem d_M_own_7 : decode b_M_own 7 = .ok (.iload_n 2, 1) := by decide +kernel
theorem d_M_own_8 : decode b_M_own 8 = .ok (.ifCond .le 17, 3) := by decide +kernel
theorem d_M_own_11 : decode b_M_own 11 = .ok (.aload_n 0, 1) := by decide +kernel
theorem d_M_own_12 : decode b_M_own 12 = .ok (.getfield 14, 3) := by decide +kernel
theorem d_M_own_15 : decode b_M_own 15 = .ok (.iload_n 2, 1) := by decide +kernel
theorem d_M_own_16 : decode b_M_own 16 = .ok (.iaload, 1) := by decide +kernel
theorem d_M_own_17 : decode b_M_own 17 = .ok (.aload_n 0, 1) := by decide +kernel
theorem d_M_own_18 : decode b_M_own 18 = .ok (.getfield 22, 3) := by decide +kernel
theorem d_M_own_21 : decode b_M_own 21 = .ok (.if_icmp .ne 4, 3) := by decide +kernel
theorem d_M_own_24 : decode b_M_own 24 = .ok (.return_, 1) := by decide +kernel
theorem d_M_own_25 : decode b_M_own 25 = .ok (.iconst 0, 1) := by decide +kernel
theorem d_M_own_26 : decode b_M_own 26 = .ok (.istore_n 3, 1) := by decide +kernel
theorem d_M_own_27 : decode b_M_own 27 = .ok (.iload_n 3, 1) := by decide +kernel
theorem d_M_own_28 : decode b_M_own 28 = .ok (.sipush 256, 3) := by decide +kernel
theorem d_M_own_31 : decode b_M_own 31 = .ok (.if_icmp .ge 36, 3) := by decide +kernel
theorem d_M_own_34 : decode b_M_own 34 = .ok (.aload_n 0, 1) := by decide +kernel
theorem d_M_own_35 : decode b_M_own 35 = .ok (.getfield 8, 3) := by decide +kernel
theorem d_M_own_38 : decode b_M_own 38 = .ok (.sipush 256, 3) := by decide +kernel
theorem d_M_own_41 : decode b_M_own 41 = .ok (.aload_n 0, 1) := by decide +kernel
theorem d_M_own_42 : decode b_M_own 42 = .ok (.getfield 18, 3) := by decide +kernel
theorem d_M_own_45 : decode b_M_own 45 = .ok (.imul, 1) := by decide +kernel
theorem d_M_own_46 : decode b_M_own 46 = .ok (.iload_n 3, 1) := by decide +kernel
theorem d_M_own_47 : decode b_M_own 47 = .ok (.iadd, 1) := by decide +kernel
theorem d_M_own_48 : decode b_M_own 48 = .ok (.aload_n 0, 1) := by decide +kernel
theorem d_M_own_49 : decode b_M_own 49 = .ok (.getfield 8, 3) := by decide +kernel
theorem d_M_own_52 : decode b_M_own 52 = .ok (.sipush 256, 3) := by decide +kernel
theorem d_M_own_55 : decode b_M_own 55 = .ok (.iload_n 2, 1) := by decide +kernel
theorem d_M_own_56 : decode b_M_own 56 = .ok (.imul, 1) := by decide +kernel
theorem d_M_own_57 : decode b_M_own 57 = .ok (.iload_n 3, 1) := by decide +kernel
theorem d_M_own_58 : decode b_M_own 58 = .ok (.iadd, 1) := by decide +kernel
theorem d_M_own_59 : decode b_M_own 59 = .ok (.baload, 1) := by decide +kernel
theorem d_M_own_60 : decode b_M_own 60 = .ok (.bastore, 1) := by decide +kernel
theorem d_M_own_61 : decode b_M_own 61 = .ok (.iinc 3 1, 3) := by decide +kernel
theorem d_M_own_64 : decode b_M_own 64 = .ok (.goto (-37), 3) := by decide +kernel
theorem d_M_own_67 : decode b_M_own 67 = .ok (.aload_n 0, 1) := by decide +kernel
theorem d_M_own_68 : decode b_M_own 68 = .ok (.getfield 14, 3) := by decide +kernel
theorem d_M_own_71 : decode b_M_own 71 = .ok (.aload_n 0, 1) := by decide +kernel
theorem d_M_own_72 : decode b_M_own 72 = .ok (.getfield 18, 3) := by decide +kernel
theorem d_M_own_75 : decode b_M_own 75 = .ok (.aload_n 0, 1) := by decide +kernel
theorem d_M_own_76 : decode b_M_own 76 = .ok (.getfield 22, 3) := by decide +kernel
theorem d_M_own_79 : decode b_M_own 79 = .ok (.iastore, 1) := by decide +kernel
theorem d_M_own_80 : decode b_M_own 80 = .ok (.aload_n 0, 1) := by decide +kernel
theorem d_M_own_81 : decode b_M_own 81 = .ok (.getfield 25, 3) := by decide +kernel
theorem d_M_own_84 : decode b_M_own 84 = .ok (.iload_n 1, 1) := by decide +kernel
theorem d_M_own_85 : decode b_M_own 85 = .ok (.aload_n 0, 1) := by decide +kernel
theorem d_M_own_86 : decode b_M_own 86 = .ok (.getfield 18, 3) := by decide +kernel
theorem d_M_own_89 : decode b_M_own 89 = .ok (.iastore, 1) := by decide +kernel
theorem d_M_own_90 : decode b_M_own 90 = .ok (.aload_n 0, 1) := by decide +kernel
theorem d_M_own_91 : decode b_M_own 91 = .ok (.dup, 1) := by decide +kernel
theorem d_M_own_92 : decode b_M_own 92 = .ok (.getfield 18, 3) := by decide +kernel
theorem d_M_own_95 : decode b_M_own 95 = .ok (.iconst 1, 1) := by decide +kernel
theorem d_M_own_96 : decode b_M_own 96 = .ok (.iadd, 1) := by decide +kernel
theorem d_M_own_97 : decode b_M_own 97 = .ok (.putfield 18, 3) := by decide +kernel
theorem d_M_own_100 : decode b_M_own 100 = .ok (.return_, 1) := by decide +kernel
theorem d_M_put_0 : decode b_M_put 0 = .ok (.aload_n 0, 1) := by decide +kernel
theorem d_M_put_1 : decode b_M_put 1 = .ok (.aload_n 0, 1) := by decide +kernel
theorem d_M_put_2 : decode b_M_put 2 = .ok (.getfield 46, 3) := by decide +kernel
theorem d_M_put_5 : decode b_M_put 5 = .ok (.ifCond .ne 10, 3) := by decide +kernel
theorem d_M_put_8 : decode b_M_put 8 = .ok (.aload_n 0, 1) := by decide +kernel
theorem d_M_put_9 : decode b_M_put 9 = .ok (.getfield 54, 3) := by decide +kernel
theorem d_M_put_12 : decode b_M_put 12 = .ok (.ifCond .ne 7, 3) := by decide +kernel
theorem d_M_put_15 : decode b_M_put 15 = .ok (.iconst 1, 1) := by decide +kernel
theorem d_M_put_16 : decode b_M_put 16 = .ok (.goto 4, 3) := by decide +kernel
theorem d_M_put_19 : decode b_M_put 19 = .ok (.iconst 0, 1) := by decide +kernel
theorem d_M_put_20 : decode b_M_put 20 = .ok (.aload_n 0, 1) := by decide +kernel
theorem d_M_put_21 : decode b_M_put 21 = .ok (.iload_n 1, 1) := by decide +kernel
theorem d_M_put_22 : decode b_M_put 22 = .ok (.invokevirtual 57, 3) := by decide +kernel
theorem d_M_put_25 : decode b_M_put 25 = .ok (.ifCond .eq 14, 3) := by decide +kernel
theorem d_M_put_28 : decode b_M_put 28 = .ok (.iload_n 2, 1) := by decide +kernel
theorem d_M_put_29 : decode b_M_put 29 = .ok (.ifCond .lt 10, 3) := by decide +kernel
theorem d_M_put_32 : decode b_M_put 32 = .ok (.iload_n 2, 1) := by decide +kernel
theorem d_M_put_33 : decode b_M_put 33 = .ok (.sipush 256, 3) := by decide +kernel
theorem d_M_put_36 : decode b_M_put 36 = .ok (.if_icmp .lt 7, 3) := by decide +kernel
theorem d_M_put_39 : decode b_M_put 39 = .ok (.iconst 1, 1) := by decide +kernel
theorem d_M_put_40 : decode b_M_put 40 = .ok (.goto 4, 3) := by decide +kernel
theorem d_M_put_43 : decode b_M_put 43 = .ok (.iconst 0, 1) := by decide +kernel
theorem d_M_put_44 : decode b_M_put 44 = .ok (.invokevirtual 50, 3) := by decide +kernel
theorem d_M_put_47 : decode b_M_put 47 = .ok (.ifCond .eq 5, 3) := by decide +kernel
theorem d_M_put_50 : decode b_M_put 50 = .ok (.iconst 0, 1) := by decide +kernel
theorem d_M_put_51 : decode b_M_put 51 = .ok (.ireturn, 1) := by decide +kernel
theorem d_M_put_52 : decode b_M_put 52 = .ok (.aload_n 0, 1) := by decide +kernel
theorem d_M_put_53 : decode b_M_put 53 = .ok (.iload_n 1, 1) := by decide +kernel
theorem d_M_put_54 : decode b_M_put 54 = .ok (.iload_n 2, 1) := by decide +kernel
theorem d_M_put_55 : decode b_M_put 55 = .ok (.invokevirtual 61, 3) := by decide +kernel
theorem d_M_put_58 : decode b_M_put 58 = .ok (.istore 4, 2) := by decide +kernel
theorem d_M_put_60 : decode b_M_put 60 = .ok (.aload_n 0, 1) := by decide +kernel
theorem d_M_put_61 : decode b_M_put 61 = .ok (.iload_n 1, 1) := by decide +kernel
theorem d_M_put_62 : decode b_M_put 62 = .ok (.invokevirtual 65, 3) := by decide +kernel
theorem d_M_put_65 : decode b_M_put 65 = .ok (.aload_n 0, 1) := by decide +kernel
theorem d_M_put_66 : decode b_M_put 66 = .ok (.getfield 8, 3) := by decide +kernel
theorem d_M_put_69 : decode b_M_put 69 = .ok (.sipush 256, 3) := by decide +kernel
theorem d_M_put_72 : decode b_M_put 72 = .ok (.aload_n 0, 1) := by decide +kernel
theorem d_M_put_73 : decode b_M_put 73 = .ok (.getfield 25, 3) := by decide +kernel
theorem d_M_put_76 : decode b_M_put 76 = .ok (.iload_n 1, 1) := by decide +kernel
theorem d_M_put_77 : decode b_M_put 77 = .ok (.iaload, 1) := by decide +kernel
theorem d_M_put_78 : decode b_M_put 78 = .ok (.imul, 1) := by decide +kernel
theorem d_M_put_79 : decode b_M_put 79 = .ok (.iload_n 2, 1) := by decide +kernel
theorem d_M_put_80 : decode b_M_put 80 = .ok (.iadd, 1) := by decide +kernel
theorem d_M_put_81 : decode b_M_put 81 = .ok (.iload_n 3, 1) := by decide +kernel
theorem d_M_put_82 : decode b_M_put 82 = .ok (.i2b, 1) := by decide +kernel
theorem d_M_put_83 : decode b_M_put 83 = .ok (.bastore, 1) := by decide +kernel
theorem d_M_put_84 : decode b_M_put 84 = .ok (.iload 4, 2) := by decide +kernel
theorem d_M_put_86 : decode b_M_put 86 = .ok (.ireturn, 1) := by decide +kernel
theorem d_M_isPart_0 : decode b_M_isPart 0 = .ok (.iload_n 0, 1) := by decide +kernel
theorem d_M_isPart_1 : decode b_M_isPart 1 = .ok (.ifCond .lt 27, 3) := by decide +kernel
theorem d_M_isPart_4 : decode b_M_isPart 4 = .ok (.iload_n 1, 1) := by decide +kernel
theorem d_M_isPart_5 : decode b_M_isPart 5 = .ok (.ifCond .lt 23, 3) := by decide +kernel
theorem d_M_isPart_8 : decode b_M_isPart 8 = .ok (.iload_n 0, 1) := by decide +kernel
theorem d_M_isPart_9 : decode b_M_isPart 9 = .ok (.sipush 256, 3) := by decide +kernel
theorem d_M_isPart_12 : decode b_M_isPart 12 = .ok (.if_icmp .gt 16, 3) := by decide +kernel
theorem d_M_isPart_15 : decode b_M_isPart 15 = .ok (.iload_n 1, 1) := by decide +kernel
theorem d_M_isPart_16 : decode b_M_isPart 16 = .ok (.sipush 256, 3) := by decide +kernel
theorem d_M_isPart_19 : decode b_M_isPart 19 = .ok (.iload_n 0, 1) := by decide +kernel
theorem d_M_isPart_20 : decode b_M_isPart 20 = .ok (.isub, 1) := by decide +kernel
theorem d_M_isPart_21 : decode b_M_isPart 21 = .ok (.if_icmp .gt 7, 3) := by decide +kernel
theorem d_M_isPart_24 : decode b_M_isPart 24 = .ok (.iconst 1, 1) := by decide +kernel
theorem d_M_isPart_25 : decode b_M_isPart 25 = .ok (.goto 4, 3) := by decide +kernel
theorem d_M_isPart_28 : decode b_M_isPart 28 = .ok (.iconst 0, 1) := by decide +kernel
theorem d_M_isPart_29 : decode b_M_isPart 29 = .ok (.ireturn, 1) := by decide +kernel
theorem d_M_move_0 : decode b_M_move 0 = .ok (.aload_n 0, 1) := by decide +kernel
theorem d_M_move_1 : decode b_M_move 1 = .ok (.aload_n 0, 1) := by decide +kernel
theorem d_M_move_2 : decode b_M_move 2 = .ok (.getfield 46, 3) := by decide +kernel
theorem d_M_move_5 : decode b_M_move 5 = .ok (.ifCond .ne 10, 3) := by decide +kernel
theorem d_M_move_8 : decode b_M_move 8 = .ok (.aload_n 0, 1) := by decide +kernel
theorem d_M_move_9 : decode b_M_move 9 = .ok (.getfield 54, 3) := by decide +kernel
theorem d_M_move_12 : decode b_M_move 12 = .ok (.ifCond .ne 7, 3) := by decide +kernel
theorem d_M_move_15 : decode b_M_move 15 = .ok (.iconst 1, 1) := by decide +kernel
theorem d_M_move_16 : decode b_M_move 16 = .ok (.goto 4, 3) := by decide +kernel
theorem d_M_move_19 : decode b_M_move 19 = .ok (.iconst 0, 1) := by decide +kernel
theorem d_M_move_20 : decode b_M_move 20 = .ok (.aload_n 0, 1) := by decide +kernel
theorem d_M_move_21 : decode b_M_move 21 = .ok (.iload_n 1, 1) := by decide +kernel
theorem d_M_move_22 : decode b_M_move 22 = .ok (.invokevirtual 57, 3) := by decide +kernel
theorem d_M_move_25 : decode b_M_move 25 = .ok (.ifCond .eq 30, 3) := by decide +kernel
theorem d_M_move_28 : decode b_M_move 28 = .ok (.aload_n 0, 1) := by decide +kernel
theorem d_M_move_29 : decode b_M_move 29 = .ok (.iload_n 3, 1) := by decide +kernel
theorem d_M_move_30 : decode b_M_move 30 = .ok (.invokevirtual 57, 3) := by decide +kernel
theorem d_M_move_33 : decode b_M_move 33 = .ok (.ifCond .eq 22, 3) := by decide +kernel
theorem d_M_move_36 : decode b_M_move 36 = .ok (.iload_n 2, 1) := by decide +kernel
theorem d_M_move_37 : decode b_M_move 37 = .ok (.iload 5, 2) := by decide +kernel
theorem d_M_move_39 : decode b_M_move 39 = .ok (.invokestatic 69, 3) := by decide +kernel
theorem d_M_move_42 : decode b_M_move 42 = .ok (.ifCond .eq 13, 3) := by decide +kernel
theorem d_M_move_45 : decode b_M_move 45 = .ok (.iload 4, 2) := by decide +kernel
theorem d_M_move_47 : decode b_M_move 47 = .ok (.iload 5, 2) := by decide +kernel
theorem d_M_move_49 : decode b_M_move 49 = .ok (.invokestatic 69, 3) := by decide +kernel
theorem d_M_move_52 : decode b_M_move 52 = .ok (.ifCond .ne 7, 3) := by decide +kernel
theorem d_M_move_55 : decode b_M_move 55 = .ok (.iconst 1, 1) := by decide +kernel
theorem d_M_move_56 : decode b_M_move 56 = .ok (.goto 4, 3) := by decide +kernel
theorem d_M_move_59 : decode b_M_move 59 = .ok (.iconst 0, 1) := by decide +kernel
theorem d_M_move_60 : decode b_M_move 60 = .ok (.invokevirtual 50, 3) := by decide +kernel
theorem d_M_move_63 : decode b_M_move 63 = .ok (.ifCond .eq 4, 3) := by decide +kernel
theorem d_M_move_66 : decode b_M_move 66 = .ok (.return_, 1) := by decide +kernel
theorem d_M_move_67 : decode b_M_move 67 = .ok (.aload_n 0, 1) := by decide +kernel
theorem d_M_move_68 : decode b_M_move 68 = .ok (.getfield 25, 3) := by decide +kernel
theorem d_M_move_71 : decode b_M_move 71 = .ok (.iload_n 1, 1) := by decide +kernel
theorem d_M_move_72 : decode b_M_move 72 = .ok (.iaload, 1) := by decide +kernel
theorem d_M_move_73 : decode b_M_move 73 = .ok (.istore 6, 2) := by decide +kernel
theorem d_M_move_75 : decode b_M_move 75 = .ok (.iload 5, 2) := by decide +kernel
theorem d_M_move_77 : decode b_M_move 77 = .ok (.ifCond .le 8, 3) := by decide +kernel
theorem d_M_move_80 : decode b_M_move 80 = .ok (.aload_n 0, 1) := by decide +kernel
theorem d_M_move_81 : decode b_M_move 81 = .ok (.iload_n 3, 1) := by decide +kernel
theorem d_M_move_82 : decode b_M_move 82 = .ok (.invokevirtual 65, 3) := by decide +kernel
theorem d_M_move_85 : decode b_M_move 85 = .ok (.iload 6, 2) := by decide +kernel
theorem d_M_move_87 : decode b_M_move 87 = .ok (.aload_n 0, 1) := by decide +kernel
theorem d_M_move_88 : decode b_M_move 88 = .ok (.getfield 25, 3) := by decide +kernel
theorem d_M_move_91 : decode b_M_move 91 = .ok (.iload_n 3, 1) := by decide +kernel
theorem d_M_move_92 : decode b_M_move 92 = .ok (.iaload, 1) := by decide +kernel
theorem d_M_move_93 : decode b_M_move 93 = .ok (.if_icmp .ne 64, 3) := by decide +kernel
theorem d_M_move_96 : decode b_M_move 96 = .ok (.iload 4, 2) := by decide +kernel
theorem d_M_move_98 : decode b_M_move 98 = .ok (.iload_n 2, 1) := by decide +kernel
theorem d_M_move_99 : decode b_M_move 99 = .ok (.if_icmp .le 58, 3) := by decide +kernel
theorem d_M_move_102 : decode b_M_move 102 = .ok (.iload 5, 2) := by decide +kernel
theorem d_M_move_104 : decode b_M_move 104 = .ok (.iconst 1, 1) := by decide +kernel
theorem d_M_move_105 : decode b_M_move 105 = .ok (.isub, 1) := by decide +kernel
theorem d_M_move_106 : decode b_M_move 106 = .ok (.istore 7, 2) := by decide +kernel
theorem d_M_move_108 : decode b_M_move 108 = .ok (.iload 7, 2) := by decide +kernel
theorem d_M_move_110 : decode b_M_move 110 = .ok (.ifCond .lt 46, 3) := by decide +kernel
theorem d_M_move_113 : decode b_M_move 113 = .ok (.aload_n 0, 1) := by decide +kernel
theorem d_M_move_114 : decode b_M_move 114 = .ok (.getfield 8, 3) := by decide +kernel
theorem d_M_move_117 : decode b_M_move 117 = .ok (.sipush 256, 3) := by decide +kernel
theorem d_M_move_120 : decode b_M_move 120 = .ok (.aload_n 0, 1) := by decide +kernel
theorem d_M_move_121 : decode b_M_move 121 = .ok (.getfield 25, 3) := by decide +kernel
theorem d_M_move_124 : decode b_M_move 124 = .ok (.iload_n 3, 1) := by decide +kernel
theorem d_M_move_125 : decode b_M_move 125 = .ok (.iaload, 1) := by decide +kernel
theorem d_M_move_126 : decode b_M_move 126 = .ok (.imul, 1) := by decide +kernel
theorem d_M_move_127 : decode b_M_move 127 = .ok (.iload 4, 2) := by decide +kernel
theorem d_M_move_129 : decode b_M_move 129 = .ok (.iadd, 1) := by decide +kernel
theorem d_M_move_130 : decode b_M_move 130 = .ok (.iload 7, 2) := by decide +kernel
theorem d_M_move_132 : decode b_M_move 132 = .ok (.iadd, 1) := by decide +kernel
theorem d_M_move_133 : decode b_M_move 133 = .ok (.aload_n 0, 1) := by decide +kernel
theorem d_M_move_134 : decode b_M_move 134 = .ok (.getfield 8, 3) := by decide +kernel
theorem d_M_move_137 : decode b_M_move 137 = .ok (.sipush 256, 3) := by decide +kernel
theorem d_M_move_140 : decode b_M_move 140 = .ok (.iload 6, 2) := by decide +kernel
theorem d_M_move_142 : decode b_M_move 142 = .ok (.imul, 1) := by decide +kernel
theorem d_M_move_143 : decode b_M_move 143 = .ok (.iload_n 2, 1) := by decide +kernel
theorem d_M_move_144 : decode b_M_move 144 = .ok (.iadd, 1) := by decide +kernel
theorem d_M_move_145 : decode b_M_move 145 = .ok (.iload 7, 2) := by decide +kernel
theorem d_M_move_147 : decode b_M_move 147 = .ok (.iadd, 1) := by decide +kernel
theorem d_M_move_148 : decode b_M_move 148 = .ok (.baload, 1) := by decide +kernel
theorem d_M_move_149 : decode b_M_move 149 = .ok (.bastore, 1) := by decide +kernel
theorem d_M_move_150 : decode b_M_move 150 = .ok (.iinc 7 (-1), 3) := by decide +kernel
theorem d_M_move_153 : decode b_M_move 153 = .ok (.goto (-45), 3) := by decide +kernel
theorem d_M_move_156 : decode b_M_move 156 = .ok (.return_, 1) := by decide +kernel
theorem d_M_move_157 : decode b_M_move 157 = .ok (.iconst 0, 1) := by decide +kernel
theorem d_M_move_158 : decode b_M_move 158 = .ok (.istore 7, 2) := by decide +kernel
theorem d_M_move_160 : decode b_M_move 160 = .ok (.iload 7, 2) := by decide +kernel
theorem d_M_move_162 : decode b_M_move 162 = .ok (.iload 5, 2) := by decide +kernel
theorem d_M_move_164 : decode b_M_move 164 = .ok (.if_icmp .ge 46, 3) := by decide +kernel
theorem d_M_move_167 : decode b_M_move 167 = .ok (.aload_n 0, 1) := by decide +kernel
theorem d_M_move_168 : decode b_M_move 168 = .ok (.getfield 8, 3) := by decide +kernel
theorem d_M_move_171 : decode b_M_move 171 = .ok (.sipush 256, 3) := by decide +kernel
theorem d_M_move_174 : decode b_M_move 174 = .ok (.aload_n 0, 1) := by decide +kernel
theorem d_M_move_175 : decode b_M_move 175 = .ok (.getfield 25, 3) := by decide +kernel
theorem d_M_move_178 : decode b_M_move 178 = .ok (.iload_n 3, 1) := by decide +kernel
theorem d_M_move_179 : decode b_M_move 179 = .ok (.iaload, 1) := by decide +kernel
theorem d_M_move_180 : decode b_M_move 180 = .ok (.imul, 1) := by decide +kernel
theorem d_M_move_181 : decode b_M_move 181 = .ok (.iload 4, 2) := by decide +kernel
theorem d_M_move_183 : decode b_M_move 183 = .ok (.iadd, 1) := by decide +kernel
theorem d_M_move_184 : decode b_M_move 184 = .ok (.iload 7, 2) := by decide +kernel
theorem d_M_move_186 : decode b_M_move 186 = .ok (.iadd, 1) := by decide +kernel
theorem d_M_move_187 : decode b_M_move 187 = .ok (.aload_n 0, 1) := by decide +kernel
theorem d_M_move_188 : decode b_M_move 188 = .ok (.getfield 8, 3) := by decide +kernel
theorem d_M_move_191 : decode b_M_move 191 = .ok (.sipush 256, 3) := by decide +kernel
theorem d_M_move_194 : decode b_M_move 194 = .ok (.iload 6, 2) := by decide +kernel
theorem d_M_move_196 : decode b_M_move 196 = .ok (.imul, 1) := by decide +kernel
theorem d_M_move_197 : decode b_M_move 197 = .ok (.iload_n 2, 1) := by decide +kernel
theorem d_M_move_198 : decode b_M_move 198 = .ok (.iadd, 1) := by decide +kernel
theorem d_M_move_199 : decode b_M_move 199 = .ok (.iload 7, 2) := by decide +kernel
theorem d_M_move_201 : decode b_M_move 201 = .ok (.iadd, 1) := by decide +kernel
theorem d_M_move_202 : decode b_M_move 202 = .ok (.baload, 1) := by decide +kernel
theorem d_M_move_203 : decode b_M_move 203 = .ok (.bastore, 1) := by decide +kernel
theorem d_M_move_204 : decode b_M_move 204 = .ok (.iinc 7 1, 3) := by decide +kernel
theorem d_M_move_207 : decode b_M_move 207 = .ok (.goto (-47), 3) := by decide +kernel
theorem d_M_move_210 : decode b_M_move 210 = .ok (.return_, 1) := by decide +kernel
theorem d_M_sum_0 : decode b_M_sum 0 = .ok (.aload_n 0, 1) := by decide +kernel
theorem d_M_sum_1 : decode b_M_sum 1 = .ok (.aload_n 0, 1) := by decide +kernel
theorem d_M_sum_2 : decode b_M_sum 2 = .ok (.getfield 46, 3) := by decide +kernel
theorem d_M_sum_5 : decode b_M_sum 5 = .ok (.aload_n 0, 1) := by decide +kernel
theorem d_M_sum_6 : decode b_M_sum 6 = .ok (.iload_n 1, 1) := by decide +kernel
theorem d_M_sum_7 : decode b_M_sum 7 = .ok (.invokevirtual 57, 3) := by decide +kernel
theorem d_M_sum_10 : decode b_M_sum 10 = .ok (.ifCond .ne 7, 3) := by decide +kernel
theorem d_M_sum_13 : decode b_M_sum 13 = .ok (.iconst 1, 1) := by decide +kernel
theorem d_M_sum_14 : decode b_M_sum 14 = .ok (.goto 4, 3) := by decide +kernel
theorem d_M_sum_17 : decode b_M_sum 17 = .ok (.iconst 0, 1) := by decide +kernel
theorem d_M_sum_18 : decode b_M_sum 18 = .ok (.invokevirtual 50, 3) := by decide +kernel
theorem d_M_sum_21 : decode b_M_sum 21 = .ok (.ifCond .eq 5, 3) := by decide +kernel
theorem d_M_sum_24 : decode b_M_sum 24 = .ok (.lconst 0, 1) := by decide +kernel
theorem d_M_sum_25 : decode b_M_sum 25 = .ok (.lreturn, 1) := by decide +kernel
theorem d_M_sum_26 : decode b_M_sum 26 = .ok (.ldc2_w 73, 3) := by decide +kernel
theorem d_M_sum_29 : decode b_M_sum 29 = .ok (.lstore_n 2, 1) := by decide +kernel
theorem d_M_sum_30 : decode b_M_sum 30 = .ok (.iconst 0, 1) := by decide +kernel
theorem d_M_sum_31 : decode b_M_sum 31 = .ok (.istore 4, 2) := by decide +kernel
theorem d_M_sum_33 : decode b_M_sum 33 = .ok (.iload 4, 2) := by decide +kernel
theorem d_M_sum_35 : decode b_M_sum 35 = .ok (.sipush 256, 3) := by decide +kernel
theorem d_M_sum_38 : decode b_M_sum 38 = .ok (.if_icmp .ge 24, 3) := by decide +kernel
theorem d_M_sum_41 : decode b_M_sum 41 = .ok (.ldc2_w 75, 3) := by decide +kernel
theorem d_M_sum_44 : decode b_M_sum 44 = .ok (.lload_n 2, 1) := by decide +kernel
theorem d_M_sum_45 : decode b_M_sum 45 = .ok (.lmul, 1) := by decide +kernel
theorem d_M_sum_46 : decode b_M_sum 46 = .ok (.aload_n 0, 1) := by decide +kernel
theorem d_M_sum_47 : decode b_M_sum 47 = .ok (.iload_n 1, 1) := by decide +kernel
theorem d_M_sum_48 : decode b_M_sum 48 = .ok (.iload 4, 2) := by decide +kernel
theorem d_M_sum_50 : decode b_M_sum 50 = .ok (.invokevirtual 61, 3) := by decide +kernel
theorem d_M_sum_53 : decode b_M_sum 53 = .ok (.i2l, 1) := by decide +kernel
theorem d_M_sum_54 : decode b_M_sum 54 = .ok (.ladd, 1) := by decide +kernel
theorem d_M_sum_55 : decode b_M_sum 55 = .ok (.lstore_n 2, 1) := by decide +kernel
theorem d_M_sum_56 : decode b_M_sum 56 = .ok (.iinc 4 1, 3) := by decide +kernel
theorem d_M_sum_59 : decode b_M_sum 59 = .ok (.goto (-26), 3) := by decide +kernel
theorem d_M_sum_62 : decode b_M_sum 62 = .ok (.lload_n 2, 1) := by decide +kernel
theorem d_M_sum_63 : decode b_M_sum 63 = .ok (.lreturn, 1) := by decide +kernel
theorem d_M_begin_0 : decode b_M_begin 0 = .ok (.aload_n 0, 1) := by decide +kernel
theorem d_M_begin_1 : decode b_M_begin 1 = .ok (.aload_n 0, 1) := by decide +kernel
theorem d_M_begin_2 : decode b_M_begin 2 = .ok (.getfield 46, 3) := by decide +kernel
theorem d_M_begin_5 : decode b_M_begin 5 = .ok (.ifCond .ne 10, 3) := by decide +kernel
theorem d_M_begin_8 : decode b_M_begin 8 = .ok (.aload_n 0, 1) := by decide +kernel
theorem d_M_begin_9 : decode b_M_begin 9 = .ok (.getfield 54, 3) := by decide +kernel
theorem d_M_begin_12 : decode b_M_begin 12 = .ok (.ifCond .eq 7, 3) := by decide +kernel
theorem d_M_begin_15 : decode b_M_begin 15 = .ok (.iconst 1, 1) := by decide +kernel
theorem d_M_begin_16 : decode b_M_begin 16 = .ok (.goto 4, 3) := by decide +kernel
theorem d_M_begin_19 : decode b_M_begin 19 = .ok (.iconst 0, 1) := by decide +kernel
theorem d_M_begin_20 : decode b_M_begin 20 = .ok (.iconst 0, 1) := by decide +kernel
theorem d_M_begin_21 : decode b_M_begin 21 = .ok (.invokevirtual 50, 3) := by decide +kernel
theorem d_M_begin_24 : decode b_M_begin 24 = .ok (.ifCond .eq 4, 3) := by decide +kernel
theorem d_M_begin_27 : decode b_M_begin 27 = .ok (.return_, 1) := by decide +kernel
theorem d_M_begin_28 : decode b_M_begin 28 = .ok (.aload_n 0, 1) := by decide +kernel
theorem d_M_begin_29 : decode b_M_begin 29 = .ok (.iconst 1, 1) := by decide +kernel
theorem d_M_begin_30 : decode b_M_begin 30 = .ok (.putfield 54, 3) := by decide +kernel
theorem d_M_begin_33 : decode b_M_begin 33 = .ok (.aload_n 0, 1) := by decide +kernel
theorem d_M_begin_34 : decode b_M_begin 34 = .ok (.iconst 0, 1) := by decide +kernel
theorem d_M_begin_35 : decode b_M_begin 35 = .ok (.putfield 77, 3) := by decide +kernel
theorem d_M_begin_38 : decode b_M_begin 38 = .ok (.aload_n 0, 1) := by decide +kernel
theorem d_M_begin_39 : decode b_M_begin 39 = .ok (.dup, 1) := by decide +kernel
theorem d_M_begin_40 : decode b_M_begin 40 = .ok (.getfield 22, 3) := by decide +kernel
theorem d_M_begin_43 : decode b_M_begin 43 = .ok (.iconst 1, 1) := by decide +kernel
theorem d_M_begin_44 : decode b_M_begin 44 = .ok (.iadd, 1) := by decide +kernel
theorem d_M_begin_45 : decode b_M_begin 45 = .ok (.putfield 22, 3) := by decide +kernel
theorem d_M_begin_48 : decode b_M_begin 48 = .ok (.return_, 1) := by decide +kernel
theorem d_M_lasts_0 : decode b_M_lasts 0 = .ok (.iconst 0, 1) := by decide +kernel
theorem d_M_lasts_1 : decode b_M_lasts 1 = .ok (.istore_n 1, 1) := by decide +kernel
theorem d_M_lasts_2 : decode b_M_lasts 2 = .ok (.iload_n 1, 1) := by decide +kernel
theorem d_M_lasts_3 : decode b_M_lasts 3 = .ok (.aload_n 0, 1) := by decide +kernel
theorem d_M_lasts_4 : decode b_M_lasts 4 = .ok (.getfield 43, 3) := by decide +kernel
theorem d_M_lasts_7 : decode b_M_lasts 7 = .ok (.if_icmp .ge 21, 3) := by decide +kernel
theorem d_M_lasts_10 : decode b_M_lasts 10 = .ok (.aload_n 0, 1) := by decide +kernel
theorem d_M_lasts_11 : decode b_M_lasts 11 = .ok (.getfield 28, 3) := by decide +kernel
theorem d_M_lasts_14 : decode b_M_lasts 14 = .ok (.iload_n 1, 1) := by decide +kernel
theorem d_M_lasts_15 : decode b_M_lasts 15 = .ok (.aload_n 0, 1) := by decide +kernel
theorem d_M_lasts_16 : decode b_M_lasts 16 = .ok (.getfield 25, 3) := by decide +kernel
theorem d_M_lasts_19 : decode b_M_lasts 19 = .ok (.iload_n 1, 1) := by decide +kernel
theorem d_M_lasts_20 : decode b_M_lasts 20 = .ok (.iaload, 1) := by decide +kernel
theorem d_M_lasts_21 : decode b_M_lasts 21 = .ok (.iastore, 1) := by decide +kernel
theorem d_M_lasts_22 : decode b_M_lasts 22 = .ok (.iinc 1 1, 3) := by decide +kernel
theorem d_M_lasts_25 : decode b_M_lasts 25 = .ok (.goto (-23), 3) := by decide +kernel
theorem d_M_lasts_28 : decode b_M_lasts 28 = .ok (.aload_n 0, 1) := by decide +kernel
theorem d_M_lasts_29 : decode b_M_lasts 29 = .ok (.aload_n 0, 1) := by decide +kernel
theorem d_M_lasts_30 : decode b_M_lasts 30 = .ok (.getfield 43, 3) := by decide +kernel
theorem d_M_lasts_33 : decode b_M_lasts 33 = .ok (.putfield 80, 3) := by decide +kernel
theorem d_M_lasts_36 : decode b_M_lasts 36 = .ok (.aload_n 0, 1) := by decide +kernel
theorem d_M_lasts_37 : decode b_M_lasts 37 = .ok (.dup, 1) := by decide +kernel
theorem d_M_lasts_38 : decode b_M_lasts 38 = .ok (.getfield 83, 3) := by decide +kernel
theorem d_M_lasts_41 : decode b_M_lasts 41 = .ok (.iconst 1, 1) := by decide +kernel
theorem d_M_lasts_42 : decode b_M_lasts 42 = .ok (.iadd, 1) := by decide +kernel
theorem d_M_lasts_43 : decode b_M_lasts 43 = .ok (.putfield 83, 3) := by decide +kernel
theorem d_M_lasts_46 : decode b_M_lasts 46 = .ok (.return_, 1) := by decide +kernel
theorem d_M_fall_0 : decode b_M_fall 0 = .ok (.iconst 0, 1) := by decide +kernel
theorem d_M_fall_1 : decode b_M_fall 1 = .ok (.istore_n 1, 1) := by decide +kernel
theorem d_M_fall_2 : decode b_M_fall 2 = .ok (.iload_n 1, 1) := by decide +kernel
theorem d_M_fall_3 : decode b_M_fall 3 = .ok (.aload_n 0, 1) := by decide +kernel
theorem d_M_fall_4 : decode b_M_fall 4 = .ok (.getfield 80, 3) := by decide +kernel
theorem d_M_fall_7 : decode b_M_fall 7 = .ok (.if_icmp .ge 21, 3) := by decide +kernel
theorem d_M_fall_10 : decode b_M_fall 10 = .ok (.aload_n 0, 1) := by decide +kernel
theorem d_M_fall_11 : decode b_M_fall 11 = .ok (.getfield 25, 3) := by decide +kernel
theorem d_M_fall_14 : decode b_M_fall 14 = .ok (.iload_n 1, 1) := by decide +kernel
theorem d_M_fall_15 : decode b_M_fall 15 = .ok (.aload_n 0, 1) := by decide +kernel
theorem d_M_fall_16 : decode b_M_fall 16 = .ok (.getfield 28, 3) := by decide +kernel
theorem d_M_fall_19 : decode b_M_fall 19 = .ok (.iload_n 1, 1) := by decide +kernel
theorem d_M_fall_20 : decode b_M_fall 20 = .ok (.iaload, 1) := by decide +kernel
theorem d_M_fall_21 : decode b_M_fall 21 = .ok (.iastore, 1) := by decide +kernel
theorem d_M_fall_22 : decode b_M_fall 22 = .ok (.iinc 1 1, 3) := by decide +kernel
theorem d_M_fall_25 : decode b_M_fall 25 = .ok (.goto (-23), 3) := by decide +kernel
theorem d_M_fall_28 : decode b_M_fall 28 = .ok (.aload_n 0, 1) := by decide +kernel
theorem d_M_fall_29 : decode b_M_fall 29 = .ok (.aload_n 0, 1) := by decide +kernel
theorem d_M_fall_30 : decode b_M_fall 30 = .ok (.getfield 80, 3) := by decide +kernel
theorem d_M_fall_33 : decode b_M_fall 33 = .ok (.putfield 43, 3) := by decide +kernel
theorem d_M_fall_36 : decode b_M_fall 36 = .ok (.aload_n 0, 1) := by decide +kernel
theorem d_M_fall_37 : decode b_M_fall 37 = .ok (.iconst 0, 1) := by decide +kernel
theorem d_M_fall_38 : decode b_M_fall 38 = .ok (.putfield 54, 3) := by decide +kernel
theorem d_M_fall_41 : decode b_M_fall 41 = .ok (.aload_n 0, 1) := by decide +kernel
theorem d_M_fall_42 : decode b_M_fall 42 = .ok (.iconst 0, 1) := by decide +kernel
theorem d_M_fall_43 : decode b_M_fall 43 = .ok (.putfield 77, 3) := by decide +kernel
theorem d_M_fall_46 : decode b_M_fall 46 = .ok (.return_, 1) := by decide +kernel
theorem d_M_commit_0 : decode b_M_commit 0 = .ok (.aload_n 0, 1) := by decide +kernel
theorem d_M_commit_1 : decode b_M_commit 1 = .ok (.aload_n 0, 1) := by decide +kernel
theorem d_M_commit_2 : decode b_M_commit 2 = .ok (.getfield 46, 3) := by decide +kernel
theorem d_M_commit_5 : decode b_M_commit 5 = .ok (.ifCond .ne 10, 3) := by decide +kernel
theorem d_M_commit_8 : decode b_M_commit 8 = .ok (.aload_n 0, 1) := by decide +kernel
theorem d_M_commit_9 : decode b_M_commit 9 = .ok (.getfield 54, 3) := by decide +kernel
theorem d_M_commit_12 : decode b_M_commit 12 = .ok (.ifCond .ne 7, 3) := by decide +kernel
theorem d_M_commit_15 : decode b_M_commit 15 = .ok (.iconst 1, 1) := by decide +kernel
theorem d_M_commit_16 : decode b_M_commit 16 = .ok (.goto 4, 3) := by decide +kernel
theorem d_M_commit_19 : decode b_M_commit 19 = .ok (.iconst 0, 1) := by decide +kernel
theorem d_M_commit_20 : decode b_M_commit 20 = .ok (.iconst 0, 1) := by decide +kernel
theorem d_M_commit_21 : decode b_M_commit 21 = .ok (.invokevirtual 50, 3) := by decide +kernel
theorem d_M_commit_24 : decode b_M_commit 24 = .ok (.ifCond .eq 4, 3) := by decide +kernel
theorem d_M_commit_27 : decode b_M_commit 27 = .ok (.return_, 1) := by decide +kernel
theorem d_M_commit_28 : decode b_M_commit 28 = .ok (.aload_n 0, 1) := by decide +kernel
theorem d_M_commit_29 : decode b_M_commit 29 = .ok (.getfield 37, 3) := by decide +kernel
theorem d_M_commit_32 : decode b_M_commit 32 = .ok (.iconst 3, 1) := by decide +kernel
theorem d_M_commit_33 : decode b_M_commit 33 = .ok (.if_icmp .ge 7, 3) := by decide +kernel
theorem d_M_commit_36 : decode b_M_commit 36 = .ok (.iconst 1, 1) := by decide +kernel
theorem d_M_commit_37 : decode b_M_commit 37 = .ok (.goto 4, 3) := by decide +kernel
theorem d_M_commit_40 : decode b_M_commit 40 = .ok (.iconst 0, 1) := by decide +kernel
theorem d_M_commit_41 : decode b_M_commit 41 = .ok (.istore_n 1, 1) := by decide +kernel
theorem d_M_commit_42 : decode b_M_commit 42 = .ok (.iload_n 1, 1) := by decide +kernel
theorem d_M_commit_43 : decode b_M_commit 43 = .ok (.ifCond .eq 18, 3) := by decide +kernel
theorem d_M_commit_46 : decode b_M_commit 46 = .ok (.aload_n 0, 1) := by decide +kernel
theorem d_M_commit_47 : decode b_M_commit 47 = .ok (.getfield 37, 3) := by decide +kernel
theorem d_M_commit_50 : decode b_M_commit 50 = .ok (.iconst 2, 1) := by decide +kernel
theorem d_M_commit_51 : decode b_M_commit 51 = .ok (.if_icmp .ne 14, 3) := by decide +kernel
theorem d_M_commit_54 : decode b_M_commit 54 = .ok (.aload_n 0, 1) := by decide +kernel
theorem d_M_commit_55 : decode b_M_commit 55 = .ok (.getfield 86, 3) := by decide +kernel
theorem d_M_commit_58 : decode b_M_commit 58 = .ok (.ifCond .le 7, 3) := by decide +kernel
theorem d_M_commit_61 : decode b_M_commit 61 = .ok (.aload_n 0, 1) := by decide +kernel
theorem d_M_commit_62 : decode b_M_commit 62 = .ok (.invokevirtual 89, 3) := by decide +kernel
theorem d_M_commit_65 : decode b_M_commit 65 = .ok (.aload_n 0, 1) := by decide +kernel
theorem d_M_commit_66 : decode b_M_commit 66 = .ok (.iconst 0, 1) := by decide +kernel
theorem d_M_commit_67 : decode b_M_commit 67 = .ok (.putfield 54, 3) := by decide +kernel
theorem d_M_commit_70 : decode b_M_commit 70 = .ok (.aload_n 0, 1) := by decide +kernel
theorem d_M_commit_71 : decode b_M_commit 71 = .ok (.iconst 0, 1) := by decide +kernel
theorem d_M_commit_72 : decode b_M_commit 72 = .ok (.putfield 77, 3) := by decide +kernel
theorem d_M_commit_75 : decode b_M_commit 75 = .ok (.iload_n 1, 1) := by decide +kernel
theorem d_M_commit_76 : decode b_M_commit 76 = .ok (.ifCond .ne 4, 3) := by decide +kernel
theorem d_M_commit_79 : decode b_M_commit 79 = .ok (.return_, 1) := by decide +kernel
theorem d_M_commit_80 : decode b_M_commit 80 = .ok (.aload_n 0, 1) := by decide +kernel
theorem d_M_commit_81 : decode b_M_commit 81 = .ok (.invokevirtual 92, 3) := by decide +kernel
theorem d_M_commit_84 : decode b_M_commit 84 = .ok (.aload_n 0, 1) := by decide +kernel
theorem d_M_commit_85 : decode b_M_commit 85 = .ok (.iconst 4, 1) := by decide +kernel
theorem d_M_commit_86 : decode b_M_commit 86 = .ok (.putfield 37, 3) := by decide +kernel
theorem d_M_commit_89 : decode b_M_commit 89 = .ok (.aload_n 0, 1) := by decide +kernel
theorem d_M_commit_90 : decode b_M_commit 90 = .ok (.iconst 1, 1) := by decide +kernel
theorem d_M_commit_91 : decode b_M_commit 91 = .ok (.putfield 46, 3) := by decide +kernel
theorem d_M_commit_94 : decode b_M_commit 94 = .ok (.aload_n 0, 1) := by decide +kernel
theorem d_M_commit_95 : decode b_M_commit 95 = .ok (.iconst 2, 1) := by decide +kernel
theorem d_M_commit_96 : decode b_M_commit 96 = .ok (.putfield 40, 3) := by decide +kernel
theorem d_M_commit_99 : decode b_M_commit 99 = .ok (.return_, 1) := by decide +kernel
theorem d_M_rollback_0 : decode b_M_rollback 0 = .ok (.aload_n 0, 1) := by decide +kernel
theorem d_M_rollback_1 : decode b_M_rollback 1 = .ok (.aload_n 0, 1) := by decide +kernel
theorem d_M_rollback_2 : decode b_M_rollback 2 = .ok (.getfield 46, 3) := by decide +kernel
theorem d_M_rollback_5 : decode b_M_rollback 5 = .ok (.ifCond .ne 10, 3) := by decide +kernel
theorem d_M_rollback_8 : decode b_M_rollback 8 = .ok (.aload_n 0, 1) := by decide +kernel
theorem d_M_rollback_9 : decode b_M_rollback 9 = .ok (.getfield 54, 3) := by decide +kernel
theorem d_M_rollback_12 : decode b_M_rollback 12 = .ok (.ifCond .ne 7, 3) := by decide +kernel
theorem d_M_rollback_15 : decode b_M_rollback 15 = .ok (.iconst 1, 1) := by decide +kernel
theorem d_M_rollback_16 : decode b_M_rollback 16 = .ok (.goto 4, 3) := by decide +kernel
theorem d_M_rollback_19 : decode b_M_rollback 19 = .ok (.iconst 0, 1) := by decide +kernel
theorem d_M_rollback_20 : decode b_M_rollback 20 = .ok (.iconst 0, 1) := by decide +kernel
theorem d_M_rollback_21 : decode b_M_rollback 21 = .ok (.invokevirtual 50, 3) := by decide +kernel
theorem d_M_rollback_24 : decode b_M_rollback 24 = .ok (.ifCond .eq 4, 3) := by decide +kernel
theorem d_M_rollback_27 : decode b_M_rollback 27 = .ok (.return_, 1) := by decide +kernel
theorem d_M_rollback_28 : decode b_M_rollback 28 = .ok (.aload_n 0, 1) := by decide +kernel
theorem d_M_rollback_29 : decode b_M_rollback 29 = .ok (.invokevirtual 92, 3) := by decide +kernel
theorem d_M_rollback_32 : decode b_M_rollback 32 = .ok (.return_, 1) := by decide +kernel
theorem d_M_mark_0 : decode b_M_mark 0 = .ok (.aload_n 0, 1) := by decide +kernel
theorem d_M_mark_1 : decode b_M_mark 1 = .ok (.aload_n 0, 1) := by decide +kernel
theorem d_M_mark_2 : decode b_M_mark 2 = .ok (.getfield 46, 3) := by decide +kernel
theorem d_M_mark_5 : decode b_M_mark 5 = .ok (.ifCond .ne 18, 3) := by decide +kernel
theorem d_M_mark_8 : decode b_M_mark 8 = .ok (.aload_n 0, 1) := by decide +kernel
theorem d_M_mark_9 : decode b_M_mark 9 = .ok (.getfield 54, 3) := by decide +kernel
theorem d_M_mark_12 : decode b_M_mark 12 = .ok (.ifCond .eq 11, 3) := by decide +kernel
theorem d_M_mark_15 : decode b_M_mark 15 = .ok (.aload_n 0, 1) := by decide +kernel
theorem d_M_mark_16 : decode b_M_mark 16 = .ok (.getfield 77, 3) := by decide +kernel
theorem d_M_mark_19 : decode b_M_mark 19 = .ok (.iconst 5, 1) := by decide +kernel
theorem d_M_mark_20 : decode b_M_mark 20 = .ok (.if_icmp .ne 7, 3) := by decide +kernel
theorem d_M_mark_23 : decode b_M_mark 23 = .ok (.iconst 1, 1) := by decide +kernel
theorem d_M_mark_24 : decode b_M_mark 24 = .ok (.goto 4, 3) := by decide +kernel
theorem d_M_mark_27 : decode b_M_mark 27 = .ok (.iconst 0, 1) := by decide +kernel
theorem d_M_mark_28 : decode b_M_mark 28 = .ok (.iconst 0, 1) := by decide +kernel
theorem d_M_mark_29 : decode b_M_mark 29 = .ok (.invokevirtual 50, 3) := by decide +kernel
theorem d_M_mark_32 : decode b_M_mark 32 = .ok (.ifCond .eq 5, 3) := by decide +kernel
theorem d_M_mark_35 : decode b_M_mark 35 = .ok (.iconst 0, 1) := by decide +kernel
theorem d_M_mark_36 : decode b_M_mark 36 = .ok (.ireturn, 1) := by decide +kernel
theorem d_M_mark_37 : decode b_M_mark 37 = .ok (.iconst 0, 1) := by decide +kernel
theorem d_M_mark_38 : decode b_M_mark 38 = .ok (.istore_n 1, 1) := by decide +kernel
theorem d_M_mark_39 : decode b_M_mark 39 = .ok (.iload_n 1, 1) := by decide +kernel
theorem d_M_mark_40 : decode b_M_mark 40 = .ok (.aload_n 0, 1) := by decide +kernel
theorem d_M_mark_41 : decode b_M_mark 41 = .ok (.getfield 43, 3) := by decide +kernel
theorem d_M_mark_44 : decode b_M_mark 44 = .ok (.if_icmp .ge 30, 3) := by decide +kernel
theorem d_M_mark_47 : decode b_M_mark 47 = .ok (.aload_n 0, 1) := by decide +kernel
theorem d_M_mark_48 : decode b_M_mark 48 = .ok (.getfield 31, 3) := by decide +kernel
theorem d_M_mark_51 : decode b_M_mark 51 = .ok (.sipush 768, 3) := by decide +kernel
theorem d_M_mark_54 : decode b_M_mark 54 = .ok (.aload_n 0, 1) := by decide +kernel
theorem d_M_mark_55 : decode b_M_mark 55 = .ok (.getfield 77, 3) := by decide +kernel
theorem d_M_mark_58 : decode b_M_mark 58 = .ok (.imul, 1) := by decide +kernel
theorem d_M_mark_59 : decode b_M_mark 59 = .ok (.iload_n 1, 1) := by decide +kernel
theorem d_M_mark_60 : decode b_M_mark 60 = .ok (.iadd, 1) := by decide +kernel
theorem d_M_mark_61 : decode b_M_mark 61 = .ok (.aload_n 0, 1) := by decide +kernel
theorem d_M_mark_62 : decode b_M_mark 62 = .ok (.getfield 25, 3) := by decide +kernel
theorem d_M_mark_65 : decode b_M_mark 65 = .ok (.iload_n 1, 1) := by decide +kernel
theorem d_M_mark_66 : decode b_M_mark 66 = .ok (.iaload, 1) := by decide +kernel
theorem d_M_mark_67 : decode b_M_mark 67 = .ok (.iastore, 1) := by decide +kernel
theorem d_M_mark_68 : decode b_M_mark 68 = .ok (.iinc 1 1, 3) := by decide +kernel
theorem d_M_mark_71 : decode b_M_mark 71 = .ok (.goto (-32), 3) := by decide +kernel
theorem d_M_mark_74 : decode b_M_mark 74 = .ok (.aload_n 0, 1) := by decide +kernel
theorem d_M_mark_75 : decode b_M_mark 75 = .ok (.getfield 34, 3) := by decide +kernel
theorem d_M_mark_78 : decode b_M_mark 78 = .ok (.aload_n 0, 1) := by decide +kernel
theorem d_M_mark_79 : decode b_M_mark 79 = .ok (.getfield 77, 3) := by decide +kernel
theorem d_M_mark_82 : decode b_M_mark 82 = .ok (.aload_n 0, 1) := by decide +kernel
theorem d_M_mark_83 : decode b_M_mark 83 = .ok (.getfield 43, 3) := by decide +kernel
theorem d_M_mark_86 : decode b_M_mark 86 = .ok (.iastore, 1) := by decide +kernel
theorem d_M_mark_87 : decode b_M_mark 87 = .ok (.aload_n 0, 1) := by decide +kernel
theorem d_M_mark_88 : decode b_M_mark 88 = .ok (.dup, 1) := by decide +kernel
theorem d_M_mark_89 : decode b_M_mark 89 = .ok (.getfield 77, 3) := by decide +kernel
theorem d_M_mark_92 : decode b_M_mark 92 = .ok (.iconst 1, 1) := by decide +kernel
theorem d_M_mark_93 : decode b_M_mark 93 = .ok (.iadd, 1) := by decide +kernel
theorem d_M_mark_94 : decode b_M_mark 94 = .ok (.putfield 77, 3) := by decide +kernel
theorem d_M_mark_97 : decode b_M_mark 97 = .ok (.aload_n 0, 1) := by decide +kernel
theorem d_M_mark_98 : decode b_M_mark 98 = .ok (.dup, 1) := by decide +kernel
theorem d_M_mark_99 : decode b_M_mark 99 = .ok (.getfield 22, 3) := by decide +kernel
theorem d_M_mark_102 : decode b_M_mark 102 = .ok (.iconst 1, 1) := by decide +kernel
theorem d_M_mark_103 : decode b_M_mark 103 = .ok (.iadd, 1) := by decide +kernel
theorem d_M_mark_104 : decode b_M_mark 104 = .ok (.putfield 22, 3) := by decide +kernel
theorem d_M_mark_107 : decode b_M_mark 107 = .ok (.aload_n 0, 1) := by decide +kernel
theorem d_M_mark_108 : decode b_M_mark 108 = .ok (.getfield 77, 3) := by decide +kernel
theorem d_M_mark_111 : decode b_M_mark 111 = .ok (.ireturn, 1) := by decide +kernel
theorem d_M_back_0 : decode b_M_back 0 = .ok (.aload_n 0, 1) := by decide +kernel
theorem d_M_back_1 : decode b_M_back 1 = .ok (.aload_n 0, 1) := by decide +kernel
theorem d_M_back_2 : decode b_M_back 2 = .ok (.getfield 46, 3) := by decide +kernel
theorem d_M_back_5 : decode b_M_back 5 = .ok (.ifCond .ne 10, 3) := by decide +kernel
theorem d_M_back_8 : decode b_M_back 8 = .ok (.aload_n 0, 1) := by decide +kernel
theorem d_M_back_9 : decode b_M_back 9 = .ok (.getfield 54, 3) := by decide +kernel
theorem d_M_back_12 : decode b_M_back 12 = .ok (.ifCond .ne 7, 3) := by decide +kernel
theorem d_M_back_15 : decode b_M_back 15 = .ok (.iconst 1, 1) := by decide +kernel
theorem d_M_back_16 : decode b_M_back 16 = .ok (.goto 4, 3) := by decide +kernel
theorem d_M_back_19 : decode b_M_back 19 = .ok (.iconst 0, 1) := by decide +kernel
theorem d_M_back_20 : decode b_M_back 20 = .ok (.iload_n 1, 1) := by decide +kernel
theorem d_M_back_21 : decode b_M_back 21 = .ok (.iconst 1, 1) := by decide +kernel
theorem d_M_back_22 : decode b_M_back 22 = .ok (.if_icmp .lt 11, 3) := by decide +kernel
theorem d_M_back_25 : decode b_M_back 25 = .ok (.iload_n 1, 1) := by decide +kernel
theorem d_M_back_26 : decode b_M_back 26 = .ok (.aload_n 0, 1) := by decide +kernel
theorem d_M_back_27 : decode b_M_back 27 = .ok (.getfield 77, 3) := by decide +kernel
theorem d_M_back_30 : decode b_M_back 30 = .ok (.if_icmp .le 7, 3) := by decide +kernel
theorem d_M_back_33 : decode b_M_back 33 = .ok (.iconst 1, 1) := by decide +kernel
theorem d_M_back_34 : decode b_M_back 34 = .ok (.goto 4, 3) := by decide +kernel
theorem d_M_back_37 : decode b_M_back 37 = .ok (.iconst 0, 1) := by decide +kernel
theorem d_M_back_38 : decode b_M_back 38 = .ok (.invokevirtual 50, 3) := by decide +kernel
theorem d_M_back_41 : decode b_M_back 41 = .ok (.ifCond .eq 4, 3) := by decide +kernel
theorem d_M_back_44 : decode b_M_back 44 = .ok (.return_, 1) := by decide +kernel
theorem d_M_back_45 : decode b_M_back 45 = .ok (.aload_n 0, 1) := by decide +kernel
theorem d_M_back_46 : decode b_M_back 46 = .ok (.aload_n 0, 1) := by decide +kernel
theorem d_M_back_47 : decode b_M_back 47 = .ok (.getfield 34, 3) := by decide +kernel
theorem d_M_back_50 : decode b_M_back 50 = .ok (.iload_n 1, 1) := by decide +kernel
theorem d_M_back_51 : decode b_M_back 51 = .ok (.iconst 1, 1) := by decide +kernel
theorem d_M_back_52 : decode b_M_back 52 = .ok (.isub, 1) := by decide +kernel
theorem d_M_back_53 : decode b_M_back 53 = .ok (.iaload, 1) := by decide +kernel
theorem d_M_back_54 : decode b_M_back 54 = .ok (.putfield 43, 3) := by decide +kernel
theorem d_M_back_57 : decode b_M_back 57 = .ok (.iconst 0, 1) := by decide +kernel
theorem d_M_back_58 : decode b_M_back 58 = .ok (.istore_n 2, 1) := by decide +kernel
theorem d_M_back_59 : decode b_M_back 59 = .ok (.iload_n 2, 1) := by decide +kernel
theorem d_M_back_60 : decode b_M_back 60 = .ok (.aload_n 0, 1) := by decide +kernel
theorem d_M_back_61 : decode b_M_back 61 = .ok (.getfield 43, 3) := by decide +kernel
theorem d_M_back_64 : decode b_M_back 64 = .ok (.if_icmp .ge 29, 3) := by decide +kernel
theorem d_M_back_67 : decode b_M_back 67 = .ok (.aload_n 0, 1) := by decide +kernel
theorem d_M_back_68 : decode b_M_back 68 = .ok (.getfield 25, 3) := by decide +kernel
theorem d_M_back_71 : decode b_M_back 71 = .ok (.iload_n 2, 1) := by decide +kernel
theorem d_M_back_72 : decode b_M_back 72 = .ok (.aload_n 0, 1) := by decide +kernel
theorem d_M_back_73 : decode b_M_back 73 = .ok (.getfield 31, 3) := by decide +kernel
theorem d_M_back_76 : decode b_M_back 76 = .ok (.sipush 768, 3) := by decide +kernel
theorem d_M_back_79 : decode b_M_back 79 = .ok (.iload_n 1, 1) := by decide +kernel
theorem d_M_back_80 : decode b_M_back 80 = .ok (.iconst 1, 1) := by decide +kernel
theorem d_M_back_81 : decode b_M_back 81 = .ok (.isub, 1) := by decide +kernel
theorem d_M_back_82 : decode b_M_back 82 = .ok (.imul, 1) := by decide +kernel
theorem d_M_back_83 : decode b_M_back 83 = .ok (.iload_n 2, 1) := by decide +kernel
theorem d_M_back_84 : decode b_M_back 84 = .ok (.iadd, 1) := by decide +kernel
theorem d_M_back_85 : decode b_M_back 85 = .ok (.iaload, 1) := by decide +kernel
theorem d_M_back_86 : decode b_M_back 86 = .ok (.iastore, 1) := by decide +kernel
theorem d_M_back_87 : decode b_M_back 87 = .ok (.iinc 2 1, 3) := by decide +kernel
theorem d_M_back_90 : decode b_M_back 90 = .ok (.goto (-31), 3) := by decide +kernel
theorem d_M_back_93 : decode b_M_back 93 = .ok (.aload_n 0, 1) := by decide +kernel
theorem d_M_back_94 : decode b_M_back 94 = .ok (.iload_n 1, 1) := by decide +kernel
theorem d_M_back_95 : decode b_M_back 95 = .ok (.putfield 77, 3) := by decide +kernel
theorem d_M_back_98 : decode b_M_back 98 = .ok (.aload_n 0, 1) := by decide +kernel
theorem d_M_back_99 : decode b_M_back 99 = .ok (.dup, 1) := by decide +kernel
theorem d_M_back_100 : decode b_M_back 100 = .ok (.getfield 22, 3) := by decide +kernel
theorem d_M_back_103 : decode b_M_back 103 = .ok (.iconst 1, 1) := by decide +kernel
theorem d_M_back_104 : decode b_M_back 104 = .ok (.iadd, 1) := by decide +kernel
theorem d_M_back_105 : decode b_M_back 105 = .ok (.putfield 22, 3) := by decide +kernel
theorem d_M_back_108 : decode b_M_back 108 = .ok (.return_, 1) := by decide +kernel
theorem d_M_keep_0 : decode b_M_keep 0 = .ok (.aload_n 0, 1) := by decide +kernel
theorem d_M_keep_1 : decode b_M_keep 1 = .ok (.aload_n 0, 1) := by decide +kernel
theorem d_M_keep_2 : decode b_M_keep 2 = .ok (.getfield 46, 3) := by decide +kernel
theorem d_M_keep_5 : decode b_M_keep 5 = .ok (.ifCond .ne 10, 3) := by decide +kernel
theorem d_M_keep_8 : decode b_M_keep 8 = .ok (.aload_n 0, 1) := by decide +kernel
theorem d_M_keep_9 : decode b_M_keep 9 = .ok (.getfield 54, 3) := by decide +kernel
theorem d_M_keep_12 : decode b_M_keep 12 = .ok (.ifCond .ne 7, 3) := by decide +kernel
theorem d_M_keep_15 : decode b_M_keep 15 = .ok (.iconst 1, 1) := by decide +kernel
theorem d_M_keep_16 : decode b_M_keep 16 = .ok (.goto 4, 3) := by decide +kernel
theorem d_M_keep_19 : decode b_M_keep 19 = .ok (.iconst 0, 1) := by decide +kernel
theorem d_M_keep_20 : decode b_M_keep 20 = .ok (.iload_n 1, 1) := by decide +kernel
theorem d_M_keep_21 : decode b_M_keep 21 = .ok (.iconst 1, 1) := by decide +kernel
theorem d_M_keep_22 : decode b_M_keep 22 = .ok (.if_icmp .lt 11, 3) := by decide +kernel
theorem d_M_keep_25 : decode b_M_keep 25 = .ok (.iload_n 1, 1) := by decide +kernel
theorem d_M_keep_26 : decode b_M_keep 26 = .ok (.aload_n 0, 1) := by decide +kernel
theorem d_M_keep_27 : decode b_M_keep 27 = .ok (.getfield 77, 3) := by decide +kernel
theorem d_M_keep_30 : decode b_M_keep 30 = .ok (.if_icmp .le 7, 3) := by decide +kernel
theorem d_M_keep_33 : decode b_M_keep 33 = .ok (.iconst 1, 1) := by decide +kernel
theorem d_M_keep_34 : decode b_M_keep 34 = .ok (.goto 4, 3) := by decide +kernel
theorem d_M_keep_37 : decode b_M_keep 37 = .ok (.iconst 0, 1) := by decide +kernel
theorem d_M_keep_38 : decode b_M_keep 38 = .ok (.invokevirtual 50, 3) := by decide +kernel
theorem d_M_keep_41 : decode b_M_keep 41 = .ok (.ifCond .eq 4, 3) := by decide +kernel
theorem d_M_keep_44 : decode b_M_keep 44 = .ok (.return_, 1) := by decide +kernel
theorem d_M_keep_45 : decode b_M_keep 45 = .ok (.aload_n 0, 1) := by decide +kernel
theorem d_M_keep_46 : decode b_M_keep 46 = .ok (.iload_n 1, 1) := by decide +kernel
theorem d_M_keep_47 : decode b_M_keep 47 = .ok (.iconst 1, 1) := by decide +kernel
theorem d_M_keep_48 : decode b_M_keep 48 = .ok (.isub, 1) := by decide +kernel
theorem d_M_keep_49 : decode b_M_keep 49 = .ok (.putfield 77, 3) := by decide +kernel
theorem d_M_keep_52 : decode b_M_keep 52 = .ok (.return_, 1) := by decide +kernel
theorem d_M_power_0 : decode b_M_power 0 = .ok (.aload_n 0, 1) := by decide +kernel
theorem d_M_power_1 : decode b_M_power 1 = .ok (.iload_n 1, 1) := by decide +kernel
theorem d_M_power_2 : decode b_M_power 2 = .ok (.ifCond .lt 30, 3) := by decide +kernel
theorem d_M_power_5 : decode b_M_power 5 = .ok (.iload_n 1, 1) := by decide +kernel
theorem d_M_power_6 : decode b_M_power 6 = .ok (.iconst 4, 1) := by decide +kernel
theorem d_M_power_7 : decode b_M_power 7 = .ok (.if_icmp .gt 25, 3) := by decide +kernel
theorem d_M_power_10 : decode b_M_power 10 = .ok (.iload_n 2, 1) := by decide +kernel
theorem d_M_power_11 : decode b_M_power 11 = .ok (.ifCond .lt 21, 3) := by decide +kernel
theorem d_M_power_14 : decode b_M_power 14 = .ok (.iload_n 2, 1) := by decide +kernel
theorem d_M_power_15 : decode b_M_power 15 = .ok (.sipush 1000, 3) := by decide +kernel
theorem d_M_power_18 : decode b_M_power 18 = .ok (.if_icmp .gt 14, 3) := by decide +kernel
theorem d_M_power_21 : decode b_M_power 21 = .ok (.iload_n 3, 1) := by decide +kernel
theorem d_M_power_22 : decode b_M_power 22 = .ok (.ifCond .lt 10, 3) := by decide +kernel
theorem d_M_power_25 : decode b_M_power 25 = .ok (.iload_n 3, 1) := by decide +kernel
theorem d_M_power_26 : decode b_M_power 26 = .ok (.sipush 300, 3) := by decide +kernel
theorem d_M_power_29 : decode b_M_power 29 = .ok (.if_icmp .le 7, 3) := by decide +kernel
theorem d_M_power_32 : decode b_M_power 32 = .ok (.iconst 1, 1) := by decide +kernel
theorem d_M_power_33 : decode b_M_power 33 = .ok (.goto 4, 3) := by decide +kernel
theorem d_M_power_36 : decode b_M_power 36 = .ok (.iconst 0, 1) := by decide +kernel
theorem d_M_power_37 : decode b_M_power 37 = .ok (.putfield 40, 3) := by decide +kernel
theorem d_M_power_40 : decode b_M_power 40 = .ok (.aload_n 0, 1) := by decide +kernel
theorem d_M_power_41 : decode b_M_power 41 = .ok (.getfield 40, 3) := by decide +kernel
theorem d_M_power_44 : decode b_M_power 44 = .ok (.ifCond .le 4, 3) := by decide +kernel
theorem d_M_power_47 : decode b_M_power 47 = .ok (.return_, 1) := by decide +kernel
theorem d_M_power_48 : decode b_M_power 48 = .ok (.aload_n 0, 1) := by decide +kernel
theorem d_M_power_49 : decode b_M_power 49 = .ok (.iload_n 1, 1) := by decide +kernel
theorem d_M_power_50 : decode b_M_power 50 = .ok (.putfield 37, 3) := by decide +kernel
theorem d_M_power_53 : decode b_M_power 53 = .ok (.aload_n 0, 1) := by decide +kernel
theorem d_M_power_54 : decode b_M_power 54 = .ok (.iload_n 2, 1) := by decide +kernel
theorem d_M_power_55 : decode b_M_power 55 = .ok (.putfield 86, 3) := by decide +kernel
theorem d_M_power_58 : decode b_M_power 58 = .ok (.return_, 1) := by decide +kernel
theorem d_M_reopen_0 : decode b_M_reopen 0 = .ok (.aload_n 0, 1) := by decide +kernel
theorem d_M_reopen_1 : decode b_M_reopen 1 = .ok (.invokevirtual 92, 3) := by decide +kernel
theorem d_M_reopen_4 : decode b_M_reopen 4 = .ok (.aload_n 0, 1) := by decide +kernel
theorem d_M_reopen_5 : decode b_M_reopen 5 = .ok (.aload_n 0, 1) := by decide +kernel
theorem d_M_reopen_6 : decode b_M_reopen 6 = .ok (.getfield 37, 3) := by decide +kernel
theorem d_M_reopen_9 : decode b_M_reopen 9 = .ok (.iconst 3, 1) := by decide +kernel
theorem d_M_reopen_10 : decode b_M_reopen 10 = .ok (.if_icmp .ne 7, 3) := by decide +kernel
theorem d_M_reopen_13 : decode b_M_reopen 13 = .ok (.iconst 1, 1) := by decide +kernel
theorem d_M_reopen_14 : decode b_M_reopen 14 = .ok (.goto 4, 3) := by decide +kernel
theorem d_M_reopen_17 : decode b_M_reopen 17 = .ok (.iconst 0, 1) := by decide +kernel
theorem d_M_reopen_18 : decode b_M_reopen 18 = .ok (.putfield 40, 3) := by decide +kernel
theorem d_M_reopen_21 : decode b_M_reopen 21 = .ok (.aload_n 0, 1) := by decide +kernel
theorem d_M_reopen_22 : decode b_M_reopen 22 = .ok (.aload_n 0, 1) := by decide +kernel
theorem d_M_reopen_23 : decode b_M_reopen 23 = .ok (.getfield 37, 3) := by decide +kernel
theorem d_M_reopen_26 : decode b_M_reopen 26 = .ok (.iconst 3, 1) := by decide +kernel
theorem d_M_reopen_27 : decode b_M_reopen 27 = .ok (.if_icmp .ne 7, 3) := by decide +kernel
theorem d_M_reopen_30 : decode b_M_reopen 30 = .ok (.iconst 1, 1) := by decide +kernel
theorem d_M_reopen_31 : decode b_M_reopen 31 = .ok (.goto 4, 3) := by decide +kernel
theorem d_M_reopen_34 : decode b_M_reopen 34 = .ok (.iconst 0, 1) := by decide +kernel
theorem d_M_reopen_35 : decode b_M_reopen 35 = .ok (.putfield 46, 3) := by decide +kernel
theorem d_M_reopen_38 : decode b_M_reopen 38 = .ok (.aload_n 0, 1) := by decide +kernel
theorem d_M_reopen_39 : decode b_M_reopen 39 = .ok (.iconst 4, 1) := by decide +kernel
theorem d_M_reopen_40 : decode b_M_reopen 40 = .ok (.putfield 37, 3) := by decide +kernel
theorem d_M_reopen_43 : decode b_M_reopen 43 = .ok (.aload_n 0, 1) := by decide +kernel
theorem d_M_reopen_44 : decode b_M_reopen 44 = .ok (.getfield 46, 3) := by decide +kernel
theorem d_M_reopen_47 : decode b_M_reopen 47 = .ok (.ifCond .eq 7, 3) := by decide +kernel
theorem d_M_reopen_50 : decode b_M_reopen 50 = .ok (.iconst 0, 1) := by decide +kernel
theorem d_M_reopen_51 : decode b_M_reopen 51 = .ok (.goto 7, 3) := by decide +kernel
theorem d_M_reopen_54 : decode b_M_reopen 54 = .ok (.aload_n 0, 1) := by decide +kernel
theorem d_M_reopen_55 : decode b_M_reopen 55 = .ok (.getfield 43, 3) := by decide +kernel
theorem d_M_reopen_58 : decode b_M_reopen 58 = .ok (.ireturn, 1) := by decide +kernel
theorem d_M_told_0 : decode b_M_told 0 = .ok (.aload_n 0, 1) := by decide +kernel
theorem d_M_told_1 : decode b_M_told 1 = .ok (.iload_n 1, 1) := by decide +kernel
theorem d_M_told_2 : decode b_M_told 2 = .ok (.ifCond .lt 8, 3) := by decide +kernel
theorem d_M_told_5 : decode b_M_told 5 = .ok (.iload_n 1, 1) := by decide +kernel
theorem d_M_told_6 : decode b_M_told 6 = .ok (.iconst 3, 1) := by decide +kernel
theorem d_M_told_7 : decode b_M_told 7 = .ok (.if_icmp .le 7, 3) := by decide +kernel
theorem d_M_told_10 : decode b_M_told 10 = .ok (.iconst 1, 1) := by decide +kernel
theorem d_M_told_11 : decode b_M_told 11 = .ok (.goto 4, 3) := by decide +kernel
theorem d_M_told_14 : decode b_M_told 14 = .ok (.iconst 0, 1) := by decide +kernel
theorem d_M_told_15 : decode b_M_told 15 = .ok (.putfield 40, 3) := by decide +kernel
theorem d_M_told_18 : decode b_M_told 18 = .ok (.aload_n 0, 1) := by decide +kernel
theorem d_M_told_19 : decode b_M_told 19 = .ok (.getfield 40, 3) := by decide +kernel
theorem d_M_told_22 : decode b_M_told 22 = .ok (.ifCond .le 5, 3) := by decide +kernel
theorem d_M_told_25 : decode b_M_told 25 = .ok (.iconst 0, 1) := by decide +kernel
theorem d_M_told_26 : decode b_M_told 26 = .ok (.ireturn, 1) := by decide +kernel
theorem d_M_told_27 : decode b_M_told 27 = .ok (.iload_n 1, 1) := by decide +kernel
theorem d_M_told_28 : decode b_M_told 28 = .ok (.ifCond .ne 16, 3) := by decide +kernel
theorem d_M_told_31 : decode b_M_told 31 = .ok (.aload_n 0, 1) := by decide +kernel
theorem d_M_told_32 : decode b_M_told 32 = .ok (.getfield 46, 3) := by decide +kernel
theorem d_M_told_35 : decode b_M_told 35 = .ok (.ifCond .eq 7, 3) := by decide +kernel
theorem d_M_told_38 : decode b_M_told 38 = .ok (.iconst 0, 1) := by decide +kernel
theorem d_M_told_39 : decode b_M_told 39 = .ok (.goto 4, 3) := by decide +kernel
theorem d_M_told_42 : decode b_M_told 42 = .ok (.iconst 1, 1) := by decide +kernel
theorem d_M_told_43 : decode b_M_told 43 = .ok (.ireturn, 1) := by decide +kernel
theorem d_M_told_44 : decode b_M_told 44 = .ok (.iload_n 1, 1) := by decide +kernel
theorem d_M_told_45 : decode b_M_told 45 = .ok (.iconst 1, 1) := by decide +kernel
theorem d_M_told_46 : decode b_M_told 46 = .ok (.if_icmp .ne 16, 3) := by decide +kernel
theorem d_M_told_49 : decode b_M_told 49 = .ok (.aload_n 0, 1) := by decide +kernel
theorem d_M_told_50 : decode b_M_told 50 = .ok (.getfield 54, 3) := by decide +kernel
theorem d_M_told_53 : decode b_M_told 53 = .ok (.ifCond .eq 7, 3) := by decide +kernel
theorem d_M_told_56 : decode b_M_told 56 = .ok (.iconst 1, 1) := by decide +kernel
theorem d_M_told_57 : decode b_M_told 57 = .ok (.goto 4, 3) := by decide +kernel
theorem d_M_told_60 : decode b_M_told 60 = .ok (.iconst 0, 1) := by decide +kernel
theorem d_M_told_61 : decode b_M_told 61 = .ok (.ireturn, 1) := by decide +kernel
theorem d_M_told_62 : decode b_M_told 62 = .ok (.iload_n 1, 1) := by decide +kernel
theorem d_M_told_63 : decode b_M_told 63 = .ok (.iconst 2, 1) := by decide +kernel
theorem d_M_told_64 : decode b_M_told 64 = .ok (.if_icmp .ne 10, 3) := by decide +kernel
theorem d_M_told_67 : decode b_M_told 67 = .ok (.aload_n 0, 1) := by decide +kernel
theorem d_M_told_68 : decode b_M_told 68 = .ok (.getfield 77, 3) := by decide +kernel
theorem d_M_told_71 : decode b_M_told 71 = .ok (.goto 7, 3) := by decide +kernel
theorem d_M_told_74 : decode b_M_told 74 = .ok (.aload_n 0, 1) := by decide +kernel
theorem d_M_told_75 : decode b_M_told 75 = .ok (.getfield 83, 3) := by decide +kernel
theorem d_M_told_78 : decode b_M_told 78 = .ok (.ireturn, 1) := by decide +kernel
end
section
theorem d_L_pages_0 : decode b_L_pages 0 = .ok (.aload_n 1, 1) := by decide +kernel
theorem d_L_pages_1 : decode b_L_pages 1 = .ok (.iconst 0, 1) := by decide +kernel
theorem d_L_pages_2 : decode b_L_pages 2 = .ok (.aload_n 0, 1) := by decide +kernel
theorem d_L_pages_3 : decode b_L_pages 3 = .ok (.invokevirtual 7, 3) := by decide +kernel
theorem d_L_pages_6 : decode b_L_pages 6 = .ok (.i2l, 1) := by decide +kernel
theorem d_L_pages_7 : decode b_L_pages 7 = .ok (.lastore, 1) := by decide +kernel
theorem d_L_pages_8 : decode b_L_pages 8 = .ok (.goto 6, 3) := by decide +kernel
theorem d_L_pages_11 : decode b_L_pages 11 = .ok (.astore_n 2, 1) := by decide +kernel
theorem d_L_pages_12 : decode b_L_pages 12 = .ok (.iconst 1, 1) := by decide +kernel
theorem d_L_pages_13 : decode b_L_pages 13 = .ok (.ireturn, 1) := by decide +kernel
theorem d_L_pages_14 : decode b_L_pages 14 = .ok (.iconst 0, 1) := by decide +kernel
theorem d_L_pages_15 : decode b_L_pages 15 = .ok (.ireturn, 1) := by decide +kernel
theorem d_L_add_0 : decode b_L_add 0 = .ok (.aload_n 1, 1) := by decide +kernel
theorem d_L_add_1 : decode b_L_add 1 = .ok (.iconst 0, 1) := by decide +kernel
theorem d_L_add_2 : decode b_L_add 2 = .ok (.aload_n 0, 1) := by decide +kernel
theorem d_L_add_3 : decode b_L_add 3 = .ok (.invokevirtual 15, 3) := by decide +kernel
theorem d_L_add_6 : decode b_L_add 6 = .ok (.i2l, 1) := by decide +kernel
theorem d_L_add_7 : decode b_L_add 7 = .ok (.lastore, 1) := by decide +kernel
theorem d_L_add_8 : decode b_L_add 8 = .ok (.goto 6, 3) := by decide +kernel
theorem d_L_add_11 : decode b_L_add 11 = .ok (.astore_n 2, 1) := by decide +kernel
theorem d_L_add_12 : decode b_L_add 12 = .ok (.iconst 1, 1) := by decide +kernel
theorem d_L_add_13 : decode b_L_add 13 = .ok (.ireturn, 1) := by decide +kernel
theorem d_L_add_14 : decode b_L_add 14 = .ok (.iconst 0, 1) := by decide +kernel
theorem d_L_add_15 : decode b_L_add 15 = .ok (.ireturn, 1) := by decide +kernel
theorem d_L_get_0 : decode b_L_get 0 = .ok (.aload_n 3, 1) := by decide +kernel
theorem d_L_get_1 : decode b_L_get 1 = .ok (.iconst 0, 1) := by decide +kernel
theorem d_L_get_2 : decode b_L_get 2 = .ok (.aload_n 0, 1) := by decide +kernel
theorem d_L_get_3 : decode b_L_get 3 = .ok (.iload_n 1, 1) := by decide +kernel
theorem d_L_get_4 : decode b_L_get 4 = .ok (.iload_n 2, 1) := by decide +kernel
theorem d_L_get_5 : decode b_L_get 5 = .ok (.invokevirtual 18, 3) := by decide +kernel
theorem d_L_get_8 : decode b_L_get 8 = .ok (.i2l, 1) := by decide +kernel
theorem d_L_get_9 : decode b_L_get 9 = .ok (.lastore, 1) := by decide +kernel
theorem d_L_get_10 : decode b_L_get 10 = .ok (.goto 11, 3) := by decide +kernel
theorem d_L_get_13 : decode b_L_get 13 = .ok (.astore 4, 2) := by decide +kernel
theorem d_L_get_15 : decode b_L_get 15 = .ok (.iconst 1, 1) := by decide +kernel
theorem d_L_get_16 : decode b_L_get 16 = .ok (.ireturn, 1) := by decide +kernel
theorem d_L_get_17 : decode b_L_get 17 = .ok (.astore 4, 2) := by decide +kernel
theorem d_L_get_19 : decode b_L_get 19 = .ok (.iconst 2, 1) := by decide +kernel
theorem d_L_get_20 : decode b_L_get 20 = .ok (.ireturn, 1) := by decide +kernel
theorem d_L_get_21 : decode b_L_get 21 = .ok (.iconst 0, 1) := by decide +kernel
theorem d_L_get_22 : decode b_L_get 22 = .ok (.ireturn, 1) := by decide +kernel
theorem d_L_put_0 : decode b_L_put 0 = .ok (.aload 4, 2) := by decide +kernel
theorem d_L_put_2 : decode b_L_put 2 = .ok (.iconst 0, 1) := by decide +kernel
theorem d_L_put_3 : decode b_L_put 3 = .ok (.aload_n 0, 1) := by decide +kernel
theorem d_L_put_4 : decode b_L_put 4 = .ok (.iload_n 1, 1) := by decide +kernel
theorem d_L_put_5 : decode b_L_put 5 = .ok (.iload_n 2, 1) := by decide +kernel
theorem d_L_put_6 : decode b_L_put 6 = .ok (.iload_n 3, 1) := by decide +kernel
theorem d_L_put_7 : decode b_L_put 7 = .ok (.invokevirtual 24, 3) := by decide +kernel
theorem d_L_put_10 : decode b_L_put 10 = .ok (.i2l, 1) := by decide +kernel
theorem d_L_put_11 : decode b_L_put 11 = .ok (.lastore, 1) := by decide +kernel
theorem d_L_put_12 : decode b_L_put 12 = .ok (.goto 11, 3) := by decide +kernel
theorem d_L_put_15 : decode b_L_put 15 = .ok (.astore 5, 2) := by decide +kernel
theorem d_L_put_17 : decode b_L_put 17 = .ok (.iconst 1, 1) := by decide +kernel
theorem d_L_put_18 : decode b_L_put 18 = .ok (.ireturn, 1) := by decide +kernel
theorem d_L_put_19 : decode b_L_put 19 = .ok (.astore 5, 2) := by decide +kernel
theorem d_L_put_21 : decode b_L_put 21 = .ok (.iconst 2, 1) := by decide +kernel
theorem d_L_put_22 : decode b_L_put 22 = .ok (.ireturn, 1) := by decide +kernel
theorem d_L_put_23 : decode b_L_put 23 = .ok (.iconst 0, 1) := by decide +kernel
theorem d_L_put_24 : decode b_L_put 24 = .ok (.ireturn, 1) := by decide +kernel
theorem d_L_move_0 : decode b_L_move 0 = .ok (.aload_n 0, 1) := by decide +kernel
theorem d_L_move_1 : decode b_L_move 1 = .ok (.iload_n 1, 1) := by decide +kernel
theorem d_L_move_2 : decode b_L_move 2 = .ok (.iload_n 2, 1) := by decide +kernel
theorem d_L_move_3 : decode b_L_move 3 = .ok (.iload_n 3, 1) := by decide +kernel
theorem d_L_move_4 : decode b_L_move 4 = .ok (.iload 4, 2) := by decide +kernel
theorem d_L_move_6 : decode b_L_move 6 = .ok (.iload 5, 2) := by decide +kernel
theorem d_L_move_8 : decode b_L_move 8 = .ok (.invokevirtual 28, 3) := by decide +kernel
theorem d_L_move_11 : decode b_L_move 11 = .ok (.goto 11, 3) := by decide +kernel
theorem d_L_move_14 : decode b_L_move 14 = .ok (.astore 6, 2) := by decide +kernel
theorem d_L_move_16 : decode b_L_move 16 = .ok (.iconst 1, 1) := by decide +kernel
theorem d_L_move_17 : decode b_L_move 17 = .ok (.ireturn, 1) := by decide +kernel
theorem d_L_move_18 : decode b_L_move 18 = .ok (.astore 6, 2) := by decide +kernel
theorem d_L_move_20 : decode b_L_move 20 = .ok (.iconst 2, 1) := by decide +kernel
theorem d_L_move_21 : decode b_L_move 21 = .ok (.ireturn, 1) := by decide +kernel
theorem d_L_move_22 : decode b_L_move 22 = .ok (.iconst 0, 1) := by decide +kernel
theorem d_L_move_23 : decode b_L_move 23 = .ok (.ireturn, 1) := by decide +kernel
theorem d_L_sum_0 : decode b_L_sum 0 = .ok (.aload_n 2, 1) := by decide +kernel
theorem d_L_sum_1 : decode b_L_sum 1 = .ok (.iconst 0, 1) := by decide +kernel
theorem d_L_sum_2 : decode b_L_sum 2 = .ok (.aload_n 0, 1) := by decide +kernel
theorem d_L_sum_3 : decode b_L_sum 3 = .ok (.iload_n 1, 1) := by decide +kernel
theorem d_L_sum_4 : decode b_L_sum 4 = .ok (.invokevirtual 32, 3) := by decide +kernel
theorem d_L_sum_7 : decode b_L_sum 7 = .ok (.lastore, 1) := by decide +kernel
theorem d_L_sum_8 : decode b_L_sum 8 = .ok (.goto 9, 3) := by decide +kernel
theorem d_L_sum_11 : decode b_L_sum 11 = .ok (.astore_n 3, 1) := by decide +kernel
theorem d_L_sum_12 : decode b_L_sum 12 = .ok (.iconst 1, 1) := by decide +kernel
theorem d_L_sum_13 : decode b_L_sum 13 = .ok (.ireturn, 1) := by decide +kernel
theorem d_L_sum_14 : decode b_L_sum 14 = .ok (.astore_n 3, 1) := by decide +kernel
theorem d_L_sum_15 : decode b_L_sum 15 = .ok (.iconst 2, 1) := by decide +kernel
theorem d_L_sum_16 : decode b_L_sum 16 = .ok (.ireturn, 1) := by decide +kernel
theorem d_L_sum_17 : decode b_L_sum 17 = .ok (.iconst 0, 1) := by decide +kernel
theorem d_L_sum_18 : decode b_L_sum 18 = .ok (.ireturn, 1) := by decide +kernel
theorem d_L_begin_0 : decode b_L_begin 0 = .ok (.aload_n 0, 1) := by decide +kernel
theorem d_L_begin_1 : decode b_L_begin 1 = .ok (.invokevirtual 36, 3) := by decide +kernel
theorem d_L_begin_4 : decode b_L_begin 4 = .ok (.goto 6, 3) := by decide +kernel
theorem d_L_begin_7 : decode b_L_begin 7 = .ok (.astore_n 1, 1) := by decide +kernel
theorem d_L_begin_8 : decode b_L_begin 8 = .ok (.iconst 1, 1) := by decide +kernel
theorem d_L_begin_9 : decode b_L_begin 9 = .ok (.ireturn, 1) := by decide +kernel
theorem d_L_begin_10 : decode b_L_begin 10 = .ok (.iconst 0, 1) := by decide +kernel
theorem d_L_begin_11 : decode b_L_begin 11 = .ok (.ireturn, 1) := by decide +kernel
theorem d_L_commit_0 : decode b_L_commit 0 = .ok (.aload_n 0, 1) := by decide +kernel
theorem d_L_commit_1 : decode b_L_commit 1 = .ok (.invokevirtual 39, 3) := by decide +kernel
theorem d_L_commit_4 : decode b_L_commit 4 = .ok (.goto 9, 3) := by decide +kernel
theorem d_L_commit_7 : decode b_L_commit 7 = .ok (.astore_n 1, 1) := by decide +kernel
theorem d_L_commit_8 : decode b_L_commit 8 = .ok (.iconst 1, 1) := by decide +kernel
theorem d_L_commit_9 : decode b_L_commit 9 = .ok (.ireturn, 1) := by decide +kernel
theorem d_L_commit_10 : decode b_L_commit 10 = .ok (.astore_n 1, 1) := by decide +kernel
theorem d_L_commit_11 : decode b_L_commit 11 = .ok (.iconst 2, 1) := by decide +kernel
theorem d_L_commit_12 : decode b_L_commit 12 = .ok (.ireturn, 1) := by decide +kernel
theorem d_L_commit_13 : decode b_L_commit 13 = .ok (.iconst 0, 1) := by decide +kernel
theorem d_L_commit_14 : decode b_L_commit 14 = .ok (.ireturn, 1) := by decide +kernel
theorem d_L_rollback_0 : decode b_L_rollback 0 = .ok (.aload_n 0, 1) := by decide +kernel
theorem d_L_rollback_1 : decode b_L_rollback 1 = .ok (.invokevirtual 44, 3) := by decide +kernel
theorem d_L_rollback_4 : decode b_L_rollback 4 = .ok (.goto 6, 3) := by decide +kernel
theorem d_L_rollback_7 : decode b_L_rollback 7 = .ok (.astore_n 1, 1) := by decide +kernel
theorem d_L_rollback_8 : decode b_L_rollback 8 = .ok (.iconst 1, 1) := by decide +kernel
theorem d_L_rollback_9 : decode b_L_rollback 9 = .ok (.ireturn, 1) := by decide +kernel
theorem d_L_rollback_10 : decode b_L_rollback 10 = .ok (.iconst 0, 1) := by decide +kernel
theorem d_L_rollback_11 : decode b_L_rollback 11 = .ok (.ireturn, 1) := by decide +kernel
theorem d_L_mark_0 : decode b_L_mark 0 = .ok (.aload_n 1, 1) := by decide +kernel
theorem d_L_mark_1 : decode b_L_mark 1 = .ok (.iconst 0, 1) := by decide +kernel
theorem d_L_mark_2 : decode b_L_mark 2 = .ok (.aload_n 0, 1) := by decide +kernel
theorem d_L_mark_3 : decode b_L_mark 3 = .ok (.invokevirtual 47, 3) := by decide +kernel
theorem d_L_mark_6 : decode b_L_mark 6 = .ok (.i2l, 1) := by decide +kernel
theorem d_L_mark_7 : decode b_L_mark 7 = .ok (.lastore, 1) := by decide +kernel
theorem d_L_mark_8 : decode b_L_mark 8 = .ok (.goto 6, 3) := by decide +kernel
theorem d_L_mark_11 : decode b_L_mark 11 = .ok (.astore_n 2, 1) := by decide +kernel
theorem d_L_mark_12 : decode b_L_mark 12 = .ok (.iconst 1, 1) := by decide +kernel
theorem d_L_mark_13 : decode b_L_mark 13 = .ok (.ireturn, 1) := by decide +kernel
theorem d_L_mark_14 : decode b_L_mark 14 = .ok (.iconst 0, 1) := by decide +kernel
theorem d_L_mark_15 : decode b_L_mark 15 = .ok (.ireturn, 1) := by decide +kernel
theorem d_L_back_0 : decode b_L_back 0 = .ok (.aload_n 0, 1) := by decide +kernel
theorem d_L_back_1 : decode b_L_back 1 = .ok (.iload_n 1, 1) := by decide +kernel
theorem d_L_back_2 : decode b_L_back 2 = .ok (.invokevirtual 50, 3) := by decide +kernel
theorem d_L_back_5 : decode b_L_back 5 = .ok (.goto 9, 3) := by decide +kernel
theorem d_L_back_8 : decode b_L_back 8 = .ok (.astore_n 2, 1) := by decide +kernel
theorem d_L_back_9 : decode b_L_back 9 = .ok (.iconst 1, 1) := by decide +kernel
theorem d_L_back_10 : decode b_L_back 10 = .ok (.ireturn, 1) := by decide +kernel
theorem d_L_back_11 : decode b_L_back 11 = .ok (.astore_n 2, 1) := by decide +kernel
theorem d_L_back_12 : decode b_L_back 12 = .ok (.iconst 2, 1) := by decide +kernel
theorem d_L_back_13 : decode b_L_back 13 = .ok (.ireturn, 1) := by decide +kernel
theorem d_L_back_14 : decode b_L_back 14 = .ok (.iconst 0, 1) := by decide +kernel
theorem d_L_back_15 : decode b_L_back 15 = .ok (.ireturn, 1) := by decide +kernel
theorem d_L_keep_0 : decode b_L_keep 0 = .ok (.aload_n 0, 1) := by decide +kernel
theorem d_L_keep_1 : decode b_L_keep 1 = .ok (.iload_n 1, 1) := by decide +kernel
theorem d_L_keep_2 : decode b_L_keep 2 = .ok (.invokevirtual 54, 3) := by decide +kernel
theorem d_L_keep_5 : decode b_L_keep 5 = .ok (.goto 9, 3) := by decide +kernel
theorem d_L_keep_8 : decode b_L_keep 8 = .ok (.astore_n 2, 1) := by decide +kernel
theorem d_L_keep_9 : decode b_L_keep 9 = .ok (.iconst 1, 1) := by decide +kernel
theorem d_L_keep_10 : decode b_L_keep 10 = .ok (.ireturn, 1) := by decide +kernel
theorem d_L_keep_11 : decode b_L_keep 11 = .ok (.astore_n 2, 1) := by decide +kernel
theorem d_L_keep_12 : decode b_L_keep 12 = .ok (.iconst 2, 1) := by decide +kernel
theorem d_L_keep_13 : decode b_L_keep 13 = .ok (.ireturn, 1) := by decide +kernel
theorem d_L_keep_14 : decode b_L_keep 14 = .ok (.iconst 0, 1) := by decide +kernel
theorem d_L_keep_15 : decode b_L_keep 15 = .ok (.ireturn, 1) := by decide +kernel
theorem d_L_power_0 : decode b_L_power 0 = .ok (.aload_n 0, 1) := by decide +kernel
theorem d_L_power_1 : decode b_L_power 1 = .ok (.iload_n 1, 1) := by decide +kernel
theorem d_L_power_2 : decode b_L_power 2 = .ok (.iload_n 2, 1) := by decide +kernel
theorem d_L_power_3 : decode b_L_power 3 = .ok (.iload_n 3, 1) := by decide +kernel
theorem d_L_power_4 : decode b_L_power 4 = .ok (.invokevirtual 57, 3) := by decide +kernel
theorem d_L_power_7 : decode b_L_power 7 = .ok (.goto 7, 3) := by decide +kernel
theorem d_L_power_10 : decode b_L_power 10 = .ok (.astore 4, 2) := by decide +kernel
theorem d_L_power_12 : decode b_L_power 12 = .ok (.iconst 1, 1) := by decide +kernel
theorem d_L_power_13 : decode b_L_power 13 = .ok (.ireturn, 1) := by decide +kernel
theorem d_L_power_14 : decode b_L_power 14 = .ok (.iconst 0, 1) := by decide +kernel
theorem d_L_power_15 : decode b_L_power 15 = .ok (.ireturn, 1) := by decide +kernel
theorem d_L_reopen_0 : decode b_L_reopen 0 = .ok (.aload_n 1, 1) := by decide +kernel
theorem d_L_reopen_1 : decode b_L_reopen 1 = .ok (.iconst 0, 1) := by decide +kernel
theorem d_L_reopen_2 : decode b_L_reopen 2 = .ok (.aload_n 0, 1) := by decide +kernel
theorem d_L_reopen_3 : decode b_L_reopen 3 = .ok (.invokevirtual 63, 3) := by decide +kernel
theorem d_L_reopen_6 : decode b_L_reopen 6 = .ok (.i2l, 1) := by decide +kernel
theorem d_L_reopen_7 : decode b_L_reopen 7 = .ok (.lastore, 1) := by decide +kernel
theorem d_L_reopen_8 : decode b_L_reopen 8 = .ok (.goto 6, 3) := by decide +kernel
theorem d_L_reopen_11 : decode b_L_reopen 11 = .ok (.astore_n 2, 1) := by decide +kernel
theorem d_L_reopen_12 : decode b_L_reopen 12 = .ok (.iconst 1, 1) := by decide +kernel
theorem d_L_reopen_13 : decode b_L_reopen 13 = .ok (.ireturn, 1) := by decide +kernel
theorem d_L_reopen_14 : decode b_L_reopen 14 = .ok (.iconst 0, 1) := by decide +kernel
theorem d_L_reopen_15 : decode b_L_reopen 15 = .ok (.ireturn, 1) := by decide +kernel
theorem d_L_told_0 : decode b_L_told 0 = .ok (.aload_n 2, 1) := by decide +kernel
theorem d_L_told_1 : decode b_L_told 1 = .ok (.iconst 0, 1) := by decide +kernel
theorem d_L_told_2 : decode b_L_told 2 = .ok (.aload_n 0, 1) := by decide +kernel
theorem d_L_told_3 : decode b_L_told 3 = .ok (.iload_n 1, 1) := by decide +kernel
theorem d_L_told_4 : decode b_L_told 4 = .ok (.invokevirtual 66, 3) := by decide +kernel
theorem d_L_told_7 : decode b_L_told 7 = .ok (.i2l, 1) := by decide +kernel
theorem d_L_told_8 : decode b_L_told 8 = .ok (.lastore, 1) := by decide +kernel
theorem d_L_told_9 : decode b_L_told 9 = .ok (.goto 6, 3) := by decide +kernel
theorem d_L_told_12 : decode b_L_told 12 = .ok (.astore_n 3, 1) := by decide +kernel
theorem d_L_told_13 : decode b_L_told 13 = .ok (.iconst 1, 1) := by decide +kernel
theorem d_L_told_14 : decode b_L_told 14 = .ok (.ireturn, 1) := by decide +kernel
theorem d_L_told_15 : decode b_L_told 15 = .ok (.iconst 0, 1) := by decide +kernel
theorem d_L_told_16 : decode b_L_told 16 = .ok (.ireturn, 1) := by decide +kernel
end
section
theorem d_law_0 : decode code 0 = .ok (.new 8, 3) := by decide +kernel
theorem d_law_3 : decode code 3 = .ok (.dup, 1) := by decide +kernel
theorem d_law_4 : decode code 4 = .ok (.invokespecial 70, 3) := by decide +kernel
theorem d_law_7 : decode code 7 = .ok (.astore_n 1, 1) := by decide +kernel
theorem d_law_8 : decode code 8 = .ok (.new 71, 3) := by decide +kernel
theorem d_law_11 : decode code 11 = .ok (.dup, 1) := by decide +kernel
theorem d_law_12 : decode code 12 = .ok (.invokespecial 73, 3) := by decide +kernel
theorem d_law_15 : decode code 15 = .ok (.astore_n 2, 1) := by decide +kernel
theorem d_law_16 : decode code 16 = .ok (.iconst 1, 1) := by decide +kernel
theorem d_law_17 : decode code 17 = .ok (.newarray .long, 2) := by decide +kernel
theorem d_law_19 : decode code 19 = .ok (.astore_n 3, 1) := by decide +kernel
theorem d_law_20 : decode code 20 = .ok (.iconst 0, 1) := by decide +kernel
theorem d_law_21 : decode code 21 = .ok (.istore 4, 2) := by decide +kernel
theorem d_law_23 : decode code 23 = .ok (.iload 4, 2) := by decide +kernel
theorem d_law_25 : decode code 25 = .ok (.aload_n 0, 1) := by decide +kernel
theorem d_law_26 : decode code 26 = .ok (.arraylength, 1) := by decide +kernel
theorem d_law_27 : decode code 27 = .ok (.bipush 6, 2) := by decide +kernel
theorem d_law_29 : decode code 29 = .ok (.isub, 1) := by decide +kernel
theorem d_law_30 : decode code 30 = .ok (.if_icmp .gt 526, 3) := by decide +kernel
theorem d_law_33 : decode code 33 = .ok (.aload_n 0, 1) := by decide +kernel
theorem d_law_34 : decode code 34 = .ok (.iload 4, 2) := by decide +kernel
theorem d_law_36 : decode code 36 = .ok (.iaload, 1) := by decide +kernel
theorem d_law_37 : decode code 37 = .ok (.bipush 15, 2) := by decide +kernel
theorem d_law_39 : decode code 39 = .ok (.iand, 1) := by decide +kernel
theorem d_law_40 : decode code 40 = .ok (.tableswitch 510 0 14 #[76, 92, 108, 148, 200, 273, 301, 314, 327, 340, 356, 381, 406, 466, 482], 76) := by decide +kernel
theorem d_law_116 : decode code 116 = .ok (.aload_n 1, 1) := by decide +kernel
theorem d_law_117 : decode code 117 = .ok (.aload_n 3, 1) := by decide +kernel
theorem d_law_118 : decode code 118 = .ok (.invokestatic 74, 3) := by decide +kernel
theorem d_law_121 : decode code 121 = .ok (.istore 5, 2) := by decide +kernel
theorem d_law_123 : decode code 123 = .ok (.aload_n 2, 1) := by decide +kernel
theorem d_law_124 : decode code 124 = .ok (.invokevirtual 79, 3) := by decide +kernel
theorem d_law_127 : decode code 127 = .ok (.istore 6, 2) := by decide +kernel
theorem d_law_129 : decode code 129 = .ok (.goto 421, 3) := by decide +kernel
theorem d_law_132 : decode code 132 = .ok (.aload_n 1, 1) := by decide +kernel
theorem d_law_133 : decode code 133 = .ok (.aload_n 3, 1) := by decide +kernel
theorem d_law_134 : decode code 134 = .ok (.invokestatic 80, 3) := by decide +kernel
theorem d_law_137 : decode code 137 = .ok (.istore 5, 2) := by decide +kernel
theorem d_law_139 : decode code 139 = .ok (.aload_n 2, 1) := by decide +kernel
theorem d_law_140 : decode code 140 = .ok (.invokevirtual 82, 3) := by decide +kernel
theorem d_law_143 : decode code 143 = .ok (.istore 6, 2) := by decide +kernel
theorem d_law_145 : decode code 145 = .ok (.goto 405, 3) := by decide +kernel
theorem d_law_148 : decode code 148 = .ok (.aload_n 1, 1) := by decide +kernel
theorem d_law_149 : decode code 149 = .ok (.aload_n 0, 1) := by decide +kernel
theorem d_law_150 : decode code 150 = .ok (.iload 4, 2) := by decide +kernel
theorem d_law_152 : decode code 152 = .ok (.iconst 1, 1) := by decide +kernel
theorem d_law_153 : decode code 153 = .ok (.iadd, 1) := by decide +kernel
theorem d_law_154 : decode code 154 = .ok (.iaload, 1) := by decide +kernel
theorem d_law_155 : decode code 155 = .ok (.aload_n 0, 1) := by decide +kernel
theorem d_law_156 : decode code 156 = .ok (.iload 4, 2) := by decide +kernel
theorem d_law_158 : decode code 158 = .ok (.iconst 2, 1) := by decide +kernel
theorem d_law_159 : decode code 159 = .ok (.iadd, 1) := by decide +kernel
theorem d_law_160 : decode code 160 = .ok (.iaload, 1) := by decide +kernel
theorem d_law_161 : decode code 161 = .ok (.aload_n 3, 1) := by decide +kernel
theorem d_law_162 : decode code 162 = .ok (.invokestatic 83, 3) := by decide +kernel
theorem d_law_165 : decode code 165 = .ok (.istore 5, 2) := by decide +kernel
theorem d_law_167 : decode code 167 = .ok (.aload_n 2, 1) := by decide +kernel
theorem d_law_168 : decode code 168 = .ok (.aload_n 0, 1) := by decide +kernel
theorem d_law_169 : decode code 169 = .ok (.iload 4, 2) := by decide +kernel
theorem d_law_171 : decode code 171 = .ok (.iconst 1, 1) := by decide +kernel
theorem d_law_172 : decode code 172 = .ok (.iadd, 1) := by decide +kernel
theorem d_law_173 : decode code 173 = .ok (.iaload, 1) := by decide +kernel
theorem d_law_174 : decode code 174 = .ok (.aload_n 0, 1) := by decide +kernel
theorem d_law_175 : decode code 175 = .ok (.iload 4, 2) := by decide +kernel
theorem d_law_177 : decode code 177 = .ok (.iconst 2, 1) := by decide +kernel
theorem d_law_178 : decode code 178 = .ok (.iadd, 1) := by decide +kernel
theorem d_law_179 : decode code 179 = .ok (.iaload, 1) := by decide +kernel
theorem d_law_180 : decode code 180 = .ok (.invokevirtual 86, 3) := by decide +kernel
theorem d_law_183 : decode code 183 = .ok (.istore 6, 2) := by decide +kernel
theorem d_law_185 : decode code 185 = .ok (.goto 365, 3) := by decide +kernel
theorem d_law_188 : decode code 188 = .ok (.aload_n 1, 1) := by decide +kernel
theorem d_law_189 : decode code 189 = .ok (.aload_n 0, 1) := by decide +kernel
theorem d_law_190 : decode code 190 = .ok (.iload 4, 2) := by decide +kernel
theorem d_law_192 : decode code 192 = .ok (.iconst 1, 1) := by decide +kernel
theorem d_law_193 : decode code 193 = .ok (.iadd, 1) := by decide +kernel
theorem d_law_194 : decode code 194 = .ok (.iaload, 1) := by decide +kernel
theorem d_law_195 : decode code 195 = .ok (.aload_n 0, 1) := by decide +kernel
theorem d_law_196 : decode code 196 = .ok (.iload 4, 2) := by decide +kernel
theorem d_law_198 : decode code 198 = .ok (.iconst 2, 1) := by decide +kernel
theorem d_law_199 : decode code 199 = .ok (.iadd, 1) := by decide +kernel
theorem d_law_200 : decode code 200 = .ok (.iaload, 1) := by decide +kernel
theorem d_law_201 : decode code 201 = .ok (.aload_n 0, 1) := by decide +kernel
theorem d_law_202 : decode code 202 = .ok (.iload 4, 2) := by decide +kernel
theorem d_law_204 : decode code 204 = .ok (.iconst 3, 1) := by decide +kernel
theorem d_law_205 : decode code 205 = .ok (.iadd, 1) := by decide +kernel
theorem d_law_206 : decode code 206 = .ok (.iaload, 1) := by decide +kernel
theorem d_law_207 : decode code 207 = .ok (.aload_n 3, 1) := by decide +kernel
theorem d_law_208 : decode code 208 = .ok (.invokestatic 87, 3) := by decide +kernel
theorem d_law_211 : decode code 211 = .ok (.istore 5, 2) := by decide +kernel
theorem d_law_213 : decode code 213 = .ok (.aload_n 2, 1) := by decide +kernel
theorem d_law_214 : decode code 214 = .ok (.aload_n 0, 1) := by decide +kernel
theorem d_law_215 : decode code 215 = .ok (.iload 4, 2) := by decide +kernel
theorem d_law_217 : decode code 217 = .ok (.iconst 1, 1) := by decide +kernel
theorem d_law_218 : decode code 218 = .ok (.iadd, 1) := by decide +kernel
theorem d_law_219 : decode code 219 = .ok (.iaload, 1) := by decide +kernel
theorem d_law_220 : decode code 220 = .ok (.aload_n 0, 1) := by decide +kernel
theorem d_law_221 : decode code 221 = .ok (.iload 4, 2) := by decide +kernel
theorem d_law_223 : decode code 223 = .ok (.iconst 2, 1) := by decide +kernel
theorem d_law_224 : decode code 224 = .ok (.iadd, 1) := by decide +kernel
theorem d_law_225 : decode code 225 = .ok (.iaload, 1) := by decide +kernel
theorem d_law_226 : decode code 226 = .ok (.aload_n 0, 1) := by decide +kernel
theorem d_law_227 : decode code 227 = .ok (.iload 4, 2) := by decide +kernel
theorem d_law_229 : decode code 229 = .ok (.iconst 3, 1) := by decide +kernel
theorem d_law_230 : decode code 230 = .ok (.iadd, 1) := by decide +kernel
theorem d_law_231 : decode code 231 = .ok (.iaload, 1) := by decide +kernel
theorem d_law_232 : decode code 232 = .ok (.invokevirtual 90, 3) := by decide +kernel
theorem d_law_235 : decode code 235 = .ok (.istore 6, 2) := by decide +kernel
theorem d_law_237 : decode code 237 = .ok (.goto 313, 3) := by decide +kernel
theorem d_law_240 : decode code 240 = .ok (.aload_n 1, 1) := by decide +kernel
theorem d_law_241 : decode code 241 = .ok (.aload_n 0, 1) := by decide +kernel
theorem d_law_242 : decode code 242 = .ok (.iload 4, 2) := by decide +kernel
theorem d_law_244 : decode code 244 = .ok (.iconst 1, 1) := by decide +kernel
theorem d_law_245 : decode code 245 = .ok (.iadd, 1) := by decide +kernel
theorem d_law_246 : decode code 246 = .ok (.iaload, 1) := by decide +kernel
theorem d_law_247 : decode code 247 = .ok (.aload_n 0, 1) := by decide +kernel
theorem d_law_248 : decode code 248 = .ok (.iload 4, 2) := by decide +kernel
theorem d_law_250 : decode code 250 = .ok (.iconst 2, 1) := by decide +kernel
theorem d_law_251 : decode code 251 = .ok (.iadd, 1) := by decide +kernel
theorem d_law_252 : decode code 252 = .ok (.iaload, 1) := by decide +kernel
theorem d_law_253 : decode code 253 = .ok (.aload_n 0, 1) := by decide +kernel
theorem d_law_254 : decode code 254 = .ok (.iload 4, 2) := by decide +kernel
theorem d_law_256 : decode code 256 = .ok (.iconst 3, 1) := by decide +kernel
theorem d_law_257 : decode code 257 = .ok (.iadd, 1) := by decide +kernel
theorem d_law_258 : decode code 258 = .ok (.iaload, 1) := by decide +kernel
theorem d_law_259 : decode code 259 = .ok (.aload_n 0, 1) := by decide +kernel
theorem d_law_260 : decode code 260 = .ok (.iload 4, 2) := by decide +kernel
end
section
theorem d_law_262 : decode code 262 = .ok (.iconst 4, 1) := by decide +kernel
theorem d_law_263 : decode code 263 = .ok (.iadd, 1) := by decide +kernel
theorem d_law_264 : decode code 264 = .ok (.iaload, 1) := by decide +kernel
theorem d_law_265 : decode code 265 = .ok (.aload_n 0, 1) := by decide +kernel
theorem d_law_266 : decode code 266 = .ok (.iload 4, 2) := by decide +kernel
theorem d_law_268 : decode code 268 = .ok (.iconst 5, 1) := by decide +kernel
theorem d_law_269 : decode code 269 = .ok (.iadd, 1) := by decide +kernel
theorem d_law_270 : decode code 270 = .ok (.iaload, 1) := by decide +kernel
theorem d_law_271 : decode code 271 = .ok (.invokestatic 91, 3) := by decide +kernel
theorem d_law_274 : decode code 274 = .ok (.istore 5, 2) := by decide +kernel
theorem d_law_276 : decode code 276 = .ok (.aload_n 2, 1) := by decide +kernel
theorem d_law_277 : decode code 277 = .ok (.aload_n 0, 1) := by decide +kernel
theorem d_law_278 : decode code 278 = .ok (.iload 4, 2) := by decide +kernel
theorem d_law_280 : decode code 280 = .ok (.iconst 1, 1) := by decide +kernel
theorem d_law_281 : decode code 281 = .ok (.iadd, 1) := by decide +kernel
theorem d_law_282 : decode code 282 = .ok (.iaload, 1) := by decide +kernel
theorem d_law_283 : decode code 283 = .ok (.aload_n 0, 1) := by decide +kernel
theorem d_law_284 : decode code 284 = .ok (.iload 4, 2) := by decide +kernel
theorem d_law_286 : decode code 286 = .ok (.iconst 2, 1) := by decide +kernel
theorem d_law_287 : decode code 287 = .ok (.iadd, 1) := by decide +kernel
theorem d_law_288 : decode code 288 = .ok (.iaload, 1) := by decide +kernel
theorem d_law_289 : decode code 289 = .ok (.aload_n 0, 1) := by decide +kernel
theorem d_law_290 : decode code 290 = .ok (.iload 4, 2) := by decide +kernel
theorem d_law_292 : decode code 292 = .ok (.iconst 3, 1) := by decide +kernel
theorem d_law_293 : decode code 293 = .ok (.iadd, 1) := by decide +kernel
theorem d_law_294 : decode code 294 = .ok (.iaload, 1) := by decide +kernel
theorem d_law_295 : decode code 295 = .ok (.aload_n 0, 1) := by decide +kernel
theorem d_law_296 : decode code 296 = .ok (.iload 4, 2) := by decide +kernel
theorem d_law_298 : decode code 298 = .ok (.iconst 4, 1) := by decide +kernel
theorem d_law_299 : decode code 299 = .ok (.iadd, 1) := by decide +kernel
theorem d_law_300 : decode code 300 = .ok (.iaload, 1) := by decide +kernel
theorem d_law_301 : decode code 301 = .ok (.aload_n 0, 1) := by decide +kernel
theorem d_law_302 : decode code 302 = .ok (.iload 4, 2) := by decide +kernel
theorem d_law_304 : decode code 304 = .ok (.iconst 5, 1) := by decide +kernel
theorem d_law_305 : decode code 305 = .ok (.iadd, 1) := by decide +kernel
theorem d_law_306 : decode code 306 = .ok (.iaload, 1) := by decide +kernel
theorem d_law_307 : decode code 307 = .ok (.invokevirtual 94, 3) := by decide +kernel
theorem d_law_310 : decode code 310 = .ok (.goto 240, 3) := by decide +kernel
theorem d_law_313 : decode code 313 = .ok (.aload_n 1, 1) := by decide +kernel
theorem d_law_314 : decode code 314 = .ok (.aload_n 0, 1) := by decide +kernel
theorem d_law_315 : decode code 315 = .ok (.iload 4, 2) := by decide +kernel
theorem d_law_317 : decode code 317 = .ok (.iconst 1, 1) := by decide +kernel
theorem d_law_318 : decode code 318 = .ok (.iadd, 1) := by decide +kernel
theorem d_law_319 : decode code 319 = .ok (.iaload, 1) := by decide +kernel
theorem d_law_320 : decode code 320 = .ok (.aload_n 3, 1) := by decide +kernel
theorem d_law_321 : decode code 321 = .ok (.invokestatic 95, 3) := by decide +kernel
theorem d_law_324 : decode code 324 = .ok (.istore 5, 2) := by decide +kernel
theorem d_law_326 : decode code 326 = .ok (.aload_n 2, 1) := by decide +kernel
theorem d_law_327 : decode code 327 = .ok (.aload_n 0, 1) := by decide +kernel
theorem d_law_328 : decode code 328 = .ok (.iload 4, 2) := by decide +kernel
theorem d_law_330 : decode code 330 = .ok (.iconst 1, 1) := by decide +kernel
theorem d_law_331 : decode code 331 = .ok (.iadd, 1) := by decide +kernel
theorem d_law_332 : decode code 332 = .ok (.iaload, 1) := by decide +kernel
theorem d_law_333 : decode code 333 = .ok (.invokevirtual 98, 3) := by decide +kernel
theorem d_law_336 : decode code 336 = .ok (.lstore 6, 2) := by decide +kernel
theorem d_law_338 : decode code 338 = .ok (.goto 212, 3) := by decide +kernel
theorem d_law_341 : decode code 341 = .ok (.aload_n 1, 1) := by decide +kernel
theorem d_law_342 : decode code 342 = .ok (.invokestatic 99, 3) := by decide +kernel
theorem d_law_345 : decode code 345 = .ok (.istore 5, 2) := by decide +kernel
theorem d_law_347 : decode code 347 = .ok (.aload_n 2, 1) := by decide +kernel
theorem d_law_348 : decode code 348 = .ok (.invokevirtual 102, 3) := by decide +kernel
theorem d_law_351 : decode code 351 = .ok (.goto 199, 3) := by decide +kernel
theorem d_law_354 : decode code 354 = .ok (.aload_n 1, 1) := by decide +kernel
theorem d_law_355 : decode code 355 = .ok (.invokestatic 103, 3) := by decide +kernel
theorem d_law_358 : decode code 358 = .ok (.istore 5, 2) := by decide +kernel
theorem d_law_360 : decode code 360 = .ok (.aload_n 2, 1) := by decide +kernel
theorem d_law_361 : decode code 361 = .ok (.invokevirtual 105, 3) := by decide +kernel
theorem d_law_364 : decode code 364 = .ok (.goto 186, 3) := by decide +kernel
theorem d_law_367 : decode code 367 = .ok (.aload_n 1, 1) := by decide +kernel
theorem d_law_368 : decode code 368 = .ok (.invokestatic 106, 3) := by decide +kernel
theorem d_law_371 : decode code 371 = .ok (.istore 5, 2) := by decide +kernel
theorem d_law_373 : decode code 373 = .ok (.aload_n 2, 1) := by decide +kernel
theorem d_law_374 : decode code 374 = .ok (.invokevirtual 108, 3) := by decide +kernel
theorem d_law_377 : decode code 377 = .ok (.goto 173, 3) := by decide +kernel
theorem d_law_380 : decode code 380 = .ok (.aload_n 1, 1) := by decide +kernel
theorem d_law_381 : decode code 381 = .ok (.aload_n 3, 1) := by decide +kernel
theorem d_law_382 : decode code 382 = .ok (.invokestatic 109, 3) := by decide +kernel
theorem d_law_385 : decode code 385 = .ok (.istore 5, 2) := by decide +kernel
theorem d_law_387 : decode code 387 = .ok (.aload_n 2, 1) := by decide +kernel
theorem d_law_388 : decode code 388 = .ok (.invokevirtual 111, 3) := by decide +kernel
theorem d_law_391 : decode code 391 = .ok (.istore 6, 2) := by decide +kernel
theorem d_law_393 : decode code 393 = .ok (.goto 157, 3) := by decide +kernel
theorem d_law_396 : decode code 396 = .ok (.aload_n 1, 1) := by decide +kernel
theorem d_law_397 : decode code 397 = .ok (.aload_n 0, 1) := by decide +kernel
theorem d_law_398 : decode code 398 = .ok (.iload 4, 2) := by decide +kernel
theorem d_law_400 : decode code 400 = .ok (.iconst 1, 1) := by decide +kernel
theorem d_law_401 : decode code 401 = .ok (.iadd, 1) := by decide +kernel
theorem d_law_402 : decode code 402 = .ok (.iaload, 1) := by decide +kernel
theorem d_law_403 : decode code 403 = .ok (.invokestatic 112, 3) := by decide +kernel
theorem d_law_406 : decode code 406 = .ok (.istore 5, 2) := by decide +kernel
theorem d_law_408 : decode code 408 = .ok (.aload_n 2, 1) := by decide +kernel
theorem d_law_409 : decode code 409 = .ok (.aload_n 0, 1) := by decide +kernel
theorem d_law_410 : decode code 410 = .ok (.iload 4, 2) := by decide +kernel
theorem d_law_412 : decode code 412 = .ok (.iconst 1, 1) := by decide +kernel
theorem d_law_413 : decode code 413 = .ok (.iadd, 1) := by decide +kernel
theorem d_law_414 : decode code 414 = .ok (.iaload, 1) := by decide +kernel
theorem d_law_415 : decode code 415 = .ok (.invokevirtual 115, 3) := by decide +kernel
theorem d_law_418 : decode code 418 = .ok (.goto 132, 3) := by decide +kernel
theorem d_law_421 : decode code 421 = .ok (.aload_n 1, 1) := by decide +kernel
theorem d_law_422 : decode code 422 = .ok (.aload_n 0, 1) := by decide +kernel
theorem d_law_423 : decode code 423 = .ok (.iload 4, 2) := by decide +kernel
theorem d_law_425 : decode code 425 = .ok (.iconst 1, 1) := by decide +kernel
theorem d_law_426 : decode code 426 = .ok (.iadd, 1) := by decide +kernel
theorem d_law_427 : decode code 427 = .ok (.iaload, 1) := by decide +kernel
theorem d_law_428 : decode code 428 = .ok (.invokestatic 116, 3) := by decide +kernel
theorem d_law_431 : decode code 431 = .ok (.istore 5, 2) := by decide +kernel
theorem d_law_433 : decode code 433 = .ok (.aload_n 2, 1) := by decide +kernel
theorem d_law_434 : decode code 434 = .ok (.aload_n 0, 1) := by decide +kernel
theorem d_law_435 : decode code 435 = .ok (.iload 4, 2) := by decide +kernel
theorem d_law_437 : decode code 437 = .ok (.iconst 1, 1) := by decide +kernel
theorem d_law_438 : decode code 438 = .ok (.iadd, 1) := by decide +kernel
theorem d_law_439 : decode code 439 = .ok (.iaload, 1) := by decide +kernel
theorem d_law_440 : decode code 440 = .ok (.invokevirtual 118, 3) := by decide +kernel
theorem d_law_443 : decode code 443 = .ok (.goto 107, 3) := by decide +kernel
theorem d_law_446 : decode code 446 = .ok (.aload_n 1, 1) := by decide +kernel
theorem d_law_447 : decode code 447 = .ok (.aload_n 0, 1) := by decide +kernel
theorem d_law_448 : decode code 448 = .ok (.iload 4, 2) := by decide +kernel
theorem d_law_450 : decode code 450 = .ok (.iconst 1, 1) := by decide +kernel
theorem d_law_451 : decode code 451 = .ok (.iadd, 1) := by decide +kernel
theorem d_law_452 : decode code 452 = .ok (.iaload, 1) := by decide +kernel
theorem d_law_453 : decode code 453 = .ok (.aload_n 0, 1) := by decide +kernel
theorem d_law_454 : decode code 454 = .ok (.iload 4, 2) := by decide +kernel
theorem d_law_456 : decode code 456 = .ok (.iconst 2, 1) := by decide +kernel
theorem d_law_457 : decode code 457 = .ok (.iadd, 1) := by decide +kernel
theorem d_law_458 : decode code 458 = .ok (.iaload, 1) := by decide +kernel
end
section
theorem d_law_459 : decode code 459 = .ok (.aload_n 0, 1) := by decide +kernel
theorem d_law_460 : decode code 460 = .ok (.iload 4, 2) := by decide +kernel
theorem d_law_462 : decode code 462 = .ok (.iconst 3, 1) := by decide +kernel
theorem d_law_463 : decode code 463 = .ok (.iadd, 1) := by decide +kernel
theorem d_law_464 : decode code 464 = .ok (.iaload, 1) := by decide +kernel
theorem d_law_465 : decode code 465 = .ok (.invokestatic 119, 3) := by decide +kernel
theorem d_law_468 : decode code 468 = .ok (.istore 5, 2) := by decide +kernel
theorem d_law_470 : decode code 470 = .ok (.aload_n 2, 1) := by decide +kernel
theorem d_law_471 : decode code 471 = .ok (.aload_n 0, 1) := by decide +kernel
theorem d_law_472 : decode code 472 = .ok (.iload 4, 2) := by decide +kernel
theorem d_law_474 : decode code 474 = .ok (.iconst 1, 1) := by decide +kernel
theorem d_law_475 : decode code 475 = .ok (.iadd, 1) := by decide +kernel
theorem d_law_476 : decode code 476 = .ok (.iaload, 1) := by decide +kernel
theorem d_law_477 : decode code 477 = .ok (.aload_n 0, 1) := by decide +kernel
theorem d_law_478 : decode code 478 = .ok (.iload 4, 2) := by decide +kernel
theorem d_law_480 : decode code 480 = .ok (.iconst 2, 1) := by decide +kernel
theorem d_law_481 : decode code 481 = .ok (.iadd, 1) := by decide +kernel
theorem d_law_482 : decode code 482 = .ok (.iaload, 1) := by decide +kernel
theorem d_law_483 : decode code 483 = .ok (.aload_n 0, 1) := by decide +kernel
theorem d_law_484 : decode code 484 = .ok (.iload 4, 2) := by decide +kernel
theorem d_law_486 : decode code 486 = .ok (.iconst 3, 1) := by decide +kernel
theorem d_law_487 : decode code 487 = .ok (.iadd, 1) := by decide +kernel
theorem d_law_488 : decode code 488 = .ok (.iaload, 1) := by decide +kernel
theorem d_law_489 : decode code 489 = .ok (.invokevirtual 122, 3) := by decide +kernel
theorem d_law_492 : decode code 492 = .ok (.aload_n 2, 1) := by decide +kernel
theorem d_law_493 : decode code 493 = .ok (.invokevirtual 123, 3) := by decide +kernel
theorem d_law_496 : decode code 496 = .ok (.iload 5, 2) := by decide +kernel
theorem d_law_498 : decode code 498 = .ok (.if_icmp .eq 5, 3) := by decide +kernel
theorem d_law_501 : decode code 501 = .ok (.iconst 0, 1) := by decide +kernel
theorem d_law_502 : decode code 502 = .ok (.ireturn, 1) := by decide +kernel
theorem d_law_503 : decode code 503 = .ok (.goto 47, 3) := by decide +kernel
theorem d_law_506 : decode code 506 = .ok (.aload_n 1, 1) := by decide +kernel
theorem d_law_507 : decode code 507 = .ok (.aload_n 3, 1) := by decide +kernel
theorem d_law_508 : decode code 508 = .ok (.invokestatic 126, 3) := by decide +kernel
theorem d_law_511 : decode code 511 = .ok (.istore 5, 2) := by decide +kernel
theorem d_law_513 : decode code 513 = .ok (.aload_n 2, 1) := by decide +kernel
theorem d_law_514 : decode code 514 = .ok (.invokevirtual 128, 3) := by decide +kernel
theorem d_law_517 : decode code 517 = .ok (.istore 6, 2) := by decide +kernel
theorem d_law_519 : decode code 519 = .ok (.goto 31, 3) := by decide +kernel
theorem d_law_522 : decode code 522 = .ok (.aload_n 1, 1) := by decide +kernel
theorem d_law_523 : decode code 523 = .ok (.aload_n 0, 1) := by decide +kernel
theorem d_law_524 : decode code 524 = .ok (.iload 4, 2) := by decide +kernel
theorem d_law_526 : decode code 526 = .ok (.iconst 1, 1) := by decide +kernel
theorem d_law_527 : decode code 527 = .ok (.iadd, 1) := by decide +kernel
theorem d_law_528 : decode code 528 = .ok (.iaload, 1) := by decide +kernel
theorem d_law_529 : decode code 529 = .ok (.aload_n 3, 1) := by decide +kernel
theorem d_law_530 : decode code 530 = .ok (.invokestatic 129, 3) := by decide +kernel
theorem d_law_533 : decode code 533 = .ok (.istore 5, 2) := by decide +kernel
theorem d_law_535 : decode code 535 = .ok (.aload_n 2, 1) := by decide +kernel
theorem d_law_536 : decode code 536 = .ok (.aload_n 0, 1) := by decide +kernel
theorem d_law_537 : decode code 537 = .ok (.iload 4, 2) := by decide +kernel
theorem d_law_539 : decode code 539 = .ok (.iconst 1, 1) := by decide +kernel
theorem d_law_540 : decode code 540 = .ok (.iadd, 1) := by decide +kernel
theorem d_law_541 : decode code 541 = .ok (.iaload, 1) := by decide +kernel
theorem d_law_542 : decode code 542 = .ok (.invokevirtual 131, 3) := by decide +kernel
theorem d_law_545 : decode code 545 = .ok (.istore 6, 2) := by decide +kernel
theorem d_law_547 : decode code 547 = .ok (.goto 3, 3) := by decide +kernel
theorem d_law_550 : decode code 550 = .ok (.iinc 4 6, 3) := by decide +kernel
theorem d_law_553 : decode code 553 = .ok (.goto (-530), 3) := by decide +kernel
theorem d_law_556 : decode code 556 = .ok (.iconst 1, 1) := by decide +kernel
theorem d_law_557 : decode code 557 = .ok (.ireturn, 1) := by decide +kernel
end
section
/-! worlds with fixed places, what is given of the machine, and how both go along -/
abbrev Az (z : Nat) : Nat → Prop := fun q => z ≤ q
abbrev Ty (t : Nat → ClassId) : List (ClassId × FieldType) := [(t 0, .byte), (t 1, .boolean), (t 2, .object "PageStore$Block"), (t 3, .object "PageStore$Layer"), (t 4, .int), (t 5, .long)]
/-- the world: its cells, its classes, all of them made since z -/
def Wd (D : va_G) (t : Nat → ClassId) (z : Nat) (ws : va_W) (U : State) : Prop := va_P D Cl ws U.heap ∧ va_K D Cl (Ty t) U ∧ va_D (Az z) ws ∧ z ≤ U.heap.size
abbrev xISE : String := "java/lang/IllegalStateException"
abbrev xIOB : String := "java/lang/IndexOutOfBoundsException"
abbrev xAE : String := "java/lang/ArithmeticException"
abbrev xIAE : String := "java/lang/IllegalArgumentException"
def Txt : List (Nat × String) := [(168, "it is off"), (170, "no transaction is open"), (66, "there are as many pages as there may be"), (174, "no such page"), (177, "no such byte"), (179, "no such bytes"), (107, "a transaction is open"), (203, "power failed"), (135, "there are as many marks as there may be"), (181, "no such mark"), (149, "when is not 0 to 4"), (152, "k is not 0 to 1000"), (154, "b is not 0 to 300"), (166, "what is not 0 to 3")]
def Xcs : List String := [xISE, xIOB, xAE, xIAE]
def Ncs : List (String × String) := [(xIOB, xISE), (xAE, xISE)]
abbrev Nms : List String := ["java/lang/RuntimeException", "java/lang/Exception"]
def isCD : Cond → Bool
  | .castable .. => true
  | .declares .. => true
  | _ => false
def Bads : List Cond := lw_tbl.filter isCD
theorem nw_warm {s U : State} (hW : s.WarmedH U.vm) {w : Cond} (hc : isCD w = true) (h : va_Nw w s) : va_Nw w U := by
  cases w <;> first | (simp [isCD] at hc; done) | exact va_Nw.warmC hW h | exact va_Nw.warmD hW h
theorem nw_use {U : State} {A : Array Value} {w : Cond} (hc : isCD w = true) (h : va_Nw w U) : w.before A U = true := by
  cases w <;> first | (simp [isCD] at hc; done) | exact va_Nw.use rfl h
theorem nw_of {U : State} {A : Array Value} {w : Cond} (hc : isCD w = true) (h : w.before A U = true) : va_Nw w U := by
  cases w <;> first | (simp [isCD] at hc; done) | exact va_Nw.of rfl h
/-- what is given of the machine, and stays -/
def Am (z : Nat) (sa : Nat → Nat) (U : State) : Prop :=
  va_Nw (.methodLinkNest R_S 31 y_U_init R_S) U ∧ va_Nw (.methodLinkNest R_S 57 y_Z_init R_S) U ∧ va_Nw (.methodLinkNest R_K 15 y_B_init R_S) U ∧ va_Nw (.fieldLinkNest R_K 16 R_B "bytes" "[B" R_S) U ∧
  va_AO "PageStore$Block" U ∧ va_AO "PageStore$Layer" U ∧ (∀ w ∈ Bads, va_Nw w U) ∧ (∀ q ∈ Ncs, va_Nc q.1 q.2 U) ∧ (∀ q ∈ Txt, vk_R R_S q.1 q.2 (sa q.1) U) ∧
  vx_Zq Bundle.tN "UNASSIGNED_STACK" Bundle.steD (Az z) U U.heap ∧ vx_Zq Bundle.tN "SUPPRESSED_SENTINEL" Bundle.listD (Az z) U U.heap
theorem Am.go {z : Nat} {sa : Nat → Nat} {s U : State} (h : Am z sa s) (hW : s.WarmedH U.vm) (hq : ∀ a : Nat, a < s.heap.size → ¬ Az z a → U.heap[a]? = s.heap[a]?) : Am z sa U := by
  obtain ⟨h1, h2, h3, h4, h5, h6, h7, h8, h9, h10, h11⟩ := h
  exact ⟨va_Nw.warmM hW h1, va_Nw.warmM hW h2, va_Nw.warmM hW h3, va_Nw.warmF hW h4, va_AO.moved hW.alike h5, va_AO.moved hW.alike h6,
    fun w hw => nw_warm hW (List.mem_filter.mp hw).2 (h7 w hw), fun q hq => va_Nc.moved hW.alike (h8 q hq), fun q hq => vk_R.warm hW (h9 q hq),
    (vx_Zq.moved hW.alike h10).kept hq, (vx_Zq.moved hW.alike h11).kept hq⟩
abbrev Pz (D : va_G) (t : Nat → ClassId) (z : Nat) (sa : Nat → Nat) (ws : va_W) (av : List Value) : Array Value → State → Prop := va_Pc av (fun U => Wd D t z ws U ∧ Am z sa U)
theorem Pz_blind {D : va_G} {t : Nat → ClassId} {z : Nat} {sa : Nat → Nat} {ws : va_W} {av : List Value} : FrameBlind (Pz D t z sa ws av) := by
  intro a U g mk q
  obtain ⟨q0, ⟨qP, qK, qD, qz⟩, qM⟩ := q
  exact ⟨q0, ⟨qP, va_K.moved (u := U) (U := U.calling g mk a) (Vm.Alike.refl U.vm) qK, qD, qz⟩, qM.go (U := U.calling g mk a) (State.WarmedH.refl U) (fun _ _ _ => rfl)⟩
theorem Pz_at {D : va_G} {t : Nat → ClassId} {z : Nat} {sa : Nat → Nat} {ws : va_W} {av : List Value} {s : State} {H : Heap} {locs : List Loc} (hP : va_P D Cl ws H) (hK : va_K D Cl (Ty t) s) (hD : va_D (Az z) ws) (hz : z ≤ s.heap.size) (hM : Am z sa s) (hS : va_S (Az z) s.heap H locs) :
    ∀ U : State, U.heap = H → s.WarmedH U.vm → Pz D t z sa ws av av.toArray U := fun U hU hW =>
  ⟨rfl, ⟨by rw [hU]; exact hP, va_K.moved hW.alike hK, hD, by rw [hU]; exact Nat.le_trans hz hS.1⟩, hM.go hW (by rw [hU]; exact hS.2.1)⟩
/-- where it has thrown cls: the world -/
abbrev Xw (D : va_G) (t : Nat → ClassId) (z : Nat) (cls : String) (ws : va_W) : String → State → State → Prop := vx_X (fun u : va_W => u = ws) (fun E u U => E = cls ∧ Wd D t z u U) (Az z)
abbrev Qno : Array Value → State → Outcome → State → Prop := fun _ _ _ _ => False
theorem gd_I {y : MethodName} {b : ByteArray} {n : Nat} {r : Option FieldType} (hc : Cond.code y b n r ∈ WS) : GoodIn WS (Cond.code y b n r :: WS) := fun w h =>
  (List.mem_cons.mp h).elim (fun e => by rw [e]; exact ⟨hc, WS_good hc⟩) (fun h => ⟨h, WS_good h⟩)
theorem gd_V {own C : String} {i : Nat} {y : MethodName} {b : ByteArray} {n : Nat} {r : Option FieldType} (h1 : Cond.methodLink own i y ∈ WS) (h2 : Cond.instanceMethod y ∈ WS) (h3 : Cond.selects C y y ∈ WS) (h4 : Cond.initialized C ∈ WS) (hc : Cond.code y b n r ∈ WS) : GoodIn WS (wsV own i C y (Cond.code y b n r :: WS)) := by
  intro w h
  unfold wsV at h
  rcases List.mem_append.mp h with h | h
  · simp only [List.mem_cons, List.mem_nil_iff, or_false] at h
    rcases h with rfl | rfl | rfl | rfl
    · exact ⟨h1, WS_good h1⟩
    · exact ⟨h2, WS_good h2⟩
    · exact ⟨h3, WS_good h3⟩
    · exact ⟨h4, WS_good h4⟩
  · exact gd_I hc w h
theorem gd_SW {own : String} {i : Nat} {y : MethodName} {b : ByteArray} {n : Nat} {r : Option FieldType} {hh : List (Nat × Nat × Nat × Nat)} (h1 : Cond.methodLink own i y ∈ WS) (h2 : Cond.static y ∈ WS) (h3 : Cond.initialized y.cls ∈ WS) (hc : Cond.codeWith y b n r hh ∈ WS) : GoodIn WS (va_wsS own i y (Cond.codeWith y b n r hh :: WS)) := by
  intro w h
  unfold va_wsS at h
  rcases List.mem_append.mp h with h | h
  · simp only [List.mem_cons, List.mem_nil_iff, or_false] at h
    rcases h with rfl | rfl | rfl
    · exact ⟨h1, WS_good h1⟩
    · exact ⟨h2, WS_good h2⟩
    · exact ⟨h3, WS_good h3⟩
  · exact (List.mem_cons.mp h).elim (fun e => by rw [e]; exact ⟨hc, WS_good hc⟩) (fun h => ⟨h, WS_good h⟩)
/-- the words of a throw of cls, made at the entries ik, is, ic of PageStore's file -/
def Site (cls tx : String) (ik is ic : Nat) : Prop := Cond.classLink R_S ik cls ∈ WS ∧ Cond.initialized cls ∈ WS ∧ (is, tx) ∈ Txt ∧ (∀ w ∈ (vx_atS R_S ic cls Nms).filter goodWord, w ∈ WS) ∧ (∀ w ∈ (vx_atS R_S ic cls Nms).filter (fun w => !goodWord w), w ∈ Bads) ∧ (∀ w ∈ Cond.classLink R_S ik cls :: Cond.initialized cls :: vx_atS R_S ic cls Nms, vx_ot w = true) ∧ Bundle.fit cls = true
theorem fit_N : ∀ n ∈ Nms, Bundle.fit n = true := by decide +kernel
section TH
variable {p : Program} {l : Launch} {e : Env} {R : Room} {s : State} {m : MethodId} {args : Array Value} {below : List Frame} {meth : Method} {c : Code} {H : Heap} {locs : List Loc} {cells slots : Nat} {Qc : Array Value → State → Outcome → State → Prop} {cc : ByteArray} {pc : Nat} {ls : Array Slot} {rest : List Value} {D : va_G} {t : Nat → ClassId} {z mc ms : Nat} {sa : Nat → Nat} {ws : va_W}
theorem th_S {cls tx : String} {ik is ic : Nat} (hx : p.tables.exec = Jvm.exec) (hb : c.code = cc) (hl : l.stackTraces = false) (hown : s.vm.findClass R_S = some m.cls) (hts : ∀ w ∈ WS, w.before args s = true) (hlocks : meth.locks = false) (hno : ∀ x ∈ c.exceptionTable.toList, False)
    (hP : va_P D Cl ws H) (hK : va_K D Cl (Ty t) s) (hD : va_D (Az z) ws) (hz : z ≤ s.heap.size) (hM : Am z sa s) (hS : va_S (Az z) s.heap H locs) (hsize : ls.size = c.maxLocals) (si : Site cls tx ik is ic)
    (d0 : decode cc pc = .ok (.new ik, 3)) (d3 : decode cc (pc + 3) = .ok (.dup, 1)) (d4 : decode cc (pc + 4) = .ok (.ldc is, 2)) (d6 : decode cc (pc + 6) = .ok (.invokespecial ic, 3)) (d9 : decode cc (pc + 9) = .ok (.athrow, 1))
    (hRf : 5 < R.frames) (hRl : (rest.map fun v => v.category).sum + 82 ≤ R.locals) (hRc : cells + 1 ≤ R.cells) (hRs : slots + 6 ≤ R.slots) (hc : cells + 1 ≤ mc) (hs : slots + 6 ≤ ms) :
    W p l e R s m args below meth c H locs cells slots (vx_MQ below Qc (Xw D t z cls ws) args s mc ms (Az z)) (F0 m pc ls rest) := by
  obtain ⟨s1, s2, s3, s4, s5, s6, s7⟩ := si
  obtain ⟨h1, h2, h3, h4, h5, h6, h7, h8, h9, h10, h11⟩ := hM
  refine vx_throwS hx hb hl hown s7 fit_N (hts _ s1) (hts _ s2) (h9 _ s3) (vx_hat (B := Bads) (fun w hw => hts w (s4 w hw)) s5 (fun w hw => nw_use (List.mem_filter.mp hw).2 (h7 w hw))) s6 h10 h11 hS hsize d0 d3 d4 d6 d9 (fun x hx => (hno x hx).elim) hRf hRl hRc hRs hlocks ?_ hS.2.2 hc hs
  intro U hvm hsz hq
  refine ⟨ws, rfl, ⟨rfl, hP.kept (fun k x hk => hq x.1 ((hP k x hk).lt)), va_K.moved hvm hK, hD, Nat.le_trans hz (Nat.le_trans hS.1 hsz)⟩, Nat.le_trans hS.1 hsz, fun q h1 h2 => ?_⟩
  rw [hq q (Nat.lt_of_lt_of_le h1 hS.1)]
  exact hS.2.1 q h1 h2
/-- a call that only throws, not caught here -/
theorem thru {cls : String} {mc1 ms1 : Nat} {g : JFrame} {Qa : State → Outcome → State → Prop} (hr : vx_Run p l e R s m args below meth c H locs cells slots mc1 ms1 (F0 m pc ls rest) g.stack Qa (Xw D t z cls ws) (Az z)) (hno : ∀ x ∈ c.exceptionTable.toList, False) (hq : ∀ a b d, ¬ Qa a b d) (hlocks : meth.locks = false) (hS : va_S (Az z) s.heap H locs) (hc : cells + mc1 ≤ mc) (hs : slots + ms1 ≤ ms) :
    W p l e R s m args below meth c H locs cells slots (vx_MQ below Qc (Xw D t z cls ws) args s mc ms (Az z)) (F0 m pc ls rest) := by
  intro T hT X
  rcases hr T hT X with ⟨v, st₀, t', T', L, h0, X', hL, e1, e2, hq1, st⟩ | ⟨q, st₀, t', T', L, E, ce, h0, X', hL, e1, e2, ⟨u, hp, hb, hF⟩, hce, hcv, hcl, st⟩
  · exact (hq _ _ _ hq1).elim
  · obtain ⟨k1, k2, k3⟩ := vx_keep h0 e1 hS (A1 := Az z) (fun _ _ h => h) (fun _ h => h) hL hF
    obtain ⟨rfl, hb⟩ := hb
    obtain ⟨t2, a1, b1⟩ := vx_out (XC := Xw D t z E ws) (Qc := Qc) (free := Az z) (below := below) (ls := ls) (rest := g.stack) (pc := pc) (mc := mc) (ms := ms) (fun x hx => (hno x hx).elim) hlocks (show T'.heap[q]? = some ce by rw [e1]; exact hce) hcv hcl
      (fun t9 ht9 hv9 => ⟨u, hp, ⟨rfl, by
        obtain ⟨b1, b2, b3, b4⟩ := hb
        exact ⟨by rw [ht9, e1]; exact b1, va_K.moved ((by rw [← e2]; exact X'.warmed.alike.symm : t'.vm.Alike s.vm).trans hv9) b2, b3, by rw [ht9, e1]; exact b4⟩⟩, k3.F ht9⟩) k3.2.2 hc hs T' rfl X'
    exact ⟨t2, st.trans a1, b1⟩
end TH
end
section
def Ch (ws u : va_W) (is : List Nat) : Prop := ws.length ≤ u.length ∧ ∀ j, j < ws.length → j ∉ is → u[j]? = ws[j]?
theorem Ch.rf {ws : va_W} : Ch ws ws [] := ⟨Nat.le_refl _, fun _ _ _ => rfl⟩
theorem Ch.put {ws u : va_W} {is : List Nat} {p : Nat} {c : Nat × va_E} (h : Ch ws u is) : Ch ws (u.set p c) (is ++ [p]) := by
  refine ⟨by rw [List.length_set]; exact h.1, fun j hj hn => ?_⟩
  have h1 : j ∉ is := fun q => hn (List.mem_append_left _ q)
  have h2 : p ≠ j := fun q => hn (List.mem_append_right _ (by rw [q]; exact List.mem_singleton_self _))
  rw [List.getElem?_set_ne h2]
  exact h.2 j hj h1
theorem Ch.trans {ws u v : va_W} {is js : List Nat} (h : Ch ws u is) (h2 : Ch u v js) : Ch ws v (is ++ js) := by
  refine ⟨Nat.le_trans h.1 h2.1, fun j hj hn => ?_⟩
  rw [h2.2 j (Nat.lt_of_lt_of_le hj h.1) (fun q => hn (List.mem_append_right _ q)), h.2 j hj (fun q => hn (List.mem_append_left _ q))]
theorem Ch.sub {ws u : va_W} {is js : List Nat} (h : Ch ws u is) (hs : ∀ i ∈ is, i ∈ js) : Ch ws u js := ⟨h.1, fun j hj hn => h.2 j hj (fun q => hn (hs j q))⟩
theorem Ch.keep {ws u : va_W} {is : List Nat} {j : Nat} {c : Nat × va_E} (h : Ch ws u is) (e : ws[j]? = some c) (hj : j ∉ is) : u[j]? = some c := by
  rw [h.2 j (List.getElem?_eq_some_iff.mp e).1 hj]; exact e
theorem Ch.push {ws u : va_W} {is : List Nat} {c : va_W} (h : Ch ws u is) : Ch ws (u ++ c) is := by
  refine ⟨by rw [List.length_append]; exact Nat.le_trans h.1 (Nat.le_add_right _ _), fun j hj hn => ?_⟩
  rw [List.getElem?_append_left (Nat.lt_of_lt_of_le hj h.1)]
  exact h.2 j hj hn
theorem lk_set {ws : va_W} {p : Nat} {c0 c : Nat × va_E} (e : ws[p]? = some c0) : (ws.set p c)[p]? = some c := List.getElem?_set_self (List.getElem?_eq_some_iff.mp e).1
theorem lk_ne {ws : va_W} {p j : Nat} {c0 c : Nat × va_E} (e : ws[j]? = some c0) (h : p ≠ j) : (ws.set p c)[j]? = some c0 := by rw [List.getElem?_set_ne h]; exact e
theorem lk_push {ws c : va_W} {j : Nat} {c0 : Nat × va_E} (e : ws[j]? = some c0) : (ws ++ c)[j]? = some c0 := by rw [List.getElem?_append_left (List.getElem?_eq_some_iff.mp e).1]; exact e
theorem lk_new {ws : va_W} {c : Nat × va_E} {n : Nat} (h : ws.length = n) : (ws ++ [c])[n]? = some c := by subst h; rw [List.getElem?_append_right (Nat.le_refl _), Nat.sub_self]; rfl
theorem oi_im : Cond.instanceMethod Lib.objectInit ∈ WS := by decide +kernel
theorem oi_cd : Cond.code Lib.objectInit ⟨#[0xb1]⟩ 1 none ∈ WS := by decide +kernel
theorem site_64_66_68 : Site xISE "there are as many pages as there may be" 64 66 68 := ⟨by decide +kernel, by decide +kernel, by decide +kernel, by decide +kernel, by decide +kernel, by decide +kernel, by decide +kernel⟩
theorem site_64_107_68 : Site xISE "a transaction is open" 64 107 68 := ⟨by decide +kernel, by decide +kernel, by decide +kernel, by decide +kernel, by decide +kernel, by decide +kernel, by decide +kernel⟩
theorem site_64_135_68 : Site xISE "there are as many marks as there may be" 64 135 68 := ⟨by decide +kernel, by decide +kernel, by decide +kernel, by decide +kernel, by decide +kernel, by decide +kernel, by decide +kernel⟩
theorem site_147_149_151 : Site xIAE "when is not 0 to 4" 147 149 151 := ⟨by decide +kernel, by decide +kernel, by decide +kernel, by decide +kernel, by decide +kernel, by decide +kernel, by decide +kernel⟩
theorem site_147_152_151 : Site xIAE "k is not 0 to 1000" 147 152 151 := ⟨by decide +kernel, by decide +kernel, by decide +kernel, by decide +kernel, by decide +kernel, by decide +kernel, by decide +kernel⟩
theorem site_147_154_151 : Site xIAE "b is not 0 to 300" 147 154 151 := ⟨by decide +kernel, by decide +kernel, by decide +kernel, by decide +kernel, by decide +kernel, by decide +kernel, by decide +kernel⟩
theorem site_147_166_151 : Site xIAE "what is not 0 to 3" 147 166 151 := ⟨by decide +kernel, by decide +kernel, by decide +kernel, by decide +kernel, by decide +kernel, by decide +kernel, by decide +kernel⟩
theorem site_64_168_68 : Site xISE "it is off" 64 168 68 := ⟨by decide +kernel, by decide +kernel, by decide +kernel, by decide +kernel, by decide +kernel, by decide +kernel, by decide +kernel⟩
theorem site_64_170_68 : Site xISE "no transaction is open" 64 170 68 := ⟨by decide +kernel, by decide +kernel, by decide +kernel, by decide +kernel, by decide +kernel, by decide +kernel, by decide +kernel⟩
theorem site_172_174_176 : Site xIOB "no such page" 172 174 176 := ⟨by decide +kernel, by decide +kernel, by decide +kernel, by decide +kernel, by decide +kernel, by decide +kernel, by decide +kernel⟩
theorem site_172_177_176 : Site xIOB "no such byte" 172 177 176 := ⟨by decide +kernel, by decide +kernel, by decide +kernel, by decide +kernel, by decide +kernel, by decide +kernel, by decide +kernel⟩
theorem site_172_179_176 : Site xIOB "no such bytes" 172 179 176 := ⟨by decide +kernel, by decide +kernel, by decide +kernel, by decide +kernel, by decide +kernel, by decide +kernel, by decide +kernel⟩
theorem site_172_181_176 : Site xIOB "no such mark" 172 181 176 := ⟨by decide +kernel, by decide +kernel, by decide +kernel, by decide +kernel, by decide +kernel, by decide +kernel, by decide +kernel⟩
theorem site_201_203_205 : Site xAE "power failed" 201 203 205 := ⟨by decide +kernel, by decide +kernel, by decide +kernel, by decide +kernel, by decide +kernel, by decide +kernel, by decide +kernel⟩
end
section
/-! contracts whose cost hangs on the world behind them: they return, or throw -/
def mu_Q (D : va_G) (t : Nat → ClassId) (z : Nat) (post : Option Value → va_W → Prop) (xp : String → va_W → Prop) (kc ks : va_W → Nat) : Array Value → State → Outcome → State → Prop := fun _ st o T =>
  (∃ (v : Option Value) (u : va_W) (L : List Loc), o = .returned v ∧ post v u ∧ Wd D t z u T ∧ va_F (Az z) st T ∧ FrameEnd st o T L (kc u) (ks u) ∧ ∀ q ∈ L, Az z q.base) ∨
  (∃ (q : Addr) (E : String) (ce : Cell) (u : va_W) (L : List Loc), o = .threw q ∧ xp E u ∧ Wd D t z u T ∧ va_F (Az z) st T ∧ T.heap[q]? = some ce ∧ ce.vm = .none ∧ st.vm.findClass E = some ce.cls ∧ st.WarmedH T.vm ∧ st.sameButNew ({ T with vm := st.vm } : State) L (kc u + 1) (ks u + 6) ∧ ∀ q ∈ L, Az z q.base)
def Mu (l : Launch) (y : MethodName) (wd : List Cond) (rm : Room) (D : va_G) (t : Nat → ClassId) (z : Nat) (sa : Nat → Nat) (ws : va_W) (av : List Value) (post : Option Value → va_W → Prop) (xp : String → va_W → Prop) (kc ks : va_W → Nat) : Prop :=
  MetFree l y (headSpec wd rm) (Pz D t z sa ws av) (fun _ _ _ _ _ => True) (mu_Q D t z post xp kc ks)
def mu_Pre (R rm : Room) (D : va_G) (t : Nat → ClassId) (z : Nat) (sa : Nat → Nat) (ws : va_W) (av : List Value) : Pt → Array Value → Prop := fun A a => A.cells + rm.cells ≤ R.cells ∧ A.slots + rm.slots ≤ R.slots ∧ Pz D t z sa ws av a A.U
def mu_Post (D : va_G) (t : Nat → ClassId) (z : Nat) (post : Option Value → va_W → Prop) (kc ks : va_W → Nat) : Pt → Array Value → Option Value → Pt → Prop := fun A _ v B =>
  ∃ (st T : State) (L : List Loc) (u : va_W), st.heap = A.U.heap ∧ B.U.heap = T.heap ∧ B.U.vm = T.vm ∧ post v u ∧ Wd D t z u T ∧ va_F (Az z) st T ∧ B.locs = A.locs ++ L ∧ (∀ q ∈ L, Az z q.base) ∧ B.cells = A.cells + kc u ∧ B.slots = A.slots + ks u
def mu_PostX (D : va_G) (t : Nat → ClassId) (z : Nat) (xp : String → va_W → Prop) (kc ks : va_W → Nat) : Pt → Array Value → Addr → Pt → Prop := fun A _ q B =>
  ∃ (st T : State) (L : List Loc) (E : String) (ce : Cell) (u : va_W), st.heap = A.U.heap ∧ B.U.heap = T.heap ∧ B.U.vm = T.vm ∧ xp E u ∧ Wd D t z u T ∧ va_F (Az z) st T ∧ T.heap[q]? = some ce ∧ ce.vm = .none ∧ A.U.vm.findClass E = some ce.cls ∧ B.locs = A.locs ++ L ∧ (∀ q ∈ L, Az z q.base) ∧ B.cells = A.cells + (kc u + 1) ∧ B.slots = A.slots + (ks u + 6)
section MU1
variable {l : Launch} {R : Room} {p : Program} {e : Env} {below : List Frame} {s : State} {sargs : Array Value} {y : MethodName} {len W9 : Nat} {D : va_G} {t : Nat → ClassId} {z : Nat} {sa : Nat → Nat} {ws : va_W} {av : List Value} {post : Option Value → va_W → Prop} {xp : String → va_W → Prop} {kc ks : va_W → Nat}
theorem mu_back {wd : List Cond} {rm : Room} {maxL : Nat} (hM : Mu l y wd rm D t z sa ws av post xp kc ks)
    (hframes : rm.frames + 1 ≤ R.frames) (hlocals : W9 + (maxL + 11) + rm.locals ≤ R.locals)
    (hws : ∀ w ∈ wd, ∀ a' U, s.WarmedH U.vm → w.before a' U = true) (hinit : ∀ a' U, s.WarmedH U.vm → (Cond.initialized y.cls).before a' U = true)
    (hY : ∀ (a' : Array Value) (U : State) (mk : MethodId), s.WarmedH U.vm → U.methodNamed? y = some mk → ∃ methY cY, U.vm.method? mk = some methY ∧ methY.code = some cY ∧ cY.maxLocals = maxL) :
    vx_Back l R p e below s sargs y len W9 (mu_Pre R rm D t z sa ws av) (mu_Post D t z post kc ks) (mu_PostX D t z xp kc ks) := by
  intro m meth c A g ig mk a X hg hsize hdg hW hn hp
  have h1 : (headSpec wd rm).pre.before a A.U = true := atoms_intro fun w hw => hws w hw _ _ X.warmed
  have h3 : (Cond.initialized y.cls).before a A.U = true := hinit _ _ X.warmed
  have h4 : A.cells + (headSpec wd rm).room.cells ≤ R.cells := hp.1
  have h5 : A.slots + (headSpec wd rm).room.slots ≤ R.slots := hp.2.1
  have hPc : Pz D t z sa ws av a (A.U.calling g mk a) := Pz_blind _ _ _ _ hp.2.2
  obtain ⟨methY, cY, hmY, hcY, hlY⟩ := hY a A.U mk X.warmed hn
  obtain ⟨U, Ls, c0, s0⟩ := A
  dsimp only [Pt.U, Pt.locs, Pt.cells, Pt.slots] at h1 h3 h4 h5 X hn hPc hmY ⊢
  obtain ⟨kY, hkY, -⟩ := className_of_methodNamed hn
  have hinitY : kY.init = .initialized := Cond.initialized_spec (findClass_of_methodNamed hn) hkY h3
  have h : At U g.method c below := by rw [hg]; exact X.here
  have hlocals9 : W9 + (maxL + 11) + (headSpec wd rm).room.locals ≤ R.locals := hlocals
  have happ : (headSpec wd rm).appliesLoose y e.platform (U.calling g mk a) = true :=
    Spec.appliesLoose_calling (g := g) h hdg hn hkY hinitY
      (X.room_calling (g := g) (R' := (headSpec wd rm).room) hsize hmY hcY hframes (by rw [hlY]; omega) h4 h5) h1
  obtain ⟨mid, hmid⟩ := h.above
  have hfr : (U.setTop g).frames = (.java g :: mid) ++ below := by rw [State.frames_setTop' g h.top, hmid]; rfl
  obtain ⟨o, s₂, hsteps, -, hend, hq⟩ := Steps.callFree hM p X.admits X.cas X.clock (acts := []) hfr happ hPc trivial
  have hq' : mu_Q D t z post xp kc ks a (U.calling g mk a) o s₂ := hq
  rw [State.frames_setTop' g h.top] at hend
  obtain ⟨g₀, hg0⟩ := Option.isSome_iff_exists.mp h.top
  obtain ⟨r, hr⟩ := State.topJava?_eq_some.mp hg0
  have hr' : (({ U with heap := s₂.heap, slotsUsed := s₂.slotsUsed } : State).setVm s₂.vm).frames = .java g₀ :: r := hr
  rcases hq' with ⟨v, u, L, rfl, hpo, hWd, hF, hfe, hL⟩ | ⟨q, E, ce, u, L, rfl, hxp, hWd, hF, hce, hcv, hcl, hW₂, hsm, hL⟩
  · obtain ⟨-, hW₂, e2, q2, q3, q4, q5, q6⟩ := id hfe
    have e3 : s₂ = ({ (U.calling g mk a).setFrames s₂.frames with heap := s₂.heap, slotsUsed := s₂.slotsUsed } : State).setVm s₂.vm := by
      have : s₂ = ({ s₂ with vm := (U.calling g mk a).vm } : State).setVm s₂.vm := rfl
      rw [e2] at this
      exact this
    obtain ⟨c₂, i₂, len₂, hc₂, hd₂, hf₂⟩ := hend
    have hW' : U.WarmedH s₂.vm := hW₂
    have hcc : c₂ = c := by
      have h1 : s₂.code? g.method = U.code? g.method := by
        rw [State.code?_eq, State.code?_eq, hW'.alike.method?]
      exact Option.some.inj (hc₂.symm.trans (h1.trans h.code))
    subst hcc
    have hlen : len₂ = len := by rw [hdg] at hd₂; cases hd₂; rfl
    subst hlen
    have hs₂ : s₂ = (({ U with heap := s₂.heap, slotsUsed := s₂.slotsUsed } : State).setVm s₂.vm).setTop { g with pc := g.pc + len₂, stack := v.toList ++ g.stack } := by
      refine e3.trans ?_
      rw [hf₂, State.calling_eq h.top, State.setFrames_setFrames, State.setTop_of_frames _ hr', hr]
      rfl
    have hsame : U.sameButNew ({ U with heap := s₂.heap, slotsUsed := s₂.slotsUsed } : State) L (kc u) (ks u) := by
      refine ⟨?_, q2, q3, q4, q5, q6⟩
      obtain ⟨t9, ht9, -⟩ := State.frames_cons hr
      show ({ U with heap := s₂.heap, slotsUsed := s₂.slotsUsed } : State) = { U.setFrames U.frames with heap := s₂.heap, slotsUsed := s₂.slotsUsed }
      rw [State.setFrames_self ht9]
    subst hg
    refine Or.inl ⟨v, ⟨(({ U with heap := s₂.heap, slotsUsed := s₂.slotsUsed } : State).setVm s₂.vm), Ls ++ L, c0 + kc u, s0 + ks u⟩,
      ⟨X.admits, X.cas, X.clock, X.frames, X.room, X.hears, X.method, X.code, (X.here.setHeapUsed s₂.heap s₂.slotsUsed).setVm hW'.alike, X.tail, State.WarmedH.trans X.warmed hW', X.limits, X.bytes, X.same.trans (hsame.setVm s.vm)⟩,
      ⟨U.calling g mk a, s₂, L, u, rfl, rfl, rfl, hpo, hWd, hF, rfl, hL, rfl, rfl⟩, ?_⟩
    show Steps p.tables e below _ ((({ U with heap := s₂.heap, slotsUsed := s₂.slotsUsed } : State).setVm s₂.vm).setTop { g with pc := g.pc + len₂, stack := v.toList ++ g.stack })
    rw [← hs₂]
    exact hsteps
  · obtain ⟨e2, q2, q3, q4, q5, q6⟩ := id hsm
    have e3 : s₂ = ({ (U.calling g mk a).setFrames s₂.frames with heap := s₂.heap, slotsUsed := s₂.slotsUsed } : State).setVm s₂.vm := by
      have : s₂ = ({ s₂ with vm := (U.calling g mk a).vm } : State).setVm s₂.vm := rfl
      rw [e2] at this
      exact this
    have hf₂ : s₂.frames = .throwing q :: .java g :: U.frames.tail := hend
    have hW' : U.WarmedH s₂.vm := hW₂
    have hs₂ : s₂ = ((({ U with heap := s₂.heap, slotsUsed := s₂.slotsUsed } : State).setVm s₂.vm).setTop g).pushFrame (.throwing q) := by
      refine e3.trans ?_
      rw [hf₂, State.calling_eq h.top, State.setFrames_setFrames, State.pushFrame, State.frames_setTop _ hr', State.setTop_of_frames _ hr', State.setFrames_setFrames, hr]
      rfl
    have hsame : U.sameButNew ({ U with heap := s₂.heap, slotsUsed := s₂.slotsUsed } : State) L (kc u + 1) (ks u + 6) := by
      refine ⟨?_, q2, q3, q4, q5, q6⟩
      obtain ⟨t9, ht9, -⟩ := State.frames_cons hr
      show ({ U with heap := s₂.heap, slotsUsed := s₂.slotsUsed } : State) = { U.setFrames U.frames with heap := s₂.heap, slotsUsed := s₂.slotsUsed }
      rw [State.setFrames_self ht9]
    subst hg
    refine Or.inr ⟨q, ⟨(({ U with heap := s₂.heap, slotsUsed := s₂.slotsUsed } : State).setVm s₂.vm), Ls ++ L, c0 + (kc u + 1), s0 + (ks u + 6)⟩,
      ⟨X.admits, X.cas, X.clock, X.frames, X.room, X.hears, X.method, X.code, (X.here.setHeapUsed s₂.heap s₂.slotsUsed).setVm hW'.alike, X.tail, State.WarmedH.trans X.warmed hW', X.limits, X.bytes, X.same.trans (hsame.setVm s.vm)⟩,
      ⟨U.calling g mk a, s₂, L, E, ce, u, rfl, rfl, rfl, hxp, hWd, hF, hce, hcv, hcl, rfl, hL, rfl, rfl⟩, ?_⟩
    show Steps p.tables e below _ (((({ U with heap := s₂.heap, slotsUsed := s₂.slotsUsed } : State).setVm s₂.vm).setTop g).pushFrame (.throwing q))
    rw [← hs₂]
    exact hsteps
end MU1
end
section
section MU2
variable {p : Program} {l : Launch} {e : Env} {R : Room} {s : State} {m : MethodId} {args : Array Value} {below : List Frame} {meth : Method} {c : Code} {H : Heap} {locs : List Loc} {cells slots : Nat} {Q : State → Prop}
variable {D : va_G} {t : Nat → ClassId} {z : Nat} {sa : Nat → Nat} {ws : va_W} {av : List Value} {post : Option Value → va_W → Prop} {xp : String → va_W → Prop} {kc ks : va_W → Nat}
variable {y : MethodName} {bytes cc : ByteArray} {maxL nL n index : Nat} {ret : Option FieldType} {rm : Room} {own C : String} {b : Addr} {As rest st0 : List Value} {pc : Nat} {ls : Array Slot}
theorem W_imp {Q' : State → Prop} {g : JFrame} (h : ∀ T, Q T → Q' T) (k : W p l e R s m args below meth c H locs cells slots Q g) : W p l e R s m args below meth c H locs cells slots Q' g := fun T hT X => by
  obtain ⟨t2, a1, b1⟩ := k T hT X
  exact ⟨t2, a1, h t2 b1⟩
/-- what comes behind a call, out of the two ends of it -/
theorem mu_two {T : State} (hT : T.heap = H) (hS : va_S (Az z) s.heap H locs)
    (hk : (∃ (v : Option Value) (vm₁ : Vm) (B : Pt), s.WarmedH vm₁ ∧ Stand p l e R s m args below meth c B.U B.locs B.cells B.slots ∧ mu_Post D t z post kc ks ⟨T.setVm vm₁, locs, cells, slots⟩ av.toArray v B ∧
      ∀ target, Steps p.tables e below (B.U.setTop { F0 m pc ls st0 with pc := pc + 3, stack := v.toList ++ rest }) target → Steps p.tables e below (T.setTop (F0 m pc ls st0)) target) ∨
    (∃ (q : Addr) (vm₁ : Vm) (B : Pt), s.WarmedH vm₁ ∧ Stand p l e R s m args below meth c B.U B.locs B.cells B.slots ∧ mu_PostX D t z xp kc ks ⟨T.setVm vm₁, locs, cells, slots⟩ av.toArray q B ∧
      Steps p.tables e below (T.setTop (F0 m pc ls st0)) ((B.U.setTop { F0 m pc ls st0 with stack := rest }).pushFrame (.throwing q))))
    (kx : ∀ (E : String) (ce : Cell) (q : Addr) (u : va_W) (H1 : Heap) (locs1 : List Loc), xp E u → va_P D Cl u H1 → va_D (Az z) u → va_S (Az z) s.heap H1 locs1 → H1[q]? = some ce → ce.vm = .none → s.vm.findClass E = some ce.cls → vx_W p l e R s m args below meth c H1 locs1 (cells + (kc u + 1)) (slots + (ks u + 6)) Q (F0 m pc ls rest) q)
    (kk : ∀ (v : Option Value) (u : va_W) (H1 : Heap) (locs1 : List Loc), post v u → va_P D Cl u H1 → va_D (Az z) u → va_S (Az z) s.heap H1 locs1 → W p l e R s m args below meth c H1 locs1 (cells + kc u) (slots + ks u) Q (F0 m (pc + 3) ls (v.toList ++ rest))) :
    ∃ t2, Steps p.tables e below (T.setTop (F0 m pc ls st0)) t2 ∧ Q t2 := by
  rcases hk with ⟨v, vm₁, ⟨U', l2, c2, s2⟩, hW₁, X', ⟨st, T2, L, u, e0, e1, e2, hpo, ⟨b1, b2, b3, b4⟩, hF, h1, hL, h2, h3⟩, hst⟩ | ⟨q, vm₁, ⟨U', l2, c2, s2⟩, hW₁, X', ⟨st, T2, L, E, ce, u, e0, e1, e2, hxp, ⟨b1, b2, b3, b4⟩, hF, hce, hcv, hcl, h1, hL, h2, h3⟩, hst⟩
  · dsimp only [Pt.U, Pt.locs, Pt.cells, Pt.slots] at X' e0 e1 e2 h1 h2 h3 hst
    subst h1; subst h2; subst h3
    obtain ⟨k1, k2, k3⟩ := vx_keep (A1 := Az z) (show st.heap = H from e0.trans hT) e1 hS (fun _ _ h => h) (fun _ h => h) hL hF
    obtain ⟨t2, a1, b1⟩ := kk v u U'.heap (locs ++ L) hpo (by rw [e1]; exact b1) b3 k3 U' rfl X'
    exact ⟨t2, hst t2 a1, b1⟩
  · dsimp only [Pt.U, Pt.locs, Pt.cells, Pt.slots] at X' e0 e1 e2 h1 h2 h3 hst hcl
    subst h1; subst h2; subst h3
    obtain ⟨k1, k2, k3⟩ := vx_keep (A1 := Az z) (show st.heap = H from e0.trans hT) e1 hS (fun _ _ h => h) (fun _ h => h) hL hF
    obtain ⟨t2, a1, b1⟩ := kx E ce q u U'.heap (locs ++ L) hxp (by rw [e1]; exact b1) b3 k3 (by rw [e1]; exact hce) hcv (vx_cls hW₁ hcl) U' rfl X'
    exact ⟨t2, hst.trans a1, b1⟩
theorem mu_wd {wd : List Cond} (ht : ∀ w ∈ WS, w.before args s = true) (hG : GoodIn WS wd) : ∀ w ∈ wd, ∀ (a' : Array Value) (U : State), s.WarmedH U.vm → w.before a' U = true := fun w hw _ _ hW => word_at hW (hG w hw).2 (ht w (hG w hw).1)
theorem mu_ini (ht : ∀ w ∈ WS, w.before args s = true) (h : Cond.initialized C ∈ WS) : ∀ (a' : Array Value) (U : State), s.WarmedH U.vm → (Cond.initialized C).before a' U = true := fun _ _ hW => word_at hW (WS_good h) (ht _ h)
theorem mu_len (hd : (parseMethodDescriptor y.desc).map (fun d => d.parameters.length) = some n) : ∀ sig, parseMethodDescriptor y.desc = some sig → n = sig.parameters.length := fun sig h => by
  rw [h] at hd
  exact (Option.some.inj hd).symm
/-- invokevirtual -/
theorem mu_V (S : CallFix p m c cc nL s args WS own) (hM : Mu l y (Cond.code y bytes maxL ret :: WS) rm D t z sa ws (.ref b :: As) post xp kc ks)
    (h1 : Cond.methodLink own index y ∈ WS) (h2 : Cond.instanceMethod y ∈ WS) (h3 : Cond.selects y.cls y y ∈ WS) (h4 : Cond.initialized y.cls ∈ WS) (hc : Cond.code y bytes maxL ret ∈ WS)
    (hd : y.cls ≠ "java/lang/invoke/MethodHandle" ∧ y.cls ≠ "java/lang/invoke/VarHandle" ∧ (parseMethodDescriptor y.desc).map (fun d => d.parameters.length) = some n) (hR : rm.frames + 1 ≤ R.frames ∧ 8 + (maxL + 11) + rm.locals ≤ R.locals)
    (hrec : ∃ cellB : Cell, H[b]? = some cellB ∧ cellB.vm.isStatics = false ∧ s.vm.findClass y.cls = some cellB.cls) (hpre : ∀ U : State, U.heap = H → s.WarmedH U.vm → Pz D t z sa ws (.ref b :: As) (Value.ref b :: As).toArray U)
    (hn : As.length = n) (hsize : ls.size = nL) (hst : st0 = As.reverse ++ .ref b :: rest) (hW : (rest.map fun v => v.category).sum ≤ 8) (hdg : decode cc pc = .ok (.invokevirtual index, 3)) (hroom : cells + rm.cells ≤ R.cells ∧ slots + rm.slots ≤ R.slots) (hS : va_S (Az z) s.heap H locs)
    (kx : ∀ (E : String) (ce : Cell) (q : Addr) (u : va_W) (H1 : Heap) (locs1 : List Loc), xp E u → va_P D Cl u H1 → va_D (Az z) u → va_S (Az z) s.heap H1 locs1 → H1[q]? = some ce → ce.vm = .none → s.vm.findClass E = some ce.cls → vx_W p l e R s m args below meth c H1 locs1 (cells + (kc u + 1)) (slots + (ks u + 6)) Q (F0 m pc ls rest) q)
    (kk : ∀ (v : Option Value) (u : va_W) (H1 : Heap) (locs1 : List Loc), post v u → va_P D Cl u H1 → va_D (Az z) u → va_S (Az z) s.heap H1 locs1 → W p l e R s m args below meth c H1 locs1 (cells + kc u) (slots + ks u) Q (F0 m (pc + 3) ls (v.toList ++ rest))) :
    W p l e R s m args below meth c H locs cells slots Q (F0 m pc ls st0) := by
  obtain ⟨hx, hb, hml, ho, hts⟩ := S
  obtain ⟨cellB, hcB, hoB, hclB⟩ := hrec
  intro T hT X
  have hK : vx_Back l R p e below s args y 3 8 (mu_Pre R rm D t z sa ws (.ref b :: As)) (mu_Post D t z post kc ks) (mu_PostX D t z xp kc ks) :=
    mu_back (maxL := maxL) hM hR.1 hR.2 (mu_wd hts (gd_I hc)) (mu_ini hts h4) (fun a' U mk hW hn => by
      obtain ⟨methY, cY, q1, q2, -, q3, -⟩ := Cond.code_spec hn (word_at (a' := a') hW (WS_good hc) (hts _ hc))
      exact ⟨methY, cY, q1, q2, q3⟩)
  exact mu_two (av := .ref b :: As) hT hS (vx_callV X hx (C := y.cls) (bytes := bytes) (maxL := maxL) (ret := ret) ho (hts _ h1) (hts _ h2) (hts _ h3) (hts _ hc) ⟨hd.1, hd.2.1⟩ hK (by rw [hT]; exact hcB) hoB hclB (g := F0 m pc ls st0) rfl (hsize.trans hml.symm) (argsL := As) (rest := rest) (fun sig h => hn.trans (mu_len hd.2.2 sig h)) hst (by show 2 * 0 + _ ≤ 8; omega) (by rw [hb]; exact hdg)
    (fun vm₁ hW₁ => ⟨hroom.1, hroom.2, hpre (T.setVm vm₁) hT hW₁⟩)) kx kk
/-- invokestatic of a method with a table of its own -/
theorem mu_SX {hh : List (Nat × Nat × Nat × Nat)} (S : CallFix p m c cc nL s args WS own) (hM : Mu l y (Cond.codeWith y bytes maxL ret hh :: WS) rm D t z sa ws As post xp kc ks)
    (h1 : Cond.methodLink own index y ∈ WS) (h2 : Cond.static y ∈ WS) (h4 : Cond.initialized y.cls ∈ WS) (hc : Cond.codeWith y bytes maxL ret hh ∈ WS)
    (hd : y.cls ≠ "java/lang/invoke/MethodHandle" ∧ y.cls ≠ "java/lang/invoke/VarHandle" ∧ (parseMethodDescriptor y.desc).map (fun d => d.parameters.length) = some n) (hR : rm.frames + 1 ≤ R.frames ∧ 8 + (maxL + 11) + rm.locals ≤ R.locals)
    (hpre : ∀ U : State, U.heap = H → s.WarmedH U.vm → Pz D t z sa ws As As.toArray U)
    (hn : As.length = n) (hsize : ls.size = nL) (hst : st0 = As.reverse ++ rest) (hW : (rest.map fun v => v.category).sum ≤ 8) (hdg : decode cc pc = .ok (.invokestatic index, 3)) (hroom : cells + rm.cells ≤ R.cells ∧ slots + rm.slots ≤ R.slots) (hS : va_S (Az z) s.heap H locs)
    (kx : ∀ (E : String) (ce : Cell) (q : Addr) (u : va_W) (H1 : Heap) (locs1 : List Loc), xp E u → va_P D Cl u H1 → va_D (Az z) u → va_S (Az z) s.heap H1 locs1 → H1[q]? = some ce → ce.vm = .none → s.vm.findClass E = some ce.cls → vx_W p l e R s m args below meth c H1 locs1 (cells + (kc u + 1)) (slots + (ks u + 6)) Q (F0 m pc ls rest) q)
    (kk : ∀ (v : Option Value) (u : va_W) (H1 : Heap) (locs1 : List Loc), post v u → va_P D Cl u H1 → va_D (Az z) u → va_S (Az z) s.heap H1 locs1 → W p l e R s m args below meth c H1 locs1 (cells + kc u) (slots + ks u) Q (F0 m (pc + 3) ls (v.toList ++ rest))) :
    W p l e R s m args below meth c H locs cells slots Q (F0 m pc ls st0) := by
  obtain ⟨hx, hb, hml, ho, hts⟩ := S
  intro T hT X
  have hG : GoodIn WS (Cond.codeWith y bytes maxL ret hh :: WS) := fun w h => (List.mem_cons.mp h).elim (fun e => by rw [e]; exact ⟨hc, WS_good hc⟩) (fun h => ⟨h, WS_good h⟩)
  have hK : vx_Back l R p e below s args y 3 8 (mu_Pre R rm D t z sa ws As) (mu_Post D t z post kc ks) (mu_PostX D t z xp kc ks) :=
    mu_back (maxL := maxL) hM hR.1 hR.2 (mu_wd hts hG) (mu_ini hts h4) (fun a' U mk hW hn => by
      obtain ⟨m9, methY, cY, q0, q1, q2, -, q3, -⟩ := Cond.codeWith_spec (word_at (a' := a') hW (WS_good hc) (hts _ hc))
      cases Option.some.inj (q0.symm.trans hn)
      exact ⟨methY, cY, q1, q2, q3⟩)
  exact mu_two (av := As) hT hS (vx_callSX X hx (hh := hh) (bytes := bytes) (maxL := maxL) (ret := ret) ho (hts _ h1) (hts _ h2) (hts _ h4) (hts _ hc) ⟨hd.1, hd.2.1⟩ hK (g := F0 m pc ls st0) rfl (hsize.trans hml.symm) (argsL := As) (rest := rest) (fun sig h => hn.trans (mu_len hd.2.2 sig h)) hst (by show 2 * 0 + _ ≤ 8; omega) (by rw [hb]; exact hdg)
    (fun vm₁ hW₁ => ⟨hroom.1, hroom.2, hpre (T.setVm vm₁) hT hW₁⟩)) kx kk
/-- what a body owes at its end -/
def mu_MQ (below : List Frame) (D : va_G) (t : Nat → ClassId) (z : Nat) (post : Option Value → va_W → Prop) (xp : String → va_W → Prop) (kc ks : va_W → Nat) (a : Array Value) (s : State) : State → Prop := fun T => ∃ o, T.status = .running ∧ Ended T below o ∧ mu_Q D t z post xp kc ks a s o T
def mu_R (D : va_G) (t : Nat → ClassId) (z : Nat) (u : va_W) (v : Option Value) : Array Value → State → Outcome → State → Prop := fun _ st o T => o = .returned v ∧ Wd D t z u T ∧ va_F (Az z) st T
theorem mu_end {u : va_W} {v : Option Value} {g : JFrame} (hp : post v u) (hc : cells ≤ kc u) (hs : slots ≤ ks u) (k : W p l e R s m args below meth c H locs (kc u) (ks u) (MQ below (mu_R D t z u v) args s (kc u) (ks u) (Az z)) g) : W p l e R s m args below meth c H locs cells slots (mu_MQ below D t z post xp kc ks args s) g := by
  refine W.widen hc hs (W_imp (fun T h => ?_) k)
  obtain ⟨o, h1, h2, ⟨rfl, h3, h4⟩, L, h5, h6⟩ := h
  exact ⟨_, h1, h2, Or.inl ⟨v, u, L, rfl, hp, h3, h4, h5, h6⟩⟩
theorem mu_ofW {wd wd' : List Cond} (hy : plainName y.cls = true) (hw : wd = Cond.code y cc maxL ret :: wd')
    (body : ∀ p e s m args below meth c s₁, BodyLoose p l y (headSpec wd rm) cc maxL ret e s m args below meth c s₁ → c.maxLocals = maxL → (∀ x ∈ c.exceptionTable.toList, False) → Pz D t z sa ws av args s →
      W p l e (headSpec wd rm).room s m args below meth c s.heap [] 0 0 (mu_MQ below D t z post xp kc ks args s) (entryFrame m args maxL)) : Mu l y wd rm D t z sa ws av post xp kc ks := by
  refine MetFree.of_bodyS (code := cc) (maxLocals := maxL) (ret := ret) hy ?_ ?_
  · intro args s m h hn
    obtain ⟨meth, c, h1, h2, h3, h4, h5, h6, -, -⟩ := Cond.code_spec hn (atoms_spec (ws := wd) h _ (by rw [hw]; exact List.mem_cons_self))
    exact ⟨meth, c, h1, h2, h3, h4, h5, h6⟩
  · intro p e s m args below meth c s₁ B hml hP _
    have hh0 : s₁.heap = s.heap := by rw [B.state]; rfl
    have hno := B.noHandlers (atoms_spec (ws := wd) B.pre _ (by rw [hw]; exact List.mem_cons_self))
    obtain ⟨t2, a1, o, b1, b2, b3⟩ := body p e s m args below meth c s₁ B hml (fun x hx => by
      have h9 : c.exceptionTable = #[] := by simpa using hno
      rw [h9] at hx
      cases hx) hP s₁ hh0 (Stand.of_body B)
    exact ⟨t2, o, a1, b1, b2, b3⟩
theorem mu_ofWH {wd wd' : List Cond} {hh : List (Nat × Nat × Nat × Nat)} (hy : plainName y.cls = true) (hw : wd = Cond.codeWith y cc maxL ret hh :: wd')
    (body : ∀ p e s m args below meth c s₁, BodyLoose p l y (headSpec wd rm) cc maxL ret e s m args below meth c s₁ → c.maxLocals = maxL → Pz D t z sa ws av args s →
      W p l e (headSpec wd rm).room s m args below meth c s.heap [] 0 0 (mu_MQ below D t z post xp kc ks args s) (entryFrame m args maxL)) : Mu l y wd rm D t z sa ws av post xp kc ks := by
  refine MetFree.of_bodyS (code := cc) (maxLocals := maxL) (ret := ret) hy ?_ ?_
  · intro args s m h hn
    obtain ⟨m9, meth, c, hn9, h1, h2, h3, h4, -, h5, h6, -⟩ := Cond.codeWith_spec (atoms_spec (ws := wd) h _ (by rw [hw]; exact List.mem_cons_self))
    cases hn.symm.trans hn9
    exact ⟨meth, c, h1, h2, h3, h4, h5, h6⟩
  · intro p e s m args below meth c s₁ B hml hP _
    have hh0 : s₁.heap = s.heap := by rw [B.state]; rfl
    obtain ⟨t2, a1, o, b1, b2, b3⟩ := body p e s m args below meth c s₁ B hml hP s₁ hh0 (Stand.of_body B)
    exact ⟨t2, o, a1, b1, b2, b3⟩
/-- a throw -/
theorem mu_th {u : va_W} {cls tx : String} {ik is ic : Nat} (hx : p.tables.exec = Jvm.exec) (hb : c.code = cc) (hl : l.stackTraces = false) (hown : s.vm.findClass R_S = some m.cls) (hts : ∀ w ∈ WS, w.before args s = true) (hlocks : meth.locks = false) (hno : ∀ x ∈ c.exceptionTable.toList, False)
    (hP : va_P D Cl u H) (hK : va_K D Cl (Ty t) s) (hD : va_D (Az z) u) (hz : z ≤ s.heap.size) (hM : Am z sa s) (hS : va_S (Az z) s.heap H locs) (hsize : ls.size = c.maxLocals) (si : Site cls tx ik is ic)
    (d0 : decode cc pc = .ok (.new ik, 3)) (d3 : decode cc (pc + 3) = .ok (.dup, 1)) (d4 : decode cc (pc + 4) = .ok (.ldc is, 2)) (d6 : decode cc (pc + 6) = .ok (.invokespecial ic, 3)) (d9 : decode cc (pc + 9) = .ok (.athrow, 1))
    (hRf : 5 < R.frames) (hRl : (rest.map fun v => v.category).sum + 82 ≤ R.locals) (hRc : cells + 1 ≤ R.cells) (hRs : slots + 6 ≤ R.slots) (hc : cells ≤ kc u) (hs : slots ≤ ks u) (hxp : xp cls u) :
    W p l e R s m args below meth c H locs cells slots (mu_MQ below D t z post xp kc ks args s) (F0 m pc ls rest) := by
  refine W_imp (fun T h => ?_) (th_S (Qc := Qno) (mc := kc u + 1) (ms := ks u + 6) hx hb hl hown hts hlocks hno hP hK hD hz hM hS hsize si d0 d3 d4 d6 d9 hRf hRl hRc hRs (by omega) (by omega))
  obtain ⟨o, h1, h2, h3⟩ := h
  rcases h3 with ⟨h3, -⟩ | ⟨q, rfl, E, ce, L, ⟨u9, rfl, ⟨rfl, hWd⟩, hF⟩, hce, hcv, hcl, hW, hsm, hL⟩
  · exact h3.elim
  · exact ⟨_, h1, h2, Or.inr ⟨q, E, ce, u9, L, rfl, hxp, hWd, hF, hce, hcv, hcl, hW, hsm, hL⟩⟩
/-- what a callee threw goes on to the caller -/
theorem mu_out {u : va_W} {E : String} {ce : Cell} {q : Addr} (hno : ∀ x ∈ c.exceptionTable.toList, False) (hlocks : meth.locks = false) (hcell : H[q]? = some ce) (hv : ce.vm = .none) (hcl : s.vm.findClass E = some ce.cls)
    (hP : va_P D Cl u H) (hK : va_K D Cl (Ty t) s) (hD : va_D (Az z) u) (hz : z ≤ s.heap.size) (hS : va_S (Az z) s.heap H locs) (hxp : xp E u) (hc : cells ≤ kc u + 1) (hs : slots ≤ ks u + 6) :
    vx_W p l e R s m args below meth c H locs cells slots (mu_MQ below D t z post xp kc ks args s) (F0 m pc ls rest) q := by
  intro T hT X
  obtain ⟨t2, a1, o, h1, h2, h3⟩ := vx_out (XC := Xw D t z E u) (Qc := Qno) (free := Az z) (below := below) (ls := ls) (rest := rest) (pc := pc) (mc := kc u + 1) (ms := ks u + 6) (fun x hx => (hno x hx).elim) hlocks hcell hv hcl
    (fun t9 ht9 hv9 => ⟨u, rfl, ⟨rfl, by rw [ht9]; exact hP, va_K.moved hv9 hK, hD, by rw [ht9]; exact Nat.le_trans hz hS.1⟩, hS.F ht9⟩) hS.2.2 hc hs T hT X
  refine ⟨t2, a1, o, h1, h2, ?_⟩
  rcases h3 with ⟨h3, -⟩ | ⟨q, rfl, E, ce, L, ⟨u9, rfl, ⟨rfl, hWd⟩, hF⟩, hce, hcv, hcl, hW, hsm, hL⟩
  · exact h3.elim
  · exact Or.inr ⟨q, E, ce, u9, L, rfl, hxp, hWd, hF, hce, hcv, hcl, hW, hsm, hL⟩
end MU2
end
section
/-! how many places for blocks are not yet filled: what making them may still cost -/
def cnt (g : Nat → Option Nat) : Nat → Nat
  | 0 => 0
  | n + 1 => cnt g n + (if g n = none then 1 else 0)
theorem cnt_congr {g h : Nat → Option Nat} : ∀ {n : Nat}, (∀ i, i < n → g i = h i) → cnt g n = cnt h n
  | 0, _ => rfl
  | n + 1, e => by
    show cnt g n + _ = cnt h n + _
    rw [cnt_congr (fun i hi => e i (Nat.lt_succ_of_lt hi)), e n (Nat.lt_succ_self n)]
theorem cnt_out {g : Nat → Option Nat} {i n : Nat} {v : Option Nat} (h : n ≤ i) : cnt (va_up g i v) n = cnt g n := cnt_congr (fun j hj => va_up_ne _ _ (by omega))
theorem cnt_fill {g : Nat → Option Nat} {i b : Nat} (hg : g i = none) : ∀ {n : Nat}, i < n → cnt (va_up g i (some b)) n + 1 = cnt g n
  | 0, h => absurd h (Nat.not_lt_zero i)
  | n + 1, h => by
    show cnt (va_up g i (some b)) n + _ + 1 = cnt g n + _
    by_cases e : i = n
    · subst e
      rw [cnt_out (Nat.le_refl i), va_up_self, hg]
      simp
    · have := cnt_fill (b := b) hg (n := n) (by omega)
      rw [va_up_ne _ _ (by omega : n ≠ i)]
      omega
theorem cnt_same {g : Nat → Option Nat} {i : Nat} {v : Option Nat} (hg : g i = none ↔ v = none) : ∀ {n : Nat}, cnt (va_up g i v) n = cnt g n
  | 0 => rfl
  | n + 1 => by
    show cnt (va_up g i v) n + _ = cnt g n + _
    rw [cnt_same hg]
    by_cases e : n = i
    · subst e
      rw [va_up_self]
      by_cases h : g n = none
      · rw [if_pos h, if_pos (hg.mp h)]
      · rw [if_neg h, if_neg (fun q => h (hg.mpr q))]
    · rw [va_up_ne _ _ e]
theorem cnt_swap {g h : Nat → Option Nat} {i : Nat} : ∀ {n : Nat}, i < n → cnt (va_up g i (h i)) n + cnt (va_up h i (g i)) n = cnt g n + cnt h n
  | 0, q => absurd q (Nat.not_lt_zero i)
  | n + 1, q => by
    show (cnt (va_up g i (h i)) n + _) + (cnt (va_up h i (g i)) n + _) = (cnt g n + _) + (cnt h n + _)
    by_cases e : i = n
    · subst e
      rw [cnt_out (Nat.le_refl i), cnt_out (Nat.le_refl i), va_up_self, va_up_self]
      omega
    · have := cnt_swap (g := g) (h := h) (n := n) (i := i) (by omega)
      rw [va_up_ne _ _ (by omega : n ≠ i), va_up_ne _ _ (by omega : n ≠ i)]
      omega
theorem cnt_le {g : Nat → Option Nat} : ∀ {n : Nat}, cnt g n ≤ n
  | 0 => Nat.le_refl 0
  | n + 1 => by
    show cnt g n + _ ≤ n + 1
    have := cnt_le (g := g) (n := n)
    by_cases h : g n = none
    · rw [if_pos h]; omega
    · rw [if_neg h]; omega
def nulA : Option (Nat × va_E) → Nat
  | some (_, .inl (_, n, .inr (.inr (.inr (.inr g))))) => cnt g n
  | _ => 0
/-- the places of the tables of blocks -/
def Mds : List Nat := [3, 6, 12, 16, 20, 24, 28, 32]
def nul (ws : va_W) : Nat := nulA ws[3]? + nulA ws[6]? + nulA ws[12]? + nulA ws[16]? + nulA ws[20]? + nulA ws[24]? + nulA ws[28]? + nulA ws[32]?
theorem nul_eq {ws u : va_W} (h : ∀ p ∈ Mds, u[p]? = ws[p]?) : nul u = nul ws := by
  unfold nul
  rw [h 3 (by decide), h 6 (by decide), h 12 (by decide), h 16 (by decide), h 20 (by decide), h 24 (by decide), h 28 (by decide), h 32 (by decide)]
theorem nul_ch {ws u : va_W} {d : Int} {p : Nat} (hp : p ∈ Mds) (h : ∀ q ∈ Mds, q ≠ p → u[q]? = ws[q]?) (hd : (nulA u[p]? : Int) + d = nulA ws[p]?) : (nul u : Int) + d = nul ws := by
  unfold nul
  have e : ∀ q ∈ Mds, q ≠ p → nulA u[q]? = nulA ws[q]? := fun q hq hn => by rw [h q hq hn]
  have hp' : p = 3 ∨ p = 6 ∨ p = 12 ∨ p = 16 ∨ p = 20 ∨ p = 24 ∨ p = 28 ∨ p = 32 := by simpa [Mds] using hp
  rcases hp' with rfl | rfl | rfl | rfl | rfl | rfl | rfl | rfl
  · have h1 := e 6 (by decide) (by decide); have h2 := e 12 (by decide) (by decide); have h3 := e 16 (by decide) (by decide); have h4 := e 20 (by decide) (by decide); have h5 := e 24 (by decide) (by decide); have h6 := e 28 (by decide) (by decide); have h7 := e 32 (by decide) (by decide); omega
  · have h1 := e 3 (by decide) (by decide); have h2 := e 12 (by decide) (by decide); have h3 := e 16 (by decide) (by decide); have h4 := e 20 (by decide) (by decide); have h5 := e 24 (by decide) (by decide); have h6 := e 28 (by decide) (by decide); have h7 := e 32 (by decide) (by decide); omega
  · have h1 := e 3 (by decide) (by decide); have h2 := e 6 (by decide) (by decide); have h3 := e 16 (by decide) (by decide); have h4 := e 20 (by decide) (by decide); have h5 := e 24 (by decide) (by decide); have h6 := e 28 (by decide) (by decide); have h7 := e 32 (by decide) (by decide); omega
  · have h1 := e 3 (by decide) (by decide); have h2 := e 6 (by decide) (by decide); have h3 := e 12 (by decide) (by decide); have h4 := e 20 (by decide) (by decide); have h5 := e 24 (by decide) (by decide); have h6 := e 28 (by decide) (by decide); have h7 := e 32 (by decide) (by decide); omega
  · have h1 := e 3 (by decide) (by decide); have h2 := e 6 (by decide) (by decide); have h3 := e 12 (by decide) (by decide); have h4 := e 16 (by decide) (by decide); have h5 := e 24 (by decide) (by decide); have h6 := e 28 (by decide) (by decide); have h7 := e 32 (by decide) (by decide); omega
  · have h1 := e 3 (by decide) (by decide); have h2 := e 6 (by decide) (by decide); have h3 := e 12 (by decide) (by decide); have h4 := e 16 (by decide) (by decide); have h5 := e 20 (by decide) (by decide); have h6 := e 28 (by decide) (by decide); have h7 := e 32 (by decide) (by decide); omega
  · have h1 := e 3 (by decide) (by decide); have h2 := e 6 (by decide) (by decide); have h3 := e 12 (by decide) (by decide); have h4 := e 16 (by decide) (by decide); have h5 := e 20 (by decide) (by decide); have h6 := e 24 (by decide) (by decide); have h7 := e 32 (by decide) (by decide); omega
  · have h1 := e 3 (by decide) (by decide); have h2 := e 6 (by decide) (by decide); have h3 := e 12 (by decide) (by decide); have h4 := e 16 (by decide) (by decide); have h5 := e 20 (by decide) (by decide); have h6 := e 24 (by decide) (by decide); have h7 := e 28 (by decide) (by decide); omega
end
section
/-! the class's shape: cells at fixed places, blocks behind place 42 -/
abbrev qA (g : Nat → Option Nat) : (Nat → Int32) ⊕ (Nat → Int64) ⊕ (Nat → UInt32) ⊕ (Nat → UInt64) ⊕ (Nat → Option Nat) := .inr (.inr (.inr (.inr g)))
abbrev cX (a : Nat → Nat) (v : Nat → Int32) : Nat × va_E := (a 0, .inr (5, [.ref (a 1), .ref (a 4), .ref (a 7), .ref (a 8), .ref (a 9), .int (v 0), .int (v 1), .int (v 2), .int (v 3), .int (v 4)]))
abbrev cY1 (a : Nat → Nat) (v : Nat → Int32) : Nat × va_E := (a 1, .inr (3, [.ref (a 2), .int (v 5)]))
abbrev cY4 (a : Nat → Nat) (v : Nat → Int32) : Nat × va_E := (a 4, .inr (3, [.ref (a 5), .int (v 6)]))
abbrev cU (a : Nat → Nat) (v : Nat → Int32) : Nat × va_E := (a 8, .inr (2, [.int (v 7), .int (v 8), .int (v 9), .int (v 10)]))
abbrev cZ (a : Nat → Nat) (v : Nat → Int32) (j : Nat) : Nat × va_E := (a (10 + 4 * j), .inr (4, [.ref (a (11 + 4 * j)), .ref (a (13 + 4 * j)), .int (v (11 + j))]))
def Nn (pm : Nat) : Nat := if pm = 6 then 781 else 768
abbrev cB (b c : Nat) : Nat × va_E := (b, .inr (0, [.ref c]))
abbrev cA (t : Nat → ClassId) (c : Nat) (f : Nat → Int32) : Nat × va_E := (c, .inl (t 0, 256, .inl f))
abbrev cM (a : Nat → Nat) (t : Nat → ClassId) (pm : Nat) (g : Nat → Option Nat) : Nat × va_E := (a pm, .inl (t 2, Nn pm, qA g))
def SV (a : Nat → Nat) (t : Nat → ClassId) (v : Nat → Int32) (ws : va_W) : Prop :=
  ws[0]? = some (cX a v) ∧ ws[1]? = some (cY1 a v) ∧ ws[2]? = some (a 2, .inr (1, [.ref (a 3)])) ∧ ws[4]? = some (cY4 a v) ∧ ws[5]? = some (a 5, .inr (1, [.ref (a 6)])) ∧
  (∃ gl, ws[7]? = some (a 7, .inl (t 3, 6, qA gl)) ∧ ∀ j, j < 6 → gl j = some (a (10 + 4 * j))) ∧ ws[8]? = some (cU a v) ∧ (∃ r, ws[9]? = some (a 9, .inl (t 0, 260, .inl r))) ∧
  (∀ j, j < 6 → ws[10 + 4 * j]? = some (cZ a v j)) ∧ (∀ j, j < 6 → ws[11 + 4 * j]? = some (a (11 + 4 * j), .inr (1, [.ref (a (12 + 4 * j))]))) ∧ (∀ j, j < 6 → ∃ h, ws[13 + 4 * j]? = some (a (13 + 4 * j), .inl (t 1, 768, .inl h)) ∧ ∀ i, h i = 0 ∨ h i = 1)
def Bk (t : Nat → ClassId) (k0 : Nat) (ws : va_W) (b : Nat) (sp : Prop) : Prop := ∃ (k c k' : Nat) (f : Nat → Int32), 42 ≤ k ∧ 42 ≤ k' ∧ ws[k]? = some (b, .inr (0, [.ref c])) ∧ ws[k']? = some (c, .inl (t 0, 256, .inl f)) ∧ (k' = k0 ↔ sp)
def BI (a : Nat → Nat) (t : Nat → ClassId) (k0 : Nat) (ws : va_W) : Prop := ∀ pm, pm ∈ Mds → ∃ g, ws[pm]? = some (a pm, .inl (t 2, Nn pm, qA g)) ∧ ∀ i, i < Nn pm → ∀ b, g i = some b → Bk t k0 ws b (pm = 6 ∧ i = 0)
def Bd (v : Nat → Int32) : Prop := (∃ M : Nat, M ≤ 5 ∧ v 2 = nI M) ∧ (∃ C : Nat, C ≤ 768 ∧ v 3 = nI C) ∧ (∃ F : Nat, F ≤ 196608 ∧ v 5 = nI F) ∧ (∃ J : Nat, J ≤ 199684 ∧ v 6 = nI J) ∧ (∃ B : Nat, B ≤ 300 ∧ v 9 = nI B) ∧ (∀ j, j < 6 → ∃ P : Nat, P ≤ 768 ∧ v (11 + j) = nI P) ∧ (v 10 = 0 ∨ v 10 = 1)
/-- the bytes of a number, as the class lays them -/
def byt (n i : Nat) : Int32 := (nI n >>> (nI (8 * i) &&& 31)).toInt8.toInt32
/-- the journal's first block is there, its first four bytes are a number -/
def JB (a : Nat → Nat) (t : Nat → ClassId) (k0 : Nat) (ws : va_W) : Prop := 42 ≤ k0 ∧ (∃ (g : Nat → Option Nat) (b : Nat), ws[6]? = some (a 6, .inl (t 2, Nn 6, qA g)) ∧ g 0 = some b) ∧ ∃ (c : Nat) (f : Nat → Int32) (n : Nat), ws[k0]? = some (c, .inl (t 0, 256, .inl f)) ∧ n ≤ 768 ∧ ∀ i, i < 4 → f i = byt n i
def JN (a : Nat → Nat) (t : Nat → ClassId) (k0 : Nat) (v : Nat → Int32) (ws : va_W) : Prop := 4 ≤ v 6 → JB a t k0 ws
/-- what byte arrays hold are bytes -/
def BF (t : Nat → ClassId) (ws : va_W) : Prop := ∀ (k c L : Nat) (f : Nat → Int32), k = 9 ∨ 42 ≤ k → ws[k]? = some (c, .inl (t 0, L, .inl f)) → sb_Fit f
theorem BF.fix {t : Nat → ClassId} {ws : va_W} {p : Nat} {c : Nat × va_E} (h : BF t ws) (hp : p < 34) (h9 : p ≠ 9) : BF t (ws.set p c) := fun k c9 L f g q => by
  rw [List.getElem?_set_ne (by omega)] at q
  exact h k c9 L f g q
theorem BF.put {t : Nat → ClassId} {ws : va_W} {p c0 L0 : Nat} {f0 f1 : Nat → Int32} (h : BF t ws) (he : ws[p]? = some (c0, .inl (t 0, L0, .inl f0))) (hf : sb_Fit f1) : BF t (ws.set p (c0, .inl (t 0, L0, .inl f1))) := fun k c9 L f g q => by
  by_cases e : p = k
  · subst e
    rw [lk_set he] at q
    cases q
    exact hf
  · rw [List.getElem?_set_ne e] at q
    exact h k c9 L f g q
def Iv (a : Nat → Nat) (t : Nat → ClassId) (k0 : Nat) (v : Nat → Int32) (ws : va_W) : Prop := SV a t v ws ∧ Bd v ∧ BI a t k0 ws ∧ JN a t k0 v ws ∧ 42 ≤ ws.length ∧ (k0 = 0 ∨ 42 ≤ k0) ∧ k0 < ws.length ∧ BF t ws
/-- the model's cells stay, byte arrays (the record, blocks) stay byte arrays -/
def Fr (t : Nat → ClassId) (ws u : va_W) : Prop := ws.length ≤ u.length ∧ (∀ p, 34 ≤ p → p < 42 → u[p]? = ws[p]?) ∧ ∀ (k c L : Nat) (f : Nat → Int32), k = 9 ∨ 42 ≤ k → ws[k]? = some (c, .inl (t 0, L, .inl f)) → ∃ f', u[k]? = some (c, .inl (t 0, L, .inl f'))
theorem Fr.rf {t : Nat → ClassId} {ws : va_W} : Fr t ws ws := ⟨Nat.le_refl _, fun _ _ _ => rfl, fun k c L f _ h => ⟨f, h⟩⟩
theorem Fr.trans {t : Nat → ClassId} {ws u w : va_W} (h : Fr t ws u) (h2 : Fr t u w) : Fr t ws w := ⟨Nat.le_trans h.1 h2.1, fun p h1 h3 => (h2.2.1 p h1 h3).trans (h.2.1 p h1 h3), fun k c L f g q => by
  obtain ⟨f1, q1⟩ := h.2.2 k c L f g q
  exact h2.2.2 k c L f1 g q1⟩
theorem Fr.set {t : Nat → ClassId} {ws u : va_W} {p : Nat} {c : Nat × va_E} (h : Fr t ws u) (hp : p < 34) (h9 : p ≠ 9) : Fr t ws (u.set p c) := ⟨by rw [List.length_set]; exact h.1, fun q h1 h2 => by rw [List.getElem?_set_ne (by omega)]; exact h.2.1 q h1 h2, fun k c9 L f g q => by
  obtain ⟨f1, q1⟩ := h.2.2 k c9 L f g q
  exact ⟨f1, lk_ne q1 (by omega)⟩⟩
theorem Fr.setA {t : Nat → ClassId} {ws u : va_W} {p c0 L0 : Nat} {f0 f1 : Nat → Int32} (h : Fr t ws u) (he : u[p]? = some (c0, .inl (t 0, L0, .inl f0))) (hp : p < 34 ∨ 42 ≤ p) : Fr t ws (u.set p (c0, .inl (t 0, L0, .inl f1))) := ⟨by rw [List.length_set]; exact h.1, fun q h1 h2 => by rw [List.getElem?_set_ne (by omega)]; exact h.2.1 q h1 h2, fun k c9 L f g q => by
  obtain ⟨f9, q1⟩ := h.2.2 k c9 L f g q
  by_cases e : p = k
  · subst e
    cases he.symm.trans q1
    exact ⟨f1, lk_set he⟩
  · exact ⟨f9, lk_ne q1 e⟩⟩
theorem Fr.push {t : Nat → ClassId} {ws u c : va_W} (h : Fr t ws u) (hl : 42 ≤ ws.length) : Fr t ws (u ++ c) := ⟨by rw [List.length_append]; exact Nat.le_trans h.1 (Nat.le_add_right _ _), fun q h1 h2 => by rw [List.getElem?_append_left (by have := h.1; omega)]; exact h.2.1 q h1 h2, fun k c9 L f g q => by
  obtain ⟨f1, q1⟩ := h.2.2 k c9 L f g q
  exact ⟨f1, lk_push q1⟩⟩
theorem mds_lt {p : Nat} (h : p ∈ Mds) : p < 34 := by
  have hp : p = 3 ∨ p = 6 ∨ p = 12 ∨ p = 16 ∨ p = 20 ∨ p = 24 ∨ p = 28 ∨ p = 32 := by simpa [Mds] using h
  omega
theorem mds_cases {p : Nat} (h : p ∈ Mds) : p = 3 ∨ p = 6 ∨ ∃ j, j < 6 ∧ p = 12 + 4 * j := by
  have hp : p = 3 ∨ p = 6 ∨ p = 12 ∨ p = 16 ∨ p = 20 ∨ p = 24 ∨ p = 28 ∨ p = 32 := by simpa [Mds] using h
  rcases hp with h | h | h | h | h | h | h | h
  · exact Or.inl h
  · exact Or.inr (Or.inl h)
  · exact Or.inr (Or.inr ⟨0, by omega, by omega⟩)
  · exact Or.inr (Or.inr ⟨1, by omega, by omega⟩)
  · exact Or.inr (Or.inr ⟨2, by omega, by omega⟩)
  · exact Or.inr (Or.inr ⟨3, by omega, by omega⟩)
  · exact Or.inr (Or.inr ⟨4, by omega, by omega⟩)
  · exact Or.inr (Or.inr ⟨5, by omega, by omega⟩)
theorem mds_j {j : Nat} (h : j < 6) : 12 + 4 * j ∈ Mds := by
  rcases (show j = 0 ∨ j = 1 ∨ j = 2 ∨ j = 3 ∨ j = 4 ∨ j = 5 by omega) with rfl | rfl | rfl | rfl | rfl | rfl <;> decide
theorem nul_set {ws : va_W} {p : Nat} {c : Nat × va_E} (h : p ∉ Mds) : nul (ws.set p c) = nul ws := nul_eq (fun q hq => List.getElem?_set_ne (fun e => h (by rw [e]; exact hq)))
theorem nul_push {ws c : va_W} (h : 34 ≤ ws.length) : nul (ws ++ c) = nul ws := nul_eq (fun q hq => List.getElem?_append_left (by have := mds_lt hq; omega))
theorem Bk.fix {t : Nat → ClassId} {k0 b p : Nat} {ws : va_W} {sp : Prop} {c : Nat × va_E} (h : Bk t k0 ws b sp) (hp : p < 34) : Bk t k0 (ws.set p c) b sp := by
  obtain ⟨k, c9, k', f, h1, h2, h3, h4, h5⟩ := h
  exact ⟨k, c9, k', f, h1, h2, lk_ne h3 (by omega), lk_ne h4 (by omega), h5⟩
theorem Bk.push {t : Nat → ClassId} {k0 b : Nat} {ws c : va_W} {sp : Prop} (h : Bk t k0 ws b sp) : Bk t k0 (ws ++ c) b sp := by
  obtain ⟨k, c9, k', f, h1, h2, h3, h4, h5⟩ := h
  exact ⟨k, c9, k', f, h1, h2, lk_push h3, lk_push h4, h5⟩
/-- another byte array is written: all blocks are still such -/
theorem Bk.put {t : Nat → ClassId} {k0 b p c0 : Nat} {ws : va_W} {sp : Prop} {f0 f1 : Nat → Int32} (h : Bk t k0 ws b sp) (he : ws[p]? = some (c0, .inl (t 0, 256, .inl f0))) : Bk t k0 (ws.set p (c0, .inl (t 0, 256, .inl f1))) b sp := by
  obtain ⟨k, c9, k', f, h1, h2, h3, h4, h5⟩ := h
  have hk : p ≠ k := fun e => by rw [e] at he; cases he.symm.trans h3
  by_cases e : p = k'
  · subst e
    cases he.symm.trans h4
    exact ⟨k, _, p, f1, h1, h2, lk_ne h3 hk, lk_set h4, h5⟩
  · exact ⟨k, c9, k', f, h1, h2, lk_ne h3 hk, lk_ne h4 e, h5⟩
theorem BI.fix {a : Nat → Nat} {t : Nat → ClassId} {k0 p : Nat} {ws : va_W} {c : Nat × va_E} (h : BI a t k0 ws) (hp : p < 34) (hm : p ∉ Mds) : BI a t k0 (ws.set p c) := fun pm hpm => by
  obtain ⟨g, h1, h2⟩ := h pm hpm
  exact ⟨g, lk_ne h1 (fun e => hm (by rw [e]; exact hpm)), fun i hi b hb => (h2 i hi b hb).fix hp⟩
theorem BI.put {a : Nat → Nat} {t : Nat → ClassId} {k0 p c0 : Nat} {ws : va_W} {f0 f1 : Nat → Int32} (h : BI a t k0 ws) (he : ws[p]? = some (c0, .inl (t 0, 256, .inl f0))) (hp : 42 ≤ p) : BI a t k0 (ws.set p (c0, .inl (t 0, 256, .inl f1))) := fun pm hpm => by
  obtain ⟨g, h1, h2⟩ := h pm hpm
  exact ⟨g, lk_ne h1 (by have := mds_lt hpm; omega), fun i hi b hb => (h2 i hi b hb).put he⟩
theorem JB.fix {a : Nat → Nat} {t : Nat → ClassId} {k0 p : Nat} {ws : va_W} {c : Nat × va_E} (h : JB a t k0 ws) (hp : p < 34) (h6 : p ≠ 6) : JB a t k0 (ws.set p c) := by
  obtain ⟨hk, ⟨g, b, g1, g2⟩, c9, f, n, q1, q2⟩ := h
  exact ⟨hk, ⟨g, b, lk_ne g1 h6, g2⟩, c9, f, n, lk_ne q1 (by omega), q2⟩
theorem Iv.bf {a : Nat → Nat} {t : Nat → ClassId} {k0 : Nat} {v : Nat → Int32} {ws : va_W} (h : Iv a t k0 v ws) : BF t ws := h.2.2.2.2.2.2.2
theorem Iv.fix {a : Nat → Nat} {t : Nat → ClassId} {k0 p : Nat} {v v' : Nat → Int32} {ws : va_W} {c : Nat × va_E} (h : Iv a t k0 v ws) (hp : p < 34) (hm : p ∉ Mds) (hs : SV a t v' (ws.set p c)) (hb : Bd v') (h6 : 4 ≤ v' 6 → 4 ≤ v 6) (hbf : BF t (ws.set p c)) : Iv a t k0 v' (ws.set p c) := by
  obtain ⟨-, -, h3, h4, h5, h7⟩ := h
  refine ⟨hs, hb, h3.fix hp hm, fun q => ?_, by rw [List.length_set]; exact h5, h7.1, by rw [List.length_set]; exact h7.2.1, hbf⟩
  exact (h4 (h6 q)).fix hp (fun e => hm (by rw [e]; decide))
/-- a field of x -/
theorem Iv.setX {a : Nat → Nat} {t : Nat → ClassId} {k0 : Nat} {v v' : Nat → Int32} {ws : va_W} (h : Iv a t k0 v ws) (hv : ∀ i, 5 ≤ i → v' i = v i) (hM : ∃ M : Nat, M ≤ 5 ∧ v' 2 = nI M) (hC : ∃ C : Nat, C ≤ 768 ∧ v' 3 = nI C) : Iv a t k0 v' (ws.set 0 (cX a v')) := by
  refine h.fix (by decide) (by decide) ?_ ?_ (fun q => by rw [hv 6 (by decide)] at q; exact q) (h.bf.fix (by decide) (by decide))
  · obtain ⟨⟨h0, h1, h2, h4, h5, ⟨gl, h7, hg⟩, h8, ⟨r, h9⟩, hz, hk, hh⟩, -⟩ := h
    refine ⟨lk_set h0, ?_, lk_ne h2 (by decide), ?_, lk_ne h5 (by decide), ⟨gl, lk_ne h7 (by decide), hg⟩, ?_, ⟨r, lk_ne h9 (by decide)⟩, fun j hj => ?_, fun j hj => lk_ne (hk j hj) (by omega), fun j hj => ?_⟩
    · rw [lk_ne h1 (by decide)]; simp only [cY1, hv 5 (by decide)]
    · rw [lk_ne h4 (by decide)]; simp only [cY4, hv 6 (by decide)]
    · rw [lk_ne h8 (by decide)]; simp only [cU, hv 7 (by decide), hv 8 (by decide), hv 9 (by decide), hv 10 (by decide)]
    · rw [lk_ne (hz j hj) (by omega)]; simp only [cZ, hv (11 + j) (by omega)]
    · obtain ⟨h9, e9, e8⟩ := hh j hj
      exact ⟨h9, lk_ne e9 (by omega), e8⟩
  · obtain ⟨-, ⟨-, -, b3, b4, b5, b6⟩, -⟩ := h
    exact ⟨hM, hC, by rw [hv 5 (by decide)]; exact b3, by rw [hv 6 (by decide)]; exact b4, by rw [hv 9 (by decide)]; exact b5, ⟨fun j hj => by rw [hv (11 + j) (by omega)]; exact b6.1 j hj, by rw [hv 10 (by decide)]; exact b6.2⟩⟩
/-- the fuse -/
theorem Iv.setU {a : Nat → Nat} {t : Nat → ClassId} {k0 : Nat} {v v' : Nat → Int32} {ws : va_W} (h : Iv a t k0 v ws) (hv : ∀ i, i < 7 ∨ 11 ≤ i → v' i = v i) (hB : ∃ B : Nat, B ≤ 300 ∧ v' 9 = nI B) (h10 : v' 10 = 0 ∨ v' 10 = 1) : Iv a t k0 v' (ws.set 8 (cU a v')) := by
  refine h.fix (by decide) (by decide) ?_ ?_ (fun q => by rw [hv 6 (by decide)] at q; exact q) (h.bf.fix (by decide) (by decide))
  · obtain ⟨⟨h0, h1, h2, h4, h5, ⟨gl, h7, hg⟩, h8, ⟨r, h9⟩, hz, hk, hh⟩, -⟩ := h
    refine ⟨?_, ?_, lk_ne h2 (by decide), ?_, lk_ne h5 (by decide), ⟨gl, lk_ne h7 (by decide), hg⟩, lk_set h8, ⟨r, lk_ne h9 (by decide)⟩, fun j hj => ?_, fun j hj => lk_ne (hk j hj) (by omega), fun j hj => ?_⟩
    · rw [lk_ne h0 (by decide)]; simp only [cX, hv 0 (by decide), hv 1 (by decide), hv 2 (by decide), hv 3 (by decide), hv 4 (by decide)]
    · rw [lk_ne h1 (by decide)]; simp only [cY1, hv 5 (by decide)]
    · rw [lk_ne h4 (by decide)]; simp only [cY4, hv 6 (by decide)]
    · rw [lk_ne (hz j hj) (by omega)]; simp only [cZ, hv (11 + j) (by omega)]
    · obtain ⟨h9, e9, e8⟩ := hh j hj
      exact ⟨h9, lk_ne e9 (by omega), e8⟩
  · obtain ⟨-, ⟨b1, b2, b3, b4, -, b6⟩, -⟩ := h
    exact ⟨by rw [hv 2 (by decide)]; exact b1, by rw [hv 3 (by decide)]; exact b2, by rw [hv 5 (by decide)]; exact b3, by rw [hv 6 (by decide)]; exact b4, hB, ⟨fun j hj => by rw [hv (11 + j) (by omega)]; exact b6.1 j hj, h10⟩⟩
/-- the file's length -/
theorem Iv.setF {a : Nat → Nat} {t : Nat → ClassId} {k0 F : Nat} {v : Nat → Int32} {ws : va_W} (h : Iv a t k0 v ws) (hF : F ≤ 196608) : Iv a t k0 (upd v 5 (nI F)) (ws.set 1 (cY1 a (upd v 5 (nI F)))) := by
  have hv : ∀ i, i ≠ 5 → upd v 5 (nI F) i = v i := fun i hi => pk_un hi
  refine h.fix (by decide) (by decide) ?_ ?_ (fun q => by rw [hv 6 (by decide)] at q; exact q) (h.bf.fix (by decide) (by decide))
  · obtain ⟨⟨h0, h1, h2, h4, h5, ⟨gl, h7, hg⟩, h8, ⟨r, h9⟩, hz, hk, hh⟩, -⟩ := h
    refine ⟨?_, lk_set h1, lk_ne h2 (by decide), ?_, lk_ne h5 (by decide), ⟨gl, lk_ne h7 (by decide), hg⟩, ?_, ⟨r, lk_ne h9 (by decide)⟩, fun j hj => ?_, fun j hj => lk_ne (hk j hj) (by omega), fun j hj => ?_⟩
    · rw [lk_ne h0 (by decide)]; simp only [cX, hv 0 (by decide), hv 1 (by decide), hv 2 (by decide), hv 3 (by decide), hv 4 (by decide)]
    · rw [lk_ne h4 (by decide)]; simp only [cY4, hv 6 (by decide)]
    · rw [lk_ne h8 (by decide)]; simp only [cU, hv 7 (by decide), hv 8 (by decide), hv 9 (by decide), hv 10 (by decide)]
    · rw [lk_ne (hz j hj) (by omega)]; simp only [cZ, hv (11 + j) (by omega)]
    · obtain ⟨h9, e9, e8⟩ := hh j hj
      exact ⟨h9, lk_ne e9 (by omega), e8⟩
  · obtain ⟨-, ⟨b1, b2, -, b4, b5, b6⟩, -⟩ := h
    exact ⟨by rw [hv 2 (by decide)]; exact b1, by rw [hv 3 (by decide)]; exact b2, ⟨F, hF, pk_us⟩, by rw [hv 6 (by decide)]; exact b4, by rw [hv 9 (by decide)]; exact b5, ⟨fun j hj => by rw [hv (11 + j) (by omega)]; exact b6.1 j hj, by rw [hv 10 (by decide)]; exact b6.2⟩⟩
/-- the journal's length -/
theorem Iv.setJ {a : Nat → Nat} {t : Nat → ClassId} {k0 J : Nat} {v : Nat → Int32} {ws : va_W} (h : Iv a t k0 v ws) (hJ : J ≤ 199684) (hN : 4 ≤ J → JB a t k0 ws) : Iv a t k0 (upd v 6 (nI J)) (ws.set 4 (cY4 a (upd v 6 (nI J)))) := by
  have hv : ∀ i, i ≠ 6 → upd v 6 (nI J) i = v i := fun i hi => pk_un hi
  obtain ⟨⟨h0, h1, h2, h4, h5, ⟨gl, h7, hg⟩, h8, ⟨r, h9⟩, hz, hk, hh⟩, ⟨b1, b2, b3, -, b5, b6⟩, hB, -, hl, hk0⟩ := h
  refine ⟨?_, ?_, hB.fix (by decide) (by decide), fun q => ?_, by rw [List.length_set]; exact hl, hk0.1, by rw [List.length_set]; exact hk0.2.1, hk0.2.2.fix (by decide) (by decide)⟩
  · refine ⟨?_, ?_, lk_ne h2 (by decide), lk_set h4, lk_ne h5 (by decide), ⟨gl, lk_ne h7 (by decide), hg⟩, ?_, ⟨r, lk_ne h9 (by decide)⟩, fun j hj => ?_, fun j hj => lk_ne (hk j hj) (by omega), fun j hj => ?_⟩
    · rw [lk_ne h0 (by decide)]; simp only [cX, hv 0 (by decide), hv 1 (by decide), hv 2 (by decide), hv 3 (by decide), hv 4 (by decide)]
    · rw [lk_ne h1 (by decide)]; simp only [cY1, hv 5 (by decide)]
    · rw [lk_ne h8 (by decide)]; simp only [cU, hv 7 (by decide), hv 8 (by decide), hv 9 (by decide), hv 10 (by decide)]
    · rw [lk_ne (hz j hj) (by omega)]; simp only [cZ, hv (11 + j) (by omega)]
    · obtain ⟨h9, e9, e8⟩ := hh j hj
      exact ⟨h9, lk_ne e9 (by omega), e8⟩
  · exact ⟨by rw [hv 2 (by decide)]; exact b1, by rw [hv 3 (by decide)]; exact b2, by rw [hv 5 (by decide)]; exact b3, ⟨J, hJ, pk_us⟩, by rw [hv 9 (by decide)]; exact b5, ⟨fun j hj => by rw [hv (11 + j) (by omega)]; exact b6.1 j hj, by rw [hv 10 (by decide)]; exact b6.2⟩⟩
  · have q : (4 : Int32) ≤ nI J := by rw [← pk_us (f := v) (k := 6) (x := nI J)]; exact q
    exact (hN ((nI_leI (a := 4) (by decide) (by omega)).mp q)).fix (by decide) (by decide)
/-- a layer's number of pages -/
theorem Iv.setZ {a : Nat → Nat} {t : Nat → ClassId} {k0 P j : Nat} {v : Nat → Int32} {ws : va_W} (h : Iv a t k0 v ws) (hj : j < 6) (hP : P ≤ 768) : Iv a t k0 (upd v (11 + j) (nI P)) (ws.set (10 + 4 * j) (cZ a (upd v (11 + j) (nI P)) j)) := by
  have hv : ∀ i, i ≠ 11 + j → upd v (11 + j) (nI P) i = v i := fun i hi => pk_un hi
  have hm : 10 + 4 * j ∉ Mds := fun q => by rcases mds_cases q with q | q | ⟨_, _, q⟩ <;> omega
  refine h.fix (by omega) hm ?_ ?_ (fun q => by rw [hv 6 (by omega)] at q; exact q) (h.bf.fix (by omega) (by omega))
  · obtain ⟨⟨h0, h1, h2, h4, h5, ⟨gl, h7, hg⟩, h8, ⟨r, h9⟩, hz, hk, hh⟩, -⟩ := h
    refine ⟨?_, ?_, lk_ne h2 (by omega), ?_, lk_ne h5 (by omega), ⟨gl, lk_ne h7 (by omega), hg⟩, ?_, ⟨r, lk_ne h9 (by omega)⟩, fun i hi => ?_, fun i hi => lk_ne (hk i hi) (by omega), fun i hi => ?_⟩
    · rw [lk_ne h0 (by omega)]; simp only [cX, hv 0 (by omega), hv 1 (by omega), hv 2 (by omega), hv 3 (by omega), hv 4 (by omega)]
    · rw [lk_ne h1 (by omega)]; simp only [cY1, hv 5 (by omega)]
    · rw [lk_ne h4 (by omega)]; simp only [cY4, hv 6 (by omega)]
    · rw [lk_ne h8 (by omega)]; simp only [cU, hv 7 (by omega), hv 8 (by omega), hv 9 (by omega), hv 10 (by omega)]
    · by_cases e : i = j
      · subst e
        exact lk_set (hz i hi)
      · rw [lk_ne (hz i hi) (by omega)]; simp only [cZ, hv (11 + i) (by omega)]
    · obtain ⟨h9, e9, e8⟩ := hh i hi
      exact ⟨h9, lk_ne e9 (by omega), e8⟩
  · obtain ⟨-, ⟨b1, b2, b3, b4, b5, b6⟩, -⟩ := h
    refine ⟨by rw [hv 2 (by omega)]; exact b1, by rw [hv 3 (by omega)]; exact b2, by rw [hv 5 (by omega)]; exact b3, by rw [hv 6 (by omega)]; exact b4, by rw [hv 9 (by omega)]; exact b5, fun i hi => ?_, by rw [hv 10 (by omega)]; exact b6.2⟩
    by_cases e : i = j
    · subst e
      exact ⟨P, hP, pk_us⟩
    · rw [hv (11 + i) (by omega)]; exact b6.1 i hi
/-- a layer's held, the record -/
theorem Iv.setH {a : Nat → Nat} {t : Nat → ClassId} {k0 j : Nat} {v : Nat → Int32} {ws : va_W} {h9 : Nat → Int32} (h : Iv a t k0 v ws) (hj : j < 6) (h01 : ∀ i, h9 i = 0 ∨ h9 i = 1) : Iv a t k0 v (ws.set (13 + 4 * j) (a (13 + 4 * j), .inl (t 1, 768, .inl h9))) := by
  have hm : 13 + 4 * j ∉ Mds := fun q => by rcases mds_cases q with q | q | ⟨_, _, q⟩ <;> omega
  refine h.fix (by omega) hm ?_ h.2.1 (fun q => q) (h.bf.fix (by omega) (by omega))
  obtain ⟨⟨h0, h1, h2, h4, h5, ⟨gl, h7, hg⟩, h8, ⟨r, h10⟩, hz, hk, hh⟩, -⟩ := h
  refine ⟨lk_ne h0 (by omega), lk_ne h1 (by omega), lk_ne h2 (by omega), lk_ne h4 (by omega), lk_ne h5 (by omega), ⟨gl, lk_ne h7 (by omega), hg⟩, lk_ne h8 (by omega), ⟨r, lk_ne h10 (by omega)⟩, fun i hi => lk_ne (hz i hi) (by omega), fun i hi => lk_ne (hk i hi) (by omega), fun i hi => ?_⟩
  obtain ⟨h11, e9, e8⟩ := hh i hi
  by_cases e : i = j
  · subst e
    exact ⟨h9, lk_set e9, h01⟩
  · exact ⟨h11, lk_ne e9 (by omega), e8⟩
theorem Iv.setR {a : Nat → Nat} {t : Nat → ClassId} {k0 : Nat} {v : Nat → Int32} {ws : va_W} {r9 : Nat → Int32} (h : Iv a t k0 v ws) (hr9 : sb_Fit r9) : Iv a t k0 v (ws.set 9 (a 9, .inl (t 0, 260, .inl r9))) := by
  refine h.fix (by decide) (by decide) ?_ h.2.1 (fun q => q) (by obtain ⟨r8, e8⟩ := h.1.2.2.2.2.2.2.2.1; exact h.bf.put e8 hr9)
  obtain ⟨⟨h0, h1, h2, h4, h5, ⟨gl, h7, hg⟩, h8, ⟨r, h10⟩, hz, hk, hh⟩, -⟩ := h
  refine ⟨lk_ne h0 (by omega), lk_ne h1 (by omega), lk_ne h2 (by omega), lk_ne h4 (by omega), lk_ne h5 (by omega), ⟨gl, lk_ne h7 (by omega), hg⟩, lk_ne h8 (by omega), ⟨r9, lk_set h10⟩, fun i hi => lk_ne (hz i hi) (by omega), fun i hi => lk_ne (hk i hi) (by omega), fun i hi => ?_⟩
  obtain ⟨h11, e9, e8⟩ := hh i hi
  exact ⟨h11, lk_ne e9 (by omega), e8⟩
/-- a block's bytes -/
theorem Iv.setB {a : Nat → Nat} {t : Nat → ClassId} {k0 p c0 : Nat} {v : Nat → Int32} {ws : va_W} {f0 f1 : Nat → Int32} (h : Iv a t k0 v ws) (hp : 42 ≤ p) (he : ws[p]? = some (c0, .inl (t 0, 256, .inl f0))) (hf : p = k0 → 4 ≤ v 6 → ∀ i, i < 4 → f1 i = f0 i) (hfit : sb_Fit f1) : Iv a t k0 v (ws.set p (c0, .inl (t 0, 256, .inl f1))) := by
  obtain ⟨⟨h0, h1, h2, h4, h5, ⟨gl, h7, hg⟩, h8, ⟨r, h10⟩, hz, hk, hh⟩, hb, hB, hN, hl, hk0⟩ := h
  refine ⟨⟨lk_ne h0 (by omega), lk_ne h1 (by omega), lk_ne h2 (by omega), lk_ne h4 (by omega), lk_ne h5 (by omega), ⟨gl, lk_ne h7 (by omega), hg⟩, lk_ne h8 (by omega), ⟨r, lk_ne h10 (by omega)⟩, fun i hi => lk_ne (hz i hi) (by omega), fun i hi => lk_ne (hk i hi) (by omega), fun i hi => ?_⟩, hb, hB.put he hp, fun q => ?_, by rw [List.length_set]; exact hl, hk0.1, by rw [List.length_set]; exact hk0.2.1, hk0.2.2.put he hfit⟩
  · obtain ⟨h11, e9, e8⟩ := hh i hi
    exact ⟨h11, lk_ne e9 (by omega), e8⟩
  · obtain ⟨g1, ⟨g, b, g2, g3⟩, c9, f, n, q1, q2, q3⟩ := hN q
    refine ⟨g1, ⟨g, b, lk_ne g2 (by omega), g3⟩, ?_⟩
    by_cases e : p = k0
    · subst e
      cases he.symm.trans q1
      exact ⟨_, f1, n, lk_set q1, q2, fun i hi => (hf rfl q i hi).trans (q3 i hi)⟩
    · exact ⟨c9, f, n, lk_ne q1 e, q2, q3⟩
end
section
/-- what a made-table says of one place: its bytes lie at k', the journal's first block apart -/
theorem Iv.blk {a : Nat → Nat} {t : Nat → ClassId} {k0 : Nat} {v : Nat → Int32} {ws : va_W} (h : Iv a t k0 v ws) {pm : Nat} (hp : pm ∈ Mds) : ∃ g, ws[pm]? = some (a pm, .inl (t 2, Nn pm, qA g)) ∧ ∀ i, i < Nn pm → ∀ b, g i = some b → Bk t k0 ws b (pm = 6 ∧ i = 0) := h.2.2.1 pm hp
/-- a new block: b, its bytes c, laid into place i of the table at pm -/
theorem Iv.mk {a : Nat → Nat} {t : Nat → ClassId} {k0 pm i b c : Nat} {v : Nat → Int32} {ws : va_W} {g : Nat → Option Nat} (h : Iv a t k0 v ws) (hp : pm ∈ Mds) (he : ws[pm]? = some (a pm, .inl (t 2, Nn pm, qA g))) (hi : i < Nn pm) (hg : g i = none) :
    ∃ k1, Iv a t k1 v (((ws ++ [cB b c]) ++ [cA t c (fun _ => 0)]).set pm (cM a t pm (va_up g i (some b)))) ∧ (ws.length + 1 = k1 ↔ pm = 6 ∧ i = 0) ∧ (4 ≤ v 6 ∨ ¬ (pm = 6 ∧ i = 0) → k1 = k0) := by
  obtain ⟨⟨h0, h1, h2, h4, h5, ⟨gl, h7, hg7⟩, h8, ⟨r, h10⟩, hz, hk, hh⟩, hb, hB, hN, hl, hk0⟩ := h
  have hpl := mds_lt hp
  have up : ∀ {j : Nat} {e : Nat × va_E}, ws[j]? = some e → ((ws ++ [cB b c]) ++ [cA t c (fun _ => 0)])[j]? = some e := fun q => lk_push (lk_push q)
  have nw : ((ws ++ [cB b c]) ++ [cA t c (fun _ => 0)])[ws.length]? = some (cB b c) := lk_push (lk_new rfl)
  have nc : ((ws ++ [cB b c]) ++ [cA t c (fun _ => 0)])[ws.length + 1]? = some (cA t c (fun _ => 0)) := lk_new (by rw [List.length_append]; rfl)
  have ne : ∀ {j : Nat}, j < 42 → j ∉ Mds → pm ≠ j := fun _ q e => q (by rw [← e]; exact hp)
  have nz : ∀ {j : Nat}, j < 6 → 10 + 4 * j ∉ Mds := fun _ q => by rcases mds_cases q with q | q | ⟨_, _, q⟩ <;> omega
  have nk : ∀ {j : Nat}, j < 6 → 11 + 4 * j ∉ Mds := fun _ q => by rcases mds_cases q with q | q | ⟨_, _, q⟩ <;> omega
  have nh : ∀ {j : Nat}, j < 6 → 13 + 4 * j ∉ Mds := fun _ q => by rcases mds_cases q with q | q | ⟨_, _, q⟩ <;> omega
  have key : ∀ k1, (ws.length + 1 = k1 ↔ pm = 6 ∧ i = 0) → (∀ k', 42 ≤ k' → k' < ws.length → (k' = k1 ↔ k' = k0 ∧ ¬ (pm = 6 ∧ i = 0))) → (k1 = 0 ∨ 42 ≤ k1) → k1 < ws.length + 2 → (4 ≤ v 6 → k1 = k0) →
      Iv a t k1 v (((ws ++ [cB b c]) ++ [cA t c (fun _ => 0)]).set pm (cM a t pm (va_up g i (some b)))) := by
    intro k1 e1 e2 e3 e5 e4
    refine ⟨⟨lk_ne (up h0) (ne (by decide) (by decide)), lk_ne (up h1) (ne (by decide) (by decide)), lk_ne (up h2) (ne (by decide) (by decide)), lk_ne (up h4) (ne (by decide) (by decide)), lk_ne (up h5) (ne (by decide) (by decide)), ⟨gl, lk_ne (up h7) (ne (by decide) (by decide)), hg7⟩, lk_ne (up h8) (ne (by decide) (by decide)), ⟨r, lk_ne (up h10) (ne (by decide) (by decide))⟩,
      fun j hj => lk_ne (up (hz j hj)) (ne (by omega) (nz hj)), fun j hj => lk_ne (up (hk j hj)) (ne (by omega) (nk hj)), fun j hj => ?_⟩, hb, fun pm' hp' => ?_, fun q => ?_, by rw [List.length_set, List.length_append, List.length_append]; omega, e3, by rw [List.length_set, List.length_append, List.length_append]; exact e5, fun k c9 L f g9 q => ?_⟩
    · obtain ⟨h11, e9, e8⟩ := hh j hj
      exact ⟨h11, lk_ne (up e9) (ne (by omega) (nh hj)), e8⟩
    · have keep : ∀ (j b' : Nat), ¬ (pm' = pm ∧ j = i) → Bk t k0 ws b' (pm' = 6 ∧ j = 0) → Bk t k1 (((ws ++ [cB b c]) ++ [cA t c (fun _ => 0)]).set pm (cM a t pm (va_up g i (some b)))) b' (pm' = 6 ∧ j = 0) := by
        intro j b' hne hbk
        obtain ⟨k, c9, k', f, q1, q2, q3, q4, q5⟩ := hbk
        have hlt : k' < ws.length := (List.getElem?_eq_some_iff.mp q4).1
        refine ⟨k, c9, k', f, q1, q2, lk_ne (up q3) (by omega), lk_ne (up q4) (by omega), ?_⟩
        rw [e2 k' q2 hlt]
        constructor
        · rintro ⟨z1, z2⟩
          exact q5.mp z1
        · intro z1
          refine ⟨q5.mpr z1, fun z2 => hne ⟨z1.1.trans z2.1.symm, z1.2.trans z2.2.symm⟩⟩
      by_cases e : pm' = pm
      · subst e
        refine ⟨_, lk_set (up he), fun j hj b' hb' => ?_⟩
        by_cases ej : j = i
        · subst ej
          rw [va_up_self] at hb'
          cases hb'
          exact ⟨ws.length, c, ws.length + 1, _, hl, by omega, lk_ne nw (by omega), lk_ne nc (by omega), e1⟩
        · rw [va_up_ne _ _ ej] at hb'
          obtain ⟨g', he', hg'⟩ := hB pm' hp'
          cases he.symm.trans he'
          exact keep j b' (fun z => ej z.2) (hg' j hj b' hb')
      · obtain ⟨g', he', hg'⟩ := hB pm' hp'
        exact ⟨g', lk_ne (up he') (fun z => e z.symm), fun j hj b' hb' => keep j b' (fun z => e z.1) (hg' j hj b' hb')⟩
    · obtain ⟨g1, ⟨g9, b9, g2, g3⟩, c9, f, n, q1, q2, q3⟩ := hN q
      rw [e4 q]
      refine ⟨g1, ?_, c9, f, n, lk_ne (up q1) (by omega), q2, q3⟩
      by_cases e6 : pm = 6
      · subst e6
        cases he.symm.trans g2
        refine ⟨_, b9, lk_set (up he), ?_⟩
        rw [va_up_ne _ _ (fun e => by rw [← e, g3] at hg; cases hg)]
        exact g3
      · exact ⟨g9, b9, lk_ne (up g2) e6, g3⟩
    · have hp9 : pm ≠ 9 := fun h => by rw [h] at hp; exact absurd hp (by decide)
      rw [List.getElem?_set_ne (by omega)] at q
      by_cases h1 : k < ws.length
      · rw [List.append_assoc, List.getElem?_append_left h1] at q
        exact hk0.2.2 k c9 L f g9 q
      · have h2 : k < ws.length + 2 := by have h3 := (List.getElem?_eq_some_iff.mp q).1; rw [List.length_append, List.length_append] at h3; exact h3
        rcases (show k = ws.length ∨ k = ws.length + 1 by omega) with rfl | rfl
        · rw [nw] at q; cases q
        · rw [nc] at q; cases q; exact sb_fit0
  by_cases sp : pm = 6 ∧ i = 0
  · have hno : 4 ≤ v 6 → False := fun q => by
      obtain ⟨g1, ⟨g9, b9, g2, g3⟩, -⟩ := hN q
      obtain ⟨rfl, rfl⟩ := sp
      cases he.symm.trans g2
      rw [g3] at hg
      cases hg
    refine ⟨ws.length + 1, key _ (iff_of_true rfl sp) (fun k' h1 h2 => ?_) (Or.inr (by omega)) (by omega) (fun q => (hno q).elim), iff_of_true rfl sp, fun q => q.elim (fun q => (hno q).elim) (fun q => (q sp).elim)⟩
    constructor
    · intro z; omega
    · rintro ⟨-, z⟩
      exact (z sp).elim
  · have hk0' := hk0.2.1
    refine ⟨k0, key _ ⟨fun z => by omega, fun z => (sp z).elim⟩ (fun k' h1 h2 => ⟨fun z => ⟨z, sp⟩, fun z => z.1⟩) hk0.1 (by omega) (fun _ => rfl), ⟨fun z => by omega, fun z => (sp z).elim⟩, fun _ => rfl⟩
end
section
theorem ls_two {ws : va_W} {x x' y : Nat × va_E} : ((ws ++ [x]) ++ [y]).set ws.length x' = (ws ++ [x']) ++ [y] := by
  rw [List.append_assoc, List.set_append_right _ _ (Nat.le_refl _), Nat.sub_self, List.append_assoc]
  rfl
abbrev Kc (ws : va_W) : va_W → Nat := fun u => 2 * (nul ws - nul u)
abbrev Ks (ws : va_W) : va_W → Nat := fun u => 257 * (nul ws - nul u)
abbrev Xno : String → va_W → Prop := fun _ _ => False
set_option maxHeartbeats 4000000 in
set_option maxRecDepth 100000 in
/-- Block(): its bytes, behind all -/
theorem c_B_init {l : Launch} {D : va_G} {t : Nat → ClassId} {z : Nat} {sa : Nat → Nat} {ws : va_W} {b n : Nat} (e0 : ws[n]? = some (b, .inr (0, [.null]))) : Met l y_B_init (Cond.code y_B_init b_B_init 1 none :: WS) ({ frames := 1, cells := 1, slots := 256, locals := 13 }) (Pz D t z sa ws [.ref b]) (va_Qv (fun u : va_W => ∃ c, u = (ws ++ [cA t c (fun _ => 0)]).set n (cB b c)) (fun u U => Wd D t z u U) (Az z)) 1 256 (Az z) := by
  refine Met.ofW (cc := b_B_init) (maxL := 1) (ret := none) (by decide) rfl ?_
  intro p e s m args below meth c s₁ B hml hv
  obtain ⟨rfl, ⟨hP, hK, hD, hz⟩, hM⟩ := hv
  have hx := B.exec
  have hb := B.bytes
  have hr := B.returns
  have hts : ∀ w ∈ WS, w.before [.ref b].toArray s = true := fun w h => atoms_spec B.pre w (List.mem_cons_of_mem _ h)
  have hown : s.vm.findClass R_B = some m.cls := findClass_of_methodNamed B.named
  have hlocks := B.notSynchronized
  have hin : meth.name = "<init>" := (name_of_methodNamed B.named B.method).1
  have hA : ∀ q, s.heap.size ≤ q → Az z q := fun q h => Nat.le_trans hz h
  have hS : va_S (Az z) s.heap s.heap [] := va_S.rf
  have hl := lv_entry ([.ref b]) (n := 1) (Nat.le_of_ble_eq_true rfl)
  rw [lg_entry_eq]
  generalize (lg_sl ([.ref b]) ++ List.replicate (1 - (lg_sl ([.ref b])).length) Slot.unset).toArray = ls at hl ⊢
  have hl : lv_has ls 1 [(0, .ref b)] := hl
  refine lv_aload_n hx hb d_B_init_0 rfl (lv_at hl 0 rfl) ?_
  refine W.objInit hx hb hown (hts _ ml_B_3) (hts _ oi_im) (hts _ oi_cd) rfl (by rw [hml]; exact hl.1) rfl d_B_init_1 (Nat.le_of_ble_eq_true rfl) (Nat.le_of_ble_eq_true rfl) ?_
  refine W.eq (g2 := F0 m 4 ls []) rfl ?_
  refine lv_aload_n hx hb d_B_init_4 rfl (lv_at hl 0 rfl) ?_
  refine lv_sipush (v := 256) hx hb d_B_init_5 (by decide) ?_
  refine va_newa (D := D) (atype := .byte) hx hb (hts _ ac_byte) (ty := .byte) rfl hK hP hD hS hA (N' := 256) (a0 := (256, .inl (fun _ => 0))) (fun cA => rfl) (by decide) (by decide) (by decide) (Nat.le_of_ble_eq_true rfl) (Nat.le_of_ble_eq_true rfl) d_B_init_8 (fun c9 cA9 H hK2 hP hD hS => ?_)
  have hcA : cA9 = t 0 := Option.some.inj ((hK2.2 6 (cA9, .byte) rfl).2.symm.trans (hK.2 0 (t 0, .byte) rfl).2)
  rw [hcA] at hP hD
  refine va_putF (D := D) (ci := 0) (v := .ref c9) (ty := .array .byte) (C := R_B) (T := F_B) (N := 1) hx hb hts ws_B t_B ok_B n_B hown hK hP hD hS n (lk_push e0) rfl 0 (by decide) (hts _ fl_B_9) (fun _ h9 => h9) rfl hin rfl (by decide +kernel) rfl rfl (Nat.le_of_ble_eq_true rfl) d_B_init_10 (fun H locs hP hD hS => ?_)
  exact W.vret hx hb hr (fun t9 ht hW => ⟨⟨(ws ++ [cA t c9 (fun _ => 0)]).set n (cB b c9), rfl, ⟨c9, rfl⟩, by rw [ht]; exact hP, va_K.moved hW.alike hK, hD, by rw [ht]; exact Nat.le_trans hz hS.1⟩, hS.F ht⟩) hS.2.2 d_B_init_13
/-- what bytesOf(i) of the table at pm gives -/
def Bp (a : Nat → Nat) (t : Nat → ClassId) (k0 pm i : Nat) (v : Nat → Int32) (ws : va_W) : Option Value → va_W → Prop := fun r u =>
  ∃ (c k' k1 : Nat) (f : Nat → Int32), r = some (.ref c) ∧ 42 ≤ k' ∧ u[k']? = some (cA t c f) ∧ (k' = k1 ↔ pm = 6 ∧ i = 0) ∧ Iv a t k1 v u ∧ Fr t ws u ∧ nul u ≤ nul ws ∧ (4 ≤ v 6 ∨ ¬ (pm = 6 ∧ i = 0) → k1 = k0) ∧ (∀ p, p < 42 → p ∉ Mds → u[p]? = ws[p]?)
set_option maxHeartbeats 4000000 in
set_option maxRecDepth 100000 in
theorem c_K_bytesOf {l : Launch} {D : va_G} {t : Nat → ClassId} {z : Nat} {sa : Nat → Nat} {ws : va_W} {a : Nat → Nat} {k0 pk pm i kk : Nat} {v : Nat → Int32} (hI : Iv a t k0 v ws) (ek : ws[pk]? = some (kk, .inr (1, [.ref (a pm)]))) (hp : pm ∈ Mds) (hi : i < Nn pm) :
    Mu l y_K_bytesOf (Cond.code y_K_bytesOf b_K_bytesOf 2 (some (.array .byte)) :: WS) ({ frames := 2, cells := 2 * nul ws + 1, slots := 257 * nul ws + 6, locals := 33 }) D t z sa ws [.ref kk, .int (nI i)] (Bp a t k0 pm i v ws) Xno (Kc ws) (Ks ws) := by
  refine mu_ofW (cc := b_K_bytesOf) (maxL := 2) (ret := (some (.array .byte))) (by decide) rfl ?_
  intro p e s m args below meth c s₁ B hml hno hv
  obtain ⟨rfl, ⟨hP, hK, hD, hz⟩, hM⟩ := hv
  have hx := B.exec
  have hb := B.bytes
  have hr := B.returns
  have hts : ∀ w ∈ WS, w.before [.ref kk, .int (nI i)].toArray s = true := fun w h => atoms_spec B.pre w (List.mem_cons_of_mem _ h)
  have hown : s.vm.findClass R_K = some m.cls := findClass_of_methodNamed B.named
  have hlocks := B.notSynchronized
  have hA : ∀ q, s.heap.size ≤ q → Az z q := fun q h => Nat.le_trans hz h
  have hS : va_S (Az z) s.heap s.heap [] := va_S.rf
  have hl := lv_entry ([.ref kk, .int (nI i)]) (n := 2) (Nat.le_of_ble_eq_true rfl)
  rw [lg_entry_eq]
  generalize (lg_sl ([.ref kk, .int (nI i)]) ++ List.replicate (2 - (lg_sl ([.ref kk, .int (nI i)])).length) Slot.unset).toArray = ls at hl ⊢
  have hl : lv_has ls 2 [(0, .ref kk), (1, .int (nI i))] := hl
  have hN : Nn pm ≤ 781 := by unfold Nn; split <;> omega
  have hcl : (nI i).toNatClampNeg = i := nI_clamp (by omega)
  have hin9 : vp_in (nI i) (Nn pm) := vp_in_nI hi (by omega)
  have h42 := hI.2.2.2.2.1
  have hpl := mds_lt hp
  obtain ⟨g, em, hg⟩ := hI.blk hp
  -- what comes behind place 22, in a world where the block is there
  have fin : ∀ (w : va_W) (H : Heap) (locs : List Loc) (g2 : Nat → Option Nat) (b9 c9 k k' k1 cells slots : Nat) (f : Nat → Int32), va_P D Cl w H → va_D (Az z) w → va_S (Az z) s.heap H locs → w[pk]? = some (kk, .inr (1, [.ref (a pm)])) → w[pm]? = some (cM a t pm g2) → g2 i = some b9 → 42 ≤ k' → w[k]? = some (cB b9 c9) → w[k']? = some (cA t c9 f) → (k' = k1 ↔ pm = 6 ∧ i = 0) → Iv a t k1 v w → Fr t ws w → nul w ≤ nul ws → (4 ≤ v 6 ∨ ¬ (pm = 6 ∧ i = 0) → k1 = k0) → (∀ p, p < 42 → p ∉ Mds → w[p]? = ws[p]?) → cells ≤ Kc ws w → slots ≤ Ks ws w →
      W p l e (headSpec (Cond.code y_K_bytesOf b_K_bytesOf 2 (some (.array .byte)) :: WS) ({ frames := 2, cells := 2 * nul ws + 1, slots := 257 * nul ws + 6, locals := 33 })).room s m [.ref kk, .int (nI i)].toArray below meth c H locs cells slots (mu_MQ below D t z (Bp a t k0 pm i v ws) Xno (Kc ws) (Ks ws) [.ref kk, .int (nI i)].toArray s) (F0 m 22 ls []) := by
    intro w H locs g2 b9 c9 k k' k1 cells slots f hP hD hS ek em2 hg2 hk' ekb ekc hsp hI2 hF hn hj hq hc hs
    refine lv_aload_n hx hb d_K_bytesOf_22 rfl (lv_at hl 0 rfl) ?_
    refine va_get (D := D) (ci := 1) (v := .ref (a pm)) (C := R_K) (T := F_K) (N := 1) hx hb hts ws_K hown hK hP pk ek rfl 0 (by decide) (hts _ fl_K_9) (fun _ h9 => h9) rfl d_K_bytesOf_23 ?_
    refine lv_iload_n hx hb d_K_bytesOf_26 rfl (lv_at hl 1 rfl) ?_
    refine va_aldq (D := D) hx hb hK hP pm 2 em2 rfl (i := nI i) hin9 d_K_bytesOf_27 ?_
    refine W.eq (g2 := F0 m 28 ls [.ref b9]) (by rw [hcl, hg2]; rfl) ?_
    refine va_getN (D := D) (ci := 0) (v := .ref c9) (C := R_B) (T := F_B) (N := 1) hx hb hts ws_B hown hK hP k ekb rfl 0 (by decide) hM.2.2.2.1 (fun _ h9 => h9) rfl d_K_bytesOf_28 ?_
    refine mu_end (u := w) (v := some (.ref c9)) ⟨c9, k', k1, f, rfl, hk', ekc, hsp, hI2, hF, hn, hj, hq⟩ hc hs ?_
    exact W.aret (v := .ref c9) (rt := .array .byte) hx hb hr (Or.inr ⟨_, rfl⟩) (Or.inr ⟨_, rfl⟩) (fun t9 ht hW => ⟨rfl, ⟨by rw [ht]; exact hP, va_K.moved hW.alike hK, hD, by rw [ht]; exact Nat.le_trans hz hS.1⟩, hS.F ht⟩) hS.2.2 d_K_bytesOf_31
  refine lv_aload_n hx hb d_K_bytesOf_0 rfl (lv_at hl 0 rfl) ?_
  refine va_get (D := D) (ci := 1) (v := .ref (a pm)) (C := R_K) (T := F_K) (N := 1) hx hb hts ws_K hown hK hP pk ek rfl 0 (by decide) (hts _ fl_K_9) (fun _ h9 => h9) rfl d_K_bytesOf_1 ?_
  refine lv_iload_n hx hb d_K_bytesOf_4 rfl (lv_at hl 1 rfl) ?_
  refine va_aldq (D := D) hx hb hK hP pm 2 em rfl (i := nI i) hin9 d_K_bytesOf_5 ?_
  cases hgi : g i with
  | some b9 =>
    refine W.eq (g2 := F0 m 6 ls [.ref b9]) (by rw [hcl, hgi]; rfl) ?_
    refine lv_ifnonnull (tgt := 22) hx hb d_K_bytesOf_6 rfl ?_
    obtain ⟨k, c9, k', f, q1, q2, q3, q4, q5⟩ := hg i hi b9 hgi
    exact fin ws s.heap [] g b9 c9 k k' k0 0 0 f hP hD hS ek em hgi q2 q3 q4 q5 hI Fr.rf (Nat.le_refl _) (fun _ => rfl) (fun _ _ _ => rfl) (Nat.zero_le _) (Nat.zero_le _)
  | none =>
    refine W.eq (g2 := F0 m 6 ls [.null]) (by rw [hcl, hgi]; rfl) ?_
    refine lv_ifnonnullN hx hb d_K_bytesOf_6 ?_
    refine lv_aload_n hx hb d_K_bytesOf_9 rfl (lv_at hl 0 rfl) ?_
    refine va_get (D := D) (ci := 1) (v := .ref (a pm)) (C := R_K) (T := F_K) (N := 1) hx hb hts ws_K hown hK hP pk ek rfl 0 (by decide) (hts _ fl_K_9) (fun _ h9 => h9) rfl d_K_bytesOf_10 ?_
    refine lv_iload_n hx hb d_K_bytesOf_13 rfl (lv_at hl 1 rfl) ?_
    have hn0 : 0 < nul ws := by
      have h9 := nul_ch (ws := ws) (u := ws.set pm (cM a t pm (va_up g i (some 0)))) (d := 1) hp (fun q _ hq => List.getElem?_set_ne (Ne.symm hq)) (by
        rw [lk_set em, em]
        have := cnt_fill (b := 0) hgi (n := Nn pm) hi
        show ((cnt _ _ : Nat) : Int) + 1 = ((cnt _ _ : Nat) : Int)
        omega)
      omega
    refine va_new (ci := 0) (fs := [.null]) (C := R_B) (T := F_B) (N := 1) hx hb hts ws_B t_B ok_B hown (hts _ cl_K_7) (hts _ ib_B) (hts _ in_B) hK hP hD hS hA rfl (fun j hj => by rcases (show j = 0 by omega) with rfl; rfl) (by show 0 + 1 ≤ 2 * nul ws + 1; omega) (by show 0 + 1 ≤ 257 * nul ws + 6; omega) d_K_bytesOf_14 (fun b9 H hP hD hS => ?_)
    refine lv_dup hx hb d_K_bytesOf_17 rfl ?_
    refine va_callv (va_runIN (As := []) (rest := [.ref b9, .int (nI i), .ref (a pm)]) ⟨hx, hb, hml, hown, hts⟩ (c_B_init (D := D) (t := t) (z := z) (sa := sa) (ws := ws ++ [(b9, .inr (0, [.null]))]) (n := ws.length) (lk_new rfl)) ⟨va_cnB 0 hts (gd_I cd_B_init) rfl rfl rfl hM.2.2.1 (hts _ in_B) (by decide +kernel) ⟨Nat.le_of_ble_eq_true rfl, Nat.le_of_ble_eq_true rfl⟩, rfl, hts _ im_B_init⟩ ⟨Pz_blind, Pz_at hP hK hD hz hM hS⟩ rfl rfl hl.1 rfl (lv_room (Nat.le_of_ble_eq_true rfl)) d_K_bytesOf_18 ⟨by show 0 + 1 + 1 ≤ 2 * nul ws + 1; omega, by show 0 + 1 + 256 ≤ 257 * nul ws + 6; omega⟩) hS (fun q _ h => h) (fun q h => h) (fun u t9 H locs ht hvm hp9 hB hz1 hk1 hS => ?_)
    obtain ⟨hP, hK9, hD, -⟩ := hB
    rw [ht] at hP
    obtain ⟨c9, hu⟩ := hp9
    have hu : u = (ws ++ [cB b9 c9]) ++ [cA t c9 (fun _ => 0)] := hu.trans ls_two
    subst hu
    have emu : ((ws ++ [cB b9 c9]) ++ [cA t c9 (fun _ => 0)])[pm]? = some (cM a t pm g) := lk_push (lk_push em)
    have ekb : ((ws ++ [cB b9 c9]) ++ [cA t c9 (fun _ => 0)])[ws.length]? = some (cB b9 c9) := lk_push (lk_new rfl)
    have ekc : ((ws ++ [cB b9 c9]) ++ [cA t c9 (fun _ => 0)])[ws.length + 1]? = some (cA t c9 (fun _ => 0)) := lk_new (by rw [List.length_append]; rfl)
    refine va_astq (D := D) hx hb hK hP hD hS pm 2 ws.length 0 (r := (R_B, F_B, 1)) emu rfl ekb rfl (i := nI i) hin9 d_K_bytesOf_21 (fun H locs hP hD hS => ?_)
    rw [hcl] at hP hD
    obtain ⟨k1, hI2, hsp, hj⟩ := hI.mk (b := b9) (c := c9) hp em hi hgi
    have hnu : nul (((ws ++ [cB b9 c9]) ++ [cA t c9 (fun _ => 0)]).set pm (cM a t pm (va_up g i (some b9)))) + 1 = nul ws := by
      have h9 := nul_ch (ws := ws) (u := ((ws ++ [cB b9 c9]) ++ [cA t c9 (fun _ => 0)]).set pm (cM a t pm (va_up g i (some b9)))) (d := 1) hp (fun q hq hne => by rw [List.getElem?_set_ne (Ne.symm hne), List.append_assoc, List.getElem?_append_left (by have := mds_lt hq; omega)]) (by
        rw [lk_set emu, em]
        have := cnt_fill (b := b9) hgi (n := Nn pm) hi
        show ((cnt _ _ : Nat) : Int) + 1 = ((cnt _ _ : Nat) : Int)
        omega)
      omega
    have hpk : pk ≠ pm := fun h => by rw [h] at ek; cases ek.symm.trans em
    have hpkl : pk < ws.length := (List.getElem?_eq_some_iff.mp ek).1
    refine fin (((ws ++ [cB b9 c9]) ++ [cA t c9 (fun _ => 0)]).set pm (cM a t pm (va_up g i (some b9)))) H locs (va_up g i (some b9)) b9 c9 ws.length (ws.length + 1) k1 _ _ (fun _ => 0) hP hD hS (lk_ne (lk_push (lk_push ek)) (Ne.symm hpk)) (lk_set emu) (va_up_self _ _ _) (by omega) (lk_ne ekb (by omega)) (lk_ne ekc (by omega)) hsp hI2 ?_ (by omega) hj (fun q h1 h2 => by rw [List.getElem?_set_ne (fun h => h2 (by rw [← h]; exact hp)), List.append_assoc, List.getElem?_append_left (by omega)]) (by show 0 + 1 + 1 ≤ 2 * (nul ws - nul (((ws ++ [cB b9 c9]) ++ [cA t c9 (fun _ => 0)]).set pm (cM a t pm (va_up g i (some b9))))); omega) (by show 0 + 1 + 256 ≤ 257 * (nul ws - nul (((ws ++ [cB b9 c9]) ++ [cA t c9 (fun _ => 0)]).set pm (cM a t pm (va_up g i (some b9))))); omega)
    refine ((Fr.rf.push h42).push h42).set hpl (fun h => by rw [h] at hp; exact absurd hp (by decide))
end
section
theorem Iv.x {a : Nat → Nat} {t : Nat → ClassId} {k0 : Nat} {v : Nat → Int32} {ws : va_W} (h : Iv a t k0 v ws) : ws[0]? = some (cX a v) := h.1.1
theorem Iv.y1 {a : Nat → Nat} {t : Nat → ClassId} {k0 : Nat} {v : Nat → Int32} {ws : va_W} (h : Iv a t k0 v ws) : ws[1]? = some (cY1 a v) := h.1.2.1
theorem Iv.k2 {a : Nat → Nat} {t : Nat → ClassId} {k0 : Nat} {v : Nat → Int32} {ws : va_W} (h : Iv a t k0 v ws) : ws[2]? = some (a 2, .inr (1, [.ref (a 3)])) := h.1.2.2.1
theorem Iv.y4 {a : Nat → Nat} {t : Nat → ClassId} {k0 : Nat} {v : Nat → Int32} {ws : va_W} (h : Iv a t k0 v ws) : ws[4]? = some (cY4 a v) := h.1.2.2.2.1
theorem Iv.k5 {a : Nat → Nat} {t : Nat → ClassId} {k0 : Nat} {v : Nat → Int32} {ws : va_W} (h : Iv a t k0 v ws) : ws[5]? = some (a 5, .inr (1, [.ref (a 6)])) := h.1.2.2.2.2.1
theorem Iv.l7 {a : Nat → Nat} {t : Nat → ClassId} {k0 : Nat} {v : Nat → Int32} {ws : va_W} (h : Iv a t k0 v ws) : ∃ gl, ws[7]? = some (a 7, .inl (t 3, 6, qA gl)) ∧ ∀ j, j < 6 → gl j = some (a (10 + 4 * j)) := h.1.2.2.2.2.2.1
theorem Iv.u8 {a : Nat → Nat} {t : Nat → ClassId} {k0 : Nat} {v : Nat → Int32} {ws : va_W} (h : Iv a t k0 v ws) : ws[8]? = some (cU a v) := h.1.2.2.2.2.2.2.1
theorem Iv.r9 {a : Nat → Nat} {t : Nat → ClassId} {k0 : Nat} {v : Nat → Int32} {ws : va_W} (h : Iv a t k0 v ws) : ∃ r, ws[9]? = some (a 9, .inl (t 0, 260, .inl r)) := h.1.2.2.2.2.2.2.2.1
theorem Iv.z {a : Nat → Nat} {t : Nat → ClassId} {k0 j : Nat} {v : Nat → Int32} {ws : va_W} (h : Iv a t k0 v ws) (hj : j < 6) : ws[10 + 4 * j]? = some (cZ a v j) := h.1.2.2.2.2.2.2.2.2.1 j hj
theorem Iv.zk {a : Nat → Nat} {t : Nat → ClassId} {k0 j : Nat} {v : Nat → Int32} {ws : va_W} (h : Iv a t k0 v ws) (hj : j < 6) : ws[11 + 4 * j]? = some (a (11 + 4 * j), .inr (1, [.ref (a (12 + 4 * j))])) := h.1.2.2.2.2.2.2.2.2.2.1 j hj
theorem Iv.zh {a : Nat → Nat} {t : Nat → ClassId} {k0 j : Nat} {v : Nat → Int32} {ws : va_W} (h : Iv a t k0 v ws) (hj : j < 6) : ∃ f, ws[13 + 4 * j]? = some (a (13 + 4 * j), .inl (t 1, 768, .inl f)) ∧ ∀ i, f i = 0 ∨ f i = 1 := h.1.2.2.2.2.2.2.2.2.2.2 j hj
theorem Iv.bd {a : Nat → Nat} {t : Nat → ClassId} {k0 : Nat} {v : Nat → Int32} {ws : va_W} (h : Iv a t k0 v ws) : Bd v := h.2.1
set_option maxHeartbeats 4000000 in
set_option maxRecDepth 100000 in
theorem c_S_requireOn {l : Launch} {D : va_G} {t : Nat → ClassId} {z : Nat} {sa : Nat → Nat} {ws : va_W} {a : Nat → Nat} {k0 : Nat} {v : Nat → Int32}  (hl0 : l.stackTraces = false) (hI : Iv a t k0 v ws)  : Mu l y_S_requireOn (Cond.code y_S_requireOn b_S_requireOn 1 (.none : Option Jvm.ClassFile.FieldType) :: WS) ({ frames := 6, cells := 2 * nul ws + 1, slots := 257 * nul ws + 6, locals := 82 }) D t z sa ws [.ref (a 0)] (fun r u => r = none ∧ u = ws ∧ ¬ v 0 = 0) (fun E u => (E = xISE) ∧ u = ws) (Kc ws) (Ks ws) := by
  refine mu_ofW (cc := b_S_requireOn) (maxL := 1) (ret := (.none : Option Jvm.ClassFile.FieldType)) (by decide) rfl ?_
  intro p e s m args below meth c s₁ B hml hno hv
  obtain ⟨rfl, ⟨hP, hK, hD, hz⟩, hM⟩ := hv
  have hx := B.exec
  have hb := B.bytes
  have hr := B.returns
  have hts : ∀ w ∈ WS, w.before [.ref (a 0)].toArray s = true := fun w h => atoms_spec B.pre w (List.mem_cons_of_mem _ h)
  have hown : s.vm.findClass R_S = some m.cls := findClass_of_methodNamed B.named
  have hlocks := B.notSynchronized
  have hA : ∀ q, s.heap.size ≤ q → Az z q := fun q h => Nat.le_trans hz h
  have hS : va_S (Az z) s.heap s.heap [] := va_S.rf
  have hF : Fr t ws ws := Fr.rf
  have hn : nul ws ≤ nul ws := Nat.le_refl _
  have hl := lv_entry ([.ref (a 0)]) (n := 1) (Nat.le_of_ble_eq_true rfl)
  rw [lg_entry_eq]
  generalize (lg_sl ([.ref (a 0)]) ++ List.replicate (1 - (lg_sl ([.ref (a 0)])).length) Slot.unset).toArray = ls at hl ⊢
  have hl : lv_has ls 1 [(0, .ref (a 0))] := hl
  refine W.widen (k := Kc ws ws) (n := Ks ws ws) (Nat.zero_le _) (Nat.zero_le _) ?_
  refine lv_aload_n hx hb d_S_requireOn_0 rfl (lv_at hl 0 rfl) ?_
  refine va_get (D := D) (ci := 5) (v := .int (v 0)) (C := R_S) (T := F_S) (N := 10) hx hb hts ws_S hown hK hP 0 hI.x rfl 5 (by decide) (hts _ fl_S_40) (fun _ h9 => h9) rfl d_S_requireOn_1 ?_
  refine lv_if_ne (tgt := 17) hx hb d_S_requireOn_4 rfl (fun q1 => ?_) (fun q1 => ?_)
  · skip
    refine mu_end (u := ws) (v := (none)) ⟨rfl, rfl, q1⟩ (Nat.le_refl _) (Nat.le_refl _) ?_
    exact W.vret hx hb hr (fun t9 ht hW => ⟨rfl, ⟨by rw [ht]; exact hP, va_K.moved hW.alike hK, hD, by rw [ht]; exact Nat.le_trans hz hS.1⟩, hS.F ht⟩) hS.2.2 d_S_requireOn_17
  · skip
    exact mu_th (u := ws) hx hb hl0 hown hts hlocks hno hP hK hD hz hM hS (hl.1.trans hml.symm) (site_64_168_68) d_S_requireOn_7 d_S_requireOn_10 d_S_requireOn_11 d_S_requireOn_13 d_S_requireOn_16 (Nat.le_of_ble_eq_true rfl) (Nat.le_of_ble_eq_true rfl) (by show 2 * (nul ws - nul ws) + 1 ≤ 2 * nul ws + 1; omega) (by show 257 * (nul ws - nul ws) + 6 ≤ 257 * nul ws + 6; omega) (Nat.le_refl _) (Nat.le_refl _) ⟨rfl, rfl⟩
set_option maxHeartbeats 4000000 in
set_option maxRecDepth 100000 in
theorem c_S_requireOpen {l : Launch} {D : va_G} {t : Nat → ClassId} {z : Nat} {sa : Nat → Nat} {ws : va_W} {a : Nat → Nat} {k0 : Nat} {v : Nat → Int32}  (hl0 : l.stackTraces = false) (hI : Iv a t k0 v ws)  : Mu l y_S_requireOpen (Cond.code y_S_requireOpen b_S_requireOpen 1 (.none : Option Jvm.ClassFile.FieldType) :: WS) ({ frames := 7, cells := 2 * nul ws + 1, slots := 257 * nul ws + 6, locals := 102 }) D t z sa ws [.ref (a 0)] (fun r u => r = none ∧ u = ws ∧ ¬ v 0 = 0 ∧ ¬ v 1 = 0) (fun E u => (E = xISE) ∧ u = ws) (Kc ws) (Ks ws) := by
  refine mu_ofW (cc := b_S_requireOpen) (maxL := 1) (ret := (.none : Option Jvm.ClassFile.FieldType)) (by decide) rfl ?_
  intro p e s m args below meth c s₁ B hml hno hv
  obtain ⟨rfl, ⟨hP, hK, hD, hz⟩, hM⟩ := hv
  have hx := B.exec
  have hb := B.bytes
  have hr := B.returns
  have hts : ∀ w ∈ WS, w.before [.ref (a 0)].toArray s = true := fun w h => atoms_spec B.pre w (List.mem_cons_of_mem _ h)
  have hown : s.vm.findClass R_S = some m.cls := findClass_of_methodNamed B.named
  have hlocks := B.notSynchronized
  have hA : ∀ q, s.heap.size ≤ q → Az z q := fun q h => Nat.le_trans hz h
  have hS : va_S (Az z) s.heap s.heap [] := va_S.rf
  have hF : Fr t ws ws := Fr.rf
  have hn : nul ws ≤ nul ws := Nat.le_refl _
  have hl := lv_entry ([.ref (a 0)]) (n := 1) (Nat.le_of_ble_eq_true rfl)
  rw [lg_entry_eq]
  generalize (lg_sl ([.ref (a 0)]) ++ List.replicate (1 - (lg_sl ([.ref (a 0)])).length) Slot.unset).toArray = ls at hl ⊢
  have hl : lv_has ls 1 [(0, .ref (a 0))] := hl
  refine W.widen (k := Kc ws ws) (n := Ks ws ws) (Nat.zero_le _) (Nat.zero_le _) ?_
  refine lv_aload_n hx hb d_S_requireOpen_0 rfl (lv_at hl 0 rfl) ?_
  refine mu_V (n := 0) (As := []) (rest := []) ⟨hx, hb, hml, hown, hts⟩ (c_S_requireOn (D := D) (t := t) (z := z) (sa := sa) (ws := ws)  hl0 hI ) ml_S_58 im_S_requireOn se_S_requireOn in_S cd_S_requireOn (by decide +kernel) ⟨Nat.le_of_ble_eq_true rfl, Nat.le_of_ble_eq_true rfl⟩ (va_recv hK hP (ci := 5) rfl hI.x) (Pz_at hP hK hD hz hM hS) rfl hl.1 rfl (Nat.le_of_ble_eq_true rfl) d_S_requireOpen_1 ⟨by show 2 * (nul ws - nul ws) + (2 * nul ws + 1) ≤ 2 * nul ws + 1; omega, by show 257 * (nul ws - nul ws) + (257 * nul ws + 6) ≤ 257 * nul ws + 6; omega⟩ hS (fun E ce q u H locs hxp hP hD hS h1 h2 h3 => by obtain ⟨hE, hu⟩ := hxp; rw [hu] at hP hD; exact mu_out (u := ws) hno hlocks h1 h2 h3 hP hK hD hz hS ⟨hE, rfl⟩ (by rw [hu]; show 2 * (nul ws - nul ws) + (2 * (nul ws - nul ws) + 1) ≤ 2 * (nul ws - nul ws) + 1; omega) (by rw [hu]; show 257 * (nul ws - nul ws) + (257 * (nul ws - nul ws) + 6) ≤ 257 * (nul ws - nul ws) + 6; omega)) (fun r9 u1 H locs hp hP hD hS => ?_)
  obtain ⟨hr9, hw9, h01⟩ := hp
  rw [hw9] at hP hD
  subst hr9
  refine W.widen (k := Kc ws ws) (n := Ks ws ws) (by rw [hw9]; show 2 * (nul ws - nul ws) + 2 * (nul ws - nul ws) ≤ 2 * (nul ws - nul ws); omega) (by rw [hw9]; show 257 * (nul ws - nul ws) + 257 * (nul ws - nul ws) ≤ 257 * (nul ws - nul ws); omega) ?_
  clear hw9
  refine W.eq (g2 := F0 m 4 ls []) rfl ?_
  refine lv_aload_n hx hb d_S_requireOpen_4 rfl (lv_at hl 0 rfl) ?_
  refine va_get (D := D) (ci := 5) (v := .int (v 1)) (C := R_S) (T := F_S) (N := 10) hx hb hts ws_S hown hK hP 0 hI.x rfl 6 (by decide) (hts _ fl_S_44) (fun _ h9 => h9) rfl d_S_requireOpen_5 ?_
  refine lv_if_ne (tgt := 21) hx hb d_S_requireOpen_8 rfl (fun q2 => ?_) (fun q2 => ?_)
  · skip
    refine mu_end (u := ws) (v := (none)) ⟨rfl, rfl, ⟨h01, by assumption⟩⟩ (Nat.le_refl _) (Nat.le_refl _) ?_
    exact W.vret hx hb hr (fun t9 ht hW => ⟨rfl, ⟨by rw [ht]; exact hP, va_K.moved hW.alike hK, hD, by rw [ht]; exact Nat.le_trans hz hS.1⟩, hS.F ht⟩) hS.2.2 d_S_requireOpen_21
  · skip
    exact mu_th (u := ws) hx hb hl0 hown hts hlocks hno hP hK hD hz hM hS (hl.1.trans hml.symm) (site_64_170_68) d_S_requireOpen_11 d_S_requireOpen_14 d_S_requireOpen_15 d_S_requireOpen_17 d_S_requireOpen_20 (Nat.le_of_ble_eq_true rfl) (Nat.le_of_ble_eq_true rfl) (by show 2 * (nul ws - nul ws) + 1 ≤ 2 * nul ws + 1; omega) (by show 257 * (nul ws - nul ws) + 6 ≤ 257 * nul ws + 6; omega) (Nat.le_refl _) (Nat.le_refl _) ⟨rfl, rfl⟩
set_option maxHeartbeats 4000000 in
set_option maxRecDepth 100000 in
theorem c_S_requirePage {l : Launch} {D : va_G} {t : Nat → ClassId} {z : Nat} {sa : Nat → Nat} {ws : va_W} {a : Nat → Nat} {k0 : Nat} {v : Nat → Int32} {x9 : Int32} (hl0 : l.stackTraces = false) (hI : Iv a t k0 v ws)  : Mu l y_S_requirePage (Cond.code y_S_requirePage b_S_requirePage 2 (.none : Option Jvm.ClassFile.FieldType) :: WS) ({ frames := 6, cells := 2 * nul ws + 1, slots := 257 * nul ws + 6, locals := 82 }) D t z sa ws [.ref (a 0), .int x9] (fun r u => r = none ∧ u = ws ∧ ¬ x9 < 0 ∧ x9 < v 3) (fun E u => (E = xIOB) ∧ u = ws) (Kc ws) (Ks ws) := by
  refine mu_ofW (cc := b_S_requirePage) (maxL := 2) (ret := (.none : Option Jvm.ClassFile.FieldType)) (by decide) rfl ?_
  intro p e s m args below meth c s₁ B hml hno hv
  obtain ⟨rfl, ⟨hP, hK, hD, hz⟩, hM⟩ := hv
  have hx := B.exec
  have hb := B.bytes
  have hr := B.returns
  have hts : ∀ w ∈ WS, w.before [.ref (a 0), .int x9].toArray s = true := fun w h => atoms_spec B.pre w (List.mem_cons_of_mem _ h)
  have hown : s.vm.findClass R_S = some m.cls := findClass_of_methodNamed B.named
  have hlocks := B.notSynchronized
  have hA : ∀ q, s.heap.size ≤ q → Az z q := fun q h => Nat.le_trans hz h
  have hS : va_S (Az z) s.heap s.heap [] := va_S.rf
  have hF : Fr t ws ws := Fr.rf
  have hn : nul ws ≤ nul ws := Nat.le_refl _
  have hl := lv_entry ([.ref (a 0), .int x9]) (n := 2) (Nat.le_of_ble_eq_true rfl)
  rw [lg_entry_eq]
  generalize (lg_sl ([.ref (a 0), .int x9]) ++ List.replicate (2 - (lg_sl ([.ref (a 0), .int x9])).length) Slot.unset).toArray = ls at hl ⊢
  have hl : lv_has ls 2 [(0, .ref (a 0)), (1, .int x9)] := hl
  refine W.widen (k := Kc ws ws) (n := Ks ws ws) (Nat.zero_le _) (Nat.zero_le _) ?_
  refine lv_iload_n hx hb d_S_requirePage_0 rfl (lv_at hl 1 rfl) ?_
  refine lv_if_lt (tgt := 12) hx hb d_S_requirePage_1 rfl (fun q1 => ?_) (fun q1 => ?_)
  · skip
    exact mu_th (u := ws) hx hb hl0 hown hts hlocks hno hP hK hD hz hM hS (hl.1.trans hml.symm) (site_172_174_176) d_S_requirePage_12 d_S_requirePage_15 d_S_requirePage_16 d_S_requirePage_18 d_S_requirePage_21 (Nat.le_of_ble_eq_true rfl) (Nat.le_of_ble_eq_true rfl) (by show 2 * (nul ws - nul ws) + 1 ≤ 2 * nul ws + 1; omega) (by show 257 * (nul ws - nul ws) + 6 ≤ 257 * nul ws + 6; omega) (Nat.le_refl _) (Nat.le_refl _) ⟨rfl, rfl⟩
  · skip
    refine lv_iload_n hx hb d_S_requirePage_4 rfl (lv_at hl 1 rfl) ?_
    refine lv_aload_n hx hb d_S_requirePage_5 rfl (lv_at hl 0 rfl) ?_
    refine va_get (D := D) (ci := 5) (v := .int (v 3)) (C := R_S) (T := F_S) (N := 10) hx hb hts ws_S hown hK hP 0 hI.x rfl 8 (by decide) (hts _ fl_S_51) (fun _ h9 => h9) rfl d_S_requirePage_6 ?_
    refine lv_icmp_lt (tgt := 22) hx hb d_S_requirePage_9 rfl (fun q2 => ?_) (fun q2 => ?_)
    · skip
      refine mu_end (u := ws) (v := (none)) ⟨rfl, rfl, ⟨by assumption, by assumption⟩⟩ (Nat.le_refl _) (Nat.le_refl _) ?_
      exact W.vret hx hb hr (fun t9 ht hW => ⟨rfl, ⟨by rw [ht]; exact hP, va_K.moved hW.alike hK, hD, by rw [ht]; exact Nat.le_trans hz hS.1⟩, hS.F ht⟩) hS.2.2 d_S_requirePage_22
    · skip
      exact mu_th (u := ws) hx hb hl0 hown hts hlocks hno hP hK hD hz hM hS (hl.1.trans hml.symm) (site_172_174_176) d_S_requirePage_12 d_S_requirePage_15 d_S_requirePage_16 d_S_requirePage_18 d_S_requirePage_21 (Nat.le_of_ble_eq_true rfl) (Nat.le_of_ble_eq_true rfl) (by show 2 * (nul ws - nul ws) + 1 ≤ 2 * nul ws + 1; omega) (by show 257 * (nul ws - nul ws) + 6 ≤ 257 * nul ws + 6; omega) (Nat.le_refl _) (Nat.le_refl _) ⟨rfl, rfl⟩
set_option maxHeartbeats 4000000 in
set_option maxRecDepth 100000 in
theorem c_S_requireByte {l : Launch} {D : va_G} {t : Nat → ClassId} {z : Nat} {sa : Nat → Nat} {ws : va_W} {a : Nat → Nat} {k0 : Nat} {v : Nat → Int32} {x9 y9 : Int32} (hl0 : l.stackTraces = false) (hI : Iv a t k0 v ws)  : Mu l y_S_requireByte (Cond.code y_S_requireByte b_S_requireByte 3 (.none : Option Jvm.ClassFile.FieldType) :: WS) ({ frames := 7, cells := 2 * nul ws + 1, slots := 257 * nul ws + 6, locals := 103 }) D t z sa ws [.ref (a 0), .int x9, .int y9] (fun r u => r = none ∧ u = ws ∧ (¬ x9 < 0 ∧ x9 < v 3) ∧ ¬ y9 < 0 ∧ y9 < 256) (fun E u => (E = xIOB) ∧ u = ws) (Kc ws) (Ks ws) := by
  refine mu_ofW (cc := b_S_requireByte) (maxL := 3) (ret := (.none : Option Jvm.ClassFile.FieldType)) (by decide) rfl ?_
  intro p e s m args below meth c s₁ B hml hno hv
  obtain ⟨rfl, ⟨hP, hK, hD, hz⟩, hM⟩ := hv
  have hx := B.exec
  have hb := B.bytes
  have hr := B.returns
  have hts : ∀ w ∈ WS, w.before [.ref (a 0), .int x9, .int y9].toArray s = true := fun w h => atoms_spec B.pre w (List.mem_cons_of_mem _ h)
  have hown : s.vm.findClass R_S = some m.cls := findClass_of_methodNamed B.named
  have hlocks := B.notSynchronized
  have hA : ∀ q, s.heap.size ≤ q → Az z q := fun q h => Nat.le_trans hz h
  have hS : va_S (Az z) s.heap s.heap [] := va_S.rf
  have hF : Fr t ws ws := Fr.rf
  have hn : nul ws ≤ nul ws := Nat.le_refl _
  have hl := lv_entry ([.ref (a 0), .int x9, .int y9]) (n := 3) (Nat.le_of_ble_eq_true rfl)
  rw [lg_entry_eq]
  generalize (lg_sl ([.ref (a 0), .int x9, .int y9]) ++ List.replicate (3 - (lg_sl ([.ref (a 0), .int x9, .int y9])).length) Slot.unset).toArray = ls at hl ⊢
  have hl : lv_has ls 3 [(0, .ref (a 0)), (1, .int x9), (2, .int y9)] := hl
  refine W.widen (k := Kc ws ws) (n := Ks ws ws) (Nat.zero_le _) (Nat.zero_le _) ?_
  refine lv_aload_n hx hb d_S_requireByte_0 rfl (lv_at hl 0 rfl) ?_
  refine lv_iload_n hx hb d_S_requireByte_1 rfl (lv_at hl 1 rfl) ?_
  refine mu_V (n := 1) (As := [.int x9]) (rest := []) ⟨hx, hb, hml, hown, hts⟩ (c_S_requirePage (D := D) (t := t) (z := z) (sa := sa) (ws := ws) (x9 := x9) hl0 hI ) ml_S_91 im_S_requirePage se_S_requirePage in_S cd_S_requirePage (by decide +kernel) ⟨Nat.le_of_ble_eq_true rfl, Nat.le_of_ble_eq_true rfl⟩ (va_recv hK hP (ci := 5) rfl hI.x) (Pz_at hP hK hD hz hM hS) rfl hl.1 rfl (Nat.le_of_ble_eq_true rfl) d_S_requireByte_2 ⟨by show 2 * (nul ws - nul ws) + (2 * nul ws + 1) ≤ 2 * nul ws + 1; omega, by show 257 * (nul ws - nul ws) + (257 * nul ws + 6) ≤ 257 * nul ws + 6; omega⟩ hS (fun E ce q u H locs hxp hP hD hS h1 h2 h3 => by obtain ⟨hE, hu⟩ := hxp; rw [hu] at hP hD; exact mu_out (u := ws) hno hlocks h1 h2 h3 hP hK hD hz hS ⟨hE, rfl⟩ (by rw [hu]; show 2 * (nul ws - nul ws) + (2 * (nul ws - nul ws) + 1) ≤ 2 * (nul ws - nul ws) + 1; omega) (by rw [hu]; show 257 * (nul ws - nul ws) + (257 * (nul ws - nul ws) + 6) ≤ 257 * (nul ws - nul ws) + 6; omega)) (fun r9 u1 H locs hp hP hD hS => ?_)
  obtain ⟨hr9, hw9, h01⟩ := hp
  rw [hw9] at hP hD
  subst hr9
  refine W.widen (k := Kc ws ws) (n := Ks ws ws) (by rw [hw9]; show 2 * (nul ws - nul ws) + 2 * (nul ws - nul ws) ≤ 2 * (nul ws - nul ws); omega) (by rw [hw9]; show 257 * (nul ws - nul ws) + 257 * (nul ws - nul ws) ≤ 257 * (nul ws - nul ws); omega) ?_
  clear hw9
  refine W.eq (g2 := F0 m 5 ls []) rfl ?_
  refine lv_iload_n hx hb d_S_requireByte_5 rfl (lv_at hl 2 rfl) ?_
  refine lv_if_lt (tgt := 16) hx hb d_S_requireByte_6 rfl (fun q2 => ?_) (fun q2 => ?_)
  · skip
    exact mu_th (u := ws) hx hb hl0 hown hts hlocks hno hP hK hD hz hM hS (hl.1.trans hml.symm) (site_172_177_176) d_S_requireByte_16 d_S_requireByte_19 d_S_requireByte_20 d_S_requireByte_22 d_S_requireByte_25 (Nat.le_of_ble_eq_true rfl) (Nat.le_of_ble_eq_true rfl) (by show 2 * (nul ws - nul ws) + 1 ≤ 2 * nul ws + 1; omega) (by show 257 * (nul ws - nul ws) + 6 ≤ 257 * nul ws + 6; omega) (Nat.le_refl _) (Nat.le_refl _) ⟨rfl, rfl⟩
  · skip
    refine lv_iload_n hx hb d_S_requireByte_9 rfl (lv_at hl 2 rfl) ?_
    refine lv_sipush (v := 256) hx hb d_S_requireByte_10 (by decide) ?_
    refine lv_icmp_lt (tgt := 26) hx hb d_S_requireByte_13 rfl (fun q3 => ?_) (fun q3 => ?_)
    · skip
      refine mu_end (u := ws) (v := (none)) ⟨rfl, rfl, ⟨h01, by assumption, by assumption⟩⟩ (Nat.le_refl _) (Nat.le_refl _) ?_
      exact W.vret hx hb hr (fun t9 ht hW => ⟨rfl, ⟨by rw [ht]; exact hP, va_K.moved hW.alike hK, hD, by rw [ht]; exact Nat.le_trans hz hS.1⟩, hS.F ht⟩) hS.2.2 d_S_requireByte_26
    · skip
      exact mu_th (u := ws) hx hb hl0 hown hts hlocks hno hP hK hD hz hM hS (hl.1.trans hml.symm) (site_172_177_176) d_S_requireByte_16 d_S_requireByte_19 d_S_requireByte_20 d_S_requireByte_22 d_S_requireByte_25 (Nat.le_of_ble_eq_true rfl) (Nat.le_of_ble_eq_true rfl) (by show 2 * (nul ws - nul ws) + 1 ≤ 2 * nul ws + 1; omega) (by show 257 * (nul ws - nul ws) + 6 ≤ 257 * nul ws + 6; omega) (Nat.le_refl _) (Nat.le_refl _) ⟨rfl, rfl⟩
set_option maxHeartbeats 4000000 in
set_option maxRecDepth 100000 in
theorem c_S_requireMark {l : Launch} {D : va_G} {t : Nat → ClassId} {z : Nat} {sa : Nat → Nat} {ws : va_W} {a : Nat → Nat} {k0 : Nat} {v : Nat → Int32} {x9 : Int32} (hl0 : l.stackTraces = false) (hI : Iv a t k0 v ws)  : Mu l y_S_requireMark (Cond.code y_S_requireMark b_S_requireMark 2 (.none : Option Jvm.ClassFile.FieldType) :: WS) ({ frames := 6, cells := 2 * nul ws + 1, slots := 257 * nul ws + 6, locals := 82 }) D t z sa ws [.ref (a 0), .int x9] (fun r u => r = none ∧ u = ws ∧ ¬ x9 < 1 ∧ x9 ≤ v 2) (fun E u => (E = xIOB) ∧ u = ws) (Kc ws) (Ks ws) := by
  refine mu_ofW (cc := b_S_requireMark) (maxL := 2) (ret := (.none : Option Jvm.ClassFile.FieldType)) (by decide) rfl ?_
  intro p e s m args below meth c s₁ B hml hno hv
  obtain ⟨rfl, ⟨hP, hK, hD, hz⟩, hM⟩ := hv
  have hx := B.exec
  have hb := B.bytes
  have hr := B.returns
  have hts : ∀ w ∈ WS, w.before [.ref (a 0), .int x9].toArray s = true := fun w h => atoms_spec B.pre w (List.mem_cons_of_mem _ h)
  have hown : s.vm.findClass R_S = some m.cls := findClass_of_methodNamed B.named
  have hlocks := B.notSynchronized
  have hA : ∀ q, s.heap.size ≤ q → Az z q := fun q h => Nat.le_trans hz h
  have hS : va_S (Az z) s.heap s.heap [] := va_S.rf
  have hF : Fr t ws ws := Fr.rf
  have hn : nul ws ≤ nul ws := Nat.le_refl _
  have hl := lv_entry ([.ref (a 0), .int x9]) (n := 2) (Nat.le_of_ble_eq_true rfl)
  rw [lg_entry_eq]
  generalize (lg_sl ([.ref (a 0), .int x9]) ++ List.replicate (2 - (lg_sl ([.ref (a 0), .int x9])).length) Slot.unset).toArray = ls at hl ⊢
  have hl : lv_has ls 2 [(0, .ref (a 0)), (1, .int x9)] := hl
  refine W.widen (k := Kc ws ws) (n := Ks ws ws) (Nat.zero_le _) (Nat.zero_le _) ?_
  refine lv_iload_n hx hb d_S_requireMark_0 rfl (lv_at hl 1 rfl) ?_
  refine lv_iconst (v := 1) hx hb d_S_requireMark_1 (by decide) ?_
  refine lv_icmp_lt (tgt := 13) hx hb d_S_requireMark_2 rfl (fun q1 => ?_) (fun q1 => ?_)
  · skip
    exact mu_th (u := ws) hx hb hl0 hown hts hlocks hno hP hK hD hz hM hS (hl.1.trans hml.symm) (site_172_181_176) d_S_requireMark_13 d_S_requireMark_16 d_S_requireMark_17 d_S_requireMark_19 d_S_requireMark_22 (Nat.le_of_ble_eq_true rfl) (Nat.le_of_ble_eq_true rfl) (by show 2 * (nul ws - nul ws) + 1 ≤ 2 * nul ws + 1; omega) (by show 257 * (nul ws - nul ws) + 6 ≤ 257 * nul ws + 6; omega) (Nat.le_refl _) (Nat.le_refl _) ⟨rfl, rfl⟩
  · skip
    refine lv_iload_n hx hb d_S_requireMark_5 rfl (lv_at hl 1 rfl) ?_
    refine lv_aload_n hx hb d_S_requireMark_6 rfl (lv_at hl 0 rfl) ?_
    refine va_get (D := D) (ci := 5) (v := .int (v 2)) (C := R_S) (T := F_S) (N := 10) hx hb hts ws_S hown hK hP 0 hI.x rfl 7 (by decide) (hts _ fl_S_47) (fun _ h9 => h9) rfl d_S_requireMark_7 ?_
    refine lv_icmp_le (tgt := 23) hx hb d_S_requireMark_10 rfl (fun q2 => ?_) (fun q2 => ?_)
    · skip
      refine mu_end (u := ws) (v := (none)) ⟨rfl, rfl, ⟨by assumption, by assumption⟩⟩ (Nat.le_refl _) (Nat.le_refl _) ?_
      exact W.vret hx hb hr (fun t9 ht hW => ⟨rfl, ⟨by rw [ht]; exact hP, va_K.moved hW.alike hK, hD, by rw [ht]; exact Nat.le_trans hz hS.1⟩, hS.F ht⟩) hS.2.2 d_S_requireMark_23
    · skip
      exact mu_th (u := ws) hx hb hl0 hown hts hlocks hno hP hK hD hz hM hS (hl.1.trans hml.symm) (site_172_181_176) d_S_requireMark_13 d_S_requireMark_16 d_S_requireMark_17 d_S_requireMark_19 d_S_requireMark_22 (Nat.le_of_ble_eq_true rfl) (Nat.le_of_ble_eq_true rfl) (by show 2 * (nul ws - nul ws) + 1 ≤ 2 * nul ws + 1; omega) (by show 257 * (nul ws - nul ws) + 6 ≤ 257 * nul ws + 6; omega) (Nat.le_refl _) (Nat.le_refl _) ⟨rfl, rfl⟩
end
section
theorem c_K_bytesOf' {l : Launch} {D : va_G} {t : Nat → ClassId} {z : Nat} {sa : Nat → Nat} {ws : va_W} {a : Nat → Nat} {k0 : Nat} {v : Nat → Int32} {pk pm i kk : Nat} {x9 : Int32} (hI : Iv a t k0 v ws) (ek : ws[pk]? = some (kk, .inr (1, [.ref (a pm)]))) (hp : pm ∈ Mds) (hi : i < Nn pm) (hxi : x9 = nI i) :
    Mu l y_K_bytesOf (Cond.code y_K_bytesOf b_K_bytesOf 2 (some (.array .byte)) :: WS) ({ frames := 2, cells := 2 * nul ws + 1, slots := 257 * nul ws + 6, locals := 33 }) D t z sa ws [.ref kk, .int x9] (Bp a t k0 pm i v ws) Xno (Kc ws) (Ks ws) := by
  subst hxi
  exact c_K_bytesOf hI ek hp hi
theorem Nn_j {j : Nat} : Nn (12 + 4 * j) = 768 := by unfold Nn; rw [if_neg (by omega)]
set_option maxHeartbeats 4000000 in
set_option maxRecDepth 100000 in
theorem c_Y_length_f {l : Launch} {D : va_G} {t : Nat → ClassId} {z : Nat} {sa : Nat → Nat} {ws : va_W} {a : Nat → Nat} {k0 : Nat} {v : Nat → Int32}  (hI : Iv a t k0 v ws)  : Mu l y_Y_length (Cond.code y_Y_length b_Y_length 1 (some .int) :: WS) ({ frames := 0, cells := 2 * nul ws + 1, slots := 257 * nul ws + 6, locals := 0 }) D t z sa ws [.ref (a 1)] (fun r u => r = some (.int (v 5)) ∧ u = ws) Xno (Kc ws) (Ks ws) := by
  refine mu_ofW (cc := b_Y_length) (maxL := 1) (ret := (some .int)) (by decide) rfl ?_
  intro p e s m args below meth c s₁ B hml hno hv
  obtain ⟨rfl, ⟨hP, hK, hD, hz⟩, hM⟩ := hv
  have hx := B.exec
  have hb := B.bytes
  have hr := B.returns
  have hts : ∀ w ∈ WS, w.before [.ref (a 1)].toArray s = true := fun w h => atoms_spec B.pre w (List.mem_cons_of_mem _ h)
  have hown : s.vm.findClass R_Y = some m.cls := findClass_of_methodNamed B.named
  have hlocks := B.notSynchronized
  have hA : ∀ q, s.heap.size ≤ q → Az z q := fun q h => Nat.le_trans hz h
  have hS : va_S (Az z) s.heap s.heap [] := va_S.rf
  have hF : Fr t ws ws := Fr.rf
  have hn : nul ws ≤ nul ws := Nat.le_refl _
  have hl := lv_entry ([.ref (a 1)]) (n := 1) (Nat.le_of_ble_eq_true rfl)
  rw [lg_entry_eq]
  generalize (lg_sl ([.ref (a 1)]) ++ List.replicate (1 - (lg_sl ([.ref (a 1)])).length) Slot.unset).toArray = ls at hl ⊢
  have hl : lv_has ls 1 [(0, .ref (a 1))] := hl
  refine W.widen (k := Kc ws ws) (n := Ks ws ws) (Nat.zero_le _) (Nat.zero_le _) ?_
  refine lv_aload_n hx hb d_Y_length_0 rfl (lv_at hl 0 rfl) ?_
  refine va_get (D := D) (ci := 3) (v := .int (v 5)) (C := R_Y) (T := F_Y) (N := 2) hx hb hts ws_Y hown hK hP 1 hI.y1 rfl 1 (by decide) (hts _ fl_Y_9) (fun _ h9 => h9) rfl d_Y_length_1 ?_
  refine mu_end (u := ws) (v := (some (.int (v 5)))) ⟨rfl, rfl⟩ (Nat.le_refl _) (Nat.le_refl _) ?_
  exact W.iret (v := (v 5)) hx hb hr (fun t9 ht hW => ⟨rfl, ⟨by rw [ht]; exact hP, va_K.moved hW.alike hK, hD, by rw [ht]; exact Nat.le_trans hz hS.1⟩, hS.F ht⟩) hS.2.2 d_Y_length_4
set_option maxHeartbeats 4000000 in
set_option maxRecDepth 100000 in
theorem c_Y_length_j {l : Launch} {D : va_G} {t : Nat → ClassId} {z : Nat} {sa : Nat → Nat} {ws : va_W} {a : Nat → Nat} {k0 : Nat} {v : Nat → Int32}  (hI : Iv a t k0 v ws)  : Mu l y_Y_length (Cond.code y_Y_length b_Y_length 1 (some .int) :: WS) ({ frames := 0, cells := 2 * nul ws + 1, slots := 257 * nul ws + 6, locals := 0 }) D t z sa ws [.ref (a 4)] (fun r u => r = some (.int (v 6)) ∧ u = ws) Xno (Kc ws) (Ks ws) := by
  refine mu_ofW (cc := b_Y_length) (maxL := 1) (ret := (some .int)) (by decide) rfl ?_
  intro p e s m args below meth c s₁ B hml hno hv
  obtain ⟨rfl, ⟨hP, hK, hD, hz⟩, hM⟩ := hv
  have hx := B.exec
  have hb := B.bytes
  have hr := B.returns
  have hts : ∀ w ∈ WS, w.before [.ref (a 4)].toArray s = true := fun w h => atoms_spec B.pre w (List.mem_cons_of_mem _ h)
  have hown : s.vm.findClass R_Y = some m.cls := findClass_of_methodNamed B.named
  have hlocks := B.notSynchronized
  have hA : ∀ q, s.heap.size ≤ q → Az z q := fun q h => Nat.le_trans hz h
  have hS : va_S (Az z) s.heap s.heap [] := va_S.rf
  have hF : Fr t ws ws := Fr.rf
  have hn : nul ws ≤ nul ws := Nat.le_refl _
  have hl := lv_entry ([.ref (a 4)]) (n := 1) (Nat.le_of_ble_eq_true rfl)
  rw [lg_entry_eq]
  generalize (lg_sl ([.ref (a 4)]) ++ List.replicate (1 - (lg_sl ([.ref (a 4)])).length) Slot.unset).toArray = ls at hl ⊢
  have hl : lv_has ls 1 [(0, .ref (a 4))] := hl
  refine W.widen (k := Kc ws ws) (n := Ks ws ws) (Nat.zero_le _) (Nat.zero_le _) ?_
  refine lv_aload_n hx hb d_Y_length_0 rfl (lv_at hl 0 rfl) ?_
  refine va_get (D := D) (ci := 3) (v := .int (v 6)) (C := R_Y) (T := F_Y) (N := 2) hx hb hts ws_Y hown hK hP 4 hI.y4 rfl 1 (by decide) (hts _ fl_Y_9) (fun _ h9 => h9) rfl d_Y_length_1 ?_
  refine mu_end (u := ws) (v := (some (.int (v 6)))) ⟨rfl, rfl⟩ (Nat.le_refl _) (Nat.le_refl _) ?_
  exact W.iret (v := (v 6)) hx hb hr (fun t9 ht hW => ⟨rfl, ⟨by rw [ht]; exact hP, va_K.moved hW.alike hK, hD, by rw [ht]; exact Nat.le_trans hz hS.1⟩, hS.F ht⟩) hS.2.2 d_Y_length_4
set_option maxHeartbeats 4000000 in
set_option maxRecDepth 100000 in
theorem c_Z_pagesBelow {l : Launch} {D : va_G} {t : Nat → ClassId} {z : Nat} {sa : Nat → Nat} {ws : va_W} {a : Nat → Nat} {k0 : Nat} {v : Nat → Int32} {j : Nat} (hI : Iv a t k0 v ws) (hj : j < 6) : Mu l y_Z_pagesBelow (Cond.code y_Z_pagesBelow b_Z_pagesBelow 1 (some .int) :: WS) ({ frames := 0, cells := 2 * nul ws + 1, slots := 257 * nul ws + 6, locals := 0 }) D t z sa ws [.ref (a (10 + 4 * j))] (fun r u => r = some (.int (v (11 + j))) ∧ u = ws) Xno (Kc ws) (Ks ws) := by
  refine mu_ofW (cc := b_Z_pagesBelow) (maxL := 1) (ret := (some .int)) (by decide) rfl ?_
  intro p e s m args below meth c s₁ B hml hno hv
  obtain ⟨rfl, ⟨hP, hK, hD, hz⟩, hM⟩ := hv
  have hx := B.exec
  have hb := B.bytes
  have hr := B.returns
  have hts : ∀ w ∈ WS, w.before [.ref (a (10 + 4 * j))].toArray s = true := fun w h => atoms_spec B.pre w (List.mem_cons_of_mem _ h)
  have hown : s.vm.findClass R_Z = some m.cls := findClass_of_methodNamed B.named
  have hlocks := B.notSynchronized
  have hA : ∀ q, s.heap.size ≤ q → Az z q := fun q h => Nat.le_trans hz h
  have hS : va_S (Az z) s.heap s.heap [] := va_S.rf
  have hF : Fr t ws ws := Fr.rf
  have hn : nul ws ≤ nul ws := Nat.le_refl _
  have hl := lv_entry ([.ref (a (10 + 4 * j))]) (n := 1) (Nat.le_of_ble_eq_true rfl)
  rw [lg_entry_eq]
  generalize (lg_sl ([.ref (a (10 + 4 * j))]) ++ List.replicate (1 - (lg_sl ([.ref (a (10 + 4 * j))])).length) Slot.unset).toArray = ls at hl ⊢
  have hl : lv_has ls 1 [(0, .ref (a (10 + 4 * j)))] := hl
  refine W.widen (k := Kc ws ws) (n := Ks ws ws) (Nat.zero_le _) (Nat.zero_le _) ?_
  refine lv_aload_n hx hb d_Z_pagesBelow_0 rfl (lv_at hl 0 rfl) ?_
  refine va_get (D := D) (ci := 4) (v := .int (v (11 + j))) (C := R_Z) (T := F_Z) (N := 3) hx hb hts ws_Z hown hK hP (10 + 4 * j) (hI.z hj) rfl 2 (by decide) (hts _ fl_Z_24) (fun _ h9 => h9) rfl d_Z_pagesBelow_1 ?_
  refine mu_end (u := ws) (v := (some (.int (v (11 + j))))) ⟨rfl, rfl⟩ (Nat.le_refl _) (Nat.le_refl _) ?_
  exact W.iret (v := (v (11 + j))) hx hb hr (fun t9 ht hW => ⟨rfl, ⟨by rw [ht]; exact hP, va_K.moved hW.alike hK, hD, by rw [ht]; exact Nat.le_trans hz hS.1⟩, hS.F ht⟩) hS.2.2 d_Z_pagesBelow_4
set_option maxHeartbeats 4000000 in
set_option maxRecDepth 100000 in
theorem c_Z_bytesOf {l : Launch} {D : va_G} {t : Nat → ClassId} {z : Nat} {sa : Nat → Nat} {ws : va_W} {a : Nat → Nat} {k0 : Nat} {v : Nat → Int32} {j : Nat} {i : Nat} {x9 : Int32} (hI : Iv a t k0 v ws) (hj : j < 6) (hi : i < Nn (12 + 4 * j)) (hxi : x9 = nI i) : Mu l y_Z_bytesOf (Cond.code y_Z_bytesOf b_Z_bytesOf 2 (some (.array .byte)) :: WS) ({ frames := 3, cells := 2 * nul ws + 1, slots := 257 * nul ws + 6, locals := 54 }) D t z sa ws [.ref (a (10 + 4 * j)), .int x9] (fun r u => Bp a t k0 (12 + 4 * j) i v ws r u) Xno (Kc ws) (Ks ws) := by
  refine mu_ofW (cc := b_Z_bytesOf) (maxL := 2) (ret := (some (.array .byte))) (by decide) rfl ?_
  intro p e s m args below meth c s₁ B hml hno hv
  obtain ⟨rfl, ⟨hP, hK, hD, hz⟩, hM⟩ := hv
  have hx := B.exec
  have hb := B.bytes
  have hr := B.returns
  have hts : ∀ w ∈ WS, w.before [.ref (a (10 + 4 * j)), .int x9].toArray s = true := fun w h => atoms_spec B.pre w (List.mem_cons_of_mem _ h)
  have hown : s.vm.findClass R_Z = some m.cls := findClass_of_methodNamed B.named
  have hlocks := B.notSynchronized
  have hA : ∀ q, s.heap.size ≤ q → Az z q := fun q h => Nat.le_trans hz h
  have hS : va_S (Az z) s.heap s.heap [] := va_S.rf
  have hF : Fr t ws ws := Fr.rf
  have hn : nul ws ≤ nul ws := Nat.le_refl _
  have hl := lv_entry ([.ref (a (10 + 4 * j)), .int x9]) (n := 2) (Nat.le_of_ble_eq_true rfl)
  rw [lg_entry_eq]
  generalize (lg_sl ([.ref (a (10 + 4 * j)), .int x9]) ++ List.replicate (2 - (lg_sl ([.ref (a (10 + 4 * j)), .int x9])).length) Slot.unset).toArray = ls at hl ⊢
  have hl : lv_has ls 2 [(0, .ref (a (10 + 4 * j))), (1, .int x9)] := hl
  refine W.widen (k := Kc ws ws) (n := Ks ws ws) (Nat.zero_le _) (Nat.zero_le _) ?_
  refine lv_aload_n hx hb d_Z_bytesOf_0 rfl (lv_at hl 0 rfl) ?_
  refine va_get (D := D) (ci := 4) (v := .ref (a (11 + 4 * j))) (C := R_Z) (T := F_Z) (N := 3) hx hb hts ws_Z hown hK hP (10 + 4 * j) (hI.z hj) rfl 0 (by decide) (hts _ fl_Z_14) (fun _ h9 => h9) rfl d_Z_bytesOf_1 ?_
  refine lv_iload_n hx hb d_Z_bytesOf_4 rfl (lv_at hl 1 rfl) ?_
  refine mu_V (n := 1) (As := [.int x9]) (rest := []) ⟨hx, hb, hml, hown, hts⟩ (c_K_bytesOf' (D := D) (t := t) (z := z) (sa := sa) (ws := ws) (pm := (12 + 4 * j)) (i := i) hI (hI.zk hj) (mds_j hj) hi hxi) ml_Z_28 im_K_bytesOf se_K_bytesOf in_K cd_K_bytesOf (by decide +kernel) ⟨Nat.le_of_ble_eq_true rfl, Nat.le_of_ble_eq_true rfl⟩ (va_recv hK hP (ci := 1) rfl (hI.zk hj)) (Pz_at hP hK hD hz hM hS) rfl hl.1 rfl (Nat.le_of_ble_eq_true rfl) d_Z_bytesOf_5 ⟨by show 2 * (nul ws - nul ws) + (2 * nul ws + 1) ≤ 2 * nul ws + 1; omega, by show 257 * (nul ws - nul ws) + (257 * nul ws + 6) ≤ 257 * nul ws + 6; omega⟩ hS (fun _ _ _ _ _ _ h => h.elim) (fun r9 u1 H locs hp hP hD hS => ?_)
  have hp0 := hp
  obtain ⟨c2, j3, k4, f5, hr9, hk42, hkc, hsp, hI, hF9, hn9, hj9, hq9⟩ := hp
  subst hr9
  have hF := hF.trans hF9
  have hp := hp0
  have hn : nul u1 ≤ nul ws := by omega
  refine W.widen (k := Kc ws u1) (n := Ks ws u1) (by show 2 * (nul ws - nul ws) + 2 * (nul ws - nul u1) ≤ 2 * (nul ws - nul u1); omega) (by show 257 * (nul ws - nul ws) + 257 * (nul ws - nul u1) ≤ 257 * (nul ws - nul u1); omega) ?_
  refine W.eq (g2 := F0 m 8 ls [.ref c2]) rfl ?_
  refine mu_end (u := u1) (v := (some (.ref c2))) hp0 (Nat.le_refl _) (Nat.le_refl _) ?_
  exact W.aret (v := .ref c2) (rt := .array .byte) hx hb hr (Or.inr ⟨_, rfl⟩) (Or.inr ⟨_, rfl⟩) (fun t9 ht hW => ⟨rfl, ⟨by rw [ht]; exact hP, va_K.moved hW.alike hK, hD, by rw [ht]; exact Nat.le_trans hz hS.1⟩, hS.F ht⟩) hS.2.2 d_Z_bytesOf_8
set_option maxHeartbeats 4000000 in
set_option maxRecDepth 100000 in
theorem c_Y_block_f {l : Launch} {D : va_G} {t : Nat → ClassId} {z : Nat} {sa : Nat → Nat} {ws : va_W} {a : Nat → Nat} {k0 : Nat} {v : Nat → Int32}  {i : Nat} {x9 : Int32} (hI : Iv a t k0 v ws)  (hi : i < Nn 3) (hxi : x9 = nI i) : Mu l y_Y_block (Cond.code y_Y_block b_Y_block 2 (some (.array .byte)) :: WS) ({ frames := 3, cells := 2 * nul ws + 1, slots := 257 * nul ws + 6, locals := 54 }) D t z sa ws [.ref (a 1), .int x9] (fun r u => Bp a t k0 3 i v ws r u) Xno (Kc ws) (Ks ws) := by
  refine mu_ofW (cc := b_Y_block) (maxL := 2) (ret := (some (.array .byte))) (by decide) rfl ?_
  intro p e s m args below meth c s₁ B hml hno hv
  obtain ⟨rfl, ⟨hP, hK, hD, hz⟩, hM⟩ := hv
  have hx := B.exec
  have hb := B.bytes
  have hr := B.returns
  have hts : ∀ w ∈ WS, w.before [.ref (a 1), .int x9].toArray s = true := fun w h => atoms_spec B.pre w (List.mem_cons_of_mem _ h)
  have hown : s.vm.findClass R_Y = some m.cls := findClass_of_methodNamed B.named
  have hlocks := B.notSynchronized
  have hA : ∀ q, s.heap.size ≤ q → Az z q := fun q h => Nat.le_trans hz h
  have hS : va_S (Az z) s.heap s.heap [] := va_S.rf
  have hF : Fr t ws ws := Fr.rf
  have hn : nul ws ≤ nul ws := Nat.le_refl _
  have hl := lv_entry ([.ref (a 1), .int x9]) (n := 2) (Nat.le_of_ble_eq_true rfl)
  rw [lg_entry_eq]
  generalize (lg_sl ([.ref (a 1), .int x9]) ++ List.replicate (2 - (lg_sl ([.ref (a 1), .int x9])).length) Slot.unset).toArray = ls at hl ⊢
  have hl : lv_has ls 2 [(0, .ref (a 1)), (1, .int x9)] := hl
  refine W.widen (k := Kc ws ws) (n := Ks ws ws) (Nat.zero_le _) (Nat.zero_le _) ?_
  refine lv_aload_n hx hb d_Y_block_0 rfl (lv_at hl 0 rfl) ?_
  refine va_get (D := D) (ci := 3) (v := .ref (a 2)) (C := R_Y) (T := F_Y) (N := 2) hx hb hts ws_Y hown hK hP 1 hI.y1 rfl 0 (by decide) (hts _ fl_Y_20) (fun _ h9 => h9) rfl d_Y_block_1 ?_
  refine lv_iload_n hx hb d_Y_block_4 rfl (lv_at hl 1 rfl) ?_
  refine mu_V (n := 1) (As := [.int x9]) (rest := []) ⟨hx, hb, hml, hown, hts⟩ (c_K_bytesOf' (D := D) (t := t) (z := z) (sa := sa) (ws := ws) (pm := 3) (i := i) hI hI.k2 (by decide) hi hxi) ml_Y_24 im_K_bytesOf se_K_bytesOf in_K cd_K_bytesOf (by decide +kernel) ⟨Nat.le_of_ble_eq_true rfl, Nat.le_of_ble_eq_true rfl⟩ (va_recv hK hP (ci := 1) rfl hI.k2) (Pz_at hP hK hD hz hM hS) rfl hl.1 rfl (Nat.le_of_ble_eq_true rfl) d_Y_block_5 ⟨by show 2 * (nul ws - nul ws) + (2 * nul ws + 1) ≤ 2 * nul ws + 1; omega, by show 257 * (nul ws - nul ws) + (257 * nul ws + 6) ≤ 257 * nul ws + 6; omega⟩ hS (fun _ _ _ _ _ _ h => h.elim) (fun r9 u1 H locs hp hP hD hS => ?_)
  have hp0 := hp
  obtain ⟨c2, j3, k4, f5, hr9, hk42, hkc, hsp, hI, hF9, hn9, hj9, hq9⟩ := hp
  subst hr9
  have hF := hF.trans hF9
  have hp := hp0
  have hn : nul u1 ≤ nul ws := by omega
  refine W.widen (k := Kc ws u1) (n := Ks ws u1) (by show 2 * (nul ws - nul ws) + 2 * (nul ws - nul u1) ≤ 2 * (nul ws - nul u1); omega) (by show 257 * (nul ws - nul ws) + 257 * (nul ws - nul u1) ≤ 257 * (nul ws - nul u1); omega) ?_
  refine W.eq (g2 := F0 m 8 ls [.ref c2]) rfl ?_
  refine mu_end (u := u1) (v := (some (.ref c2))) hp0 (Nat.le_refl _) (Nat.le_refl _) ?_
  exact W.aret (v := .ref c2) (rt := .array .byte) hx hb hr (Or.inr ⟨_, rfl⟩) (Or.inr ⟨_, rfl⟩) (fun t9 ht hW => ⟨rfl, ⟨by rw [ht]; exact hP, va_K.moved hW.alike hK, hD, by rw [ht]; exact Nat.le_trans hz hS.1⟩, hS.F ht⟩) hS.2.2 d_Y_block_8
end
section
/-- bytes that were asked for, in a world that has gone on -/
def Bq (a : Nat → Nat) (t : Nat → ClassId) (k0 pm i : Nat) (v : Nat → Int32) (ws : va_W) : Option Value → va_W → Prop := fun r u =>
  ∃ (c k' k1 : Nat) (f : Nat → Int32), r = some (.ref c) ∧ 42 ≤ k' ∧ u[k']? = some (cA t c f) ∧ (k' = k1 ↔ pm = 6 ∧ i = 0) ∧ Iv a t k1 v u ∧ Fr t ws u ∧ nul u ≤ nul ws ∧ (4 ≤ v 6 ∨ ¬ (pm = 6 ∧ i = 0) → k1 = k0)
theorem up01 {h : Nat → Int32} {k : Nat} {x : Int32} (h0 : ∀ i, h i = 0 ∨ h i = 1) (hx : x = 0 ∨ x = 1) : ∀ i, upd h k x i = 0 ∨ upd h k x i = 1 := fun i => by
  by_cases e : i = k
  · subst e; rw [pk_us]; exact hx
  · rw [pk_un e]; exact h0 i
theorem nar01 {x : Int32} (h : x = 0 ∨ x = 1) : narrow .boolean (.int x) = .int x := by rcases h with rfl | rfl <;> rfl
theorem fit01 {x : Int32} (h : x = 0 ∨ x = 1) : fits .boolean (.int x) = true := by rcases h with rfl | rfl <;> rfl
theorem zz_lt {x9 : Int32} {i : Nat} (hxi : x9 = nI i) (hi : i < 768) : vp_in x9 768 := by rw [hxi]; exact vp_in_nI hi (by decide)
theorem nm13 {j : Nat} : 13 + 4 * j ∉ Mds := fun q => by rcases mds_cases q with q | q | ⟨_, _, q⟩ <;> omega
theorem nm10 {j : Nat} : 10 + 4 * j ∉ Mds := fun q => by rcases mds_cases q with q | q | ⟨_, _, q⟩ <;> omega
set_option maxHeartbeats 4000000 in
set_option maxRecDepth 100000 in
theorem c_Z_holds {l : Launch} {D : va_G} {t : Nat → ClassId} {z : Nat} {sa : Nat → Nat} {ws : va_W} {a : Nat → Nat} {k0 : Nat} {v : Nat → Int32} {j : Nat}{i : Nat} {x9 : Int32} (hI : Iv a t k0 v ws) (hj : j < 6)(hi : i < 768) (hxi : x9 = nI i) : Mu l y_Z_holds (Cond.code y_Z_holds b_Z_holds 2 (some .boolean) :: WS) ({ frames := 0, cells := 2 * nul ws + 1, slots := 257 * nul ws + 6, locals := 0 }) D t z sa ws [.ref (a (10 + 4 * j)), .int x9] (fun r u => ∃ y, r = some (.int y) ∧ u = ws ∧ (y = 0 ∨ y = 1)) Xno (Kc ws) (Ks ws) := by
  refine mu_ofW (cc := b_Z_holds) (maxL := 2) (ret := (some .boolean)) (by decide) rfl ?_
  intro p e s m args below meth c s₁ B hml hno hv
  obtain ⟨rfl, ⟨hP, hK, hD, hz⟩, hM⟩ := hv
  have hx := B.exec
  have hb := B.bytes
  have hr := B.returns
  have hts : ∀ w ∈ WS, w.before [.ref (a (10 + 4 * j)), .int x9].toArray s = true := fun w h => atoms_spec B.pre w (List.mem_cons_of_mem _ h)
  have hown : s.vm.findClass R_Z = some m.cls := findClass_of_methodNamed B.named
  have hlocks := B.notSynchronized
  have hA : ∀ q, s.heap.size ≤ q → Az z q := fun q h => Nat.le_trans hz h
  have hS : va_S (Az z) s.heap s.heap [] := va_S.rf
  have hF : Fr t ws ws := Fr.rf
  have hn : nul ws ≤ nul ws := Nat.le_refl _
  have hl := lv_entry ([.ref (a (10 + 4 * j)), .int x9]) (n := 2) (Nat.le_of_ble_eq_true rfl)
  rw [lg_entry_eq]
  generalize (lg_sl ([.ref (a (10 + 4 * j)), .int x9]) ++ List.replicate (2 - (lg_sl ([.ref (a (10 + 4 * j)), .int x9])).length) Slot.unset).toArray = ls at hl ⊢
  have hl : lv_has ls 2 [(0, .ref (a (10 + 4 * j))), (1, .int x9)] := hl
  refine W.widen (k := Kc ws ws) (n := Ks ws ws) (Nat.zero_le _) (Nat.zero_le _) ?_
  refine lv_aload_n hx hb d_Z_holds_0 rfl (lv_at hl 0 rfl) ?_
  refine va_get (D := D) (ci := 4) (v := .ref (a (13 + 4 * j))) (C := R_Z) (T := F_Z) (N := 3) hx hb hts ws_Z hown hK hP (10 + 4 * j) (hI.z hj) rfl 1 (by decide) (hts _ fl_Z_20) (fun _ h9 => h9) rfl d_Z_holds_1 ?_
  refine lv_iload_n hx hb d_Z_holds_4 rfl (lv_at hl 1 rfl) ?_
  obtain ⟨h13, e13, e14⟩ := hI.zh hj
  refine va_zald (D := D) hx hb hK hP (13 + 4 * j) 1 e13 rfl (i := x9) (zz_lt hxi hi) d_Z_holds_5 ?_
  obtain ⟨y1, hy1⟩ : ∃ q, q = h13 (x9 : Int32).toNatClampNeg := ⟨_, rfl⟩
  have e14 : y1 = 0 ∨ y1 = 1 := by rw [hy1]; exact e14 _
  rw [← hy1]
  refine mu_end (u := ws) (v := (some (.int y1))) ⟨_, rfl, rfl, e14⟩ (Nat.le_refl _) (Nat.le_refl _) ?_
  exact W.zret (v := y1) (ty := .boolean) hx hb hr (nar01 e14) (fun t9 ht hW => ⟨rfl, ⟨by rw [ht]; exact hP, va_K.moved hW.alike hK, hD, by rw [ht]; exact Nat.le_trans hz hS.1⟩, hS.F ht⟩) hS.2.2 d_Z_holds_6
set_option maxHeartbeats 4000000 in
set_option maxRecDepth 100000 in
theorem c_Z_hold {l : Launch} {D : va_G} {t : Nat → ClassId} {z : Nat} {sa : Nat → Nat} {ws : va_W} {a : Nat → Nat} {k0 : Nat} {v : Nat → Int32} {j : Nat}{i : Nat} {x9 : Int32} (hI : Iv a t k0 v ws) (hj : j < 6)(hi : i < 768) (hxi : x9 = nI i) : Mu l y_Z_hold (Cond.code y_Z_hold b_Z_hold 2 (some (.array .byte)) :: WS) ({ frames := 3, cells := 2 * nul ws + 1, slots := 257 * nul ws + 6, locals := 54 }) D t z sa ws [.ref (a (10 + 4 * j)), .int x9] (fun r u => Bq a t k0 (12 + 4 * j) i v ws r u) Xno (Kc ws) (Ks ws) := by
  refine mu_ofW (cc := b_Z_hold) (maxL := 2) (ret := (some (.array .byte))) (by decide) rfl ?_
  intro p e s m args below meth c s₁ B hml hno hv
  obtain ⟨rfl, ⟨hP, hK, hD, hz⟩, hM⟩ := hv
  have hx := B.exec
  have hb := B.bytes
  have hr := B.returns
  have hts : ∀ w ∈ WS, w.before [.ref (a (10 + 4 * j)), .int x9].toArray s = true := fun w h => atoms_spec B.pre w (List.mem_cons_of_mem _ h)
  have hown : s.vm.findClass R_Z = some m.cls := findClass_of_methodNamed B.named
  have hlocks := B.notSynchronized
  have hA : ∀ q, s.heap.size ≤ q → Az z q := fun q h => Nat.le_trans hz h
  have hS : va_S (Az z) s.heap s.heap [] := va_S.rf
  have hF : Fr t ws ws := Fr.rf
  have hn : nul ws ≤ nul ws := Nat.le_refl _
  have hl := lv_entry ([.ref (a (10 + 4 * j)), .int x9]) (n := 2) (Nat.le_of_ble_eq_true rfl)
  rw [lg_entry_eq]
  generalize (lg_sl ([.ref (a (10 + 4 * j)), .int x9]) ++ List.replicate (2 - (lg_sl ([.ref (a (10 + 4 * j)), .int x9])).length) Slot.unset).toArray = ls at hl ⊢
  have hl : lv_has ls 2 [(0, .ref (a (10 + 4 * j))), (1, .int x9)] := hl
  refine W.widen (k := Kc ws ws) (n := Ks ws ws) (Nat.zero_le _) (Nat.zero_le _) ?_
  refine lv_aload_n hx hb d_Z_hold_0 rfl (lv_at hl 0 rfl) ?_
  refine va_get (D := D) (ci := 4) (v := .ref (a (13 + 4 * j))) (C := R_Z) (T := F_Z) (N := 3) hx hb hts ws_Z hown hK hP (10 + 4 * j) (hI.z hj) rfl 1 (by decide) (hts _ fl_Z_20) (fun _ h9 => h9) rfl d_Z_hold_1 ?_
  refine lv_iload_n hx hb d_Z_hold_4 rfl (lv_at hl 1 rfl) ?_
  refine lv_iconst (v := 1) hx hb d_Z_hold_5 (by decide) ?_
  obtain ⟨h13, e13, e14⟩ := hI.zh hj
  refine va_zast (D := D) hx hb hK hP hD hS (13 + 4 * j) 1 e13 rfl (x := 1) (i := x9) (zz_lt hxi hi) d_Z_hold_6 (fun H locs hP hD hS => ?_)
  obtain ⟨h15, hh15⟩ : ∃ q, q = upd h13 (x9 : Int32).toNatClampNeg (vp_nar .boolean 1) := ⟨_, rfl⟩
  have e15 : ∀ i, h15 i = 0 ∨ h15 i = 1 := by rw [hh15]; exact up01 e14 (by decide)
  rw [← hh15] at hP hD
  obtain ⟨w1, hw⟩ : ∃ q, q = ws.set (13 + 4 * j) (a (13 + 4 * j), .inl (t 1, 768, .inl h15)) := ⟨_, rfl⟩
  have hP : va_P D Cl (ws.set (13 + 4 * j) (a (13 + 4 * j), .inl (t 1, 768, .inl h15))) H := hP
  have hD : va_D (Az z) (ws.set (13 + 4 * j) (a (13 + 4 * j), .inl (t 1, 768, .inl h15))) := hD
  have hF : Fr t ws (ws.set (13 + 4 * j) (a (13 + 4 * j), .inl (t 1, 768, .inl h15))) := hF.set (by omega) (by omega)
  have hI := hI.setH hj e15
  have hq9 : nul (ws.set (13 + 4 * j) (a (13 + 4 * j), .inl (t 1, 768, .inl h15))) = nul ws := nul_set nm13
  rw [← hw] at hP hD hF hI hq9
  clear hw
  have hn : nul w1 ≤ nul ws := by omega
  refine W.widen (k := Kc ws w1) (n := Ks ws w1) (by show 2 * (nul ws - nul ws) ≤ 2 * (nul ws - nul w1); omega) (by show 257 * (nul ws - nul ws) ≤ 257 * (nul ws - nul w1); omega) ?_
  refine lv_aload_n hx hb d_Z_hold_7 rfl (lv_at hl 0 rfl) ?_
  refine va_get (D := D) (ci := 4) (v := .ref (a (11 + 4 * j))) (C := R_Z) (T := F_Z) (N := 3) hx hb hts ws_Z hown hK hP (10 + 4 * j) (hI.z hj) rfl 0 (by decide) (hts _ fl_Z_14) (fun _ h9 => h9) rfl d_Z_hold_8 ?_
  refine lv_iload_n hx hb d_Z_hold_11 rfl (lv_at hl 1 rfl) ?_
  refine mu_V (n := 1) (As := [.int x9]) (rest := []) ⟨hx, hb, hml, hown, hts⟩ (c_K_bytesOf' (D := D) (t := t) (z := z) (sa := sa) (ws := w1) (pm := 12 + 4 * j) (i := i) hI (hI.zk hj) (mds_j hj) (by rw [Nn_j]; exact hi) hxi) ml_Z_28 im_K_bytesOf se_K_bytesOf in_K cd_K_bytesOf (by decide +kernel) ⟨Nat.le_of_ble_eq_true rfl, Nat.le_of_ble_eq_true rfl⟩ (va_recv hK hP (ci := 1) rfl (hI.zk hj)) (Pz_at hP hK hD hz hM hS) rfl hl.1 rfl (Nat.le_of_ble_eq_true rfl) d_Z_hold_12 ⟨by show 2 * (nul ws - nul w1) + (2 * nul w1 + 1) ≤ 2 * nul ws + 1; omega, by show 257 * (nul ws - nul w1) + (257 * nul w1 + 6) ≤ 257 * nul ws + 6; omega⟩ hS (fun _ _ _ _ _ _ h => h.elim) (fun r9 u2 H locs hp hP hD hS => ?_)
  obtain ⟨c3, j4, k5, f6, hr9, hk42, hkc, hsp, hI, hF9, hn9, hj9, hq9⟩ := hp
  subst hr9
  have hF := hF.trans hF9
  have hn : nul u2 ≤ nul ws := by omega
  refine W.widen (k := Kc ws u2) (n := Ks ws u2) (by show 2 * (nul ws - nul w1) + 2 * (nul w1 - nul u2) ≤ 2 * (nul ws - nul u2); omega) (by show 257 * (nul ws - nul w1) + 257 * (nul w1 - nul u2) ≤ 257 * (nul ws - nul u2); omega) ?_
  refine W.eq (g2 := F0 m 15 ls [.ref c3]) rfl ?_
  refine mu_end (u := u2) (v := (some (.ref c3))) ⟨_, _, _, _, rfl, hk42, hkc, hsp, hI, hF, by omega, hj9⟩ (Nat.le_refl _) (Nat.le_refl _) ?_
  exact W.aret (v := .ref c3) (rt := .array .byte) hx hb hr (Or.inr ⟨_, rfl⟩) (Or.inr ⟨_, rfl⟩) (fun t9 ht hW => ⟨rfl, ⟨by rw [ht]; exact hP, va_K.moved hW.alike hK, hD, by rw [ht]; exact Nat.le_trans hz hS.1⟩, hS.F ht⟩) hS.2.2 d_Z_hold_15
set_option maxHeartbeats 4000000 in
set_option maxRecDepth 100000 in
theorem c_U_set {l : Launch} {D : va_G} {t : Nat → ClassId} {z : Nat} {sa : Nat → Nat} {ws : va_W} {a : Nat → Nat} {k0 : Nat} {v : Nat → Int32} {x9 y9 w9 : Int32} (hI : Iv a t k0 v ws) (hB : ∃ B : Nat, B ≤ 300 ∧ w9 = nI B) : Mu l y_U_set (Cond.code y_U_set b_U_set 4 (.none : Option Jvm.ClassFile.FieldType) :: WS) ({ frames := 0, cells := 2 * nul ws + 1, slots := 257 * nul ws + 6, locals := 0 }) D t z sa ws [.ref (a 8), .int x9, .int y9, .int w9] (fun r u => ∃ v1, Iv a t k0 v1 u ∧ Fr t ws u ∧ nul u ≤ nul ws ∧ r = none ∧ (∀ i, i < 7 ∨ 11 ≤ i → v1 i = v i) ∧ v1 7 = x9 ∧ v1 8 = y9 ∧ v1 9 = w9 ∧ v1 10 = 0) Xno (Kc ws) (Ks ws) := by
  refine mu_ofW (cc := b_U_set) (maxL := 4) (ret := (.none : Option Jvm.ClassFile.FieldType)) (by decide) rfl ?_
  intro p e s m args below meth c s₁ B hml hno hv
  obtain ⟨rfl, ⟨hP, hK, hD, hz⟩, hM⟩ := hv
  have hx := B.exec
  have hb := B.bytes
  have hr := B.returns
  have hts : ∀ w ∈ WS, w.before [.ref (a 8), .int x9, .int y9, .int w9].toArray s = true := fun w h => atoms_spec B.pre w (List.mem_cons_of_mem _ h)
  have hown : s.vm.findClass R_U = some m.cls := findClass_of_methodNamed B.named
  have hlocks := B.notSynchronized
  have hA : ∀ q, s.heap.size ≤ q → Az z q := fun q h => Nat.le_trans hz h
  have hS : va_S (Az z) s.heap s.heap [] := va_S.rf
  have hF : Fr t ws ws := Fr.rf
  have hn : nul ws ≤ nul ws := Nat.le_refl _
  have hl := lv_entry ([.ref (a 8), .int x9, .int y9, .int w9]) (n := 4) (Nat.le_of_ble_eq_true rfl)
  rw [lg_entry_eq]
  generalize (lg_sl ([.ref (a 8), .int x9, .int y9, .int w9]) ++ List.replicate (4 - (lg_sl ([.ref (a 8), .int x9, .int y9, .int w9])).length) Slot.unset).toArray = ls at hl ⊢
  have hl : lv_has ls 4 [(0, .ref (a 8)), (1, .int x9), (2, .int y9), (3, .int w9)] := hl
  refine W.widen (k := Kc ws ws) (n := Ks ws ws) (Nat.zero_le _) (Nat.zero_le _) ?_
  refine lv_aload_n hx hb d_U_set_0 rfl (lv_at hl 0 rfl) ?_
  refine lv_iload_n hx hb d_U_set_1 rfl (lv_at hl 1 rfl) ?_
  refine va_put (D := D) (ci := 2) (v := .int x9) (ty := .int) (C := R_U) (T := F_U) (N := 4) hx hb hts ws_U t_U ok_U n_U hown hK hP hD hS 8 hI.u8 rfl 0 (by decide) (hts _ fl_U_9) (fun _ h9 => h9) rfl (by decide +kernel) rfl rfl (Nat.le_of_ble_eq_true rfl) d_U_set_2 (fun H locs hP hD hS => ?_)
  obtain ⟨v1, hv1⟩ : ∃ q : Nat → Int32, q = upd v 7 x9 := ⟨_, rfl⟩
  have gv1 : v1 7 = x9 := by rw [hv1]; exact pk_us
  have nv1 : ∀ i, i ≠ 7 → v1 i = v i := fun i hi => by rw [hv1]; exact pk_un hi
  have hP : va_P D Cl (ws.set 8 (cU a v1)) H := by rw [hv1]; exact hP
  have hD : va_D (Az z) (ws.set 8 (cU a v1)) := by rw [hv1]; exact hD
  obtain ⟨w2, hw⟩ : ∃ q, q = ws.set 8 (cU a v1) := ⟨_, rfl⟩
  have hP : va_P D Cl (ws.set 8 (cU a v1)) H := hP
  have hD : va_D (Az z) (ws.set 8 (cU a v1)) := hD
  have hF : Fr t ws (ws.set 8 (cU a v1)) := hF.set (by decide) (by decide)
  have hI := hI.setU (v' := v1) (fun i hi => nv1 i (by omega)) (by rw [nv1 9 (by decide)]; exact hI.bd.2.2.2.2.1) (by rw [nv1 10 (by decide)]; exact hI.bd.2.2.2.2.2.2)
  have hq9 : nul (ws.set 8 (cU a v1)) = nul ws := nul_set (by decide)
  rw [← hw] at hP hD hF hI hq9
  clear hw
  have hn : nul w2 ≤ nul ws := by omega
  refine W.widen (k := Kc ws w2) (n := Ks ws w2) (by show 2 * (nul ws - nul ws) ≤ 2 * (nul ws - nul w2); omega) (by show 257 * (nul ws - nul ws) ≤ 257 * (nul ws - nul w2); omega) ?_
  refine lv_aload_n hx hb d_U_set_5 rfl (lv_at hl 0 rfl) ?_
  refine lv_iload_n hx hb d_U_set_6 rfl (lv_at hl 2 rfl) ?_
  refine va_put (D := D) (ci := 2) (v := .int y9) (ty := .int) (C := R_U) (T := F_U) (N := 4) hx hb hts ws_U t_U ok_U n_U hown hK hP hD hS 8 hI.u8 rfl 1 (by decide) (hts _ fl_U_15) (fun _ h9 => h9) rfl (by decide +kernel) rfl rfl (Nat.le_of_ble_eq_true rfl) d_U_set_7 (fun H locs hP hD hS => ?_)
  obtain ⟨v3, hv3⟩ : ∃ q : Nat → Int32, q = upd v1 8 y9 := ⟨_, rfl⟩
  have gv3 : v3 8 = y9 := by rw [hv3]; exact pk_us
  have nv3 : ∀ i, i ≠ 8 → v3 i = v1 i := fun i hi => by rw [hv3]; exact pk_un hi
  have hP : va_P D Cl (w2.set 8 (cU a v3)) H := by rw [hv3]; exact hP
  have hD : va_D (Az z) (w2.set 8 (cU a v3)) := by rw [hv3]; exact hD
  obtain ⟨w4, hw⟩ : ∃ q, q = w2.set 8 (cU a v3) := ⟨_, rfl⟩
  have hP : va_P D Cl (w2.set 8 (cU a v3)) H := hP
  have hD : va_D (Az z) (w2.set 8 (cU a v3)) := hD
  have hF : Fr t ws (w2.set 8 (cU a v3)) := hF.set (by decide) (by decide)
  have hI := hI.setU (v' := v3) (fun i hi => nv3 i (by omega)) (by rw [nv3 9 (by decide)]; exact hI.bd.2.2.2.2.1) (by rw [nv3 10 (by decide)]; exact hI.bd.2.2.2.2.2.2)
  have hq9 : nul (w2.set 8 (cU a v3)) = nul w2 := nul_set (by decide)
  rw [← hw] at hP hD hF hI hq9
  clear hw
  have hn : nul w4 ≤ nul ws := by omega
  refine W.widen (k := Kc ws w4) (n := Ks ws w4) (by show 2 * (nul ws - nul w2) ≤ 2 * (nul ws - nul w4); omega) (by show 257 * (nul ws - nul w2) ≤ 257 * (nul ws - nul w4); omega) ?_
  refine lv_aload_n hx hb d_U_set_10 rfl (lv_at hl 0 rfl) ?_
  refine lv_iload_n hx hb d_U_set_11 rfl (lv_at hl 3 rfl) ?_
  refine va_put (D := D) (ci := 2) (v := .int w9) (ty := .int) (C := R_U) (T := F_U) (N := 4) hx hb hts ws_U t_U ok_U n_U hown hK hP hD hS 8 hI.u8 rfl 2 (by decide) (hts _ fl_U_18) (fun _ h9 => h9) rfl (by decide +kernel) rfl rfl (Nat.le_of_ble_eq_true rfl) d_U_set_12 (fun H locs hP hD hS => ?_)
  obtain ⟨v5, hv5⟩ : ∃ q : Nat → Int32, q = upd v3 9 w9 := ⟨_, rfl⟩
  have gv5 : v5 9 = w9 := by rw [hv5]; exact pk_us
  have nv5 : ∀ i, i ≠ 9 → v5 i = v3 i := fun i hi => by rw [hv5]; exact pk_un hi
  have hP : va_P D Cl (w4.set 8 (cU a v5)) H := by rw [hv5]; exact hP
  have hD : va_D (Az z) (w4.set 8 (cU a v5)) := by rw [hv5]; exact hD
  obtain ⟨w6, hw⟩ : ∃ q, q = w4.set 8 (cU a v5) := ⟨_, rfl⟩
  have hP : va_P D Cl (w4.set 8 (cU a v5)) H := hP
  have hD : va_D (Az z) (w4.set 8 (cU a v5)) := hD
  have hF : Fr t ws (w4.set 8 (cU a v5)) := hF.set (by decide) (by decide)
  have hI := hI.setU (v' := v5) (fun i hi => nv5 i (by omega)) (by rw [gv5]; exact hB) (by rw [nv5 10 (by decide)]; exact hI.bd.2.2.2.2.2.2)
  have hq9 : nul (w4.set 8 (cU a v5)) = nul w4 := nul_set (by decide)
  rw [← hw] at hP hD hF hI hq9
  clear hw
  have hn : nul w6 ≤ nul ws := by omega
  refine W.widen (k := Kc ws w6) (n := Ks ws w6) (by show 2 * (nul ws - nul w4) ≤ 2 * (nul ws - nul w6); omega) (by show 257 * (nul ws - nul w4) ≤ 257 * (nul ws - nul w6); omega) ?_
  refine lv_aload_n hx hb d_U_set_15 rfl (lv_at hl 0 rfl) ?_
  refine lv_iconst (v := 0) hx hb d_U_set_16 (by decide) ?_
  refine va_put (D := D) (ci := 2) (v := .int 0) (ty := .boolean) (C := R_U) (T := F_U) (N := 4) hx hb hts ws_U t_U ok_U n_U hown hK hP hD hS 8 hI.u8 rfl 3 (by decide) (hts _ fl_U_21) (fun _ h9 => h9) rfl (by decide +kernel) rfl rfl (Nat.le_of_ble_eq_true rfl) d_U_set_17 (fun H locs hP hD hS => ?_)
  obtain ⟨v7, hv7⟩ : ∃ q : Nat → Int32, q = upd v5 10 0 := ⟨_, rfl⟩
  have gv7 : v7 10 = 0 := by rw [hv7]; exact pk_us
  have nv7 : ∀ i, i ≠ 10 → v7 i = v5 i := fun i hi => by rw [hv7]; exact pk_un hi
  have hP : va_P D Cl (w6.set 8 (cU a v7)) H := by rw [hv7]; exact hP
  have hD : va_D (Az z) (w6.set 8 (cU a v7)) := by rw [hv7]; exact hD
  obtain ⟨w8, hw⟩ : ∃ q, q = w6.set 8 (cU a v7) := ⟨_, rfl⟩
  have hP : va_P D Cl (w6.set 8 (cU a v7)) H := hP
  have hD : va_D (Az z) (w6.set 8 (cU a v7)) := hD
  have hF : Fr t ws (w6.set 8 (cU a v7)) := hF.set (by decide) (by decide)
  have hI := hI.setU (v' := v7) (fun i hi => nv7 i (by omega)) (by rw [nv7 9 (by decide)]; exact hI.bd.2.2.2.2.1) (by rw [gv7]; decide)
  have hq9 : nul (w6.set 8 (cU a v7)) = nul w6 := nul_set (by decide)
  rw [← hw] at hP hD hF hI hq9
  clear hw
  have hn : nul w8 ≤ nul ws := by omega
  refine W.widen (k := Kc ws w8) (n := Ks ws w8) (by show 2 * (nul ws - nul w6) ≤ 2 * (nul ws - nul w8); omega) (by show 257 * (nul ws - nul w6) ≤ 257 * (nul ws - nul w8); omega) ?_
  refine mu_end (u := w8) (v := (none)) ⟨_, hI, hF, hn, rfl, fun i hi => by rw [nv7 i (by omega), nv5 i (by omega), nv3 i (by omega), nv1 i (by omega)], (by rw [nv7 7 (by decide), nv5 7 (by decide), nv3 7 (by decide), gv1]), (by rw [nv7 8 (by decide), nv5 8 (by decide), gv3]), (by rw [nv7 9 (by decide), gv5]), (by rw [gv7])⟩ (Nat.le_refl _) (Nat.le_refl _) ?_
  exact W.vret hx hb hr (fun t9 ht hW => ⟨rfl, ⟨by rw [ht]; exact hP, va_K.moved hW.alike hK, hD, by rw [ht]; exact Nat.le_trans hz hS.1⟩, hS.F ht⟩) hS.2.2 d_U_set_20
set_option maxHeartbeats 4000000 in
set_option maxRecDepth 100000 in
theorem c_U_forget {l : Launch} {D : va_G} {t : Nat → ClassId} {z : Nat} {sa : Nat → Nat} {ws : va_W} {a : Nat → Nat} {k0 : Nat} {v : Nat → Int32}  (hI : Iv a t k0 v ws)  : Mu l y_U_forget (Cond.code y_U_forget b_U_forget 1 (.none : Option Jvm.ClassFile.FieldType) :: WS) ({ frames := 1, cells := 2 * nul ws + 1, slots := 257 * nul ws + 6, locals := 23 }) D t z sa ws [.ref (a 8)] (fun r u => ∃ v1, Iv a t k0 v1 u ∧ Fr t ws u ∧ nul u ≤ nul ws ∧ r = none ∧ (∀ i, i < 7 ∨ 11 ≤ i → v1 i = v i) ∧ v1 10 = 0) Xno (Kc ws) (Ks ws) := by
  refine mu_ofW (cc := b_U_forget) (maxL := 1) (ret := (.none : Option Jvm.ClassFile.FieldType)) (by decide) rfl ?_
  intro p e s m args below meth c s₁ B hml hno hv
  obtain ⟨rfl, ⟨hP, hK, hD, hz⟩, hM⟩ := hv
  have hx := B.exec
  have hb := B.bytes
  have hr := B.returns
  have hts : ∀ w ∈ WS, w.before [.ref (a 8)].toArray s = true := fun w h => atoms_spec B.pre w (List.mem_cons_of_mem _ h)
  have hown : s.vm.findClass R_U = some m.cls := findClass_of_methodNamed B.named
  have hlocks := B.notSynchronized
  have hA : ∀ q, s.heap.size ≤ q → Az z q := fun q h => Nat.le_trans hz h
  have hS : va_S (Az z) s.heap s.heap [] := va_S.rf
  have hF : Fr t ws ws := Fr.rf
  have hn : nul ws ≤ nul ws := Nat.le_refl _
  have hl := lv_entry ([.ref (a 8)]) (n := 1) (Nat.le_of_ble_eq_true rfl)
  rw [lg_entry_eq]
  generalize (lg_sl ([.ref (a 8)]) ++ List.replicate (1 - (lg_sl ([.ref (a 8)])).length) Slot.unset).toArray = ls at hl ⊢
  have hl : lv_has ls 1 [(0, .ref (a 8))] := hl
  refine W.widen (k := Kc ws ws) (n := Ks ws ws) (Nat.zero_le _) (Nat.zero_le _) ?_
  refine lv_aload_n hx hb d_U_forget_0 rfl (lv_at hl 0 rfl) ?_
  refine lv_iconst (v := 4) hx hb d_U_forget_1 (by decide) ?_
  refine lv_iconst (v := 0) hx hb d_U_forget_2 (by decide) ?_
  refine lv_iconst (v := 0) hx hb d_U_forget_3 (by decide) ?_
  refine mu_V (n := 3) (As := [.int 4, .int 0, .int 0]) (rest := []) ⟨hx, hb, hml, hown, hts⟩ (c_U_set (D := D) (t := t) (z := z) (sa := sa) (ws := ws) (x9 := 4) (y9 := 0) (w9 := 0) hI ⟨0, by decide, rfl⟩) ml_U_25 im_U_set se_U_set in_U cd_U_set (by decide +kernel) ⟨Nat.le_of_ble_eq_true rfl, Nat.le_of_ble_eq_true rfl⟩ (va_recv hK hP (ci := 2) rfl hI.u8) (Pz_at hP hK hD hz hM hS) rfl hl.1 rfl (Nat.le_of_ble_eq_true rfl) d_U_forget_4 ⟨by show 2 * (nul ws - nul ws) + (2 * nul ws + 1) ≤ 2 * nul ws + 1; omega, by show 257 * (nul ws - nul ws) + (257 * nul ws + 6) ≤ 257 * nul ws + 6; omega⟩ hS (fun _ _ _ _ _ _ h => h.elim) (fun r9 u1 H locs hp hP hD hS => ?_)
  obtain ⟨v2, hI, hF9, hn9, hr9, ho9, -, -, -, h109⟩ := hp
  subst hr9
  have hF := hF.trans hF9
  have hn : nul u1 ≤ nul ws := by omega
  refine W.widen (k := Kc ws u1) (n := Ks ws u1) (by show 2 * (nul ws - nul ws) + 2 * (nul ws - nul u1) ≤ 2 * (nul ws - nul u1); omega) (by show 257 * (nul ws - nul ws) + 257 * (nul ws - nul u1) ≤ 257 * (nul ws - nul u1); omega) ?_
  refine W.eq (g2 := F0 m 7 ls []) rfl ?_
  refine mu_end (u := u1) (v := (none)) ⟨_, hI, hF, hn, rfl, ho9, h109⟩ (Nat.le_refl _) (Nat.le_refl _) ?_
  exact W.vret hx hb hr (fun t9 ht hW => ⟨rfl, ⟨by rw [ht]; exact hP, va_K.moved hW.alike hK, hD, by rw [ht]; exact Nat.le_trans hz hS.1⟩, hS.F ht⟩) hS.2.2 d_U_forget_7
set_option maxHeartbeats 4000000 in
set_option maxRecDepth 100000 in
theorem c_U_blowsBeforeEmptying {l : Launch} {D : va_G} {t : Nat → ClassId} {z : Nat} {sa : Nat → Nat} {ws : va_W} {a : Nat → Nat} {k0 : Nat} {v : Nat → Int32}  (hI : Iv a t k0 v ws)  : Mu l y_U_blowsBeforeEmptying (Cond.code y_U_blowsBeforeEmptying b_U_blowsBeforeEmptying 1 (some .boolean) :: WS) ({ frames := 0, cells := 2 * nul ws + 1, slots := 257 * nul ws + 6, locals := 0 }) D t z sa ws [.ref (a 8)] (fun r u => ∃ y, r = some (.int y) ∧ u = ws ∧ (y = 0 ∨ y = 1)) Xno (Kc ws) (Ks ws) := by
  refine mu_ofW (cc := b_U_blowsBeforeEmptying) (maxL := 1) (ret := (some .boolean)) (by decide) rfl ?_
  intro p e s m args below meth c s₁ B hml hno hv
  obtain ⟨rfl, ⟨hP, hK, hD, hz⟩, hM⟩ := hv
  have hx := B.exec
  have hb := B.bytes
  have hr := B.returns
  have hts : ∀ w ∈ WS, w.before [.ref (a 8)].toArray s = true := fun w h => atoms_spec B.pre w (List.mem_cons_of_mem _ h)
  have hown : s.vm.findClass R_U = some m.cls := findClass_of_methodNamed B.named
  have hlocks := B.notSynchronized
  have hA : ∀ q, s.heap.size ≤ q → Az z q := fun q h => Nat.le_trans hz h
  have hS : va_S (Az z) s.heap s.heap [] := va_S.rf
  have hF : Fr t ws ws := Fr.rf
  have hn : nul ws ≤ nul ws := Nat.le_refl _
  have hl := lv_entry ([.ref (a 8)]) (n := 1) (Nat.le_of_ble_eq_true rfl)
  rw [lg_entry_eq]
  generalize (lg_sl ([.ref (a 8)]) ++ List.replicate (1 - (lg_sl ([.ref (a 8)])).length) Slot.unset).toArray = ls at hl ⊢
  have hl : lv_has ls 1 [(0, .ref (a 8))] := hl
  refine W.widen (k := Kc ws ws) (n := Ks ws ws) (Nat.zero_le _) (Nat.zero_le _) ?_
  refine lv_aload_n hx hb d_U_blowsBeforeEmptying_0 rfl (lv_at hl 0 rfl) ?_
  refine va_get (D := D) (ci := 2) (v := .int (v 7)) (C := R_U) (T := F_U) (N := 4) hx hb hts ws_U hown hK hP 8 hI.u8 rfl 0 (by decide) (hts _ fl_U_9) (fun _ h9 => h9) rfl d_U_blowsBeforeEmptying_1 ?_
  refine lv_if_eq (tgt := 30) hx hb d_U_blowsBeforeEmptying_4 rfl (fun q1 => ?_) (fun q1 => ?_)
  · skip
    refine lv_iconst (v := 1) hx hb d_U_blowsBeforeEmptying_30 (by decide) ?_
    refine lv_goto (tgt := 35) hx hb d_U_blowsBeforeEmptying_31 rfl ?_
    refine mu_end (u := ws) (v := (some (.int 1))) ⟨_, rfl, rfl, by decide⟩ (Nat.le_refl _) (Nat.le_refl _) ?_
    exact W.zret (v := 1) (ty := .boolean) hx hb hr rfl (fun t9 ht hW => ⟨rfl, ⟨by rw [ht]; exact hP, va_K.moved hW.alike hK, hD, by rw [ht]; exact Nat.le_trans hz hS.1⟩, hS.F ht⟩) hS.2.2 d_U_blowsBeforeEmptying_35
  · skip
    refine lv_aload_n hx hb d_U_blowsBeforeEmptying_7 rfl (lv_at hl 0 rfl) ?_
    refine va_get (D := D) (ci := 2) (v := .int (v 7)) (C := R_U) (T := F_U) (N := 4) hx hb hts ws_U hown hK hP 8 hI.u8 rfl 0 (by decide) (hts _ fl_U_9) (fun _ h9 => h9) rfl d_U_blowsBeforeEmptying_8 ?_
    refine lv_iconst (v := 1) hx hb d_U_blowsBeforeEmptying_11 (by decide) ?_
    refine lv_icmp_eq (tgt := 30) hx hb d_U_blowsBeforeEmptying_12 rfl (fun q2 => ?_) (fun q2 => ?_)
    · skip
      refine lv_iconst (v := 1) hx hb d_U_blowsBeforeEmptying_30 (by decide) ?_
      refine lv_goto (tgt := 35) hx hb d_U_blowsBeforeEmptying_31 rfl ?_
      refine mu_end (u := ws) (v := (some (.int 1))) ⟨_, rfl, rfl, by decide⟩ (Nat.le_refl _) (Nat.le_refl _) ?_
      exact W.zret (v := 1) (ty := .boolean) hx hb hr rfl (fun t9 ht hW => ⟨rfl, ⟨by rw [ht]; exact hP, va_K.moved hW.alike hK, hD, by rw [ht]; exact Nat.le_trans hz hS.1⟩, hS.F ht⟩) hS.2.2 d_U_blowsBeforeEmptying_35
    · skip
      refine lv_aload_n hx hb d_U_blowsBeforeEmptying_15 rfl (lv_at hl 0 rfl) ?_
      refine va_get (D := D) (ci := 2) (v := .int (v 7)) (C := R_U) (T := F_U) (N := 4) hx hb hts ws_U hown hK hP 8 hI.u8 rfl 0 (by decide) (hts _ fl_U_9) (fun _ h9 => h9) rfl d_U_blowsBeforeEmptying_16 ?_
      refine lv_iconst (v := 2) hx hb d_U_blowsBeforeEmptying_19 (by decide) ?_
      refine lv_icmp_ne (tgt := 34) hx hb d_U_blowsBeforeEmptying_20 rfl (fun q3 => ?_) (fun q3 => ?_)
      · skip
        refine lv_iconst (v := 0) hx hb d_U_blowsBeforeEmptying_34 (by decide) ?_
        refine mu_end (u := ws) (v := (some (.int 0))) ⟨_, rfl, rfl, by decide⟩ (Nat.le_refl _) (Nat.le_refl _) ?_
        exact W.zret (v := 0) (ty := .boolean) hx hb hr rfl (fun t9 ht hW => ⟨rfl, ⟨by rw [ht]; exact hP, va_K.moved hW.alike hK, hD, by rw [ht]; exact Nat.le_trans hz hS.1⟩, hS.F ht⟩) hS.2.2 d_U_blowsBeforeEmptying_35
      · skip
        refine lv_aload_n hx hb d_U_blowsBeforeEmptying_23 rfl (lv_at hl 0 rfl) ?_
        refine va_get (D := D) (ci := 2) (v := .int (v 8)) (C := R_U) (T := F_U) (N := 4) hx hb hts ws_U hown hK hP 8 hI.u8 rfl 1 (by decide) (hts _ fl_U_15) (fun _ h9 => h9) rfl d_U_blowsBeforeEmptying_24 ?_
        refine lv_if_ne (tgt := 34) hx hb d_U_blowsBeforeEmptying_27 rfl (fun q4 => ?_) (fun q4 => ?_)
        · skip
          refine lv_iconst (v := 0) hx hb d_U_blowsBeforeEmptying_34 (by decide) ?_
          refine mu_end (u := ws) (v := (some (.int 0))) ⟨_, rfl, rfl, by decide⟩ (Nat.le_refl _) (Nat.le_refl _) ?_
          exact W.zret (v := 0) (ty := .boolean) hx hb hr rfl (fun t9 ht hW => ⟨rfl, ⟨by rw [ht]; exact hP, va_K.moved hW.alike hK, hD, by rw [ht]; exact Nat.le_trans hz hS.1⟩, hS.F ht⟩) hS.2.2 d_U_blowsBeforeEmptying_35
        · skip
          refine lv_iconst (v := 1) hx hb d_U_blowsBeforeEmptying_30 (by decide) ?_
          refine lv_goto (tgt := 35) hx hb d_U_blowsBeforeEmptying_31 rfl ?_
          refine mu_end (u := ws) (v := (some (.int 1))) ⟨_, rfl, rfl, by decide⟩ (Nat.le_refl _) (Nat.le_refl _) ?_
          exact W.zret (v := 1) (ty := .boolean) hx hb hr rfl (fun t9 ht hW => ⟨rfl, ⟨by rw [ht]; exact hP, va_K.moved hW.alike hK, hD, by rw [ht]; exact Nat.le_trans hz hS.1⟩, hS.F ht⟩) hS.2.2 d_U_blowsBeforeEmptying_35
set_option maxHeartbeats 4000000 in
set_option maxRecDepth 100000 in
theorem c_U_blowsBehindEmptying {l : Launch} {D : va_G} {t : Nat → ClassId} {z : Nat} {sa : Nat → Nat} {ws : va_W} {a : Nat → Nat} {k0 : Nat} {v : Nat → Int32}  (hI : Iv a t k0 v ws)  : Mu l y_U_blowsBehindEmptying (Cond.code y_U_blowsBehindEmptying b_U_blowsBehindEmptying 1 (some .boolean) :: WS) ({ frames := 0, cells := 2 * nul ws + 1, slots := 257 * nul ws + 6, locals := 0 }) D t z sa ws [.ref (a 8)] (fun r u => ∃ y, r = some (.int y) ∧ u = ws ∧ (y = 0 ∨ y = 1)) Xno (Kc ws) (Ks ws) := by
  refine mu_ofW (cc := b_U_blowsBehindEmptying) (maxL := 1) (ret := (some .boolean)) (by decide) rfl ?_
  intro p e s m args below meth c s₁ B hml hno hv
  obtain ⟨rfl, ⟨hP, hK, hD, hz⟩, hM⟩ := hv
  have hx := B.exec
  have hb := B.bytes
  have hr := B.returns
  have hts : ∀ w ∈ WS, w.before [.ref (a 8)].toArray s = true := fun w h => atoms_spec B.pre w (List.mem_cons_of_mem _ h)
  have hown : s.vm.findClass R_U = some m.cls := findClass_of_methodNamed B.named
  have hlocks := B.notSynchronized
  have hA : ∀ q, s.heap.size ≤ q → Az z q := fun q h => Nat.le_trans hz h
  have hS : va_S (Az z) s.heap s.heap [] := va_S.rf
  have hF : Fr t ws ws := Fr.rf
  have hn : nul ws ≤ nul ws := Nat.le_refl _
  have hl := lv_entry ([.ref (a 8)]) (n := 1) (Nat.le_of_ble_eq_true rfl)
  rw [lg_entry_eq]
  generalize (lg_sl ([.ref (a 8)]) ++ List.replicate (1 - (lg_sl ([.ref (a 8)])).length) Slot.unset).toArray = ls at hl ⊢
  have hl : lv_has ls 1 [(0, .ref (a 8))] := hl
  refine W.widen (k := Kc ws ws) (n := Ks ws ws) (Nat.zero_le _) (Nat.zero_le _) ?_
  refine lv_aload_n hx hb d_U_blowsBehindEmptying_0 rfl (lv_at hl 0 rfl) ?_
  refine va_get (D := D) (ci := 2) (v := .int (v 7)) (C := R_U) (T := F_U) (N := 4) hx hb hts ws_U hown hK hP 8 hI.u8 rfl 0 (by decide) (hts _ fl_U_9) (fun _ h9 => h9) rfl d_U_blowsBehindEmptying_1 ?_
  refine lv_iconst (v := 2) hx hb d_U_blowsBehindEmptying_4 (by decide) ?_
  refine lv_icmp_ne (tgt := 12) hx hb d_U_blowsBehindEmptying_5 rfl (fun q1 => ?_) (fun q1 => ?_)
  · skip
    refine lv_iconst (v := 0) hx hb d_U_blowsBehindEmptying_12 (by decide) ?_
    refine mu_end (u := ws) (v := (some (.int 0))) ⟨_, rfl, rfl, by decide⟩ (Nat.le_refl _) (Nat.le_refl _) ?_
    exact W.zret (v := 0) (ty := .boolean) hx hb hr rfl (fun t9 ht hW => ⟨rfl, ⟨by rw [ht]; exact hP, va_K.moved hW.alike hK, hD, by rw [ht]; exact Nat.le_trans hz hS.1⟩, hS.F ht⟩) hS.2.2 d_U_blowsBehindEmptying_13
  · skip
    refine lv_iconst (v := 1) hx hb d_U_blowsBehindEmptying_8 (by decide) ?_
    refine lv_goto (tgt := 13) hx hb d_U_blowsBehindEmptying_9 rfl ?_
    refine mu_end (u := ws) (v := (some (.int 1))) ⟨_, rfl, rfl, by decide⟩ (Nat.le_refl _) (Nat.le_refl _) ?_
    exact W.zret (v := 1) (ty := .boolean) hx hb hr rfl (fun t9 ht hW => ⟨rfl, ⟨by rw [ht]; exact hP, va_K.moved hW.alike hK, hD, by rw [ht]; exact Nat.le_trans hz hS.1⟩, hS.F ht⟩) hS.2.2 d_U_blowsBehindEmptying_13
set_option maxHeartbeats 4000000 in
set_option maxRecDepth 100000 in
theorem c_U_blowsInReopen {l : Launch} {D : va_G} {t : Nat → ClassId} {z : Nat} {sa : Nat → Nat} {ws : va_W} {a : Nat → Nat} {k0 : Nat} {v : Nat → Int32}  (hI : Iv a t k0 v ws)  : Mu l y_U_blowsInReopen (Cond.code y_U_blowsInReopen b_U_blowsInReopen 1 (some .boolean) :: WS) ({ frames := 0, cells := 2 * nul ws + 1, slots := 257 * nul ws + 6, locals := 0 }) D t z sa ws [.ref (a 8)] (fun r u => ∃ y, r = some (.int y) ∧ u = ws ∧ (y = 0 ∨ y = 1)) Xno (Kc ws) (Ks ws) := by
  refine mu_ofW (cc := b_U_blowsInReopen) (maxL := 1) (ret := (some .boolean)) (by decide) rfl ?_
  intro p e s m args below meth c s₁ B hml hno hv
  obtain ⟨rfl, ⟨hP, hK, hD, hz⟩, hM⟩ := hv
  have hx := B.exec
  have hb := B.bytes
  have hr := B.returns
  have hts : ∀ w ∈ WS, w.before [.ref (a 8)].toArray s = true := fun w h => atoms_spec B.pre w (List.mem_cons_of_mem _ h)
  have hown : s.vm.findClass R_U = some m.cls := findClass_of_methodNamed B.named
  have hlocks := B.notSynchronized
  have hA : ∀ q, s.heap.size ≤ q → Az z q := fun q h => Nat.le_trans hz h
  have hS : va_S (Az z) s.heap s.heap [] := va_S.rf
  have hF : Fr t ws ws := Fr.rf
  have hn : nul ws ≤ nul ws := Nat.le_refl _
  have hl := lv_entry ([.ref (a 8)]) (n := 1) (Nat.le_of_ble_eq_true rfl)
  rw [lg_entry_eq]
  generalize (lg_sl ([.ref (a 8)]) ++ List.replicate (1 - (lg_sl ([.ref (a 8)])).length) Slot.unset).toArray = ls at hl ⊢
  have hl : lv_has ls 1 [(0, .ref (a 8))] := hl
  refine W.widen (k := Kc ws ws) (n := Ks ws ws) (Nat.zero_le _) (Nat.zero_le _) ?_
  refine lv_aload_n hx hb d_U_blowsInReopen_0 rfl (lv_at hl 0 rfl) ?_
  refine va_get (D := D) (ci := 2) (v := .int (v 7)) (C := R_U) (T := F_U) (N := 4) hx hb hts ws_U hown hK hP 8 hI.u8 rfl 0 (by decide) (hts _ fl_U_9) (fun _ h9 => h9) rfl d_U_blowsInReopen_1 ?_
  refine lv_iconst (v := 3) hx hb d_U_blowsInReopen_4 (by decide) ?_
  refine lv_icmp_ne (tgt := 12) hx hb d_U_blowsInReopen_5 rfl (fun q1 => ?_) (fun q1 => ?_)
  · skip
    refine lv_iconst (v := 0) hx hb d_U_blowsInReopen_12 (by decide) ?_
    refine mu_end (u := ws) (v := (some (.int 0))) ⟨_, rfl, rfl, by decide⟩ (Nat.le_refl _) (Nat.le_refl _) ?_
    exact W.zret (v := 0) (ty := .boolean) hx hb hr rfl (fun t9 ht hW => ⟨rfl, ⟨by rw [ht]; exact hP, va_K.moved hW.alike hK, hD, by rw [ht]; exact Nat.le_trans hz hS.1⟩, hS.F ht⟩) hS.2.2 d_U_blowsInReopen_13
  · skip
    refine lv_iconst (v := 1) hx hb d_U_blowsInReopen_8 (by decide) ?_
    refine lv_goto (tgt := 13) hx hb d_U_blowsInReopen_9 rfl ?_
    refine mu_end (u := ws) (v := (some (.int 1))) ⟨_, rfl, rfl, by decide⟩ (Nat.le_refl _) (Nat.le_refl _) ?_
    exact W.zret (v := 1) (ty := .boolean) hx hb hr rfl (fun t9 ht hW => ⟨rfl, ⟨by rw [ht]; exact hP, va_K.moved hW.alike hK, hD, by rw [ht]; exact Nat.le_trans hz hS.1⟩, hS.F ht⟩) hS.2.2 d_U_blowsInReopen_13
set_option maxHeartbeats 4000000 in
set_option maxRecDepth 100000 in
theorem c_U_blown {l : Launch} {D : va_G} {t : Nat → ClassId} {z : Nat} {sa : Nat → Nat} {ws : va_W} {a : Nat → Nat} {k0 : Nat} {v : Nat → Int32}  (hI : Iv a t k0 v ws)  : Mu l y_U_blown (Cond.code y_U_blown b_U_blown 1 (some .boolean) :: WS) ({ frames := 0, cells := 2 * nul ws + 1, slots := 257 * nul ws + 6, locals := 0 }) D t z sa ws [.ref (a 8)] (fun r u => r = some (.int (v 10)) ∧ u = ws) Xno (Kc ws) (Ks ws) := by
  refine mu_ofW (cc := b_U_blown) (maxL := 1) (ret := (some .boolean)) (by decide) rfl ?_
  intro p e s m args below meth c s₁ B hml hno hv
  obtain ⟨rfl, ⟨hP, hK, hD, hz⟩, hM⟩ := hv
  have hx := B.exec
  have hb := B.bytes
  have hr := B.returns
  have hts : ∀ w ∈ WS, w.before [.ref (a 8)].toArray s = true := fun w h => atoms_spec B.pre w (List.mem_cons_of_mem _ h)
  have hown : s.vm.findClass R_U = some m.cls := findClass_of_methodNamed B.named
  have hlocks := B.notSynchronized
  have hA : ∀ q, s.heap.size ≤ q → Az z q := fun q h => Nat.le_trans hz h
  have hS : va_S (Az z) s.heap s.heap [] := va_S.rf
  have hF : Fr t ws ws := Fr.rf
  have hn : nul ws ≤ nul ws := Nat.le_refl _
  have hl := lv_entry ([.ref (a 8)]) (n := 1) (Nat.le_of_ble_eq_true rfl)
  rw [lg_entry_eq]
  generalize (lg_sl ([.ref (a 8)]) ++ List.replicate (1 - (lg_sl ([.ref (a 8)])).length) Slot.unset).toArray = ls at hl ⊢
  have hl : lv_has ls 1 [(0, .ref (a 8))] := hl
  refine W.widen (k := Kc ws ws) (n := Ks ws ws) (Nat.zero_le _) (Nat.zero_le _) ?_
  refine lv_aload_n hx hb d_U_blown_0 rfl (lv_at hl 0 rfl) ?_
  refine va_get (D := D) (ci := 2) (v := .int (v 10)) (C := R_U) (T := F_U) (N := 4) hx hb hts ws_U hown hK hP 8 hI.u8 rfl 3 (by decide) (hts _ fl_U_21) (fun _ h9 => h9) rfl d_U_blown_1 ?_
  refine mu_end (u := ws) (v := (some (.int (v 10)))) ⟨rfl, rfl⟩ (Nat.le_refl _) (Nat.le_refl _) ?_
  exact W.zret (v := (v 10)) (ty := .boolean) hx hb hr (nar01 hI.bd.2.2.2.2.2.2) (fun t9 ht hW => ⟨rfl, ⟨by rw [ht]; exact hP, va_K.moved hW.alike hK, hD, by rw [ht]; exact Nat.le_trans hz hS.1⟩, hS.F ht⟩) hS.2.2 d_U_blown_4
end
section
theorem mm_st : Cond.static Lib.Math.min.name ∈ WS := by decide +kernel
theorem mm_cd : Cond.code Lib.Math.min.name Lib.Math.min.code 2 (some .int) ∈ WS := by decide +kernel
theorem mx_st : Cond.static Lib.Math.max.name ∈ WS := by decide +kernel
theorem mx_cd : Cond.code Lib.Math.max.name Lib.Math.max.code 2 (some .int) ∈ WS := by decide +kernel
theorem mn_nat {m n : Nat} (hm : m < 2 ^ 31) (hn : n < 2 ^ 31) : (if nI n < nI m then nI n else nI m) = nI (min m n) := by
  by_cases h : n < m
  · rw [if_pos ((nI_ltI hn hm).mpr h), Nat.min_eq_right (Nat.le_of_lt h)]
  · rw [if_neg (fun q => h ((nI_ltI hn hm).mp q)), Nat.min_eq_left (Nat.not_lt.mp h)]
set_option maxHeartbeats 4000000 in
set_option maxRecDepth 100000 in
theorem c_U_bytesThrough {l : Launch} {D : va_G} {t : Nat → ClassId} {z : Nat} {sa : Nat → Nat} {ws : va_W} {a : Nat → Nat} {k0 : Nat} {v : Nat → Int32} {x9 y9 : Int32} {n : Nat} (hI : Iv a t k0 v ws) (hn9 : y9 = nI n) (hn31 : n < 2 ^ 31) : Mu l y_U_bytesThrough (Cond.code y_U_bytesThrough b_U_bytesThrough 3 (some .int) :: WS) ({ frames := 1, cells := 2 * nul ws + 1, slots := 257 * nul ws + 6, locals := 13 }) D t z sa ws [.ref (a 8), .int x9, .int y9] (fun r u => ∃ v1, Iv a t k0 v1 u ∧ Fr t ws u ∧ nul u ≤ nul ws ∧ (∃ m : Nat, m ≤ n ∧ r = some (.int (nI m))) ∧ (∀ i, i ≠ 8 → i ≠ 10 → v1 i = v i)) Xno (Kc ws) (Ks ws) := by
  refine mu_ofW (cc := b_U_bytesThrough) (maxL := 3) (ret := (some .int)) (by decide) rfl ?_
  intro p e s m args below meth c s₁ B hml hno hv
  obtain ⟨rfl, ⟨hP, hK, hD, hz⟩, hM⟩ := hv
  have hx := B.exec
  have hb := B.bytes
  have hr := B.returns
  have hts : ∀ w ∈ WS, w.before [.ref (a 8), .int x9, .int y9].toArray s = true := fun w h => atoms_spec B.pre w (List.mem_cons_of_mem _ h)
  have hown : s.vm.findClass R_U = some m.cls := findClass_of_methodNamed B.named
  have hlocks := B.notSynchronized
  have hA : ∀ q, s.heap.size ≤ q → Az z q := fun q h => Nat.le_trans hz h
  have hS : va_S (Az z) s.heap s.heap [] := va_S.rf
  have hF : Fr t ws ws := Fr.rf
  have hn : nul ws ≤ nul ws := Nat.le_refl _
  have hl := lv_entry ([.ref (a 8), .int x9, .int y9]) (n := 3) (Nat.le_of_ble_eq_true rfl)
  rw [lg_entry_eq]
  generalize (lg_sl ([.ref (a 8), .int x9, .int y9]) ++ List.replicate (3 - (lg_sl ([.ref (a 8), .int x9, .int y9])).length) Slot.unset).toArray = ls at hl ⊢
  have hl : lv_has ls 3 [(0, .ref (a 8)), (1, .int x9), (2, .int y9)] := hl
  refine W.widen (k := Kc ws ws) (n := Ks ws ws) (Nat.zero_le _) (Nat.zero_le _) ?_
  refine lv_aload_n hx hb d_U_bytesThrough_0 rfl (lv_at hl 0 rfl) ?_
  refine va_get (D := D) (ci := 2) (v := .int (v 7)) (C := R_U) (T := F_U) (N := 4) hx hb hts ws_U hown hK hP 8 hI.u8 rfl 0 (by decide) (hts _ fl_U_9) (fun _ h9 => h9) rfl d_U_bytesThrough_1 ?_
  refine lv_iload_n hx hb d_U_bytesThrough_4 rfl (lv_at hl 1 rfl) ?_
  refine lv_icmp_eq (tgt := 10) hx hb d_U_bytesThrough_5 rfl (fun q1 => ?_) (fun q1 => ?_)
  · skip
    refine lv_aload_n hx hb d_U_bytesThrough_10 rfl (lv_at hl 0 rfl) ?_
    refine va_get (D := D) (ci := 2) (v := .int (v 8)) (C := R_U) (T := F_U) (N := 4) hx hb hts ws_U hown hK hP 8 hI.u8 rfl 1 (by decide) (hts _ fl_U_15) (fun _ h9 => h9) rfl d_U_bytesThrough_11 ?_
    refine lv_if_le (tgt := 29) hx hb d_U_bytesThrough_14 rfl (fun q2 => ?_) (fun q2 => ?_)
    · skip
      refine lv_aload_n hx hb d_U_bytesThrough_29 rfl (lv_at hl 0 rfl) ?_
      refine lv_iconst (v := 1) hx hb d_U_bytesThrough_30 (by decide) ?_
      refine va_put (D := D) (ci := 2) (v := .int 1) (ty := .boolean) (C := R_U) (T := F_U) (N := 4) hx hb hts ws_U t_U ok_U n_U hown hK hP hD hS 8 hI.u8 rfl 3 (by decide) (hts _ fl_U_21) (fun _ h9 => h9) rfl (by decide +kernel) rfl rfl (Nat.le_of_ble_eq_true rfl) d_U_bytesThrough_31 (fun H locs hP hD hS => ?_)
      obtain ⟨v3, hv3⟩ : ∃ q : Nat → Int32, q = upd v 10 1 := ⟨_, rfl⟩
      have gv3 : v3 10 = 1 := by rw [hv3]; exact pk_us
      have nv3 : ∀ i, i ≠ 10 → v3 i = v i := fun i hi => by rw [hv3]; exact pk_un hi
      have hP : va_P D Cl (ws.set 8 (cU a v3)) H := by rw [hv3]; exact hP
      have hD : va_D (Az z) (ws.set 8 (cU a v3)) := by rw [hv3]; exact hD
      obtain ⟨w4, hw⟩ : ∃ q, q = ws.set 8 (cU a v3) := ⟨_, rfl⟩
      have hP : va_P D Cl (ws.set 8 (cU a v3)) H := hP
      have hD : va_D (Az z) (ws.set 8 (cU a v3)) := hD
      have hF : Fr t ws (ws.set 8 (cU a v3)) := hF.set (by decide) (by decide)
      have hI := hI.setU (v' := v3) (fun i hi => nv3 i (by omega)) (by rw [nv3 9 (by decide)]; exact hI.bd.2.2.2.2.1) (by rw [gv3]; decide)
      have hq9 : nul (ws.set 8 (cU a v3)) = nul ws := nul_set (by decide)
      rw [← hw] at hP hD hF hI hq9
      clear hw
      have hn : nul w4 ≤ nul ws := by omega
      refine W.widen (k := Kc ws w4) (n := Ks ws w4) (by show 2 * (nul ws - nul ws) ≤ 2 * (nul ws - nul w4); omega) (by show 257 * (nul ws - nul ws) ≤ 257 * (nul ws - nul w4); omega) ?_
      refine lv_aload_n hx hb d_U_bytesThrough_34 rfl (lv_at hl 0 rfl) ?_
      refine va_get (D := D) (ci := 2) (v := .int (v3 9)) (C := R_U) (T := F_U) (N := 4) hx hb hts ws_U hown hK hP 8 hI.u8 rfl 2 (by decide) (hts _ fl_U_18) (fun _ h9 => h9) rfl d_U_bytesThrough_35 ?_
      refine lv_iload_n hx hb d_U_bytesThrough_38 rfl (lv_at hl 2 rfl) ?_
      refine va_mmin hx hb (hml.trans hl.1.symm) hown (hts _ ml_U_29) (hts _ mm_st) (hts _ in_Math) (hts _ mm_cd) (Nat.le_of_ble_eq_true rfl) (Nat.le_of_ble_eq_true rfl) (by show 2 * (nul ws - nul w4) ≤ 2 * nul ws + 1; omega) (by show 257 * (nul ws - nul w4) ≤ 257 * nul ws + 6; omega) d_U_bytesThrough_39 ?_
      refine lv_topi (fun y5 hy5 => ?_)
      obtain ⟨B9, hB1, hB2⟩ := hI.bd.2.2.2.2.1
      have hy59 : y5 = nI (min B9 n) := by rw [hy5, hB2, hn9]; exact mn_nat (by omega) hn31
      refine mu_end (u := w4) (v := (some (.int y5))) ⟨_, hI, hF, hn, ⟨min B9 n, Nat.min_le_right _ _, by rw [hy59]⟩, (fun i h8 h10 => by rw [nv3 i (by omega)])⟩ (Nat.le_refl _) (Nat.le_refl _) ?_
      exact W.iret (v := y5) hx hb hr (fun t9 ht hW => ⟨rfl, ⟨by rw [ht]; exact hP, va_K.moved hW.alike hK, hD, by rw [ht]; exact Nat.le_trans hz hS.1⟩, hS.F ht⟩) hS.2.2 d_U_bytesThrough_42
    · skip
      refine lv_aload_n hx hb d_U_bytesThrough_17 rfl (lv_at hl 0 rfl) ?_
      refine lv_dup hx hb d_U_bytesThrough_18 rfl ?_
      refine va_get (D := D) (ci := 2) (v := .int (v 8)) (C := R_U) (T := F_U) (N := 4) hx hb hts ws_U hown hK hP 8 hI.u8 rfl 1 (by decide) (hts _ fl_U_15) (fun _ h9 => h9) rfl d_U_bytesThrough_19 ?_
      refine lv_iconst (v := 1) hx hb d_U_bytesThrough_22 (by decide) ?_
      refine lv_isub hx hb d_U_bytesThrough_23 ?_
      refine lv_topi (fun v6 hv6 => ?_)
      refine va_put (D := D) (ci := 2) (v := .int v6) (ty := .int) (C := R_U) (T := F_U) (N := 4) hx hb hts ws_U t_U ok_U n_U hown hK hP hD hS 8 hI.u8 rfl 1 (by decide) (hts _ fl_U_15) (fun _ h9 => h9) rfl (by decide +kernel) rfl rfl (Nat.le_of_ble_eq_true rfl) d_U_bytesThrough_24 (fun H locs hP hD hS => ?_)
      obtain ⟨v7, hv7⟩ : ∃ q : Nat → Int32, q = upd v 8 v6 := ⟨_, rfl⟩
      have gv7 : v7 8 = v6 := by rw [hv7]; exact pk_us
      have nv7 : ∀ i, i ≠ 8 → v7 i = v i := fun i hi => by rw [hv7]; exact pk_un hi
      have hP : va_P D Cl (ws.set 8 (cU a v7)) H := by rw [hv7]; exact hP
      have hD : va_D (Az z) (ws.set 8 (cU a v7)) := by rw [hv7]; exact hD
      obtain ⟨w8, hw⟩ : ∃ q, q = ws.set 8 (cU a v7) := ⟨_, rfl⟩
      have hP : va_P D Cl (ws.set 8 (cU a v7)) H := hP
      have hD : va_D (Az z) (ws.set 8 (cU a v7)) := hD
      have hF : Fr t ws (ws.set 8 (cU a v7)) := hF.set (by decide) (by decide)
      have hI := hI.setU (v' := v7) (fun i hi => nv7 i (by omega)) (by rw [nv7 9 (by decide)]; exact hI.bd.2.2.2.2.1) (by rw [nv7 10 (by decide)]; exact hI.bd.2.2.2.2.2.2)
      have hq9 : nul (ws.set 8 (cU a v7)) = nul ws := nul_set (by decide)
      rw [← hw] at hP hD hF hI hq9
      clear hw
      have hn : nul w8 ≤ nul ws := by omega
      refine W.widen (k := Kc ws w8) (n := Ks ws w8) (by show 2 * (nul ws - nul ws) ≤ 2 * (nul ws - nul w8); omega) (by show 257 * (nul ws - nul ws) ≤ 257 * (nul ws - nul w8); omega) ?_
      refine lv_iload_n hx hb d_U_bytesThrough_27 rfl (lv_at hl 2 rfl) ?_
      refine mu_end (u := w8) (v := (some (.int y9))) ⟨_, hI, hF, hn, ⟨n, Nat.le_refl _, by rw [hn9]⟩, (fun i h8 h10 => by rw [nv7 i (by omega)])⟩ (Nat.le_refl _) (Nat.le_refl _) ?_
      exact W.iret (v := y9) hx hb hr (fun t9 ht hW => ⟨rfl, ⟨by rw [ht]; exact hP, va_K.moved hW.alike hK, hD, by rw [ht]; exact Nat.le_trans hz hS.1⟩, hS.F ht⟩) hS.2.2 d_U_bytesThrough_28
  · skip
    refine lv_iload_n hx hb d_U_bytesThrough_8 rfl (lv_at hl 2 rfl) ?_
    refine mu_end (u := ws) (v := (some (.int y9))) ⟨_, hI, hF, hn, ⟨n, Nat.le_refl _, by rw [hn9]⟩, (fun i _ _ => rfl)⟩ (Nat.le_refl _) (Nat.le_refl _) ?_
    exact W.iret (v := y9) hx hb hr (fun t9 ht hW => ⟨rfl, ⟨by rw [ht]; exact hP, va_K.moved hW.alike hK, hD, by rw [ht]; exact Nat.le_trans hz hS.1⟩, hS.F ht⟩) hS.2.2 d_U_bytesThrough_9
set_option maxHeartbeats 4000000 in
set_option maxRecDepth 100000 in
theorem c_Y_cutTo_f {l : Launch} {D : va_G} {t : Nat → ClassId} {z : Nat} {sa : Nat → Nat} {ws : va_W} {a : Nat → Nat} {k0 : Nat} {v : Nat → Int32} {x9 : Int32} {n : Nat} (hI : Iv a t k0 v ws) (hn9 : x9 = nI n) (hn31 : n < 2 ^ 31) : Mu l y_Y_cutTo (Cond.code y_Y_cutTo b_Y_cutTo 2 (.none : Option Jvm.ClassFile.FieldType) :: WS) ({ frames := 1, cells := 2 * nul ws + 1, slots := 257 * nul ws + 6, locals := 14 }) D t z sa ws [.ref (a 1), .int x9] (fun r u => ∃ v1, Iv a t k0 v1 u ∧ Fr t ws u ∧ nul u ≤ nul ws ∧ r = none ∧ (∀ i, i ≠ 5 → v1 i = v i)) Xno (Kc ws) (Ks ws) := by
  refine mu_ofW (cc := b_Y_cutTo) (maxL := 2) (ret := (.none : Option Jvm.ClassFile.FieldType)) (by decide) rfl ?_
  intro p e s m args below meth c s₁ B hml hno hv
  obtain ⟨rfl, ⟨hP, hK, hD, hz⟩, hM⟩ := hv
  have hx := B.exec
  have hb := B.bytes
  have hr := B.returns
  have hts : ∀ w ∈ WS, w.before [.ref (a 1), .int x9].toArray s = true := fun w h => atoms_spec B.pre w (List.mem_cons_of_mem _ h)
  have hown : s.vm.findClass R_Y = some m.cls := findClass_of_methodNamed B.named
  have hlocks := B.notSynchronized
  have hA : ∀ q, s.heap.size ≤ q → Az z q := fun q h => Nat.le_trans hz h
  have hS : va_S (Az z) s.heap s.heap [] := va_S.rf
  have hF : Fr t ws ws := Fr.rf
  have hn : nul ws ≤ nul ws := Nat.le_refl _
  have hl := lv_entry ([.ref (a 1), .int x9]) (n := 2) (Nat.le_of_ble_eq_true rfl)
  rw [lg_entry_eq]
  generalize (lg_sl ([.ref (a 1), .int x9]) ++ List.replicate (2 - (lg_sl ([.ref (a 1), .int x9])).length) Slot.unset).toArray = ls at hl ⊢
  have hl : lv_has ls 2 [(0, .ref (a 1)), (1, .int x9)] := hl
  refine W.widen (k := Kc ws ws) (n := Ks ws ws) (Nat.zero_le _) (Nat.zero_le _) ?_
  refine lv_aload_n hx hb d_Y_cutTo_0 rfl (lv_at hl 0 rfl) ?_
  refine lv_aload_n hx hb d_Y_cutTo_1 rfl (lv_at hl 0 rfl) ?_
  refine va_get (D := D) (ci := 3) (v := .int (v 5)) (C := R_Y) (T := F_Y) (N := 2) hx hb hts ws_Y hown hK hP 1 hI.y1 rfl 1 (by decide) (hts _ fl_Y_9) (fun _ h9 => h9) rfl d_Y_cutTo_2 ?_
  refine lv_iload_n hx hb d_Y_cutTo_5 rfl (lv_at hl 1 rfl) ?_
  refine va_mmin hx hb (hml.trans hl.1.symm) hown (hts _ ml_Y_34) (hts _ mm_st) (hts _ in_Math) (hts _ mm_cd) (Nat.le_of_ble_eq_true rfl) (Nat.le_of_ble_eq_true rfl) (by show 2 * (nul ws - nul ws) ≤ 2 * nul ws + 1; omega) (by show 257 * (nul ws - nul ws) ≤ 257 * nul ws + 6; omega) d_Y_cutTo_6 ?_
  refine lv_topi (fun y1 hy1 => ?_)
  obtain ⟨F9, hF1, hF2⟩ := hI.bd.2.2.1
  have hy19 : y1 = nI (min F9 n) := by rw [hy1, hF2, hn9]; exact mn_nat (by omega) hn31
  refine va_put (D := D) (ci := 3) (v := .int y1) (ty := .int) (C := R_Y) (T := F_Y) (N := 2) hx hb hts ws_Y t_Y ok_Y n_Y hown hK hP hD hS 1 hI.y1 rfl 1 (by decide) (hts _ fl_Y_9) (fun _ h9 => h9) rfl (by decide +kernel) rfl rfl (Nat.le_of_ble_eq_true rfl) d_Y_cutTo_9 (fun H locs hP hD hS => ?_)
  obtain ⟨v2, hv2⟩ : ∃ q : Nat → Int32, q = upd v 5 y1 := ⟨_, rfl⟩
  have gv2 : v2 5 = y1 := by rw [hv2]; exact pk_us
  have nv2 : ∀ i, i ≠ 5 → v2 i = v i := fun i hi => by rw [hv2]; exact pk_un hi
  have hP : va_P D Cl (ws.set 1 (cY1 a v2)) H := by rw [hv2]; exact hP
  have hD : va_D (Az z) (ws.set 1 (cY1 a v2)) := by rw [hv2]; exact hD
  obtain ⟨w3, hw⟩ : ∃ q, q = ws.set 1 (cY1 a v2) := ⟨_, rfl⟩
  have hP : va_P D Cl (ws.set 1 (cY1 a v2)) H := hP
  have hD : va_D (Az z) (ws.set 1 (cY1 a v2)) := hD
  have hF : Fr t ws (ws.set 1 (cY1 a v2)) := hF.set (by decide) (by decide)
  have hI := (by have h9 := hI.setF (F := min F9 n) (by omega); rw [show upd v 5 (nI (min F9 n)) = v2 from by rw [hv2, hy19]] at h9; exact h9)
  have hq9 : nul (ws.set 1 (cY1 a v2)) = nul ws := nul_set (by decide)
  rw [← hw] at hP hD hF hI hq9
  clear hw
  have hn : nul w3 ≤ nul ws := by omega
  refine W.widen (k := Kc ws w3) (n := Ks ws w3) (by show 2 * (nul ws - nul ws) ≤ 2 * (nul ws - nul w3); omega) (by show 257 * (nul ws - nul ws) ≤ 257 * (nul ws - nul w3); omega) ?_
  refine mu_end (u := w3) (v := (none)) ⟨_, hI, hF, hn, rfl, nv2⟩ (Nat.le_refl _) (Nat.le_refl _) ?_
  exact W.vret hx hb hr (fun t9 ht hW => ⟨rfl, ⟨by rw [ht]; exact hP, va_K.moved hW.alike hK, hD, by rw [ht]; exact Nat.le_trans hz hS.1⟩, hS.F ht⟩) hS.2.2 d_Y_cutTo_12
set_option maxHeartbeats 4000000 in
set_option maxRecDepth 100000 in
theorem c_Y_cutTo_j {l : Launch} {D : va_G} {t : Nat → ClassId} {z : Nat} {sa : Nat → Nat} {ws : va_W} {a : Nat → Nat} {k0 : Nat} {v : Nat → Int32}  (hI : Iv a t k0 v ws)  : Mu l y_Y_cutTo (Cond.code y_Y_cutTo b_Y_cutTo 2 (.none : Option Jvm.ClassFile.FieldType) :: WS) ({ frames := 1, cells := 2 * nul ws + 1, slots := 257 * nul ws + 6, locals := 14 }) D t z sa ws [.ref (a 4), .int 0] (fun r u => ∃ v1, Iv a t k0 v1 u ∧ Fr t ws u ∧ nul u ≤ nul ws ∧ r = none ∧ (∀ i, i ≠ 6 → v1 i = v i) ∧ v1 6 = 0) Xno (Kc ws) (Ks ws) := by
  refine mu_ofW (cc := b_Y_cutTo) (maxL := 2) (ret := (.none : Option Jvm.ClassFile.FieldType)) (by decide) rfl ?_
  intro p e s m args below meth c s₁ B hml hno hv
  obtain ⟨rfl, ⟨hP, hK, hD, hz⟩, hM⟩ := hv
  have hx := B.exec
  have hb := B.bytes
  have hr := B.returns
  have hts : ∀ w ∈ WS, w.before [.ref (a 4), .int 0].toArray s = true := fun w h => atoms_spec B.pre w (List.mem_cons_of_mem _ h)
  have hown : s.vm.findClass R_Y = some m.cls := findClass_of_methodNamed B.named
  have hlocks := B.notSynchronized
  have hA : ∀ q, s.heap.size ≤ q → Az z q := fun q h => Nat.le_trans hz h
  have hS : va_S (Az z) s.heap s.heap [] := va_S.rf
  have hF : Fr t ws ws := Fr.rf
  have hn : nul ws ≤ nul ws := Nat.le_refl _
  have hl := lv_entry ([.ref (a 4), .int 0]) (n := 2) (Nat.le_of_ble_eq_true rfl)
  rw [lg_entry_eq]
  generalize (lg_sl ([.ref (a 4), .int 0]) ++ List.replicate (2 - (lg_sl ([.ref (a 4), .int 0])).length) Slot.unset).toArray = ls at hl ⊢
  have hl : lv_has ls 2 [(0, .ref (a 4)), (1, .int 0)] := hl
  refine W.widen (k := Kc ws ws) (n := Ks ws ws) (Nat.zero_le _) (Nat.zero_le _) ?_
  refine lv_aload_n hx hb d_Y_cutTo_0 rfl (lv_at hl 0 rfl) ?_
  refine lv_aload_n hx hb d_Y_cutTo_1 rfl (lv_at hl 0 rfl) ?_
  refine va_get (D := D) (ci := 3) (v := .int (v 6)) (C := R_Y) (T := F_Y) (N := 2) hx hb hts ws_Y hown hK hP 4 hI.y4 rfl 1 (by decide) (hts _ fl_Y_9) (fun _ h9 => h9) rfl d_Y_cutTo_2 ?_
  refine lv_iload_n hx hb d_Y_cutTo_5 rfl (lv_at hl 1 rfl) ?_
  refine va_mmin hx hb (hml.trans hl.1.symm) hown (hts _ ml_Y_34) (hts _ mm_st) (hts _ in_Math) (hts _ mm_cd) (Nat.le_of_ble_eq_true rfl) (Nat.le_of_ble_eq_true rfl) (by show 2 * (nul ws - nul ws) ≤ 2 * nul ws + 1; omega) (by show 257 * (nul ws - nul ws) ≤ 257 * nul ws + 6; omega) d_Y_cutTo_6 ?_
  refine lv_topi (fun y1 hy1 => ?_)
  obtain ⟨J9, hJ1, hJ2⟩ := hI.bd.2.2.2.1
  have hy19 : y1 = nI (min J9 0) := by rw [hy1, hJ2]; exact mn_nat (n := 0) (by omega) (by decide)
  rw [Nat.min_zero] at hy19
  refine va_put (D := D) (ci := 3) (v := .int y1) (ty := .int) (C := R_Y) (T := F_Y) (N := 2) hx hb hts ws_Y t_Y ok_Y n_Y hown hK hP hD hS 4 hI.y4 rfl 1 (by decide) (hts _ fl_Y_9) (fun _ h9 => h9) rfl (by decide +kernel) rfl rfl (Nat.le_of_ble_eq_true rfl) d_Y_cutTo_9 (fun H locs hP hD hS => ?_)
  obtain ⟨v2, hv2⟩ : ∃ q : Nat → Int32, q = upd v 6 y1 := ⟨_, rfl⟩
  have gv2 : v2 6 = y1 := by rw [hv2]; exact pk_us
  have nv2 : ∀ i, i ≠ 6 → v2 i = v i := fun i hi => by rw [hv2]; exact pk_un hi
  have hP : va_P D Cl (ws.set 4 (cY4 a v2)) H := by rw [hv2]; exact hP
  have hD : va_D (Az z) (ws.set 4 (cY4 a v2)) := by rw [hv2]; exact hD
  obtain ⟨w3, hw⟩ : ∃ q, q = ws.set 4 (cY4 a v2) := ⟨_, rfl⟩
  have hP : va_P D Cl (ws.set 4 (cY4 a v2)) H := hP
  have hD : va_D (Az z) (ws.set 4 (cY4 a v2)) := hD
  have hF : Fr t ws (ws.set 4 (cY4 a v2)) := hF.set (by decide) (by decide)
  have hI := (by have h9 := hI.setJ (J := 0) (by decide) (fun h => absurd h (by decide)); rw [show upd v 6 (nI 0) = v2 from by rw [hv2, hy19]] at h9; exact h9)
  have hq9 : nul (ws.set 4 (cY4 a v2)) = nul ws := nul_set (by decide)
  rw [← hw] at hP hD hF hI hq9
  clear hw
  have hn : nul w3 ≤ nul ws := by omega
  refine W.widen (k := Kc ws w3) (n := Ks ws w3) (by show 2 * (nul ws - nul ws) ≤ 2 * (nul ws - nul w3); omega) (by show 257 * (nul ws - nul ws) ≤ 257 * (nul ws - nul w3); omega) ?_
  refine mu_end (u := w3) (v := (none)) ⟨_, hI, hF, hn, rfl, nv2, by rw [gv2, hy19]; rfl⟩ (Nat.le_refl _) (Nat.le_refl _) ?_
  exact W.vret hx hb hr (fun t9 ht hW => ⟨rfl, ⟨by rw [ht]; exact hP, va_K.moved hW.alike hK, hD, by rw [ht]; exact Nat.le_trans hz hS.1⟩, hS.F ht⟩) hS.2.2 d_Y_cutTo_12
end
section
section LP
variable {p : Program} {l : Launch} {e : Env} {R : Room} {s : State} {m : MethodId} {args : Array Value} {below : List Frame} {meth : Method} {c : Code} {cells slots : Nat} {Q : State → Prop} {D : va_G} {t : Nat → ClassId} {z : Nat} {ws : va_W} {a : Nat → Nat} {k0 j : Nat} {v : Nat → Int32} {bl : Int32}
theorem lp_Z_lay (hx : p.tables.exec = Jvm.exec) (hb : c.code = b_Z_lay) (hts : ∀ w ∈ WS, w.before args s = true) (hown : s.vm.findClass R_Z = some m.cls) (hK : va_K D Cl (Ty t) s) (hj : j < 6)
  (kx : ∀ (w : va_W) (H : Heap) (locs : List Loc) (ls : Array Slot), va_P D Cl w H → va_D (Az z) w → va_S (Az z) s.heap H locs → Iv a t k0 v w → Fr t ws w → nul w = nul ws → lv_has ls 3 [(2, .int (nI 768)), (0, .ref (a (10 + 4 * j))), (1, .int bl)] → W p l e R s m args below meth c H locs cells slots Q (F0 m 22 ls [])) :
  ∀ (n i : Nat) (w : va_W) (H : Heap) (locs : List Loc) (ls : Array Slot), i + n = 768 → va_P D Cl w H → va_D (Az z) w → va_S (Az z) s.heap H locs → Iv a t k0 v w → Fr t ws w → nul w = nul ws → lv_has ls 3 [(2, .int (nI i)), (0, .ref (a (10 + 4 * j))), (1, .int bl)] → W p l e R s m args below meth c H locs cells slots Q (F0 m 2 ls []) := by
  intro n
  induction n with
  | zero =>
    intro i w H locs ls hi hP hD hS hI hF hq hl
    have hi : i = 768 := by omega
    subst hi
    refine lv_iload_n hx hb d_Z_lay_2 rfl (lv_at hl 0 rfl) ?_
    refine lv_sipush (v := 768) hx hb d_Z_lay_3 (by decide) ?_
    refine lv_icmp_ge (tgt := 22) hx hb d_Z_lay_6 rfl (fun _ => ?_) (fun h => absurd (show (768 : Int32) ≤ nI 768 by decide) h)
    exact kx w H locs ls hP hD hS hI hF hq hl
  | succ n ih =>
    intro i w H locs ls hi hP hD hS hI hF hq hl
    refine lv_iload_n hx hb d_Z_lay_2 rfl (lv_at hl 0 rfl) ?_
    refine lv_sipush (v := 768) hx hb d_Z_lay_3 (by decide) ?_
    refine lv_icmp_ge (tgt := 22) hx hb d_Z_lay_6 rfl (fun h => absurd h (nI_ge (a := i) (b := 768) (by omega) (by decide))) (fun _ => ?_)
    refine lv_aload_n hx hb d_Z_lay_9 rfl (lv_at hl 1 rfl) ?_
    refine va_get (D := D) (ci := 4) (v := .ref (a (13 + 4 * j))) (C := R_Z) (T := F_Z) (N := 3) hx hb hts ws_Z hown hK hP (10 + 4 * j) (hI.z hj) rfl 1 (by decide) (hts _ fl_Z_20) (fun _ h9 => h9) rfl d_Z_lay_10 ?_
    refine lv_iload_n hx hb d_Z_lay_13 rfl (lv_at hl 0 rfl) ?_
    refine lv_iconst (v := 0) hx hb d_Z_lay_14 (by decide) ?_
    obtain ⟨f, e13, e14⟩ := hI.zh hj
    refine va_zast (D := D) hx hb hK hP hD hS (13 + 4 * j) 1 e13 rfl (x := 0) (i := nI i) (vp_in_nI (by omega) (by decide)) d_Z_lay_15 (fun H locs hP hD hS => ?_)
    obtain ⟨f1, hf1⟩ : ∃ q, q = upd f (nI i).toNatClampNeg (vp_nar .boolean 0) := ⟨_, rfl⟩
    have e15 : ∀ i, f1 i = 0 ∨ f1 i = 1 := by rw [hf1]; exact up01 e14 (by decide)
    rw [← hf1] at hP hD
    refine lv_iinc (k := 0) (v := nI (i + 1)) (lv' := [(2, .int (nI (i + 1))), (0, .ref (a (10 + 4 * j))), (1, .int bl)]) hx hb d_Z_lay_16 hl rfl (nI_1 i) (by decide) rfl (fun ls hl => ?_)
    refine lv_goto (tgt := 2) hx hb d_Z_lay_19 rfl ?_
    exact ih (i + 1) (w.set (13 + 4 * j) (a (13 + 4 * j), .inl (t 1, 768, .inl f1))) H locs ls (by omega) hP hD hS (hI.setH hj e15) (hF.set (by omega) (by omega)) ((nul_set nm13).trans hq) hl
theorem lp_Z_any {N : Nat} {H : Heap} {locs : List Loc} {w : va_W} (hN : N ≤ 768) (hbl : bl = nI N) (hx : p.tables.exec = Jvm.exec) (hb : c.code = b_Z_holdsAny) (hts : ∀ w ∈ WS, w.before args s = true) (hown : s.vm.findClass R_Z = some m.cls) (hK : va_K D Cl (Ty t) s) (hj : j < 6) (hP : va_P D Cl w H) (hI : Iv a t k0 v w)
  (k1 : ∀ (ls : Array Slot) (i : Nat), lv_has ls 3 [(2, .int (nI i)), (0, .ref (a (10 + 4 * j))), (1, .int bl)] → W p l e R s m args below meth c H locs cells slots Q (F0 m 16 ls []))
  (k2 : ∀ (ls : Array Slot) (i : Nat), lv_has ls 3 [(2, .int (nI i)), (0, .ref (a (10 + 4 * j))), (1, .int bl)] → W p l e R s m args below meth c H locs cells slots Q (F0 m 24 ls [])) :
  ∀ (n i : Nat) (ls : Array Slot), i + n = N → lv_has ls 3 [(2, .int (nI i)), (0, .ref (a (10 + 4 * j))), (1, .int bl)] → W p l e R s m args below meth c H locs cells slots Q (F0 m 2 ls []) := by
  intro n
  induction n with
  | zero =>
    intro i ls hi hl
    refine lv_iload_n hx hb d_Z_holdsAny_2 rfl (lv_at hl 0 rfl) ?_
    refine lv_iload_n hx hb d_Z_holdsAny_3 rfl (lv_at hl 2 rfl) ?_
    refine lv_icmp_ge (tgt := 24) hx hb d_Z_holdsAny_4 rfl (fun _ => ?_) (fun h => absurd (by rw [hbl]; exact nI_le (by omega) (by omega)) h)
    exact k2 ls i hl
  | succ n ih =>
    intro i ls hi hl
    refine lv_iload_n hx hb d_Z_holdsAny_2 rfl (lv_at hl 0 rfl) ?_
    refine lv_iload_n hx hb d_Z_holdsAny_3 rfl (lv_at hl 2 rfl) ?_
    refine lv_icmp_ge (tgt := 24) hx hb d_Z_holdsAny_4 rfl (fun h => absurd h (by rw [hbl]; exact nI_ge (by omega) (by omega))) (fun _ => ?_)
    refine lv_aload_n hx hb d_Z_holdsAny_7 rfl (lv_at hl 1 rfl) ?_
    refine va_get (D := D) (ci := 4) (v := .ref (a (13 + 4 * j))) (C := R_Z) (T := F_Z) (N := 3) hx hb hts ws_Z hown hK hP (10 + 4 * j) (hI.z hj) rfl 1 (by decide) (hts _ fl_Z_20) (fun _ h9 => h9) rfl d_Z_holdsAny_8 ?_
    refine lv_iload_n hx hb d_Z_holdsAny_11 rfl (lv_at hl 0 rfl) ?_
    obtain ⟨f, e13, e14⟩ := hI.zh hj
    refine va_zald (D := D) hx hb hK hP (13 + 4 * j) 1 e13 rfl (i := nI i) (vp_in_nI (by omega) (by decide)) d_Z_holdsAny_12 ?_
    refine lv_if_eq (tgt := 18) hx hb d_Z_holdsAny_13 rfl (fun _ => ?_) (fun _ => k1 ls i hl)
    refine lv_iinc (k := 0) (v := nI (i + 1)) (lv' := [(2, .int (nI (i + 1))), (0, .ref (a (10 + 4 * j))), (1, .int bl)]) hx hb d_Z_holdsAny_18 hl rfl (nI_1 i) (by decide) rfl (fun ls hl => ?_)
    refine lv_goto (tgt := 2) hx hb d_Z_holdsAny_21 rfl ?_
    exact ih (i + 1) ls (by omega) hl
end LP
set_option maxHeartbeats 4000000 in
set_option maxRecDepth 100000 in
theorem c_Z_lay {l : Launch} {D : va_G} {t : Nat → ClassId} {z : Nat} {sa : Nat → Nat} {ws : va_W} {a : Nat → Nat} {k0 : Nat} {v : Nat → Int32} {j : Nat} {bl : Int32} {P9 : Nat} (hI : Iv a t k0 v ws) (hj : j < 6) (hP9 : P9 ≤ 768) (hbl : bl = nI P9) : Mu l y_Z_lay (Cond.code y_Z_lay b_Z_lay 3 (.none : Option Jvm.ClassFile.FieldType) :: WS) ({ frames := 0, cells := 2 * nul ws + 1, slots := 257 * nul ws + 6, locals := 0 }) D t z sa ws [.ref (a (10 + 4 * j)), .int bl] (fun r u => ∃ v1, Iv a t k0 v1 u ∧ Fr t ws u ∧ nul u ≤ nul ws ∧ r = none ∧ (∀ i, i ≠ 11 + j → v1 i = v i) ∧ v1 (11 + j) = bl) Xno (Kc ws) (Ks ws) := by
  refine mu_ofW (cc := b_Z_lay) (maxL := 3) (ret := (.none : Option Jvm.ClassFile.FieldType)) (by decide) rfl ?_
  intro p e s m args below meth c s₁ B hml hno hv
  obtain ⟨rfl, ⟨hP, hK, hD, hz⟩, hM⟩ := hv
  have hx := B.exec
  have hb := B.bytes
  have hr := B.returns
  have hts : ∀ w ∈ WS, w.before [.ref (a (10 + 4 * j)), .int bl].toArray s = true := fun w h => atoms_spec B.pre w (List.mem_cons_of_mem _ h)
  have hown : s.vm.findClass R_Z = some m.cls := findClass_of_methodNamed B.named
  have hlocks := B.notSynchronized
  have hA : ∀ q, s.heap.size ≤ q → Az z q := fun q h => Nat.le_trans hz h
  have hS : va_S (Az z) s.heap s.heap [] := va_S.rf
  have hF : Fr t ws ws := Fr.rf
  have hn : nul ws ≤ nul ws := Nat.le_refl _
  have hl := lv_entry ([.ref (a (10 + 4 * j)), .int bl]) (n := 3) (Nat.le_of_ble_eq_true rfl)
  rw [lg_entry_eq]
  generalize (lg_sl ([.ref (a (10 + 4 * j)), .int bl]) ++ List.replicate (3 - (lg_sl ([.ref (a (10 + 4 * j)), .int bl])).length) Slot.unset).toArray = ls at hl ⊢
  have hl : lv_has ls 3 [(0, .ref (a (10 + 4 * j))), (1, .int bl)] := hl
  refine W.widen (k := Kc ws ws) (n := Ks ws ws) (Nat.zero_le _) (Nat.zero_le _) ?_
  refine lv_iconst (v := 0) hx hb d_Z_lay_0 (by decide) ?_
  refine lv_istore_n (lv' := [(2, .int 0), (0, .ref (a (10 + 4 * j))), (1, .int bl)]) hx hb d_Z_lay_1 rfl hl (by decide) rfl (fun ls hl => ?_)
  refine lp_Z_lay (ws := ws) (k0 := k0) (v := v) (bl := bl) hx hb hts hown hK hj (fun w1 H locs ls hP hD hS hI hF hq9 hl => ?_) 768 0 ws _ _ _ rfl hP hD hS hI hF rfl hl
  have hn : nul w1 ≤ nul ws := by omega
  refine W.widen (k := Kc ws w1) (n := Ks ws w1) (by show 2 * (nul ws - nul ws) ≤ 2 * (nul ws - nul w1); omega) (by show 257 * (nul ws - nul ws) ≤ 257 * (nul ws - nul w1); omega) ?_
  refine lv_aload_n hx hb d_Z_lay_22 rfl (lv_at hl 1 rfl) ?_
  refine lv_iload_n hx hb d_Z_lay_23 rfl (lv_at hl 2 rfl) ?_
  refine va_put (D := D) (ci := 4) (v := .int bl) (ty := .int) (C := R_Z) (T := F_Z) (N := 3) hx hb hts ws_Z t_Z ok_Z n_Z hown hK hP hD hS (10 + 4 * j) (hI.z hj) rfl 2 (by decide) (hts _ fl_Z_24) (fun _ h9 => h9) rfl (by decide +kernel) rfl rfl (Nat.le_of_ble_eq_true rfl) d_Z_lay_24 (fun H locs hP hD hS => ?_)
  obtain ⟨v6, hv6⟩ : ∃ q : Nat → Int32, q = upd v (11 + j) bl := ⟨_, rfl⟩
  have gv6 : v6 (11 + j) = bl := by rw [hv6]; exact pk_us
  have nv6 : ∀ i, i ≠ (11 + j) → v6 i = v i := fun i hi => by rw [hv6]; exact pk_un hi
  have hce : (a (10 + 4 * j), Sum.inr (4, [Value.ref (a (11 + 4 * j)), .ref (a (13 + 4 * j)), .int bl])) = cZ a v6 j := by simp only [cZ, gv6]
  have hP : va_P D Cl (w1.set (10 + 4 * j) (cZ a v6 j)) H := hce ▸ hP
  have hD : va_D (Az z) (w1.set (10 + 4 * j) (cZ a v6 j)) := hce ▸ hD
  obtain ⟨w7, hw⟩ : ∃ q, q = w1.set (10 + 4 * j) (cZ a v6 j) := ⟨_, rfl⟩
  have hP : va_P D Cl (w1.set (10 + 4 * j) (cZ a v6 j)) H := hP
  have hD : va_D (Az z) (w1.set (10 + 4 * j) (cZ a v6 j)) := hD
  have hF : Fr t ws (w1.set (10 + 4 * j) (cZ a v6 j)) := hF.set (by omega) (by omega)
  have hI := (by have h9 := hI.setZ (P := P9) hj hP9; rw [← hbl, ← hv6] at h9; exact h9)
  have hq9 : nul (w1.set (10 + 4 * j) (cZ a v6 j)) = nul w1 := nul_set nm10
  rw [← hw] at hP hD hF hI hq9
  clear hw
  have hn : nul w7 ≤ nul ws := by omega
  refine W.widen (k := Kc ws w7) (n := Ks ws w7) (by show 2 * (nul ws - nul w1) ≤ 2 * (nul ws - nul w7); omega) (by show 257 * (nul ws - nul w1) ≤ 257 * (nul ws - nul w7); omega) ?_
  refine mu_end (u := w7) (v := (none)) ⟨_, hI, hF, hn, rfl, nv6, gv6⟩ (Nat.le_refl _) (Nat.le_refl _) ?_
  exact W.vret hx hb hr (fun t9 ht hW => ⟨rfl, ⟨by rw [ht]; exact hP, va_K.moved hW.alike hK, hD, by rw [ht]; exact Nat.le_trans hz hS.1⟩, hS.F ht⟩) hS.2.2 d_Z_lay_27
set_option maxHeartbeats 4000000 in
set_option maxRecDepth 100000 in
theorem c_Z_holdsAny {l : Launch} {D : va_G} {t : Nat → ClassId} {z : Nat} {sa : Nat → Nat} {ws : va_W} {a : Nat → Nat} {k0 : Nat} {v : Nat → Int32} {j : Nat} {bl : Int32} {P9 : Nat} (hI : Iv a t k0 v ws) (hj : j < 6) (hP9 : P9 ≤ 768) (hbl : bl = nI P9) : Mu l y_Z_holdsAny (Cond.code y_Z_holdsAny b_Z_holdsAny 3 (some .boolean) :: WS) ({ frames := 0, cells := 2 * nul ws + 1, slots := 257 * nul ws + 6, locals := 0 }) D t z sa ws [.ref (a (10 + 4 * j)), .int bl] (fun r u => ∃ y, r = some (.int y) ∧ u = ws ∧ (y = 0 ∨ y = 1)) Xno (Kc ws) (Ks ws) := by
  refine mu_ofW (cc := b_Z_holdsAny) (maxL := 3) (ret := (some .boolean)) (by decide) rfl ?_
  intro p e s m args below meth c s₁ B hml hno hv
  obtain ⟨rfl, ⟨hP, hK, hD, hz⟩, hM⟩ := hv
  have hx := B.exec
  have hb := B.bytes
  have hr := B.returns
  have hts : ∀ w ∈ WS, w.before [.ref (a (10 + 4 * j)), .int bl].toArray s = true := fun w h => atoms_spec B.pre w (List.mem_cons_of_mem _ h)
  have hown : s.vm.findClass R_Z = some m.cls := findClass_of_methodNamed B.named
  have hlocks := B.notSynchronized
  have hA : ∀ q, s.heap.size ≤ q → Az z q := fun q h => Nat.le_trans hz h
  have hS : va_S (Az z) s.heap s.heap [] := va_S.rf
  have hF : Fr t ws ws := Fr.rf
  have hn : nul ws ≤ nul ws := Nat.le_refl _
  have hl := lv_entry ([.ref (a (10 + 4 * j)), .int bl]) (n := 3) (Nat.le_of_ble_eq_true rfl)
  rw [lg_entry_eq]
  generalize (lg_sl ([.ref (a (10 + 4 * j)), .int bl]) ++ List.replicate (3 - (lg_sl ([.ref (a (10 + 4 * j)), .int bl])).length) Slot.unset).toArray = ls at hl ⊢
  have hl : lv_has ls 3 [(0, .ref (a (10 + 4 * j))), (1, .int bl)] := hl
  refine W.widen (k := Kc ws ws) (n := Ks ws ws) (Nat.zero_le _) (Nat.zero_le _) ?_
  refine lv_iconst (v := 0) hx hb d_Z_holdsAny_0 (by decide) ?_
  refine lv_istore_n (lv' := [(2, .int 0), (0, .ref (a (10 + 4 * j))), (1, .int bl)]) hx hb d_Z_holdsAny_1 rfl hl (by decide) rfl (fun ls hl => ?_)
  refine lp_Z_any (k0 := k0) (v := v) (w := ws) hP9 hbl hx hb hts hown hK hj hP hI (fun ls i hl => ?_) (fun ls i hl => ?_) P9 0 _ (Nat.zero_add _) hl
  · skip
    refine lv_iconst (v := 1) hx hb d_Z_holdsAny_16 (by decide) ?_
    refine mu_end (u := ws) (v := (some (.int 1))) ⟨_, rfl, rfl, by decide⟩ (Nat.le_refl _) (Nat.le_refl _) ?_
    exact W.zret (v := 1) (ty := .boolean) hx hb hr rfl (fun t9 ht hW => ⟨rfl, ⟨by rw [ht]; exact hP, va_K.moved hW.alike hK, hD, by rw [ht]; exact Nat.le_trans hz hS.1⟩, hS.F ht⟩) hS.2.2 d_Z_holdsAny_17
  · skip
    refine lv_iconst (v := 0) hx hb d_Z_holdsAny_24 (by decide) ?_
    refine mu_end (u := ws) (v := (some (.int 0))) ⟨_, rfl, rfl, by decide⟩ (Nat.le_refl _) (Nat.le_refl _) ?_
    exact W.zret (v := 0) (ty := .boolean) hx hb hr rfl (fun t9 ht hW => ⟨rfl, ⟨by rw [ht]; exact hP, va_K.moved hW.alike hK, hD, by rw [ht]; exact Nat.le_trans hz hS.1⟩, hS.F ht⟩) hS.2.2 d_Z_holdsAny_25
end
section
def C1 (v : Nat → Int32) : Prop := ¬ v 0 = 0 → v 6 = 0
/-- behind a public call: the shape holds, the model's cells stay -/
def So (a : Nat → Nat) (t : Nat → ClassId) (ws u : va_W) : Prop := ∃ (k1 : Nat) (v1 : Nat → Int32), Iv a t k1 v1 u ∧ Fr t ws u ∧ nul u ≤ nul ws ∧ C1 v1
theorem C1.eq {v v' : Nat → Int32} (h : C1 v) (h0 : v' 0 = v 0) (h6 : v' 6 = v 6) : C1 v' := fun q => by rw [h6]; exact h (by rw [← h0]; exact q)
theorem div256 {F : Nat} (h : F ≤ 196608) : nI F / 256 = nI (F / 256) := pk_div (d := 256) (by omega) (by decide) (by decide)
theorem cl0 : (0 : Int32).toNatClampNeg = 0 := by decide
set_option maxHeartbeats 4000000 in
set_option maxRecDepth 100000 in
theorem c_S_pages {l : Launch} {D : va_G} {t : Nat → ClassId} {z : Nat} {sa : Nat → Nat} {ws : va_W} {a : Nat → Nat} {k0 : Nat} {v : Nat → Int32}  (hl0 : l.stackTraces = false) (hI : Iv a t k0 v ws) (hc1 : C1 v)  : Mu l y_S_pages (Cond.code y_S_pages b_S_pages 1 (some .int) :: WS) ({ frames := 7, cells := 2 * nul ws + 1, slots := 257 * nul ws + 6, locals := 102 }) D t z sa ws [.ref (a 0)] (fun r u => (∃ y, r = some (.int y)) ∧ So a t ws u) (fun E u => (E = xISE) ∧ u = ws) (Kc ws) (Ks ws) := by
  refine mu_ofW (cc := b_S_pages) (maxL := 1) (ret := (some .int)) (by decide) rfl ?_
  intro p e s m args below meth c s₁ B hml hno hv
  obtain ⟨rfl, ⟨hP, hK, hD, hz⟩, hM⟩ := hv
  have hx := B.exec
  have hb := B.bytes
  have hr := B.returns
  have hts : ∀ w ∈ WS, w.before [.ref (a 0)].toArray s = true := fun w h => atoms_spec B.pre w (List.mem_cons_of_mem _ h)
  have hown : s.vm.findClass R_S = some m.cls := findClass_of_methodNamed B.named
  have hlocks := B.notSynchronized
  have hA : ∀ q, s.heap.size ≤ q → Az z q := fun q h => Nat.le_trans hz h
  have hS : va_S (Az z) s.heap s.heap [] := va_S.rf
  have hF : Fr t ws ws := Fr.rf
  have hn : nul ws ≤ nul ws := Nat.le_refl _
  have hl := lv_entry ([.ref (a 0)]) (n := 1) (Nat.le_of_ble_eq_true rfl)
  rw [lg_entry_eq]
  generalize (lg_sl ([.ref (a 0)]) ++ List.replicate (1 - (lg_sl ([.ref (a 0)])).length) Slot.unset).toArray = ls at hl ⊢
  have hl : lv_has ls 1 [(0, .ref (a 0))] := hl
  refine W.widen (k := Kc ws ws) (n := Ks ws ws) (Nat.zero_le _) (Nat.zero_le _) ?_
  refine lv_aload_n hx hb d_S_pages_0 rfl (lv_at hl 0 rfl) ?_
  refine mu_V (n := 0) (As := []) (rest := []) ⟨hx, hb, hml, hown, hts⟩ (c_S_requireOn (D := D) (t := t) (z := z) (sa := sa) (ws := ws)  hl0 hI ) ml_S_58 im_S_requireOn se_S_requireOn in_S cd_S_requireOn (by decide +kernel) ⟨Nat.le_of_ble_eq_true rfl, Nat.le_of_ble_eq_true rfl⟩ (va_recv hK hP (ci := 5) rfl hI.x) (Pz_at hP hK hD hz hM hS) rfl hl.1 rfl (Nat.le_of_ble_eq_true rfl) d_S_pages_1 ⟨by show 2 * (nul ws - nul ws) + (2 * nul ws + 1) ≤ 2 * nul ws + 1; omega, by show 257 * (nul ws - nul ws) + (257 * nul ws + 6) ≤ 257 * nul ws + 6; omega⟩ hS (fun E ce q u H locs hxp hP hD hS h1 h2 h3 => by obtain ⟨hE, hu⟩ := hxp; rw [hu] at hP hD; exact mu_out (u := ws) hno hlocks h1 h2 h3 hP hK hD hz hS ⟨(by simp [hE]), rfl⟩ (by rw [hu]; show 2 * (nul ws - nul ws) + (2 * (nul ws - nul ws) + 1) ≤ 2 * (nul ws - nul ws) + 1; omega) (by rw [hu]; show 257 * (nul ws - nul ws) + (257 * (nul ws - nul ws) + 6) ≤ 257 * (nul ws - nul ws) + 6; omega)) (fun r9 u1 H locs hp hP hD hS => ?_)
  obtain ⟨hr9, hw9, h01⟩ := hp
  rw [hw9] at hP hD
  subst hr9
  refine W.widen (k := Kc ws ws) (n := Ks ws ws) (by rw [hw9]; show 2 * (nul ws - nul ws) + 2 * (nul ws - nul ws) ≤ 2 * (nul ws - nul ws); omega) (by rw [hw9]; show 257 * (nul ws - nul ws) + 257 * (nul ws - nul ws) ≤ 257 * (nul ws - nul ws); omega) ?_
  clear hw9
  refine W.eq (g2 := F0 m 4 ls []) rfl ?_
  refine lv_aload_n hx hb d_S_pages_4 rfl (lv_at hl 0 rfl) ?_
  refine va_get (D := D) (ci := 5) (v := .int (v 3)) (C := R_S) (T := F_S) (N := 10) hx hb hts ws_S hown hK hP 0 hI.x rfl 8 (by decide) (hts _ fl_S_51) (fun _ h9 => h9) rfl d_S_pages_5 ?_
  refine mu_end (u := ws) (v := (some (.int (v 3)))) ⟨⟨_, rfl⟩, ⟨_, _, hI, hF, hn, hc1.eq rfl rfl⟩⟩ (Nat.le_refl _) (Nat.le_refl _) ?_
  exact W.iret (v := (v 3)) hx hb hr (fun t9 ht hW => ⟨rfl, ⟨by rw [ht]; exact hP, va_K.moved hW.alike hK, hD, by rw [ht]; exact Nat.le_trans hz hS.1⟩, hS.F ht⟩) hS.2.2 d_S_pages_8
set_option maxHeartbeats 4000000 in
set_option maxRecDepth 100000 in
theorem c_S_begin {l : Launch} {D : va_G} {t : Nat → ClassId} {z : Nat} {sa : Nat → Nat} {ws : va_W} {a : Nat → Nat} {k0 : Nat} {v : Nat → Int32}  (hl0 : l.stackTraces = false) (hI : Iv a t k0 v ws) (hc1 : C1 v)  : Mu l y_S_begin (Cond.code y_S_begin b_S_begin 1 (.none : Option Jvm.ClassFile.FieldType) :: WS) ({ frames := 7, cells := 2 * nul ws + 1, slots := 257 * nul ws + 6, locals := 102 }) D t z sa ws [.ref (a 0)] (fun r u => r = none ∧ So a t ws u) (fun E u => (E = xISE) ∧ u = ws) (Kc ws) (Ks ws) := by
  refine mu_ofW (cc := b_S_begin) (maxL := 1) (ret := (.none : Option Jvm.ClassFile.FieldType)) (by decide) rfl ?_
  intro p e s m args below meth c s₁ B hml hno hv
  obtain ⟨rfl, ⟨hP, hK, hD, hz⟩, hM⟩ := hv
  have hx := B.exec
  have hb := B.bytes
  have hr := B.returns
  have hts : ∀ w ∈ WS, w.before [.ref (a 0)].toArray s = true := fun w h => atoms_spec B.pre w (List.mem_cons_of_mem _ h)
  have hown : s.vm.findClass R_S = some m.cls := findClass_of_methodNamed B.named
  have hlocks := B.notSynchronized
  have hA : ∀ q, s.heap.size ≤ q → Az z q := fun q h => Nat.le_trans hz h
  have hS : va_S (Az z) s.heap s.heap [] := va_S.rf
  have hF : Fr t ws ws := Fr.rf
  have hn : nul ws ≤ nul ws := Nat.le_refl _
  have hl := lv_entry ([.ref (a 0)]) (n := 1) (Nat.le_of_ble_eq_true rfl)
  rw [lg_entry_eq]
  generalize (lg_sl ([.ref (a 0)]) ++ List.replicate (1 - (lg_sl ([.ref (a 0)])).length) Slot.unset).toArray = ls at hl ⊢
  have hl : lv_has ls 1 [(0, .ref (a 0))] := hl
  refine W.widen (k := Kc ws ws) (n := Ks ws ws) (Nat.zero_le _) (Nat.zero_le _) ?_
  refine lv_aload_n hx hb d_S_begin_0 rfl (lv_at hl 0 rfl) ?_
  refine mu_V (n := 0) (As := []) (rest := []) ⟨hx, hb, hml, hown, hts⟩ (c_S_requireOn (D := D) (t := t) (z := z) (sa := sa) (ws := ws)  hl0 hI ) ml_S_58 im_S_requireOn se_S_requireOn in_S cd_S_requireOn (by decide +kernel) ⟨Nat.le_of_ble_eq_true rfl, Nat.le_of_ble_eq_true rfl⟩ (va_recv hK hP (ci := 5) rfl hI.x) (Pz_at hP hK hD hz hM hS) rfl hl.1 rfl (Nat.le_of_ble_eq_true rfl) d_S_begin_1 ⟨by show 2 * (nul ws - nul ws) + (2 * nul ws + 1) ≤ 2 * nul ws + 1; omega, by show 257 * (nul ws - nul ws) + (257 * nul ws + 6) ≤ 257 * nul ws + 6; omega⟩ hS (fun E ce q u H locs hxp hP hD hS h1 h2 h3 => by obtain ⟨hE, hu⟩ := hxp; rw [hu] at hP hD; exact mu_out (u := ws) hno hlocks h1 h2 h3 hP hK hD hz hS ⟨(by simp [hE]), rfl⟩ (by rw [hu]; show 2 * (nul ws - nul ws) + (2 * (nul ws - nul ws) + 1) ≤ 2 * (nul ws - nul ws) + 1; omega) (by rw [hu]; show 257 * (nul ws - nul ws) + (257 * (nul ws - nul ws) + 6) ≤ 257 * (nul ws - nul ws) + 6; omega)) (fun r9 u1 H locs hp hP hD hS => ?_)
  obtain ⟨hr9, hw9, h01⟩ := hp
  rw [hw9] at hP hD
  subst hr9
  refine W.widen (k := Kc ws ws) (n := Ks ws ws) (by rw [hw9]; show 2 * (nul ws - nul ws) + 2 * (nul ws - nul ws) ≤ 2 * (nul ws - nul ws); omega) (by rw [hw9]; show 257 * (nul ws - nul ws) + 257 * (nul ws - nul ws) ≤ 257 * (nul ws - nul ws); omega) ?_
  clear hw9
  refine W.eq (g2 := F0 m 4 ls []) rfl ?_
  refine lv_aload_n hx hb d_S_begin_4 rfl (lv_at hl 0 rfl) ?_
  refine va_get (D := D) (ci := 5) (v := .int (v 1)) (C := R_S) (T := F_S) (N := 10) hx hb hts ws_S hown hK hP 0 hI.x rfl 6 (by decide) (hts _ fl_S_44) (fun _ h9 => h9) rfl d_S_begin_5 ?_
  refine lv_if_eq (tgt := 21) hx hb d_S_begin_8 rfl (fun q2 => ?_) (fun q2 => ?_)
  · skip
    refine lv_aload_n hx hb d_S_begin_21 rfl (lv_at hl 0 rfl) ?_
    refine lv_iconst (v := 1) hx hb d_S_begin_22 (by decide) ?_
    refine va_put (D := D) (ci := 5) (v := .int 1) (ty := .boolean) (C := R_S) (T := F_S) (N := 10) hx hb hts ws_S t_S ok_S n_S hown hK hP hD hS 0 hI.x rfl 6 (by decide) (hts _ fl_S_44) (fun _ h9 => h9) rfl (by decide +kernel) rfl rfl (Nat.le_of_ble_eq_true rfl) d_S_begin_23 (fun H locs hP hD hS => ?_)
    obtain ⟨v3, hv3⟩ : ∃ q : Nat → Int32, q = upd v 1 1 := ⟨_, rfl⟩
    have gv3 : v3 1 = 1 := by rw [hv3]; exact pk_us
    have nv3 : ∀ i, i ≠ 1 → v3 i = v i := fun i hi => by rw [hv3]; exact pk_un hi
    have hP : va_P D Cl (ws.set 0 (cX a v3)) H := by rw [hv3]; exact hP
    have hD : va_D (Az z) (ws.set 0 (cX a v3)) := by rw [hv3]; exact hD
    obtain ⟨w4, hw⟩ : ∃ q, q = ws.set 0 (cX a v3) := ⟨_, rfl⟩
    have hP : va_P D Cl (ws.set 0 (cX a v3)) H := hP
    have hD : va_D (Az z) (ws.set 0 (cX a v3)) := hD
    have hF : Fr t ws (ws.set 0 (cX a v3)) := hF.set (by decide) (by decide)
    have hI := hI.setX (v' := v3) (fun i hi => nv3 i (by omega)) (by rw [nv3 2 (by decide)]; exact hI.bd.1) (by rw [nv3 3 (by decide)]; exact hI.bd.2.1)
    have hq9 : nul (ws.set 0 (cX a v3)) = nul ws := nul_set (by decide)
    rw [← hw] at hP hD hF hI hq9
    clear hw
    have hn : nul w4 ≤ nul ws := by omega
    refine W.widen (k := Kc ws w4) (n := Ks ws w4) (by show 2 * (nul ws - nul ws) ≤ 2 * (nul ws - nul w4); omega) (by show 257 * (nul ws - nul ws) ≤ 257 * (nul ws - nul w4); omega) ?_
    refine mu_end (u := w4) (v := (none)) ⟨rfl, ⟨_, _, hI, hF, hn, hc1.eq (by rw [nv3 0 (by omega)]) (by rw [nv3 6 (by omega)])⟩⟩ (Nat.le_refl _) (Nat.le_refl _) ?_
    exact W.vret hx hb hr (fun t9 ht hW => ⟨rfl, ⟨by rw [ht]; exact hP, va_K.moved hW.alike hK, hD, by rw [ht]; exact Nat.le_trans hz hS.1⟩, hS.F ht⟩) hS.2.2 d_S_begin_26
  · skip
    exact mu_th (u := ws) hx hb hl0 hown hts hlocks hno hP hK hD hz hM hS (hl.1.trans hml.symm) (site_64_107_68) d_S_begin_11 d_S_begin_14 d_S_begin_15 d_S_begin_17 d_S_begin_20 (Nat.le_of_ble_eq_true rfl) (Nat.le_of_ble_eq_true rfl) (by show 2 * (nul ws - nul ws) + 1 ≤ 2 * nul ws + 1; omega) (by show 257 * (nul ws - nul ws) + 6 ≤ 257 * nul ws + 6; omega) (Nat.le_refl _) (Nat.le_refl _) ⟨by decide, rfl⟩
set_option maxHeartbeats 4000000 in
set_option maxRecDepth 100000 in
theorem c_S_power {l : Launch} {D : va_G} {t : Nat → ClassId} {z : Nat} {sa : Nat → Nat} {ws : va_W} {a : Nat → Nat} {k0 : Nat} {v : Nat → Int32} {x9 y9 w9 : Int32} (hl0 : l.stackTraces = false) (hI : Iv a t k0 v ws) (hc1 : C1 v) : Mu l y_S_power (Cond.code y_S_power b_S_power 4 (.none : Option Jvm.ClassFile.FieldType) :: WS) ({ frames := 6, cells := 2 * nul ws + 1, slots := 257 * nul ws + 6, locals := 82 }) D t z sa ws [.ref (a 0), .int x9, .int y9, .int w9] (fun r u => (r = none ∧ So a t ws u) ∧ (¬ x9 < 0 ∧ x9 ≤ 4 ∧ ¬ y9 < 0 ∧ y9 ≤ 1000 ∧ ¬ w9 < 0 ∧ w9 ≤ 300)) (fun E u => (E = xIAE ∧ u = ws) ∧ ¬ (¬ x9 < 0 ∧ x9 ≤ 4 ∧ ¬ y9 < 0 ∧ y9 ≤ 1000 ∧ ¬ w9 < 0 ∧ w9 ≤ 300)) (Kc ws) (Ks ws) := by
  refine mu_ofW (cc := b_S_power) (maxL := 4) (ret := (.none : Option Jvm.ClassFile.FieldType)) (by decide) rfl ?_
  intro p e s m args below meth c s₁ B hml hno hv
  obtain ⟨rfl, ⟨hP, hK, hD, hz⟩, hM⟩ := hv
  have hx := B.exec
  have hb := B.bytes
  have hr := B.returns
  have hts : ∀ w ∈ WS, w.before [.ref (a 0), .int x9, .int y9, .int w9].toArray s = true := fun w h => atoms_spec B.pre w (List.mem_cons_of_mem _ h)
  have hown : s.vm.findClass R_S = some m.cls := findClass_of_methodNamed B.named
  have hlocks := B.notSynchronized
  have hA : ∀ q, s.heap.size ≤ q → Az z q := fun q h => Nat.le_trans hz h
  have hS : va_S (Az z) s.heap s.heap [] := va_S.rf
  have hF : Fr t ws ws := Fr.rf
  have hn : nul ws ≤ nul ws := Nat.le_refl _
  have hl := lv_entry ([.ref (a 0), .int x9, .int y9, .int w9]) (n := 4) (Nat.le_of_ble_eq_true rfl)
  rw [lg_entry_eq]
  generalize (lg_sl ([.ref (a 0), .int x9, .int y9, .int w9]) ++ List.replicate (4 - (lg_sl ([.ref (a 0), .int x9, .int y9, .int w9])).length) Slot.unset).toArray = ls at hl ⊢
  have hl : lv_has ls 4 [(0, .ref (a 0)), (1, .int x9), (2, .int y9), (3, .int w9)] := hl
  refine W.widen (k := Kc ws ws) (n := Ks ws ws) (Nat.zero_le _) (Nat.zero_le _) ?_
  refine lv_iload_n hx hb d_S_power_0 rfl (lv_at hl 1 rfl) ?_
  refine lv_if_lt (tgt := 9) hx hb d_S_power_1 rfl (fun q1 => ?_) (fun q1 => ?_)
  · skip
    exact mu_th (u := ws) hx hb hl0 hown hts hlocks hno hP hK hD hz hM hS (hl.1.trans hml.symm) (site_147_149_151) d_S_power_9 d_S_power_12 d_S_power_13 d_S_power_15 d_S_power_18 (Nat.le_of_ble_eq_true rfl) (Nat.le_of_ble_eq_true rfl) (by show 2 * (nul ws - nul ws) + 1 ≤ 2 * nul ws + 1; omega) (by show 257 * (nul ws - nul ws) + 6 ≤ 257 * nul ws + 6; omega) (Nat.le_refl _) (Nat.le_refl _) ⟨⟨rfl, rfl⟩, fun ⟨h1, h2, h3, h4, h5, h6⟩ => by first | exact h1 (by assumption) | exact (by assumption : ¬ x9 ≤ 4) h2 | exact h3 (by assumption) | exact (by assumption : ¬ y9 ≤ 1000) h4 | exact h5 (by assumption) | exact (by assumption : ¬ w9 ≤ 300) h6⟩
  · skip
    refine lv_iload_n hx hb d_S_power_4 rfl (lv_at hl 1 rfl) ?_
    refine lv_iconst (v := 4) hx hb d_S_power_5 (by decide) ?_
    refine lv_icmp_le (tgt := 19) hx hb d_S_power_6 rfl (fun q2 => ?_) (fun q2 => ?_)
    · skip
      refine lv_iload_n hx hb d_S_power_19 rfl (lv_at hl 2 rfl) ?_
      refine lv_if_lt (tgt := 30) hx hb d_S_power_20 rfl (fun q3 => ?_) (fun q3 => ?_)
      · skip
        exact mu_th (u := ws) hx hb hl0 hown hts hlocks hno hP hK hD hz hM hS (hl.1.trans hml.symm) (site_147_152_151) d_S_power_30 d_S_power_33 d_S_power_34 d_S_power_36 d_S_power_39 (Nat.le_of_ble_eq_true rfl) (Nat.le_of_ble_eq_true rfl) (by show 2 * (nul ws - nul ws) + 1 ≤ 2 * nul ws + 1; omega) (by show 257 * (nul ws - nul ws) + 6 ≤ 257 * nul ws + 6; omega) (Nat.le_refl _) (Nat.le_refl _) ⟨⟨rfl, rfl⟩, fun ⟨h1, h2, h3, h4, h5, h6⟩ => by first | exact h1 (by assumption) | exact (by assumption : ¬ x9 ≤ 4) h2 | exact h3 (by assumption) | exact (by assumption : ¬ y9 ≤ 1000) h4 | exact h5 (by assumption) | exact (by assumption : ¬ w9 ≤ 300) h6⟩
      · skip
        refine lv_iload_n hx hb d_S_power_23 rfl (lv_at hl 2 rfl) ?_
        refine lv_sipush (v := 1000) hx hb d_S_power_24 (by decide) ?_
        refine lv_icmp_le (tgt := 40) hx hb d_S_power_27 rfl (fun q4 => ?_) (fun q4 => ?_)
        · skip
          refine lv_iload_n hx hb d_S_power_40 rfl (lv_at hl 3 rfl) ?_
          refine lv_if_lt (tgt := 51) hx hb d_S_power_41 rfl (fun q5 => ?_) (fun q5 => ?_)
          · skip
            exact mu_th (u := ws) hx hb hl0 hown hts hlocks hno hP hK hD hz hM hS (hl.1.trans hml.symm) (site_147_154_151) d_S_power_51 d_S_power_54 d_S_power_55 d_S_power_57 d_S_power_60 (Nat.le_of_ble_eq_true rfl) (Nat.le_of_ble_eq_true rfl) (by show 2 * (nul ws - nul ws) + 1 ≤ 2 * nul ws + 1; omega) (by show 257 * (nul ws - nul ws) + 6 ≤ 257 * nul ws + 6; omega) (Nat.le_refl _) (Nat.le_refl _) ⟨⟨rfl, rfl⟩, fun ⟨h1, h2, h3, h4, h5, h6⟩ => by first | exact h1 (by assumption) | exact (by assumption : ¬ x9 ≤ 4) h2 | exact h3 (by assumption) | exact (by assumption : ¬ y9 ≤ 1000) h4 | exact h5 (by assumption) | exact (by assumption : ¬ w9 ≤ 300) h6⟩
          · skip
            refine lv_iload_n hx hb d_S_power_44 rfl (lv_at hl 3 rfl) ?_
            refine lv_sipush (v := 300) hx hb d_S_power_45 (by decide) ?_
            refine lv_icmp_le (tgt := 61) hx hb d_S_power_48 rfl (fun q6 => ?_) (fun q6 => ?_)
            · skip
              refine lv_aload_n hx hb d_S_power_61 rfl (lv_at hl 0 rfl) ?_
              refine va_get (D := D) (ci := 5) (v := .ref (a 8)) (C := R_S) (T := F_S) (N := 10) hx hb hts ws_S hown hK hP 0 hI.x rfl 3 (by decide) (hts _ fl_S_32) (fun _ h9 => h9) rfl d_S_power_62 ?_
              refine lv_iload_n hx hb d_S_power_65 rfl (lv_at hl 1 rfl) ?_
              refine lv_iload_n hx hb d_S_power_66 rfl (lv_at hl 2 rfl) ?_
              refine lv_iload_n hx hb d_S_power_67 rfl (lv_at hl 3 rfl) ?_
              refine mu_V (n := 3) (As := [.int x9, .int y9, .int w9]) (rest := []) ⟨hx, hb, hml, hown, hts⟩ (c_U_set (D := D) (t := t) (z := z) (sa := sa) (ws := ws) (x9 := x9) (y9 := y9) (w9 := w9) hI (by obtain ⟨B, h1, h2⟩ := nI_of2 (M := 300) (n := 300) (x := w9) (by decide) (by assumption) (by assumption); exact ⟨B, h1, h2⟩)) ml_S_156 im_U_set se_U_set in_U cd_U_set (by decide +kernel) ⟨Nat.le_of_ble_eq_true rfl, Nat.le_of_ble_eq_true rfl⟩ (va_recv hK hP (ci := 2) rfl hI.u8) (Pz_at hP hK hD hz hM hS) rfl hl.1 rfl (Nat.le_of_ble_eq_true rfl) d_S_power_68 ⟨by show 2 * (nul ws - nul ws) + (2 * nul ws + 1) ≤ 2 * nul ws + 1; omega, by show 257 * (nul ws - nul ws) + (257 * nul ws + 6) ≤ 257 * nul ws + 6; omega⟩ hS (fun _ _ _ _ _ _ h => h.elim) (fun r9 u7 H locs hp hP hD hS => ?_)
              obtain ⟨v8, hI, hF9, hn9, hr9, nv8, -, -, -, -⟩ := hp
              subst hr9
              have hF := hF.trans hF9
              have hn : nul u7 ≤ nul ws := by omega
              refine W.widen (k := Kc ws u7) (n := Ks ws u7) (by show 2 * (nul ws - nul ws) + 2 * (nul ws - nul u7) ≤ 2 * (nul ws - nul u7); omega) (by show 257 * (nul ws - nul ws) + 257 * (nul ws - nul u7) ≤ 257 * (nul ws - nul u7); omega) ?_
              refine W.eq (g2 := F0 m 71 ls []) rfl ?_
              refine mu_end (u := u7) (v := (none)) ⟨⟨rfl, ⟨_, _, hI, hF, hn, hc1.eq (by rw [nv8 0 (by omega)]) (by rw [nv8 6 (by omega)])⟩⟩, by assumption, by assumption, by assumption, by assumption, by assumption, by assumption⟩ (Nat.le_refl _) (Nat.le_refl _) ?_
              exact W.vret hx hb hr (fun t9 ht hW => ⟨rfl, ⟨by rw [ht]; exact hP, va_K.moved hW.alike hK, hD, by rw [ht]; exact Nat.le_trans hz hS.1⟩, hS.F ht⟩) hS.2.2 d_S_power_71
            · skip
              exact mu_th (u := ws) hx hb hl0 hown hts hlocks hno hP hK hD hz hM hS (hl.1.trans hml.symm) (site_147_154_151) d_S_power_51 d_S_power_54 d_S_power_55 d_S_power_57 d_S_power_60 (Nat.le_of_ble_eq_true rfl) (Nat.le_of_ble_eq_true rfl) (by show 2 * (nul ws - nul ws) + 1 ≤ 2 * nul ws + 1; omega) (by show 257 * (nul ws - nul ws) + 6 ≤ 257 * nul ws + 6; omega) (Nat.le_refl _) (Nat.le_refl _) ⟨⟨rfl, rfl⟩, fun ⟨h1, h2, h3, h4, h5, h6⟩ => by first | exact h1 (by assumption) | exact (by assumption : ¬ x9 ≤ 4) h2 | exact h3 (by assumption) | exact (by assumption : ¬ y9 ≤ 1000) h4 | exact h5 (by assumption) | exact (by assumption : ¬ w9 ≤ 300) h6⟩
        · skip
          exact mu_th (u := ws) hx hb hl0 hown hts hlocks hno hP hK hD hz hM hS (hl.1.trans hml.symm) (site_147_152_151) d_S_power_30 d_S_power_33 d_S_power_34 d_S_power_36 d_S_power_39 (Nat.le_of_ble_eq_true rfl) (Nat.le_of_ble_eq_true rfl) (by show 2 * (nul ws - nul ws) + 1 ≤ 2 * nul ws + 1; omega) (by show 257 * (nul ws - nul ws) + 6 ≤ 257 * nul ws + 6; omega) (Nat.le_refl _) (Nat.le_refl _) ⟨⟨rfl, rfl⟩, fun ⟨h1, h2, h3, h4, h5, h6⟩ => by first | exact h1 (by assumption) | exact (by assumption : ¬ x9 ≤ 4) h2 | exact h3 (by assumption) | exact (by assumption : ¬ y9 ≤ 1000) h4 | exact h5 (by assumption) | exact (by assumption : ¬ w9 ≤ 300) h6⟩
    · skip
      exact mu_th (u := ws) hx hb hl0 hown hts hlocks hno hP hK hD hz hM hS (hl.1.trans hml.symm) (site_147_149_151) d_S_power_9 d_S_power_12 d_S_power_13 d_S_power_15 d_S_power_18 (Nat.le_of_ble_eq_true rfl) (Nat.le_of_ble_eq_true rfl) (by show 2 * (nul ws - nul ws) + 1 ≤ 2 * nul ws + 1; omega) (by show 257 * (nul ws - nul ws) + 6 ≤ 257 * nul ws + 6; omega) (Nat.le_refl _) (Nat.le_refl _) ⟨⟨rfl, rfl⟩, fun ⟨h1, h2, h3, h4, h5, h6⟩ => by first | exact h1 (by assumption) | exact (by assumption : ¬ x9 ≤ 4) h2 | exact h3 (by assumption) | exact (by assumption : ¬ y9 ≤ 1000) h4 | exact h5 (by assumption) | exact (by assumption : ¬ w9 ≤ 300) h6⟩
end
section
theorem told_split (a : Int32) : a = 0 ∨ a = 1 ∨ a = 2 ∨ a = 3 ∨ (a.toInt < 0 ∨ 3 < a.toInt) := by
  by_cases h1 : a.toInt < 0
  · exact Or.inr (Or.inr (Or.inr (Or.inr (Or.inl h1))))
  · by_cases h2 : 3 < a.toInt
    · exact Or.inr (Or.inr (Or.inr (Or.inr (Or.inr h2))))
    · have h : a.toInt = 0 ∨ a.toInt = 1 ∨ a.toInt = 2 ∨ a.toInt = 3 := by omega
      rcases h with h | h | h | h
      · exact Or.inl (Int32.toInt_inj.mp h)
      · exact Or.inr (Or.inl (Int32.toInt_inj.mp h))
      · exact Or.inr (Or.inr (Or.inl (Int32.toInt_inj.mp h)))
      · exact Or.inr (Or.inr (Or.inr (Or.inl (Int32.toInt_inj.mp h))))
set_option maxHeartbeats 4000000 in
set_option maxRecDepth 100000 in
theorem c_S_told {l : Launch} {D : va_G} {t : Nat → ClassId} {z : Nat} {sa : Nat → Nat} {ws : va_W} {a : Nat → Nat} {k0 : Nat} {v : Nat → Int32} {x9 : Int32} (hl0 : l.stackTraces = false) (hI : Iv a t k0 v ws) (hc1 : C1 v) : Mu l y_S_told (Cond.code y_S_told b_S_told 2 (some .int) :: WS) ({ frames := 6, cells := 2 * nul ws + 1, slots := 257 * nul ws + 6, locals := 82 }) D t z sa ws [.ref (a 0), .int x9] (fun r u => (∃ y, r = some (.int y)) ∧ So a t ws u) (fun E u => E = xIAE ∧ u = ws) (Kc ws) (Ks ws) := by
  refine mu_ofW (cc := b_S_told) (maxL := 2) (ret := (some .int)) (by decide) rfl ?_
  intro p e s m args below meth c s₁ B hml hno hv
  obtain ⟨rfl, ⟨hP, hK, hD, hz⟩, hM⟩ := hv
  have hx := B.exec
  have hb := B.bytes
  have hr := B.returns
  have hts : ∀ w ∈ WS, w.before [.ref (a 0), .int x9].toArray s = true := fun w h => atoms_spec B.pre w (List.mem_cons_of_mem _ h)
  have hown : s.vm.findClass R_S = some m.cls := findClass_of_methodNamed B.named
  have hlocks := B.notSynchronized
  have hA : ∀ q, s.heap.size ≤ q → Az z q := fun q h => Nat.le_trans hz h
  have hS : va_S (Az z) s.heap s.heap [] := va_S.rf
  have hF : Fr t ws ws := Fr.rf
  have hn : nul ws ≤ nul ws := Nat.le_refl _
  have hl := lv_entry ([.ref (a 0), .int x9]) (n := 2) (Nat.le_of_ble_eq_true rfl)
  rw [lg_entry_eq]
  generalize (lg_sl ([.ref (a 0), .int x9]) ++ List.replicate (2 - (lg_sl ([.ref (a 0), .int x9])).length) Slot.unset).toArray = ls at hl ⊢
  have hl : lv_has ls 2 [(0, .ref (a 0)), (1, .int x9)] := hl
  refine W.widen (k := Kc ws ws) (n := Ks ws ws) (Nat.zero_le _) (Nat.zero_le _) ?_
  refine lv_iload_n hx hb d_S_told_0 rfl (lv_at hl 1 rfl) ?_
  have ht9 := told_split x9
  rcases ht9 with g | g | g | g | g
  · subst g
    refine lv_tableIn (off := 31) (tgt := 32) hx hb d_S_told_1 (by decide) (by decide) (by decide) rfl ?_
    refine lv_aload_n hx hb d_S_told_32 rfl (lv_at hl 0 rfl) ?_
    refine va_get (D := D) (ci := 5) (v := .int (v 0)) (C := R_S) (T := F_S) (N := 10) hx hb hts ws_S hown hK hP 0 hI.x rfl 5 (by decide) (hts _ fl_S_40) (fun _ h9 => h9) rfl d_S_told_33 ?_
    refine lv_if_eq (tgt := 43) hx hb d_S_told_36 rfl (fun q1 => ?_) (fun q1 => ?_)
    · skip
      refine lv_iconst (v := 0) hx hb d_S_told_43 (by decide) ?_
      refine mu_end (u := ws) (v := (some (.int 0))) ⟨⟨_, rfl⟩, ⟨_, _, hI, hF, hn, hc1.eq rfl rfl⟩⟩ (Nat.le_refl _) (Nat.le_refl _) ?_
      exact W.iret (v := 0) hx hb hr (fun t9 ht hW => ⟨rfl, ⟨by rw [ht]; exact hP, va_K.moved hW.alike hK, hD, by rw [ht]; exact Nat.le_trans hz hS.1⟩, hS.F ht⟩) hS.2.2 d_S_told_44
    · skip
      refine lv_iconst (v := 1) hx hb d_S_told_39 (by decide) ?_
      refine lv_goto (tgt := 44) hx hb d_S_told_40 rfl ?_
      refine mu_end (u := ws) (v := (some (.int 1))) ⟨⟨_, rfl⟩, ⟨_, _, hI, hF, hn, hc1.eq rfl rfl⟩⟩ (Nat.le_refl _) (Nat.le_refl _) ?_
      exact W.iret (v := 1) hx hb hr (fun t9 ht hW => ⟨rfl, ⟨by rw [ht]; exact hP, va_K.moved hW.alike hK, hD, by rw [ht]; exact Nat.le_trans hz hS.1⟩, hS.F ht⟩) hS.2.2 d_S_told_44
  · subst g
    refine lv_tableIn (off := 44) (tgt := 45) hx hb d_S_told_1 (by decide) (by decide) (by decide) rfl ?_
    refine lv_aload_n hx hb d_S_told_45 rfl (lv_at hl 0 rfl) ?_
    refine va_get (D := D) (ci := 5) (v := .int (v 1)) (C := R_S) (T := F_S) (N := 10) hx hb hts ws_S hown hK hP 0 hI.x rfl 6 (by decide) (hts _ fl_S_44) (fun _ h9 => h9) rfl d_S_told_46 ?_
    refine lv_if_eq (tgt := 56) hx hb d_S_told_49 rfl (fun q2 => ?_) (fun q2 => ?_)
    · skip
      refine lv_iconst (v := 0) hx hb d_S_told_56 (by decide) ?_
      refine mu_end (u := ws) (v := (some (.int 0))) ⟨⟨_, rfl⟩, ⟨_, _, hI, hF, hn, hc1.eq rfl rfl⟩⟩ (Nat.le_refl _) (Nat.le_refl _) ?_
      exact W.iret (v := 0) hx hb hr (fun t9 ht hW => ⟨rfl, ⟨by rw [ht]; exact hP, va_K.moved hW.alike hK, hD, by rw [ht]; exact Nat.le_trans hz hS.1⟩, hS.F ht⟩) hS.2.2 d_S_told_57
    · skip
      refine lv_iconst (v := 1) hx hb d_S_told_52 (by decide) ?_
      refine lv_goto (tgt := 57) hx hb d_S_told_53 rfl ?_
      refine mu_end (u := ws) (v := (some (.int 1))) ⟨⟨_, rfl⟩, ⟨_, _, hI, hF, hn, hc1.eq rfl rfl⟩⟩ (Nat.le_refl _) (Nat.le_refl _) ?_
      exact W.iret (v := 1) hx hb hr (fun t9 ht hW => ⟨rfl, ⟨by rw [ht]; exact hP, va_K.moved hW.alike hK, hD, by rw [ht]; exact Nat.le_trans hz hS.1⟩, hS.F ht⟩) hS.2.2 d_S_told_57
  · subst g
    refine lv_tableIn (off := 57) (tgt := 58) hx hb d_S_told_1 (by decide) (by decide) (by decide) rfl ?_
    refine lv_aload_n hx hb d_S_told_58 rfl (lv_at hl 0 rfl) ?_
    refine va_get (D := D) (ci := 5) (v := .int (v 2)) (C := R_S) (T := F_S) (N := 10) hx hb hts ws_S hown hK hP 0 hI.x rfl 7 (by decide) (hts _ fl_S_47) (fun _ h9 => h9) rfl d_S_told_59 ?_
    refine mu_end (u := ws) (v := (some (.int (v 2)))) ⟨⟨_, rfl⟩, ⟨_, _, hI, hF, hn, hc1.eq rfl rfl⟩⟩ (Nat.le_refl _) (Nat.le_refl _) ?_
    exact W.iret (v := (v 2)) hx hb hr (fun t9 ht hW => ⟨rfl, ⟨by rw [ht]; exact hP, va_K.moved hW.alike hK, hD, by rw [ht]; exact Nat.le_trans hz hS.1⟩, hS.F ht⟩) hS.2.2 d_S_told_62
  · subst g
    refine lv_tableIn (off := 62) (tgt := 63) hx hb d_S_told_1 (by decide) (by decide) (by decide) rfl ?_
    refine lv_aload_n hx hb d_S_told_63 rfl (lv_at hl 0 rfl) ?_
    refine va_get (D := D) (ci := 5) (v := .int (v 4)) (C := R_S) (T := F_S) (N := 10) hx hb hts ws_S hown hK hP 0 hI.x rfl 9 (by decide) (hts _ fl_S_54) (fun _ h9 => h9) rfl d_S_told_64 ?_
    refine mu_end (u := ws) (v := (some (.int (v 4)))) ⟨⟨_, rfl⟩, ⟨_, _, hI, hF, hn, hc1.eq rfl rfl⟩⟩ (Nat.le_refl _) (Nat.le_refl _) ?_
    exact W.iret (v := (v 4)) hx hb hr (fun t9 ht hW => ⟨rfl, ⟨by rw [ht]; exact hP, va_K.moved hW.alike hK, hD, by rw [ht]; exact Nat.le_trans hz hS.1⟩, hS.F ht⟩) hS.2.2 d_S_told_67
  · skip
    refine lv_tableOut (tgt := 68) hx hb d_S_told_1 g rfl ?_
    exact mu_th (u := ws) hx hb hl0 hown hts hlocks hno hP hK hD hz hM hS (hl.1.trans hml.symm) (site_147_166_151) d_S_told_68 d_S_told_71 d_S_told_72 d_S_told_74 d_S_told_77 (Nat.le_of_ble_eq_true rfl) (Nat.le_of_ble_eq_true rfl) (by show 2 * (nul ws - nul ws) + 1 ≤ 2 * nul ws + 1; omega) (by show 257 * (nul ws - nul ws) + 6 ≤ 257 * nul ws + 6; omega) (Nat.le_refl _) (Nat.le_refl _) ⟨rfl, rfl⟩
set_option maxHeartbeats 4000000 in
set_option maxRecDepth 100000 in
theorem c_S_pagesInFile {l : Launch} {D : va_G} {t : Nat → ClassId} {z : Nat} {sa : Nat → Nat} {ws : va_W} {a : Nat → Nat} {k0 : Nat} {v : Nat → Int32}  (hI : Iv a t k0 v ws)  : Mu l y_S_pagesInFile (Cond.code y_S_pagesInFile b_S_pagesInFile 1 (some .int) :: WS) ({ frames := 1, cells := 2 * nul ws + 1, slots := 257 * nul ws + 6, locals := 20 }) D t z sa ws [.ref (a 0)] (fun r u => ∃ y, r = some (.int y) ∧ u = ws ∧ ∃ C : Nat, C ≤ 768 ∧ y = nI C) Xno (Kc ws) (Ks ws) := by
  refine mu_ofW (cc := b_S_pagesInFile) (maxL := 1) (ret := (some .int)) (by decide) rfl ?_
  intro p e s m args below meth c s₁ B hml hno hv
  obtain ⟨rfl, ⟨hP, hK, hD, hz⟩, hM⟩ := hv
  have hx := B.exec
  have hb := B.bytes
  have hr := B.returns
  have hts : ∀ w ∈ WS, w.before [.ref (a 0)].toArray s = true := fun w h => atoms_spec B.pre w (List.mem_cons_of_mem _ h)
  have hown : s.vm.findClass R_S = some m.cls := findClass_of_methodNamed B.named
  have hlocks := B.notSynchronized
  have hA : ∀ q, s.heap.size ≤ q → Az z q := fun q h => Nat.le_trans hz h
  have hS : va_S (Az z) s.heap s.heap [] := va_S.rf
  have hF : Fr t ws ws := Fr.rf
  have hn : nul ws ≤ nul ws := Nat.le_refl _
  have hl := lv_entry ([.ref (a 0)]) (n := 1) (Nat.le_of_ble_eq_true rfl)
  rw [lg_entry_eq]
  generalize (lg_sl ([.ref (a 0)]) ++ List.replicate (1 - (lg_sl ([.ref (a 0)])).length) Slot.unset).toArray = ls at hl ⊢
  have hl : lv_has ls 1 [(0, .ref (a 0))] := hl
  refine W.widen (k := Kc ws ws) (n := Ks ws ws) (Nat.zero_le _) (Nat.zero_le _) ?_
  refine lv_aload_n hx hb d_S_pagesInFile_0 rfl (lv_at hl 0 rfl) ?_
  refine va_get (D := D) (ci := 5) (v := .ref (a 1)) (C := R_S) (T := F_S) (N := 10) hx hb hts ws_S hown hK hP 0 hI.x rfl 0 (by decide) (hts _ fl_S_15) (fun _ h9 => h9) rfl d_S_pagesInFile_1 ?_
  refine mu_V (n := 0) (As := []) (rest := []) ⟨hx, hb, hml, hown, hts⟩ (c_Y_length_f (D := D) (t := t) (z := z) (sa := sa) (ws := ws)  hI ) ml_S_206 im_Y_length se_Y_length in_Y cd_Y_length (by decide +kernel) ⟨Nat.le_of_ble_eq_true rfl, Nat.le_of_ble_eq_true rfl⟩ (va_recv hK hP (ci := 3) rfl hI.y1) (Pz_at hP hK hD hz hM hS) rfl hl.1 rfl (Nat.le_of_ble_eq_true rfl) d_S_pagesInFile_4 ⟨by show 2 * (nul ws - nul ws) + (2 * nul ws + 1) ≤ 2 * nul ws + 1; omega, by show 257 * (nul ws - nul ws) + (257 * nul ws + 6) ≤ 257 * nul ws + 6; omega⟩ hS (fun _ _ _ _ _ _ h => h.elim) (fun r9 u1 H locs hp hP hD hS => ?_)
  obtain ⟨hr9, hw9⟩ := hp
  rw [hw9] at hP hD
  subst hr9
  refine W.widen (k := Kc ws ws) (n := Ks ws ws) (by rw [hw9]; show 2 * (nul ws - nul ws) + 2 * (nul ws - nul ws) ≤ 2 * (nul ws - nul ws); omega) (by rw [hw9]; show 257 * (nul ws - nul ws) + 257 * (nul ws - nul ws) ≤ 257 * (nul ws - nul ws); omega) ?_
  clear hw9
  refine W.eq (g2 := F0 m 7 ls [.int (v 5)]) rfl ?_
  refine lv_sipush (v := 256) hx hb d_S_pagesInFile_7 (by decide) ?_
  refine lv_idiv hx hb d_S_pagesInFile_10 (by decide) ?_
  obtain ⟨F9, hF1, hF2⟩ := hI.bd.2.2.1
  refine lv_topi (fun y9 hy9 => ?_)
  have hy9 : y9 = nI (F9 / 256) := by rw [hy9, hF2]; exact div256 hF1
  refine mu_end (u := ws) (v := (some (.int y9))) ⟨_, rfl, rfl, F9 / 256, by omega, hy9⟩ (Nat.le_refl _) (Nat.le_refl _) ?_
  exact W.iret (v := y9) hx hb hr (fun t9 ht hW => ⟨rfl, ⟨by rw [ht]; exact hP, va_K.moved hW.alike hK, hD, by rw [ht]; exact Nat.le_trans hz hS.1⟩, hS.F ht⟩) hS.2.2 d_S_pagesInFile_11
set_option maxHeartbeats 4000000 in
set_option maxRecDepth 100000 in
theorem c_S_endTransaction {l : Launch} {D : va_G} {t : Nat → ClassId} {z : Nat} {sa : Nat → Nat} {ws : va_W} {a : Nat → Nat} {k0 : Nat} {v : Nat → Int32}  (hI : Iv a t k0 v ws)  : Mu l y_S_endTransaction (Cond.code y_S_endTransaction b_S_endTransaction 1 (.none : Option Jvm.ClassFile.FieldType) :: WS) ({ frames := 2, cells := 2 * nul ws + 1, slots := 257 * nul ws + 6, locals := 40 }) D t z sa ws [.ref (a 0)] (fun r u => ∃ v1, Iv a t k0 v1 u ∧ Fr t ws u ∧ nul u ≤ nul ws ∧ r = none ∧ (∀ i, i = 0 ∨ i = 4 ∨ (5 ≤ i ∧ i < 11) → v1 i = v i)) Xno (Kc ws) (Ks ws) := by
  refine mu_ofW (cc := b_S_endTransaction) (maxL := 1) (ret := (.none : Option Jvm.ClassFile.FieldType)) (by decide) rfl ?_
  intro p e s m args below meth c s₁ B hml hno hv
  obtain ⟨rfl, ⟨hP, hK, hD, hz⟩, hM⟩ := hv
  have hx := B.exec
  have hb := B.bytes
  have hr := B.returns
  have hts : ∀ w ∈ WS, w.before [.ref (a 0)].toArray s = true := fun w h => atoms_spec B.pre w (List.mem_cons_of_mem _ h)
  have hown : s.vm.findClass R_S = some m.cls := findClass_of_methodNamed B.named
  have hlocks := B.notSynchronized
  have hA : ∀ q, s.heap.size ≤ q → Az z q := fun q h => Nat.le_trans hz h
  have hS : va_S (Az z) s.heap s.heap [] := va_S.rf
  have hF : Fr t ws ws := Fr.rf
  have hn : nul ws ≤ nul ws := Nat.le_refl _
  have hl := lv_entry ([.ref (a 0)]) (n := 1) (Nat.le_of_ble_eq_true rfl)
  rw [lg_entry_eq]
  generalize (lg_sl ([.ref (a 0)]) ++ List.replicate (1 - (lg_sl ([.ref (a 0)])).length) Slot.unset).toArray = ls at hl ⊢
  have hl : lv_has ls 1 [(0, .ref (a 0))] := hl
  refine W.widen (k := Kc ws ws) (n := Ks ws ws) (Nat.zero_le _) (Nat.zero_le _) ?_
  refine lv_aload_n hx hb d_S_endTransaction_0 rfl (lv_at hl 0 rfl) ?_
  refine lv_iconst (v := 0) hx hb d_S_endTransaction_1 (by decide) ?_
  refine va_put (D := D) (ci := 5) (v := .int 0) (ty := .boolean) (C := R_S) (T := F_S) (N := 10) hx hb hts ws_S t_S ok_S n_S hown hK hP hD hS 0 hI.x rfl 6 (by decide) (hts _ fl_S_44) (fun _ h9 => h9) rfl (by decide +kernel) rfl rfl (Nat.le_of_ble_eq_true rfl) d_S_endTransaction_2 (fun H locs hP hD hS => ?_)
  obtain ⟨v1, hv1⟩ : ∃ q : Nat → Int32, q = upd v 1 0 := ⟨_, rfl⟩
  have gv1 : v1 1 = 0 := by rw [hv1]; exact pk_us
  have nv1 : ∀ i, i ≠ 1 → v1 i = v i := fun i hi => by rw [hv1]; exact pk_un hi
  have hP : va_P D Cl (ws.set 0 (cX a v1)) H := by rw [hv1]; exact hP
  have hD : va_D (Az z) (ws.set 0 (cX a v1)) := by rw [hv1]; exact hD
  obtain ⟨w2, hw⟩ : ∃ q, q = ws.set 0 (cX a v1) := ⟨_, rfl⟩
  have hP : va_P D Cl (ws.set 0 (cX a v1)) H := hP
  have hD : va_D (Az z) (ws.set 0 (cX a v1)) := hD
  have hF : Fr t ws (ws.set 0 (cX a v1)) := hF.set (by decide) (by decide)
  have hI := hI.setX (v' := v1) (fun i hi => nv1 i (by omega)) (by rw [nv1 2 (by decide)]; exact hI.bd.1) (by rw [nv1 3 (by decide)]; exact hI.bd.2.1)
  have hq9 : nul (ws.set 0 (cX a v1)) = nul ws := nul_set (by decide)
  rw [← hw] at hP hD hF hI hq9
  clear hw
  have hn : nul w2 ≤ nul ws := by omega
  refine W.widen (k := Kc ws w2) (n := Ks ws w2) (by show 2 * (nul ws - nul ws) ≤ 2 * (nul ws - nul w2); omega) (by show 257 * (nul ws - nul ws) ≤ 257 * (nul ws - nul w2); omega) ?_
  refine lv_aload_n hx hb d_S_endTransaction_5 rfl (lv_at hl 0 rfl) ?_
  refine lv_iconst (v := 0) hx hb d_S_endTransaction_6 (by decide) ?_
  refine va_put (D := D) (ci := 5) (v := .int 0) (ty := .int) (C := R_S) (T := F_S) (N := 10) hx hb hts ws_S t_S ok_S n_S hown hK hP hD hS 0 hI.x rfl 7 (by decide) (hts _ fl_S_47) (fun _ h9 => h9) rfl (by decide +kernel) rfl rfl (Nat.le_of_ble_eq_true rfl) d_S_endTransaction_7 (fun H locs hP hD hS => ?_)
  obtain ⟨v3, hv3⟩ : ∃ q : Nat → Int32, q = upd v1 2 0 := ⟨_, rfl⟩
  have gv3 : v3 2 = 0 := by rw [hv3]; exact pk_us
  have nv3 : ∀ i, i ≠ 2 → v3 i = v1 i := fun i hi => by rw [hv3]; exact pk_un hi
  have hP : va_P D Cl (w2.set 0 (cX a v3)) H := by rw [hv3]; exact hP
  have hD : va_D (Az z) (w2.set 0 (cX a v3)) := by rw [hv3]; exact hD
  obtain ⟨w4, hw⟩ : ∃ q, q = w2.set 0 (cX a v3) := ⟨_, rfl⟩
  have hP : va_P D Cl (w2.set 0 (cX a v3)) H := hP
  have hD : va_D (Az z) (w2.set 0 (cX a v3)) := hD
  have hF : Fr t ws (w2.set 0 (cX a v3)) := hF.set (by decide) (by decide)
  have hI := hI.setX (v' := v3) (fun i hi => nv3 i (by omega)) ⟨0, by decide, gv3⟩ (by rw [nv3 3 (by decide)]; exact hI.bd.2.1)
  have hq9 : nul (w2.set 0 (cX a v3)) = nul w2 := nul_set (by decide)
  rw [← hw] at hP hD hF hI hq9
  clear hw
  have hn : nul w4 ≤ nul ws := by omega
  refine W.widen (k := Kc ws w4) (n := Ks ws w4) (by show 2 * (nul ws - nul w2) ≤ 2 * (nul ws - nul w4); omega) (by show 257 * (nul ws - nul w2) ≤ 257 * (nul ws - nul w4); omega) ?_
  refine lv_aload_n hx hb d_S_endTransaction_10 rfl (lv_at hl 0 rfl) ?_
  refine lv_aload_n hx hb d_S_endTransaction_11 rfl (lv_at hl 0 rfl) ?_
  refine mu_V (n := 0) (As := []) (rest := [.ref (a 0)]) ⟨hx, hb, hml, hown, hts⟩ (c_S_pagesInFile (D := D) (t := t) (z := z) (sa := sa) (ws := w4)  hI ) ml_S_195 im_S_pagesInFile se_S_pagesInFile in_S cd_S_pagesInFile (by decide +kernel) ⟨Nat.le_of_ble_eq_true rfl, Nat.le_of_ble_eq_true rfl⟩ (va_recv hK hP (ci := 5) rfl hI.x) (Pz_at hP hK hD hz hM hS) rfl hl.1 rfl (Nat.le_of_ble_eq_true rfl) d_S_endTransaction_12 ⟨by show 2 * (nul ws - nul w4) + (2 * nul w4 + 1) ≤ 2 * nul ws + 1; omega, by show 257 * (nul ws - nul w4) + (257 * nul w4 + 6) ≤ 257 * nul ws + 6; omega⟩ hS (fun _ _ _ _ _ _ h => h.elim) (fun r9 u5 H locs hp hP hD hS => ?_)
  obtain ⟨yc, hr9, hw9, C9, hC8, hC9⟩ := hp
  rw [hw9] at hP hD
  subst hr9
  refine W.widen (k := Kc ws w4) (n := Ks ws w4) (by rw [hw9]; show 2 * (nul ws - nul w4) + 2 * (nul w4 - nul w4) ≤ 2 * (nul ws - nul w4); omega) (by rw [hw9]; show 257 * (nul ws - nul w4) + 257 * (nul w4 - nul w4) ≤ 257 * (nul ws - nul w4); omega) ?_
  clear hw9
  refine W.eq (g2 := F0 m 15 ls [.int yc, .ref (a 0)]) rfl ?_
  refine va_put (D := D) (ci := 5) (v := .int yc) (ty := .int) (C := R_S) (T := F_S) (N := 10) hx hb hts ws_S t_S ok_S n_S hown hK hP hD hS 0 hI.x rfl 8 (by decide) (hts _ fl_S_51) (fun _ h9 => h9) rfl (by decide +kernel) rfl rfl (Nat.le_of_ble_eq_true rfl) d_S_endTransaction_15 (fun H locs hP hD hS => ?_)
  obtain ⟨v6, hv6⟩ : ∃ q : Nat → Int32, q = upd v3 3 yc := ⟨_, rfl⟩
  have gv6 : v6 3 = yc := by rw [hv6]; exact pk_us
  have nv6 : ∀ i, i ≠ 3 → v6 i = v3 i := fun i hi => by rw [hv6]; exact pk_un hi
  have hP : va_P D Cl (w4.set 0 (cX a v6)) H := by rw [hv6]; exact hP
  have hD : va_D (Az z) (w4.set 0 (cX a v6)) := by rw [hv6]; exact hD
  obtain ⟨w7, hw⟩ : ∃ q, q = w4.set 0 (cX a v6) := ⟨_, rfl⟩
  have hP : va_P D Cl (w4.set 0 (cX a v6)) H := hP
  have hD : va_D (Az z) (w4.set 0 (cX a v6)) := hD
  have hF : Fr t ws (w4.set 0 (cX a v6)) := hF.set (by decide) (by decide)
  have hI := hI.setX (v' := v6) (fun i hi => nv6 i (by omega)) (by rw [nv6 2 (by decide)]; exact hI.bd.1) ⟨C9, hC8, by rw [gv6]; exact hC9⟩
  have hq9 : nul (w4.set 0 (cX a v6)) = nul w4 := nul_set (by decide)
  rw [← hw] at hP hD hF hI hq9
  clear hw
  have hn : nul w7 ≤ nul ws := by omega
  refine W.widen (k := Kc ws w7) (n := Ks ws w7) (by show 2 * (nul ws - nul w4) ≤ 2 * (nul ws - nul w7); omega) (by show 257 * (nul ws - nul w4) ≤ 257 * (nul ws - nul w7); omega) ?_
  refine lv_aload_n hx hb d_S_endTransaction_18 rfl (lv_at hl 0 rfl) ?_
  refine va_get (D := D) (ci := 5) (v := .ref (a 7)) (C := R_S) (T := F_S) (N := 10) hx hb hts ws_S hown hK hP 0 hI.x rfl 2 (by decide) (hts _ fl_S_25) (fun _ h9 => h9) rfl d_S_endTransaction_19 ?_
  refine lv_iconst (v := 0) hx hb d_S_endTransaction_22 (by decide) ?_
  have h0 : 0 < 6 := by decide
  obtain ⟨gl, e7, g7⟩ := hI.l7
  refine va_aldq (D := D) hx hb hK hP 7 3 e7 rfl (i := 0) (by unfold vp_in; decide) d_S_endTransaction_23 ?_
  refine W.eq (g2 := F0 m 24 ls [.ref (a (10 + 4 * 0))]) (by rw [cl0, g7 0 h0]; rfl) ?_
  refine lv_aload_n hx hb d_S_endTransaction_24 rfl (lv_at hl 0 rfl) ?_
  refine va_get (D := D) (ci := 5) (v := .int (v6 3)) (C := R_S) (T := F_S) (N := 10) hx hb hts ws_S hown hK hP 0 hI.x rfl 8 (by decide) (hts _ fl_S_51) (fun _ h9 => h9) rfl d_S_endTransaction_25 ?_
  obtain ⟨P9, hP8, hP9⟩ := hI.bd.2.1
  refine mu_V (n := 1) (As := [.int (v6 3)]) (rest := []) ⟨hx, hb, hml, hown, hts⟩ (c_Z_lay (D := D) (t := t) (z := z) (sa := sa) (ws := w7) (j := 0) (bl := (v6 3)) (P9 := P9) hI h0 hP8 hP9) ml_S_137 im_Z_lay se_Z_lay in_Z cd_Z_lay (by decide +kernel) ⟨Nat.le_of_ble_eq_true rfl, Nat.le_of_ble_eq_true rfl⟩ (va_recv hK hP (ci := 4) rfl (hI.z h0)) (Pz_at hP hK hD hz hM hS) rfl hl.1 rfl (Nat.le_of_ble_eq_true rfl) d_S_endTransaction_28 ⟨by show 2 * (nul ws - nul w7) + (2 * nul w7 + 1) ≤ 2 * nul ws + 1; omega, by show 257 * (nul ws - nul w7) + (257 * nul w7 + 6) ≤ 257 * nul ws + 6; omega⟩ hS (fun _ _ _ _ _ _ h => h.elim) (fun r9 u8 H locs hp hP hD hS => ?_)
  obtain ⟨v10, hI, hF9, hn9, hr9, nv10, -⟩ := hp
  subst hr9
  have hF := hF.trans hF9
  have hn : nul u8 ≤ nul ws := by omega
  refine W.widen (k := Kc ws u8) (n := Ks ws u8) (by show 2 * (nul ws - nul w7) + 2 * (nul w7 - nul u8) ≤ 2 * (nul ws - nul u8); omega) (by show 257 * (nul ws - nul w7) + 257 * (nul w7 - nul u8) ≤ 257 * (nul ws - nul u8); omega) ?_
  refine W.eq (g2 := F0 m 31 ls []) rfl ?_
  refine mu_end (u := u8) (v := (none)) ⟨_, hI, hF, hn, rfl, (fun i hi => by rw [nv10 i (by omega), nv6 i (by omega), nv3 i (by omega), nv1 i (by omega)])⟩ (Nat.le_refl _) (Nat.le_refl _) ?_
  exact W.vret hx hb hr (fun t9 ht hW => ⟨rfl, ⟨by rw [ht]; exact hP, va_K.moved hW.alike hK, hD, by rw [ht]; exact Nat.le_trans hz hS.1⟩, hS.F ht⟩) hS.2.2 d_S_endTransaction_31
set_option maxHeartbeats 4000000 in
set_option maxRecDepth 100000 in
theorem c_S_rollback {l : Launch} {D : va_G} {t : Nat → ClassId} {z : Nat} {sa : Nat → Nat} {ws : va_W} {a : Nat → Nat} {k0 : Nat} {v : Nat → Int32}  (hl0 : l.stackTraces = false) (hI : Iv a t k0 v ws) (hc1 : C1 v)  : Mu l y_S_rollback (Cond.code y_S_rollback b_S_rollback 1 (.none : Option Jvm.ClassFile.FieldType) :: WS) ({ frames := 8, cells := 2 * nul ws + 1, slots := 257 * nul ws + 6, locals := 122 }) D t z sa ws [.ref (a 0)] (fun r u => r = none ∧ So a t ws u) (fun E u => (E = xISE) ∧ u = ws) (Kc ws) (Ks ws) := by
  refine mu_ofW (cc := b_S_rollback) (maxL := 1) (ret := (.none : Option Jvm.ClassFile.FieldType)) (by decide) rfl ?_
  intro p e s m args below meth c s₁ B hml hno hv
  obtain ⟨rfl, ⟨hP, hK, hD, hz⟩, hM⟩ := hv
  have hx := B.exec
  have hb := B.bytes
  have hr := B.returns
  have hts : ∀ w ∈ WS, w.before [.ref (a 0)].toArray s = true := fun w h => atoms_spec B.pre w (List.mem_cons_of_mem _ h)
  have hown : s.vm.findClass R_S = some m.cls := findClass_of_methodNamed B.named
  have hlocks := B.notSynchronized
  have hA : ∀ q, s.heap.size ≤ q → Az z q := fun q h => Nat.le_trans hz h
  have hS : va_S (Az z) s.heap s.heap [] := va_S.rf
  have hF : Fr t ws ws := Fr.rf
  have hn : nul ws ≤ nul ws := Nat.le_refl _
  have hl := lv_entry ([.ref (a 0)]) (n := 1) (Nat.le_of_ble_eq_true rfl)
  rw [lg_entry_eq]
  generalize (lg_sl ([.ref (a 0)]) ++ List.replicate (1 - (lg_sl ([.ref (a 0)])).length) Slot.unset).toArray = ls at hl ⊢
  have hl : lv_has ls 1 [(0, .ref (a 0))] := hl
  refine W.widen (k := Kc ws ws) (n := Ks ws ws) (Nat.zero_le _) (Nat.zero_le _) ?_
  refine lv_aload_n hx hb d_S_rollback_0 rfl (lv_at hl 0 rfl) ?_
  refine mu_V (n := 0) (As := []) (rest := []) ⟨hx, hb, hml, hown, hts⟩ (c_S_requireOpen (D := D) (t := t) (z := z) (sa := sa) (ws := ws)  hl0 hI ) ml_S_61 im_S_requireOpen se_S_requireOpen in_S cd_S_requireOpen (by decide +kernel) ⟨Nat.le_of_ble_eq_true rfl, Nat.le_of_ble_eq_true rfl⟩ (va_recv hK hP (ci := 5) rfl hI.x) (Pz_at hP hK hD hz hM hS) rfl hl.1 rfl (Nat.le_of_ble_eq_true rfl) d_S_rollback_1 ⟨by show 2 * (nul ws - nul ws) + (2 * nul ws + 1) ≤ 2 * nul ws + 1; omega, by show 257 * (nul ws - nul ws) + (257 * nul ws + 6) ≤ 257 * nul ws + 6; omega⟩ hS (fun E ce q u H locs hxp hP hD hS h1 h2 h3 => by obtain ⟨hE, hu⟩ := hxp; rw [hu] at hP hD; exact mu_out (u := ws) hno hlocks h1 h2 h3 hP hK hD hz hS ⟨(by simp [hE]), rfl⟩ (by rw [hu]; show 2 * (nul ws - nul ws) + (2 * (nul ws - nul ws) + 1) ≤ 2 * (nul ws - nul ws) + 1; omega) (by rw [hu]; show 257 * (nul ws - nul ws) + (257 * (nul ws - nul ws) + 6) ≤ 257 * (nul ws - nul ws) + 6; omega)) (fun r9 u1 H locs hp hP hD hS => ?_)
  obtain ⟨hr9, hw9, h01⟩ := hp
  rw [hw9] at hP hD
  subst hr9
  refine W.widen (k := Kc ws ws) (n := Ks ws ws) (by rw [hw9]; show 2 * (nul ws - nul ws) + 2 * (nul ws - nul ws) ≤ 2 * (nul ws - nul ws); omega) (by rw [hw9]; show 257 * (nul ws - nul ws) + 257 * (nul ws - nul ws) ≤ 257 * (nul ws - nul ws); omega) ?_
  clear hw9
  refine W.eq (g2 := F0 m 4 ls []) rfl ?_
  refine lv_aload_n hx hb d_S_rollback_4 rfl (lv_at hl 0 rfl) ?_
  refine mu_V (n := 0) (As := []) (rest := []) ⟨hx, hb, hml, hown, hts⟩ (c_S_endTransaction (D := D) (t := t) (z := z) (sa := sa) (ws := ws)  hI ) ml_S_132 im_S_endTransaction se_S_endTransaction in_S cd_S_endTransaction (by decide +kernel) ⟨Nat.le_of_ble_eq_true rfl, Nat.le_of_ble_eq_true rfl⟩ (va_recv hK hP (ci := 5) rfl hI.x) (Pz_at hP hK hD hz hM hS) rfl hl.1 rfl (Nat.le_of_ble_eq_true rfl) d_S_rollback_5 ⟨by show 2 * (nul ws - nul ws) + (2 * nul ws + 1) ≤ 2 * nul ws + 1; omega, by show 257 * (nul ws - nul ws) + (257 * nul ws + 6) ≤ 257 * nul ws + 6; omega⟩ hS (fun _ _ _ _ _ _ h => h.elim) (fun r9 u2 H locs hp hP hD hS => ?_)
  obtain ⟨v3, hI, hF9, hn9, hr9, nv3⟩ := hp
  subst hr9
  have hF := hF.trans hF9
  have hn : nul u2 ≤ nul ws := by omega
  refine W.widen (k := Kc ws u2) (n := Ks ws u2) (by show 2 * (nul ws - nul ws) + 2 * (nul ws - nul u2) ≤ 2 * (nul ws - nul u2); omega) (by show 257 * (nul ws - nul ws) + 257 * (nul ws - nul u2) ≤ 257 * (nul ws - nul u2); omega) ?_
  refine W.eq (g2 := F0 m 8 ls []) rfl ?_
  refine mu_end (u := u2) (v := (none)) ⟨rfl, ⟨_, _, hI, hF, hn, hc1.eq (by rw [nv3 0 (by omega)]) (by rw [nv3 6 (by omega)])⟩⟩ (Nat.le_refl _) (Nat.le_refl _) ?_
  exact W.vret hx hb hr (fun t9 ht hW => ⟨rfl, ⟨by rw [ht]; exact hP, va_K.moved hW.alike hK, hD, by rw [ht]; exact Nat.le_trans hz hS.1⟩, hS.F ht⟩) hS.2.2 d_S_rollback_8
set_option maxHeartbeats 4000000 in
set_option maxRecDepth 100000 in
theorem c_S_mark {l : Launch} {D : va_G} {t : Nat → ClassId} {z : Nat} {sa : Nat → Nat} {ws : va_W} {a : Nat → Nat} {k0 : Nat} {v : Nat → Int32}  (hl0 : l.stackTraces = false) (hI : Iv a t k0 v ws) (hc1 : C1 v)  : Mu l y_S_mark (Cond.code y_S_mark b_S_mark 1 (some .int) :: WS) ({ frames := 8, cells := 2 * nul ws + 1, slots := 257 * nul ws + 6, locals := 122 }) D t z sa ws [.ref (a 0)] (fun r u => (∃ y, r = some (.int y)) ∧ So a t ws u) (fun E u => (E = xISE) ∧ u = ws) (Kc ws) (Ks ws) := by
  refine mu_ofW (cc := b_S_mark) (maxL := 1) (ret := (some .int)) (by decide) rfl ?_
  intro p e s m args below meth c s₁ B hml hno hv
  obtain ⟨rfl, ⟨hP, hK, hD, hz⟩, hM⟩ := hv
  have hx := B.exec
  have hb := B.bytes
  have hr := B.returns
  have hts : ∀ w ∈ WS, w.before [.ref (a 0)].toArray s = true := fun w h => atoms_spec B.pre w (List.mem_cons_of_mem _ h)
  have hown : s.vm.findClass R_S = some m.cls := findClass_of_methodNamed B.named
  have hlocks := B.notSynchronized
  have hA : ∀ q, s.heap.size ≤ q → Az z q := fun q h => Nat.le_trans hz h
  have hS : va_S (Az z) s.heap s.heap [] := va_S.rf
  have hF : Fr t ws ws := Fr.rf
  have hn : nul ws ≤ nul ws := Nat.le_refl _
  have hl := lv_entry ([.ref (a 0)]) (n := 1) (Nat.le_of_ble_eq_true rfl)
  rw [lg_entry_eq]
  generalize (lg_sl ([.ref (a 0)]) ++ List.replicate (1 - (lg_sl ([.ref (a 0)])).length) Slot.unset).toArray = ls at hl ⊢
  have hl : lv_has ls 1 [(0, .ref (a 0))] := hl
  refine W.widen (k := Kc ws ws) (n := Ks ws ws) (Nat.zero_le _) (Nat.zero_le _) ?_
  refine lv_aload_n hx hb d_S_mark_0 rfl (lv_at hl 0 rfl) ?_
  refine mu_V (n := 0) (As := []) (rest := []) ⟨hx, hb, hml, hown, hts⟩ (c_S_requireOpen (D := D) (t := t) (z := z) (sa := sa) (ws := ws)  hl0 hI ) ml_S_61 im_S_requireOpen se_S_requireOpen in_S cd_S_requireOpen (by decide +kernel) ⟨Nat.le_of_ble_eq_true rfl, Nat.le_of_ble_eq_true rfl⟩ (va_recv hK hP (ci := 5) rfl hI.x) (Pz_at hP hK hD hz hM hS) rfl hl.1 rfl (Nat.le_of_ble_eq_true rfl) d_S_mark_1 ⟨by show 2 * (nul ws - nul ws) + (2 * nul ws + 1) ≤ 2 * nul ws + 1; omega, by show 257 * (nul ws - nul ws) + (257 * nul ws + 6) ≤ 257 * nul ws + 6; omega⟩ hS (fun E ce q u H locs hxp hP hD hS h1 h2 h3 => by obtain ⟨hE, hu⟩ := hxp; rw [hu] at hP hD; exact mu_out (u := ws) hno hlocks h1 h2 h3 hP hK hD hz hS ⟨(by simp [hE]), rfl⟩ (by rw [hu]; show 2 * (nul ws - nul ws) + (2 * (nul ws - nul ws) + 1) ≤ 2 * (nul ws - nul ws) + 1; omega) (by rw [hu]; show 257 * (nul ws - nul ws) + (257 * (nul ws - nul ws) + 6) ≤ 257 * (nul ws - nul ws) + 6; omega)) (fun r9 u1 H locs hp hP hD hS => ?_)
  obtain ⟨hr9, hw9, h01⟩ := hp
  rw [hw9] at hP hD
  subst hr9
  refine W.widen (k := Kc ws ws) (n := Ks ws ws) (by rw [hw9]; show 2 * (nul ws - nul ws) + 2 * (nul ws - nul ws) ≤ 2 * (nul ws - nul ws); omega) (by rw [hw9]; show 257 * (nul ws - nul ws) + 257 * (nul ws - nul ws) ≤ 257 * (nul ws - nul ws); omega) ?_
  clear hw9
  refine W.eq (g2 := F0 m 4 ls []) rfl ?_
  refine lv_aload_n hx hb d_S_mark_4 rfl (lv_at hl 0 rfl) ?_
  refine va_get (D := D) (ci := 5) (v := .int (v 2)) (C := R_S) (T := F_S) (N := 10) hx hb hts ws_S hown hK hP 0 hI.x rfl 7 (by decide) (hts _ fl_S_47) (fun _ h9 => h9) rfl d_S_mark_5 ?_
  refine lv_iconst (v := 5) hx hb d_S_mark_8 (by decide) ?_
  refine lv_icmp_lt (tgt := 22) hx hb d_S_mark_9 rfl (fun q2 => ?_) (fun q2 => ?_)
  · skip
    refine lv_aload_n hx hb d_S_mark_22 rfl (lv_at hl 0 rfl) ?_
    refine lv_dup hx hb d_S_mark_23 rfl ?_
    refine va_get (D := D) (ci := 5) (v := .int (v 2)) (C := R_S) (T := F_S) (N := 10) hx hb hts ws_S hown hK hP 0 hI.x rfl 7 (by decide) (hts _ fl_S_47) (fun _ h9 => h9) rfl d_S_mark_24 ?_
    refine lv_iconst (v := 1) hx hb d_S_mark_27 (by decide) ?_
    refine lv_iadd hx hb d_S_mark_28 ?_
    obtain ⟨M9, hM1, hM2⟩ := hI.bd.1
    have hM3 : M9 < 5 := (nI_ltI (b := 5) (by omega) (by decide)).mp (by rw [← hM2]; assumption)
    refine lv_topi (fun y9 hy9 => ?_)
    have hy9 : y9 = nI (M9 + 1) := by rw [hy9, hM2]; exact nI_1 M9
    refine va_put (D := D) (ci := 5) (v := .int y9) (ty := .int) (C := R_S) (T := F_S) (N := 10) hx hb hts ws_S t_S ok_S n_S hown hK hP hD hS 0 hI.x rfl 7 (by decide) (hts _ fl_S_47) (fun _ h9 => h9) rfl (by decide +kernel) rfl rfl (Nat.le_of_ble_eq_true rfl) d_S_mark_29 (fun H locs hP hD hS => ?_)
    obtain ⟨v3, hv3⟩ : ∃ q : Nat → Int32, q = upd v 2 y9 := ⟨_, rfl⟩
    have gv3 : v3 2 = y9 := by rw [hv3]; exact pk_us
    have nv3 : ∀ i, i ≠ 2 → v3 i = v i := fun i hi => by rw [hv3]; exact pk_un hi
    have hP : va_P D Cl (ws.set 0 (cX a v3)) H := by rw [hv3]; exact hP
    have hD : va_D (Az z) (ws.set 0 (cX a v3)) := by rw [hv3]; exact hD
    obtain ⟨w4, hw⟩ : ∃ q, q = ws.set 0 (cX a v3) := ⟨_, rfl⟩
    have hP : va_P D Cl (ws.set 0 (cX a v3)) H := hP
    have hD : va_D (Az z) (ws.set 0 (cX a v3)) := hD
    have hF : Fr t ws (ws.set 0 (cX a v3)) := hF.set (by decide) (by decide)
    have hI := hI.setX (v' := v3) (fun i hi => nv3 i (by omega)) ⟨M9 + 1, by omega, by rw [gv3]; exact hy9⟩ (by rw [nv3 3 (by decide)]; exact hI.bd.2.1)
    have hq9 : nul (ws.set 0 (cX a v3)) = nul ws := nul_set (by decide)
    rw [← hw] at hP hD hF hI hq9
    clear hw
    have hn : nul w4 ≤ nul ws := by omega
    refine W.widen (k := Kc ws w4) (n := Ks ws w4) (by show 2 * (nul ws - nul ws) ≤ 2 * (nul ws - nul w4); omega) (by show 257 * (nul ws - nul ws) ≤ 257 * (nul ws - nul w4); omega) ?_
    refine lv_aload_n hx hb d_S_mark_32 rfl (lv_at hl 0 rfl) ?_
    refine va_get (D := D) (ci := 5) (v := .ref (a 7)) (C := R_S) (T := F_S) (N := 10) hx hb hts ws_S hown hK hP 0 hI.x rfl 2 (by decide) (hts _ fl_S_25) (fun _ h9 => h9) rfl d_S_mark_33 ?_
    refine lv_aload_n hx hb d_S_mark_36 rfl (lv_at hl 0 rfl) ?_
    refine va_get (D := D) (ci := 5) (v := .int (v3 2)) (C := R_S) (T := F_S) (N := 10) hx hb hts ws_S hown hK hP 0 hI.x rfl 7 (by decide) (hts _ fl_S_47) (fun _ h9 => h9) rfl d_S_mark_37 ?_
    obtain ⟨jm, hjm⟩ : ∃ q, q = M9 + 1 := ⟨_, rfl⟩
    have hjm6 : jm < 6 := by omega
    have hvm : v3 2 = nI jm := by rw [gv3, hy9, hjm]
    have hjm := hjm6
    obtain ⟨gl, e7, g7⟩ := hI.l7
    refine va_aldq (D := D) hx hb hK hP 7 3 e7 rfl (i := (v3 2)) (by rw [hvm]; exact vp_in_nI hjm (by decide)) d_S_mark_40 ?_
    refine W.eq (g2 := F0 m 41 ls [.ref (a (10 + 4 * jm))]) (by rw [show (v3 2).toNatClampNeg = jm from by rw [hvm]; exact nI_clamp (by omega), g7 jm hjm]; rfl) ?_
    refine lv_aload_n hx hb d_S_mark_41 rfl (lv_at hl 0 rfl) ?_
    refine va_get (D := D) (ci := 5) (v := .int (v3 3)) (C := R_S) (T := F_S) (N := 10) hx hb hts ws_S hown hK hP 0 hI.x rfl 8 (by decide) (hts _ fl_S_51) (fun _ h9 => h9) rfl d_S_mark_42 ?_
    obtain ⟨P9, hP8, hP9⟩ := hI.bd.2.1
    refine mu_V (n := 1) (As := [.int (v3 3)]) (rest := []) ⟨hx, hb, hml, hown, hts⟩ (c_Z_lay (D := D) (t := t) (z := z) (sa := sa) (ws := w4) (j := jm) (bl := (v3 3)) (P9 := P9) hI hjm hP8 hP9) ml_S_137 im_Z_lay se_Z_lay in_Z cd_Z_lay (by decide +kernel) ⟨Nat.le_of_ble_eq_true rfl, Nat.le_of_ble_eq_true rfl⟩ (va_recv hK hP (ci := 4) rfl (hI.z hjm)) (Pz_at hP hK hD hz hM hS) rfl hl.1 rfl (Nat.le_of_ble_eq_true rfl) d_S_mark_45 ⟨by show 2 * (nul ws - nul w4) + (2 * nul w4 + 1) ≤ 2 * nul ws + 1; omega, by show 257 * (nul ws - nul w4) + (257 * nul w4 + 6) ≤ 257 * nul ws + 6; omega⟩ hS (fun _ _ _ _ _ _ h => h.elim) (fun r9 u5 H locs hp hP hD hS => ?_)
    obtain ⟨v6, hI, hF9, hn9, hr9, nv6, -⟩ := hp
    subst hr9
    have hF := hF.trans hF9
    have hn : nul u5 ≤ nul ws := by omega
    refine W.widen (k := Kc ws u5) (n := Ks ws u5) (by show 2 * (nul ws - nul w4) + 2 * (nul w4 - nul u5) ≤ 2 * (nul ws - nul u5); omega) (by show 257 * (nul ws - nul w4) + 257 * (nul w4 - nul u5) ≤ 257 * (nul ws - nul u5); omega) ?_
    refine W.eq (g2 := F0 m 48 ls []) rfl ?_
    refine lv_aload_n hx hb d_S_mark_48 rfl (lv_at hl 0 rfl) ?_
    refine va_get (D := D) (ci := 5) (v := .int (v6 2)) (C := R_S) (T := F_S) (N := 10) hx hb hts ws_S hown hK hP 0 hI.x rfl 7 (by decide) (hts _ fl_S_47) (fun _ h9 => h9) rfl d_S_mark_49 ?_
    refine mu_end (u := u5) (v := (some (.int (v6 2)))) ⟨⟨_, rfl⟩, ⟨_, _, hI, hF, hn, hc1.eq (by rw [nv6 0 (by omega), nv3 0 (by omega)]) (by rw [nv6 6 (by omega), nv3 6 (by omega)])⟩⟩ (Nat.le_refl _) (Nat.le_refl _) ?_
    exact W.iret (v := (v6 2)) hx hb hr (fun t9 ht hW => ⟨rfl, ⟨by rw [ht]; exact hP, va_K.moved hW.alike hK, hD, by rw [ht]; exact Nat.le_trans hz hS.1⟩, hS.F ht⟩) hS.2.2 d_S_mark_52
  · skip
    exact mu_th (u := ws) hx hb hl0 hown hts hlocks hno hP hK hD hz hM hS (hl.1.trans hml.symm) (site_64_135_68) d_S_mark_12 d_S_mark_15 d_S_mark_16 d_S_mark_18 d_S_mark_21 (Nat.le_of_ble_eq_true rfl) (Nat.le_of_ble_eq_true rfl) (by show 2 * (nul ws - nul ws) + 1 ≤ 2 * nul ws + 1; omega) (by show 257 * (nul ws - nul ws) + 6 ≤ 257 * nul ws + 6; omega) (Nat.le_refl _) (Nat.le_refl _) ⟨by decide, rfl⟩
theorem lt01 {x : Int32} (h : x < 0) : x < 1 := by
  rw [Int32.lt_iff_toInt_lt] at h ⊢
  have e0 : (0 : Int32).toInt = 0 := by decide
  have e1 : (1 : Int32).toInt = 1 := by decide
  omega
set_option maxHeartbeats 4000000 in
set_option maxRecDepth 100000 in
theorem c_S_back {l : Launch} {D : va_G} {t : Nat → ClassId} {z : Nat} {sa : Nat → Nat} {ws : va_W} {a : Nat → Nat} {k0 : Nat} {v : Nat → Int32} {x9 : Int32} (hl0 : l.stackTraces = false) (hI : Iv a t k0 v ws) (hc1 : C1 v)  : Mu l y_S_back (Cond.code y_S_back b_S_back 2 (.none : Option Jvm.ClassFile.FieldType) :: WS) ({ frames := 8, cells := 2 * nul ws + 1, slots := 257 * nul ws + 6, locals := 122 }) D t z sa ws [.ref (a 0), .int x9] (fun r u => r = none ∧ So a t ws u) (fun E u => (E = xISE ∨ E = xIOB) ∧ u = ws) (Kc ws) (Ks ws) := by
  refine mu_ofW (cc := b_S_back) (maxL := 2) (ret := (.none : Option Jvm.ClassFile.FieldType)) (by decide) rfl ?_
  intro p e s m args below meth c s₁ B hml hno hv
  obtain ⟨rfl, ⟨hP, hK, hD, hz⟩, hM⟩ := hv
  have hx := B.exec
  have hb := B.bytes
  have hr := B.returns
  have hts : ∀ w ∈ WS, w.before [.ref (a 0), .int x9].toArray s = true := fun w h => atoms_spec B.pre w (List.mem_cons_of_mem _ h)
  have hown : s.vm.findClass R_S = some m.cls := findClass_of_methodNamed B.named
  have hlocks := B.notSynchronized
  have hA : ∀ q, s.heap.size ≤ q → Az z q := fun q h => Nat.le_trans hz h
  have hS : va_S (Az z) s.heap s.heap [] := va_S.rf
  have hF : Fr t ws ws := Fr.rf
  have hn : nul ws ≤ nul ws := Nat.le_refl _
  have hl := lv_entry ([.ref (a 0), .int x9]) (n := 2) (Nat.le_of_ble_eq_true rfl)
  rw [lg_entry_eq]
  generalize (lg_sl ([.ref (a 0), .int x9]) ++ List.replicate (2 - (lg_sl ([.ref (a 0), .int x9])).length) Slot.unset).toArray = ls at hl ⊢
  have hl : lv_has ls 2 [(0, .ref (a 0)), (1, .int x9)] := hl
  refine W.widen (k := Kc ws ws) (n := Ks ws ws) (Nat.zero_le _) (Nat.zero_le _) ?_
  refine lv_aload_n hx hb d_S_back_0 rfl (lv_at hl 0 rfl) ?_
  refine mu_V (n := 0) (As := []) (rest := []) ⟨hx, hb, hml, hown, hts⟩ (c_S_requireOpen (D := D) (t := t) (z := z) (sa := sa) (ws := ws)  hl0 hI ) ml_S_61 im_S_requireOpen se_S_requireOpen in_S cd_S_requireOpen (by decide +kernel) ⟨Nat.le_of_ble_eq_true rfl, Nat.le_of_ble_eq_true rfl⟩ (va_recv hK hP (ci := 5) rfl hI.x) (Pz_at hP hK hD hz hM hS) rfl hl.1 rfl (Nat.le_of_ble_eq_true rfl) d_S_back_1 ⟨by show 2 * (nul ws - nul ws) + (2 * nul ws + 1) ≤ 2 * nul ws + 1; omega, by show 257 * (nul ws - nul ws) + (257 * nul ws + 6) ≤ 257 * nul ws + 6; omega⟩ hS (fun E ce q u H locs hxp hP hD hS h1 h2 h3 => by obtain ⟨hE, hu⟩ := hxp; rw [hu] at hP hD; exact mu_out (u := ws) hno hlocks h1 h2 h3 hP hK hD hz hS ⟨(by simp [hE]), rfl⟩ (by rw [hu]; show 2 * (nul ws - nul ws) + (2 * (nul ws - nul ws) + 1) ≤ 2 * (nul ws - nul ws) + 1; omega) (by rw [hu]; show 257 * (nul ws - nul ws) + (257 * (nul ws - nul ws) + 6) ≤ 257 * (nul ws - nul ws) + 6; omega)) (fun r9 u1 H locs hp hP hD hS => ?_)
  obtain ⟨hr9, hw9, h01⟩ := hp
  rw [hw9] at hP hD
  subst hr9
  refine W.widen (k := Kc ws ws) (n := Ks ws ws) (by rw [hw9]; show 2 * (nul ws - nul ws) + 2 * (nul ws - nul ws) ≤ 2 * (nul ws - nul ws); omega) (by rw [hw9]; show 257 * (nul ws - nul ws) + 257 * (nul ws - nul ws) ≤ 257 * (nul ws - nul ws); omega) ?_
  clear hw9
  refine W.eq (g2 := F0 m 4 ls []) rfl ?_
  refine lv_aload_n hx hb d_S_back_4 rfl (lv_at hl 0 rfl) ?_
  refine lv_iload_n hx hb d_S_back_5 rfl (lv_at hl 1 rfl) ?_
  refine mu_V (n := 1) (As := [.int x9]) (rest := []) ⟨hx, hb, hml, hown, hts⟩ (c_S_requireMark (D := D) (t := t) (z := z) (sa := sa) (ws := ws) (x9 := x9) hl0 hI ) ml_S_140 im_S_requireMark se_S_requireMark in_S cd_S_requireMark (by decide +kernel) ⟨Nat.le_of_ble_eq_true rfl, Nat.le_of_ble_eq_true rfl⟩ (va_recv hK hP (ci := 5) rfl hI.x) (Pz_at hP hK hD hz hM hS) rfl hl.1 rfl (Nat.le_of_ble_eq_true rfl) d_S_back_6 ⟨by show 2 * (nul ws - nul ws) + (2 * nul ws + 1) ≤ 2 * nul ws + 1; omega, by show 257 * (nul ws - nul ws) + (257 * nul ws + 6) ≤ 257 * nul ws + 6; omega⟩ hS (fun E ce q u H locs hxp hP hD hS h1 h2 h3 => by obtain ⟨hE, hu⟩ := hxp; rw [hu] at hP hD; exact mu_out (u := ws) hno hlocks h1 h2 h3 hP hK hD hz hS ⟨(by simp [hE]), rfl⟩ (by rw [hu]; show 2 * (nul ws - nul ws) + (2 * (nul ws - nul ws) + 1) ≤ 2 * (nul ws - nul ws) + 1; omega) (by rw [hu]; show 257 * (nul ws - nul ws) + (257 * (nul ws - nul ws) + 6) ≤ 257 * (nul ws - nul ws) + 6; omega)) (fun r9 u2 H locs hp hP hD hS => ?_)
  obtain ⟨hr9, hw9, h02⟩ := hp
  rw [hw9] at hP hD
  subst hr9
  refine W.widen (k := Kc ws ws) (n := Ks ws ws) (by rw [hw9]; show 2 * (nul ws - nul ws) + 2 * (nul ws - nul ws) ≤ 2 * (nul ws - nul ws); omega) (by rw [hw9]; show 257 * (nul ws - nul ws) + 257 * (nul ws - nul ws) ≤ 257 * (nul ws - nul ws); omega) ?_
  clear hw9
  refine W.eq (g2 := F0 m 9 ls []) rfl ?_
  obtain ⟨M9, hM1, hM2⟩ := hI.bd.1
  obtain ⟨jm, hjm5, hvm⟩ := nI_of2 (M := nI M9) (n := M9) (x := x9) (nI_toInt (by omega)) (fun h => h02.1 (lt01 h)) (by rw [← hM2]; exact h02.2)
  have hjm : jm < 6 := by omega
  refine lv_aload_n hx hb d_S_back_9 rfl (lv_at hl 0 rfl) ?_
  refine lv_iload_n hx hb d_S_back_10 rfl (lv_at hl 1 rfl) ?_
  refine va_put (D := D) (ci := 5) (v := .int x9) (ty := .int) (C := R_S) (T := F_S) (N := 10) hx hb hts ws_S t_S ok_S n_S hown hK hP hD hS 0 hI.x rfl 7 (by decide) (hts _ fl_S_47) (fun _ h9 => h9) rfl (by decide +kernel) rfl rfl (Nat.le_of_ble_eq_true rfl) d_S_back_11 (fun H locs hP hD hS => ?_)
  obtain ⟨v3, hv3⟩ : ∃ q : Nat → Int32, q = upd v 2 x9 := ⟨_, rfl⟩
  have gv3 : v3 2 = x9 := by rw [hv3]; exact pk_us
  have nv3 : ∀ i, i ≠ 2 → v3 i = v i := fun i hi => by rw [hv3]; exact pk_un hi
  have hP : va_P D Cl (ws.set 0 (cX a v3)) H := by rw [hv3]; exact hP
  have hD : va_D (Az z) (ws.set 0 (cX a v3)) := by rw [hv3]; exact hD
  obtain ⟨w4, hw⟩ : ∃ q, q = ws.set 0 (cX a v3) := ⟨_, rfl⟩
  have hP : va_P D Cl (ws.set 0 (cX a v3)) H := hP
  have hD : va_D (Az z) (ws.set 0 (cX a v3)) := hD
  have hF : Fr t ws (ws.set 0 (cX a v3)) := hF.set (by decide) (by decide)
  have hI := hI.setX (v' := v3) (fun i hi => nv3 i (by omega)) ⟨jm, by omega, by rw [gv3]; exact hvm⟩ (by rw [nv3 3 (by decide)]; exact hI.bd.2.1)
  have hq9 : nul (ws.set 0 (cX a v3)) = nul ws := nul_set (by decide)
  rw [← hw] at hP hD hF hI hq9
  clear hw
  have hn : nul w4 ≤ nul ws := by omega
  refine W.widen (k := Kc ws w4) (n := Ks ws w4) (by show 2 * (nul ws - nul ws) ≤ 2 * (nul ws - nul w4); omega) (by show 257 * (nul ws - nul ws) ≤ 257 * (nul ws - nul w4); omega) ?_
  refine lv_aload_n hx hb d_S_back_14 rfl (lv_at hl 0 rfl) ?_
  refine lv_aload_n hx hb d_S_back_15 rfl (lv_at hl 0 rfl) ?_
  refine va_get (D := D) (ci := 5) (v := .ref (a 7)) (C := R_S) (T := F_S) (N := 10) hx hb hts ws_S hown hK hP 0 hI.x rfl 2 (by decide) (hts _ fl_S_25) (fun _ h9 => h9) rfl d_S_back_16 ?_
  refine lv_iload_n hx hb d_S_back_19 rfl (lv_at hl 1 rfl) ?_
  obtain ⟨gl, e7, g7⟩ := hI.l7
  refine va_aldq (D := D) hx hb hK hP 7 3 e7 rfl (i := x9) (by rw [hvm]; exact vp_in_nI hjm (by decide)) d_S_back_20 ?_
  refine W.eq (g2 := F0 m 21 ls [.ref (a (10 + 4 * jm)), .ref (a 0)]) (by rw [show (x9 : Int32).toNatClampNeg = jm from by rw [hvm]; exact nI_clamp (by omega), g7 jm hjm]; rfl) ?_
  refine mu_V (n := 0) (As := []) (rest := [.ref (a 0)]) ⟨hx, hb, hml, hown, hts⟩ (c_Z_pagesBelow (D := D) (t := t) (z := z) (sa := sa) (ws := w4) (j := jm) hI hjm) ml_S_143 im_Z_pagesBelow se_Z_pagesBelow in_Z cd_Z_pagesBelow (by decide +kernel) ⟨Nat.le_of_ble_eq_true rfl, Nat.le_of_ble_eq_true rfl⟩ (va_recv hK hP (ci := 4) rfl (hI.z hjm)) (Pz_at hP hK hD hz hM hS) rfl hl.1 rfl (Nat.le_of_ble_eq_true rfl) d_S_back_21 ⟨by show 2 * (nul ws - nul w4) + (2 * nul w4 + 1) ≤ 2 * nul ws + 1; omega, by show 257 * (nul ws - nul w4) + (257 * nul w4 + 6) ≤ 257 * nul ws + 6; omega⟩ hS (fun _ _ _ _ _ _ h => h.elim) (fun r9 u5 H locs hp hP hD hS => ?_)
  obtain ⟨hr9, hw9⟩ := hp
  rw [hw9] at hP hD
  subst hr9
  refine W.widen (k := Kc ws w4) (n := Ks ws w4) (by rw [hw9]; show 2 * (nul ws - nul w4) + 2 * (nul w4 - nul w4) ≤ 2 * (nul ws - nul w4); omega) (by rw [hw9]; show 257 * (nul ws - nul w4) + 257 * (nul w4 - nul w4) ≤ 257 * (nul ws - nul w4); omega) ?_
  clear hw9
  refine W.eq (g2 := F0 m 24 ls [.int (v3 (11 + jm)), .ref (a 0)]) rfl ?_
  refine va_put (D := D) (ci := 5) (v := .int (v3 (11 + jm))) (ty := .int) (C := R_S) (T := F_S) (N := 10) hx hb hts ws_S t_S ok_S n_S hown hK hP hD hS 0 hI.x rfl 8 (by decide) (hts _ fl_S_51) (fun _ h9 => h9) rfl (by decide +kernel) rfl rfl (Nat.le_of_ble_eq_true rfl) d_S_back_24 (fun H locs hP hD hS => ?_)
  obtain ⟨v6, hv6⟩ : ∃ q : Nat → Int32, q = upd v3 3 (v3 (11 + jm)) := ⟨_, rfl⟩
  have gv6 : v6 3 = (v3 (11 + jm)) := by rw [hv6]; exact pk_us
  have nv6 : ∀ i, i ≠ 3 → v6 i = v3 i := fun i hi => by rw [hv6]; exact pk_un hi
  have hP : va_P D Cl (w4.set 0 (cX a v6)) H := by rw [hv6]; exact hP
  have hD : va_D (Az z) (w4.set 0 (cX a v6)) := by rw [hv6]; exact hD
  obtain ⟨w7, hw⟩ : ∃ q, q = w4.set 0 (cX a v6) := ⟨_, rfl⟩
  have hP : va_P D Cl (w4.set 0 (cX a v6)) H := hP
  have hD : va_D (Az z) (w4.set 0 (cX a v6)) := hD
  have hF : Fr t ws (w4.set 0 (cX a v6)) := hF.set (by decide) (by decide)
  have hI := hI.setX (v' := v6) (fun i hi => nv6 i (by omega)) (by rw [nv6 2 (by decide)]; exact hI.bd.1) (by rw [gv6]; exact hI.bd.2.2.2.2.2.1 jm hjm)
  have hq9 : nul (w4.set 0 (cX a v6)) = nul w4 := nul_set (by decide)
  rw [← hw] at hP hD hF hI hq9
  clear hw
  have hn : nul w7 ≤ nul ws := by omega
  refine W.widen (k := Kc ws w7) (n := Ks ws w7) (by show 2 * (nul ws - nul w4) ≤ 2 * (nul ws - nul w7); omega) (by show 257 * (nul ws - nul w4) ≤ 257 * (nul ws - nul w7); omega) ?_
  refine lv_aload_n hx hb d_S_back_27 rfl (lv_at hl 0 rfl) ?_
  refine va_get (D := D) (ci := 5) (v := .ref (a 7)) (C := R_S) (T := F_S) (N := 10) hx hb hts ws_S hown hK hP 0 hI.x rfl 2 (by decide) (hts _ fl_S_25) (fun _ h9 => h9) rfl d_S_back_28 ?_
  refine lv_iload_n hx hb d_S_back_31 rfl (lv_at hl 1 rfl) ?_
  obtain ⟨gl, e7, g7⟩ := hI.l7
  refine va_aldq (D := D) hx hb hK hP 7 3 e7 rfl (i := x9) (by rw [hvm]; exact vp_in_nI hjm (by decide)) d_S_back_32 ?_
  refine W.eq (g2 := F0 m 33 ls [.ref (a (10 + 4 * jm))]) (by rw [show (x9 : Int32).toNatClampNeg = jm from by rw [hvm]; exact nI_clamp (by omega), g7 jm hjm]; rfl) ?_
  refine lv_aload_n hx hb d_S_back_33 rfl (lv_at hl 0 rfl) ?_
  refine va_get (D := D) (ci := 5) (v := .int (v6 3)) (C := R_S) (T := F_S) (N := 10) hx hb hts ws_S hown hK hP 0 hI.x rfl 8 (by decide) (hts _ fl_S_51) (fun _ h9 => h9) rfl d_S_back_34 ?_
  obtain ⟨P9, hP8, hP9⟩ := hI.bd.2.1
  refine mu_V (n := 1) (As := [.int (v6 3)]) (rest := []) ⟨hx, hb, hml, hown, hts⟩ (c_Z_lay (D := D) (t := t) (z := z) (sa := sa) (ws := w7) (j := jm) (bl := (v6 3)) (P9 := P9) hI hjm hP8 hP9) ml_S_137 im_Z_lay se_Z_lay in_Z cd_Z_lay (by decide +kernel) ⟨Nat.le_of_ble_eq_true rfl, Nat.le_of_ble_eq_true rfl⟩ (va_recv hK hP (ci := 4) rfl (hI.z hjm)) (Pz_at hP hK hD hz hM hS) rfl hl.1 rfl (Nat.le_of_ble_eq_true rfl) d_S_back_37 ⟨by show 2 * (nul ws - nul w7) + (2 * nul w7 + 1) ≤ 2 * nul ws + 1; omega, by show 257 * (nul ws - nul w7) + (257 * nul w7 + 6) ≤ 257 * nul ws + 6; omega⟩ hS (fun _ _ _ _ _ _ h => h.elim) (fun r9 u8 H locs hp hP hD hS => ?_)
  obtain ⟨v10, hI, hF9, hn9, hr9, nv10, -⟩ := hp
  subst hr9
  have hF := hF.trans hF9
  have hn : nul u8 ≤ nul ws := by omega
  refine W.widen (k := Kc ws u8) (n := Ks ws u8) (by show 2 * (nul ws - nul w7) + 2 * (nul w7 - nul u8) ≤ 2 * (nul ws - nul u8); omega) (by show 257 * (nul ws - nul w7) + 257 * (nul w7 - nul u8) ≤ 257 * (nul ws - nul u8); omega) ?_
  refine W.eq (g2 := F0 m 40 ls []) rfl ?_
  refine mu_end (u := u8) (v := (none)) ⟨rfl, ⟨_, _, hI, hF, hn, hc1.eq (by rw [nv10 0 (by omega), nv6 0 (by omega), nv3 0 (by omega)]) (by rw [nv10 6 (by omega), nv6 6 (by omega), nv3 6 (by omega)])⟩⟩ (Nat.le_refl _) (Nat.le_refl _) ?_
  exact W.vret hx hb hr (fun t9 ht hW => ⟨rfl, ⟨by rw [ht]; exact hP, va_K.moved hW.alike hK, hD, by rw [ht]; exact Nat.le_trans hz hS.1⟩, hS.F ht⟩) hS.2.2 d_S_back_40
end
section
/-- bytes of a page, none of them the journal's first -/
def Br (a : Nat → Nat) (t : Nat → ClassId) (k0 : Nat) (v : Nat → Int32) (ws : va_W) : Option Value → va_W → Prop := fun r u =>
  ∃ (c k' : Nat) (f : Nat → Int32), r = some (.ref c) ∧ 42 ≤ k' ∧ u[k']? = some (cA t c f) ∧ k' ≠ k0 ∧ Iv a t k0 v u ∧ Fr t ws u ∧ nul u ≤ nul ws
theorem cp_im : Cond.native arraycopyName ∈ WS := by decide +kernel
theorem cp_st : Cond.static arraycopyName ∈ WS := by decide +kernel
set_option maxHeartbeats 4000000 in
set_option maxRecDepth 100000 in
theorem c_S_bytesOf {l : Launch} {D : va_G} {t : Nat → ClassId} {z : Nat} {sa : Nat → Nat} {ws : va_W} {a : Nat → Nat} {k0 : Nat} {v : Nat → Int32} {i : Nat} {x9 : Int32} (hI : Iv a t k0 v ws) (hi : i < 768) (hxi : x9 = nI i) : Mu l y_S_bytesOf (Cond.code y_S_bytesOf b_S_bytesOf 3 (some (.array .byte)) :: WS) ({ frames := 4, cells := 2 * nul ws + 1, slots := 257 * nul ws + 6, locals := 75 }) D t z sa ws [.ref (a 0), .int x9] (fun r u => Br a t k0 v ws r u) Xno (Kc ws) (Ks ws) := by
  refine mu_ofW (cc := b_S_bytesOf) (maxL := 3) (ret := (some (.array .byte))) (by decide) rfl ?_
  intro p e s m args below meth c s₁ B hml hno hv
  obtain ⟨rfl, ⟨hP, hK, hD, hz⟩, hM⟩ := hv
  have hx := B.exec
  have hb := B.bytes
  have hr := B.returns
  have hts : ∀ w ∈ WS, w.before [.ref (a 0), .int x9].toArray s = true := fun w h => atoms_spec B.pre w (List.mem_cons_of_mem _ h)
  have hown : s.vm.findClass R_S = some m.cls := findClass_of_methodNamed B.named
  have hlocks := B.notSynchronized
  have hA : ∀ q, s.heap.size ≤ q → Az z q := fun q h => Nat.le_trans hz h
  have hS : va_S (Az z) s.heap s.heap [] := va_S.rf
  have hF : Fr t ws ws := Fr.rf
  have hn : nul ws ≤ nul ws := Nat.le_refl _
  have hl := lv_entry ([.ref (a 0), .int x9]) (n := 3) (Nat.le_of_ble_eq_true rfl)
  rw [lg_entry_eq]
  generalize (lg_sl ([.ref (a 0), .int x9]) ++ List.replicate (3 - (lg_sl ([.ref (a 0), .int x9])).length) Slot.unset).toArray = ls at hl ⊢
  have hl : lv_has ls 3 [(0, .ref (a 0)), (1, .int x9)] := hl
  refine W.widen (k := Kc ws ws) (n := Ks ws ws) (Nat.zero_le _) (Nat.zero_le _) ?_
  refine lv_aload_n hx hb d_S_bytesOf_0 rfl (lv_at hl 0 rfl) ?_
  refine va_get (D := D) (ci := 5) (v := .int (v 2)) (C := R_S) (T := F_S) (N := 10) hx hb hts ws_S hown hK hP 0 hI.x rfl 7 (by decide) (hts _ fl_S_47) (fun _ h9 => h9) rfl d_S_bytesOf_1 ?_
  refine lv_istore_n (lv' := [(2, .int (v 2)), (0, .ref (a 0)), (1, .int x9)]) hx hb d_S_bytesOf_4 rfl hl (by decide) rfl (fun ls hl => ?_)
  obtain ⟨M9, hM1, hM2⟩ := hI.bd.1
  have key : ∀ (jn : Nat) (y : Int32) (H : Heap) (locs : List Loc) (ls : Array Slot), jn ≤ 6 → y = nI jn + (-1) → va_P D Cl ws H → va_S (Az z) s.heap H locs → lv_has ls 3 [(2, .int y), (0, .ref (a 0)), (1, .int x9)] → W p l e (headSpec (Cond.code y_S_bytesOf b_S_bytesOf 3 (some (.array .byte)) :: WS) ({ frames := 4, cells := 2 * nul ws + 1, slots := 257 * nul ws + 6, locals := 75 })).room s m [.ref (a 0), .int x9].toArray below meth c H locs (Kc ws ws) (Ks ws ws) (mu_MQ below D t z (fun r u => Br a t k0 v ws r u) Xno (Kc ws) (Ks ws) [.ref (a 0), .int x9].toArray s) (F0 m 5 ls []) := by
    intro jn
    induction jn with
    | zero =>
      intro y H locs ls _ hy hP hS hl
      refine lv_iload_n hx hb d_S_bytesOf_5 rfl (lv_at hl 0 rfl) ?_
      refine lv_if_lt (tgt := 39) hx hb d_S_bytesOf_6 rfl (fun _ => ?_) (fun h => absurd (by rw [hy]; decide) h)
      refine lv_aload_n hx hb d_S_bytesOf_39 rfl (lv_at hl 1 rfl) ?_
      refine va_get (D := D) (ci := 5) (v := .ref (a 1)) (C := R_S) (T := F_S) (N := 10) hx hb hts ws_S hown hK hP 0 hI.x rfl 0 (by decide) (hts _ fl_S_15) (fun _ h9 => h9) rfl d_S_bytesOf_40 ?_
      refine lv_iload_n hx hb d_S_bytesOf_43 rfl (lv_at hl 2 rfl) ?_
      refine mu_V (n := 1) (As := [.int x9]) (rest := []) ⟨hx, hb, hml, hown, hts⟩ (c_Y_block_f (D := D) (t := t) (z := z) (sa := sa) (ws := ws) (i := i) hI (show i < Nn 3 from hi) hxi) ml_S_188 im_Y_block se_Y_block in_Y cd_Y_block (by decide +kernel) ⟨Nat.le_of_ble_eq_true rfl, Nat.le_of_ble_eq_true rfl⟩ (va_recv hK hP (ci := 3) rfl hI.y1) (Pz_at hP hK hD hz hM hS) rfl hl.1 rfl (Nat.le_of_ble_eq_true rfl) d_S_bytesOf_44 ⟨by show 2 * (nul ws - nul ws) + (2 * nul ws + 1) ≤ 2 * nul ws + 1; omega, by show 257 * (nul ws - nul ws) + (257 * nul ws + 6) ≤ 257 * nul ws + 6; omega⟩ hS (fun _ _ _ _ _ _ h => h.elim) (fun r9 u1 H locs hp hP hD hS => ?_)
      obtain ⟨c2, j3, k4, f5, hr9, h42c2, hcc2, hsp, hI, hF9, hn9, hj9, -⟩ := hp
      have hk1 : k4 = k0 := hj9 (Or.inr (fun h => by have h9 := h.1; omega))
      rw [hk1] at hI hsp
      subst hr9
      have hF := hF.trans hF9
      have hnec2 : j3 ≠ k0 := fun h => by have h9 := (hsp.mp h).1; omega
      have hn : nul u1 ≤ nul ws := by omega
      refine W.widen (k := Kc ws u1) (n := Ks ws u1) (by show 2 * (nul ws - nul ws) + 2 * (nul ws - nul u1) ≤ 2 * (nul ws - nul u1); omega) (by show 257 * (nul ws - nul ws) + 257 * (nul ws - nul u1) ≤ 257 * (nul ws - nul u1); omega) ?_
      refine W.eq (g2 := F0 m 47 ls [.ref c2]) rfl ?_
      refine mu_end (u := u1) (v := (some (.ref c2))) ⟨_, _, _, rfl, h42c2, hcc2, hnec2, hI, hF, hn⟩ (Nat.le_refl _) (Nat.le_refl _) ?_
      exact W.aret (v := .ref c2) (rt := .array .byte) hx hb hr (Or.inr ⟨_, rfl⟩) (Or.inr ⟨_, rfl⟩) (fun t9 ht hW => ⟨rfl, ⟨by rw [ht]; exact hP, va_K.moved hW.alike hK, hD, by rw [ht]; exact Nat.le_trans hz hS.1⟩, hS.F ht⟩) hS.2.2 d_S_bytesOf_47
    | succ jn ih =>
      intro y H locs ls hle hy hP hS hl
      have hy : y = nI jn := by rw [hy]; exact pk_m1 jn
      have hjn : jn < 6 := by omega
      refine lv_iload_n hx hb d_S_bytesOf_5 rfl (lv_at hl 0 rfl) ?_
      refine lv_if_lt (tgt := 39) hx hb d_S_bytesOf_6 rfl (fun h => absurd h (by rw [hy]; exact nI_pos (by omega))) (fun _ => ?_)
      refine lv_aload_n hx hb d_S_bytesOf_9 rfl (lv_at hl 1 rfl) ?_
      refine va_get (D := D) (ci := 5) (v := .ref (a 7)) (C := R_S) (T := F_S) (N := 10) hx hb hts ws_S hown hK hP 0 hI.x rfl 2 (by decide) (hts _ fl_S_25) (fun _ h9 => h9) rfl d_S_bytesOf_10 ?_
      refine lv_iload_n hx hb d_S_bytesOf_13 rfl (lv_at hl 0 rfl) ?_
      obtain ⟨gl, e7, g7⟩ := hI.l7
      refine va_aldq (D := D) hx hb hK hP 7 3 e7 rfl (i := y) (by rw [hy]; exact vp_in_nI hjn (by decide)) d_S_bytesOf_14 ?_
      refine W.eq (g2 := F0 m 15 ls [.ref (a (10 + 4 * jn))]) (by rw [show (y : Int32).toNatClampNeg = jn from by rw [hy]; exact nI_clamp (by omega), g7 jn hjn]; rfl) ?_
      refine lv_iload_n hx hb d_S_bytesOf_15 rfl (lv_at hl 2 rfl) ?_
      refine mu_V (n := 1) (As := [.int x9]) (rest := []) ⟨hx, hb, hml, hown, hts⟩ (c_Z_holds (D := D) (t := t) (z := z) (sa := sa) (ws := ws) (j := jn) (i := i) hI hjn hi hxi) ml_S_183 im_Z_holds se_Z_holds in_Z cd_Z_holds (by decide +kernel) ⟨Nat.le_of_ble_eq_true rfl, Nat.le_of_ble_eq_true rfl⟩ (va_recv hK hP (ci := 4) rfl (hI.z hjn)) (Pz_at hP hK hD hz hM hS) rfl hl.1 rfl (Nat.le_of_ble_eq_true rfl) d_S_bytesOf_16 ⟨by show 2 * (nul ws - nul ws) + (2 * nul ws + 1) ≤ 2 * nul ws + 1; omega, by show 257 * (nul ws - nul ws) + (257 * nul ws + 6) ≤ 257 * nul ws + 6; omega⟩ hS (fun _ _ _ _ _ _ h => h.elim) (fun r9 u6 H locs hp hP hD hS => ?_)
      obtain ⟨yh, hr9, hw9, hb01⟩ := hp
      rw [hw9] at hP hD
      subst hr9
      refine W.widen (k := Kc ws ws) (n := Ks ws ws) (by rw [hw9]; show 2 * (nul ws - nul ws) + 2 * (nul ws - nul ws) ≤ 2 * (nul ws - nul ws); omega) (by rw [hw9]; show 257 * (nul ws - nul ws) + 257 * (nul ws - nul ws) ≤ 257 * (nul ws - nul ws); omega) ?_
      clear hw9
      refine W.eq (g2 := F0 m 19 ls [.int yh]) rfl ?_
      refine lv_if_eq (tgt := 33) hx hb d_S_bytesOf_19 rfl (fun q7 => ?_) (fun q7 => ?_)
      · skip
        refine lv_iinc (k := 0) (v := y + (-1)) (lv' := [(2, .int (y + (-1))), (0, .ref (a 0)), (1, .int x9)]) hx hb d_S_bytesOf_33 hl rfl rfl (by decide) rfl (fun ls hl => ?_)
        refine lv_goto (tgt := 5) hx hb d_S_bytesOf_36 rfl ?_
        exact ih _ H locs ls (by omega) (by rw [hy]) hP hS hl
      · skip
        refine lv_aload_n hx hb d_S_bytesOf_22 rfl (lv_at hl 1 rfl) ?_
        refine va_get (D := D) (ci := 5) (v := .ref (a 7)) (C := R_S) (T := F_S) (N := 10) hx hb hts ws_S hown hK hP 0 hI.x rfl 2 (by decide) (hts _ fl_S_25) (fun _ h9 => h9) rfl d_S_bytesOf_23 ?_
        refine lv_iload_n hx hb d_S_bytesOf_26 rfl (lv_at hl 0 rfl) ?_
        obtain ⟨gl, e7, g7⟩ := hI.l7
        refine va_aldq (D := D) hx hb hK hP 7 3 e7 rfl (i := y) (by rw [hy]; exact vp_in_nI hjn (by decide)) d_S_bytesOf_27 ?_
        refine W.eq (g2 := F0 m 28 ls [.ref (a (10 + 4 * jn))]) (by rw [show (y : Int32).toNatClampNeg = jn from by rw [hy]; exact nI_clamp (by omega), g7 jn hjn]; rfl) ?_
        refine lv_iload_n hx hb d_S_bytesOf_28 rfl (lv_at hl 2 rfl) ?_
        refine mu_V (n := 1) (As := [.int x9]) (rest := []) ⟨hx, hb, hml, hown, hts⟩ (c_Z_bytesOf (D := D) (t := t) (z := z) (sa := sa) (ws := ws) (j := jn) (i := i) hI hjn (by rw [Nn_j]; exact hi) hxi) ml_S_187 im_Z_bytesOf se_Z_bytesOf in_Z cd_Z_bytesOf (by decide +kernel) ⟨Nat.le_of_ble_eq_true rfl, Nat.le_of_ble_eq_true rfl⟩ (va_recv hK hP (ci := 4) rfl (hI.z hjn)) (Pz_at hP hK hD hz hM hS) rfl hl.1 rfl (Nat.le_of_ble_eq_true rfl) d_S_bytesOf_29 ⟨by show 2 * (nul ws - nul ws) + (2 * nul ws + 1) ≤ 2 * nul ws + 1; omega, by show 257 * (nul ws - nul ws) + (257 * nul ws + 6) ≤ 257 * nul ws + 6; omega⟩ hS (fun _ _ _ _ _ _ h => h.elim) (fun r9 u8 H locs hp hP hD hS => ?_)
        obtain ⟨c10, j11, k12, f13, hr9, h42c10, hcc10, hsp, hI, hF9, hn9, hj9, -⟩ := hp
        have hk1 : k12 = k0 := hj9 (Or.inr (fun h => by have h9 := h.1; omega))
        rw [hk1] at hI hsp
        subst hr9
        have hF := hF.trans hF9
        have hnec10 : j11 ≠ k0 := fun h => by have h9 := (hsp.mp h).1; omega
        have hn : nul u8 ≤ nul ws := by omega
        refine W.widen (k := Kc ws u8) (n := Ks ws u8) (by show 2 * (nul ws - nul ws) + 2 * (nul ws - nul u8) ≤ 2 * (nul ws - nul u8); omega) (by show 257 * (nul ws - nul ws) + 257 * (nul ws - nul u8) ≤ 257 * (nul ws - nul u8); omega) ?_
        refine W.eq (g2 := F0 m 32 ls [.ref c10]) rfl ?_
        refine mu_end (u := u8) (v := (some (.ref c10))) ⟨_, _, _, rfl, h42c10, hcc10, hnec10, hI, hF, hn⟩ (Nat.le_refl _) (Nat.le_refl _) ?_
        exact W.aret (v := .ref c10) (rt := .array .byte) hx hb hr (Or.inr ⟨_, rfl⟩) (Or.inr ⟨_, rfl⟩) (fun t9 ht hW => ⟨rfl, ⟨by rw [ht]; exact hP, va_K.moved hW.alike hK, hD, by rw [ht]; exact Nat.le_trans hz hS.1⟩, hS.F ht⟩) hS.2.2 d_S_bytesOf_32
  exact key (M9 + 1) _ _ _ _ (by omega) (by rw [pk_m1]; exact hM2) hP hS hl
set_option maxHeartbeats 4000000 in
set_option maxRecDepth 100000 in
theorem c_S_bytesToChange {l : Launch} {D : va_G} {t : Nat → ClassId} {z : Nat} {sa : Nat → Nat} {ws : va_W} {a : Nat → Nat} {k0 : Nat} {v : Nat → Int32} {i : Nat} {x9 : Int32} (hI : Iv a t k0 v ws) (hi : i < 768) (hxi : x9 = nI i) : Mu l y_S_bytesToChange (Cond.code y_S_bytesToChange b_S_bytesToChange 4 (some (.array .byte)) :: WS) ({ frames := 5, cells := 2 * nul ws + 1, slots := 257 * nul ws + 6, locals := 97 }) D t z sa ws [.ref (a 0), .int x9] (fun r u => Br a t k0 v ws r u) Xno (Kc ws) (Ks ws) := by
  refine mu_ofW (cc := b_S_bytesToChange) (maxL := 4) (ret := (some (.array .byte))) (by decide) rfl ?_
  intro p e s m args below meth c s₁ B hml hno hv
  obtain ⟨rfl, ⟨hP, hK, hD, hz⟩, hM⟩ := hv
  have hx := B.exec
  have hb := B.bytes
  have hr := B.returns
  have hts : ∀ w ∈ WS, w.before [.ref (a 0), .int x9].toArray s = true := fun w h => atoms_spec B.pre w (List.mem_cons_of_mem _ h)
  have hown : s.vm.findClass R_S = some m.cls := findClass_of_methodNamed B.named
  have hlocks := B.notSynchronized
  have hA : ∀ q, s.heap.size ≤ q → Az z q := fun q h => Nat.le_trans hz h
  have hS : va_S (Az z) s.heap s.heap [] := va_S.rf
  have hF : Fr t ws ws := Fr.rf
  have hn : nul ws ≤ nul ws := Nat.le_refl _
  have hl := lv_entry ([.ref (a 0), .int x9]) (n := 4) (Nat.le_of_ble_eq_true rfl)
  rw [lg_entry_eq]
  generalize (lg_sl ([.ref (a 0), .int x9]) ++ List.replicate (4 - (lg_sl ([.ref (a 0), .int x9])).length) Slot.unset).toArray = ls at hl ⊢
  have hl : lv_has ls 4 [(0, .ref (a 0)), (1, .int x9)] := hl
  refine W.widen (k := Kc ws ws) (n := Ks ws ws) (Nat.zero_le _) (Nat.zero_le _) ?_
  refine lv_aload_n hx hb d_S_bytesToChange_0 rfl (lv_at hl 0 rfl) ?_
  refine va_get (D := D) (ci := 5) (v := .ref (a 7)) (C := R_S) (T := F_S) (N := 10) hx hb hts ws_S hown hK hP 0 hI.x rfl 2 (by decide) (hts _ fl_S_25) (fun _ h9 => h9) rfl d_S_bytesToChange_1 ?_
  refine lv_aload_n hx hb d_S_bytesToChange_4 rfl (lv_at hl 0 rfl) ?_
  refine va_get (D := D) (ci := 5) (v := .int (v 2)) (C := R_S) (T := F_S) (N := 10) hx hb hts ws_S hown hK hP 0 hI.x rfl 7 (by decide) (hts _ fl_S_47) (fun _ h9 => h9) rfl d_S_bytesToChange_5 ?_
  obtain ⟨jm, hM1, hM2⟩ := hI.bd.1
  have hjm : jm < 6 := by omega
  obtain ⟨gl, e7, g7⟩ := hI.l7
  refine va_aldq (D := D) hx hb hK hP 7 3 e7 rfl (i := (v 2)) (by rw [hM2]; exact vp_in_nI hjm (by decide)) d_S_bytesToChange_8 ?_
  refine W.eq (g2 := F0 m 9 ls [.ref (a (10 + 4 * jm))]) (by rw [show (v 2).toNatClampNeg = jm from by rw [hM2]; exact nI_clamp (by omega), g7 jm hjm]; rfl) ?_
  refine lv_astore_n (lv' := [(2, .ref (a (10 + 4 * jm))), (0, .ref (a 0)), (1, .int x9)]) hx hb d_S_bytesToChange_9 rfl hl (by decide) rfl (fun ls hl => ?_)
  refine lv_aload_n hx hb d_S_bytesToChange_10 rfl (lv_at hl 0 rfl) ?_
  refine lv_iload_n hx hb d_S_bytesToChange_11 rfl (lv_at hl 2 rfl) ?_
  refine mu_V (n := 1) (As := [.int x9]) (rest := []) ⟨hx, hb, hml, hown, hts⟩ (c_Z_holds (D := D) (t := t) (z := z) (sa := sa) (ws := ws) (j := jm) (i := i) hI hjm hi hxi) ml_S_183 im_Z_holds se_Z_holds in_Z cd_Z_holds (by decide +kernel) ⟨Nat.le_of_ble_eq_true rfl, Nat.le_of_ble_eq_true rfl⟩ (va_recv hK hP (ci := 4) rfl (hI.z hjm)) (Pz_at hP hK hD hz hM hS) rfl hl.1 rfl (Nat.le_of_ble_eq_true rfl) d_S_bytesToChange_12 ⟨by show 2 * (nul ws - nul ws) + (2 * nul ws + 1) ≤ 2 * nul ws + 1; omega, by show 257 * (nul ws - nul ws) + (257 * nul ws + 6) ≤ 257 * nul ws + 6; omega⟩ hS (fun _ _ _ _ _ _ h => h.elim) (fun r9 u1 H locs hp hP hD hS => ?_)
  obtain ⟨yh, hr9, hw9, hb01⟩ := hp
  rw [hw9] at hP hD
  subst hr9
  refine W.widen (k := Kc ws ws) (n := Ks ws ws) (by rw [hw9]; show 2 * (nul ws - nul ws) + 2 * (nul ws - nul ws) ≤ 2 * (nul ws - nul ws); omega) (by rw [hw9]; show 257 * (nul ws - nul ws) + 257 * (nul ws - nul ws) ≤ 257 * (nul ws - nul ws); omega) ?_
  clear hw9
  refine W.eq (g2 := F0 m 15 ls [.int yh]) rfl ?_
  refine lv_if_ne (tgt := 38) hx hb d_S_bytesToChange_15 rfl (fun q2 => ?_) (fun q2 => ?_)
  · skip
    refine lv_aload_n hx hb d_S_bytesToChange_38 rfl (lv_at hl 0 rfl) ?_
    refine lv_iload_n hx hb d_S_bytesToChange_39 rfl (lv_at hl 2 rfl) ?_
    refine mu_V (n := 1) (As := [.int x9]) (rest := []) ⟨hx, hb, hml, hown, hts⟩ (c_Z_bytesOf (D := D) (t := t) (z := z) (sa := sa) (ws := ws) (j := jm) (i := i) hI hjm (by rw [Nn_j]; exact hi) hxi) ml_S_187 im_Z_bytesOf se_Z_bytesOf in_Z cd_Z_bytesOf (by decide +kernel) ⟨Nat.le_of_ble_eq_true rfl, Nat.le_of_ble_eq_true rfl⟩ (va_recv hK hP (ci := 4) rfl (hI.z hjm)) (Pz_at hP hK hD hz hM hS) rfl hl.1 rfl (Nat.le_of_ble_eq_true rfl) d_S_bytesToChange_40 ⟨by show 2 * (nul ws - nul ws) + (2 * nul ws + 1) ≤ 2 * nul ws + 1; omega, by show 257 * (nul ws - nul ws) + (257 * nul ws + 6) ≤ 257 * nul ws + 6; omega⟩ hS (fun _ _ _ _ _ _ h => h.elim) (fun r9 u3 H locs hp hP hD hS => ?_)
    obtain ⟨c4, j5, k6, f7, hr9, h42c4, hcc4, hsp, hI, hF9, hn9, hj9, -⟩ := hp
    have hk1 : k6 = k0 := hj9 (Or.inr (fun h => by have h9 := h.1; omega))
    rw [hk1] at hI hsp
    subst hr9
    have hF := hF.trans hF9
    have hnec4 : j5 ≠ k0 := fun h => by have h9 := (hsp.mp h).1; omega
    have hn : nul u3 ≤ nul ws := by omega
    refine W.widen (k := Kc ws u3) (n := Ks ws u3) (by show 2 * (nul ws - nul ws) + 2 * (nul ws - nul u3) ≤ 2 * (nul ws - nul u3); omega) (by show 257 * (nul ws - nul ws) + 257 * (nul ws - nul u3) ≤ 257 * (nul ws - nul u3); omega) ?_
    refine W.eq (g2 := F0 m 43 ls [.ref c4]) rfl ?_
    refine mu_end (u := u3) (v := (some (.ref c4))) ⟨_, _, _, rfl, h42c4, hcc4, hnec4, hI, hF, hn⟩ (Nat.le_refl _) (Nat.le_refl _) ?_
    exact W.aret (v := .ref c4) (rt := .array .byte) hx hb hr (Or.inr ⟨_, rfl⟩) (Or.inr ⟨_, rfl⟩) (fun t9 ht hW => ⟨rfl, ⟨by rw [ht]; exact hP, va_K.moved hW.alike hK, hD, by rw [ht]; exact Nat.le_trans hz hS.1⟩, hS.F ht⟩) hS.2.2 d_S_bytesToChange_43
  · skip
    refine lv_aload_n hx hb d_S_bytesToChange_18 rfl (lv_at hl 1 rfl) ?_
    refine lv_iload_n hx hb d_S_bytesToChange_19 rfl (lv_at hl 2 rfl) ?_
    refine mu_V (n := 1) (As := [.int x9]) (rest := []) ⟨hx, hb, hml, hown, hts⟩ (c_S_bytesOf (D := D) (t := t) (z := z) (sa := sa) (ws := ws) (i := i) hI hi hxi) ml_S_85 im_S_bytesOf se_S_bytesOf in_S cd_S_bytesOf (by decide +kernel) ⟨Nat.le_of_ble_eq_true rfl, Nat.le_of_ble_eq_true rfl⟩ (va_recv hK hP (ci := 5) rfl hI.x) (Pz_at hP hK hD hz hM hS) rfl hl.1 rfl (Nat.le_of_ble_eq_true rfl) d_S_bytesToChange_20 ⟨by show 2 * (nul ws - nul ws) + (2 * nul ws + 1) ≤ 2 * nul ws + 1; omega, by show 257 * (nul ws - nul ws) + (257 * nul ws + 6) ≤ 257 * nul ws + 6; omega⟩ hS (fun _ _ _ _ _ _ h => h.elim) (fun r9 u8 H locs hp hP hD hS => ?_)
    obtain ⟨c10, j11, f12, hr9, h42c10, hcc10, hnec10, hI, hF9, hn9⟩ := hp
    subst hr9
    have hF := hF.trans hF9
    have hn : nul u8 ≤ nul ws := by omega
    refine W.widen (k := Kc ws u8) (n := Ks ws u8) (by show 2 * (nul ws - nul ws) + 2 * (nul ws - nul u8) ≤ 2 * (nul ws - nul u8); omega) (by show 257 * (nul ws - nul ws) + 257 * (nul ws - nul u8) ≤ 257 * (nul ws - nul u8); omega) ?_
    refine W.eq (g2 := F0 m 23 ls [.ref c10]) rfl ?_
    refine lv_astore_n (lv' := [(3, .ref c10), (2, .ref (a (10 + 4 * jm))), (0, .ref (a 0)), (1, .int x9)]) hx hb d_S_bytesToChange_23 rfl hl (by decide) rfl (fun ls hl => ?_)
    refine lv_aload_n hx hb d_S_bytesToChange_24 rfl (lv_at hl 0 rfl) ?_
    refine lv_iconst (v := 0) hx hb d_S_bytesToChange_25 (by decide) ?_
    refine lv_aload_n hx hb d_S_bytesToChange_26 rfl (lv_at hl 1 rfl) ?_
    refine lv_iload_n hx hb d_S_bytesToChange_27 rfl (lv_at hl 3 rfl) ?_
    refine mu_V (n := 1) (As := [.int x9]) (rest := [.int 0, .ref c10]) ⟨hx, hb, hml, hown, hts⟩ (c_Z_hold (D := D) (t := t) (z := z) (sa := sa) (ws := u8) (j := jm) (i := i) hI hjm hi hxi) ml_S_71 im_Z_hold se_Z_hold in_Z cd_Z_hold (by decide +kernel) ⟨Nat.le_of_ble_eq_true rfl, Nat.le_of_ble_eq_true rfl⟩ (va_recv hK hP (ci := 4) rfl (hI.z hjm)) (Pz_at hP hK hD hz hM hS) rfl hl.1 rfl (Nat.le_of_ble_eq_true rfl) d_S_bytesToChange_28 ⟨by show 2 * (nul ws - nul u8) + (2 * nul u8 + 1) ≤ 2 * nul ws + 1; omega, by show 257 * (nul ws - nul u8) + (257 * nul u8 + 6) ≤ 257 * nul ws + 6; omega⟩ hS (fun _ _ _ _ _ _ h => h.elim) (fun r9 u13 H locs hp hP hD hS => ?_)
    obtain ⟨c14, j15, k16, f17, hr9, h42c14, hcc14, hsp, hI, hF9, hn9, hj9⟩ := hp
    have hk1 : k16 = k0 := hj9 (Or.inr (fun h => by have h9 := h.1; omega))
    rw [hk1] at hI hsp
    subst hr9
    have hF := hF.trans hF9
    have hnec14 : j15 ≠ k0 := fun h => by have h9 := (hsp.mp h).1; omega
    obtain ⟨f18, hcc10⟩ := hF9.2.2 j11 c10 256 f12 (Or.inr h42c10) hcc10
    have hn : nul u13 ≤ nul ws := by omega
    refine W.widen (k := Kc ws u13) (n := Ks ws u13) (by show 2 * (nul ws - nul u8) + 2 * (nul u8 - nul u13) ≤ 2 * (nul ws - nul u13); omega) (by show 257 * (nul ws - nul u8) + 257 * (nul u8 - nul u13) ≤ 257 * (nul ws - nul u13); omega) ?_
    refine W.eq (g2 := F0 m 31 ls [.ref c14, .int 0, .ref c10]) rfl ?_
    refine lv_iconst (v := 0) hx hb d_S_bytesToChange_31 (by decide) ?_
    refine lv_sipush (v := 256) hx hb d_S_bytesToChange_32 (by decide) ?_
    refine va_copyi (D := D) hx hb (hml.trans hl.1.symm) hown (hts _ ml_S_97) (hts _ cp_im) (hts _ cp_st) (hts _ in_System) hK hP hD hS j11 j15 0 0 (ty := .byte) hcc10 hcc14 rfl rfl rfl (sp := 0) (dp := 0) (n := 256) (by decide) (by decide) (by decide) (by decide) (by decide) (fun i9 _ => hI.bf j11 _ _ _ (Or.inr h42c10) hcc10 _) (Nat.le_of_ble_eq_true rfl) (Nat.le_of_ble_eq_true rfl) d_S_bytesToChange_35 (fun H locs hP hD hS => ?_)
    have hfn := sb_fitC (sp := (0 : Int32).toNatClampNeg) (dp := (0 : Int32).toNatClampNeg) (n := (256 : Int32).toNatClampNeg) (hI.bf j11 _ _ _ (Or.inr h42c10) hcc10) (hI.bf j15 _ _ _ (Or.inr h42c14) hcc14)
    obtain ⟨f19, hff19⟩ : ∃ q, q = va_cpy f18 f17 (0 : Int32).toNatClampNeg (0 : Int32).toNatClampNeg (256 : Int32).toNatClampNeg := ⟨_, rfl⟩
    rw [← hff19] at hP hD hfn
    obtain ⟨w20, hw⟩ : ∃ q, q = u13.set j15 (cA t c14 f19) := ⟨_, rfl⟩
    have hP : va_P D Cl (u13.set j15 (cA t c14 f19)) H := hP
    have hD : va_D (Az z) (u13.set j15 (cA t c14 f19)) := hD
    have hF : Fr t ws (u13.set j15 (cA t c14 f19)) := hF.setA hcc14 (Or.inr h42c14)
    have hI := hI.setB (f1 := f19) h42c14 hcc14 (fun h => absurd h hnec14) hfn
    have hq9 : nul (u13.set j15 (cA t c14 f19)) = nul u13 := nul_set (fun h => by have := mds_lt h; omega)
    rw [← hw] at hP hD hF hI hq9
    clear hw
    have hn : nul w20 ≤ nul ws := by omega
    refine W.widen (k := Kc ws w20) (n := Ks ws w20) (by show 2 * (nul ws - nul u13) ≤ 2 * (nul ws - nul w20); omega) (by show 257 * (nul ws - nul u13) ≤ 257 * (nul ws - nul w20); omega) ?_
    refine lv_aload_n hx hb d_S_bytesToChange_38 rfl (lv_at hl 1 rfl) ?_
    refine lv_iload_n hx hb d_S_bytesToChange_39 rfl (lv_at hl 3 rfl) ?_
    refine mu_V (n := 1) (As := [.int x9]) (rest := []) ⟨hx, hb, hml, hown, hts⟩ (c_Z_bytesOf (D := D) (t := t) (z := z) (sa := sa) (ws := w20) (j := jm) (i := i) hI hjm (by rw [Nn_j]; exact hi) hxi) ml_S_187 im_Z_bytesOf se_Z_bytesOf in_Z cd_Z_bytesOf (by decide +kernel) ⟨Nat.le_of_ble_eq_true rfl, Nat.le_of_ble_eq_true rfl⟩ (va_recv hK hP (ci := 4) rfl (hI.z hjm)) (Pz_at hP hK hD hz hM hS) rfl hl.1 rfl (Nat.le_of_ble_eq_true rfl) d_S_bytesToChange_40 ⟨by show 2 * (nul ws - nul w20) + (2 * nul w20 + 1) ≤ 2 * nul ws + 1; omega, by show 257 * (nul ws - nul w20) + (257 * nul w20 + 6) ≤ 257 * nul ws + 6; omega⟩ hS (fun _ _ _ _ _ _ h => h.elim) (fun r9 u21 H locs hp hP hD hS => ?_)
    obtain ⟨c22, j23, k24, f25, hr9, h42c22, hcc22, hsp, hI, hF9, hn9, hj9, -⟩ := hp
    have hk1 : k24 = k0 := hj9 (Or.inr (fun h => by have h9 := h.1; omega))
    rw [hk1] at hI hsp
    subst hr9
    have hF := hF.trans hF9
    have hnec22 : j23 ≠ k0 := fun h => by have h9 := (hsp.mp h).1; omega
    have hn : nul u21 ≤ nul ws := by omega
    refine W.widen (k := Kc ws u21) (n := Ks ws u21) (by show 2 * (nul ws - nul w20) + 2 * (nul w20 - nul u21) ≤ 2 * (nul ws - nul u21); omega) (by show 257 * (nul ws - nul w20) + 257 * (nul w20 - nul u21) ≤ 257 * (nul ws - nul u21); omega) ?_
    refine W.eq (g2 := F0 m 43 ls [.ref c22]) rfl ?_
    refine mu_end (u := u21) (v := (some (.ref c22))) ⟨_, _, _, rfl, h42c22, hcc22, hnec22, hI, hF, hn⟩ (Nat.le_refl _) (Nat.le_refl _) ?_
    exact W.aret (v := .ref c22) (rt := .array .byte) hx hb hr (Or.inr ⟨_, rfl⟩) (Or.inr ⟨_, rfl⟩) (fun t9 ht hW => ⟨rfl, ⟨by rw [ht]; exact hP, va_K.moved hW.alike hK, hD, by rw [ht]; exact Nat.le_trans hz hS.1⟩, hS.F ht⟩) hS.2.2 d_S_bytesToChange_43
end
section
theorem pg_nat {x : Int32} {v : Nat → Int32} (hb : Bd v) (h1 : ¬ x < 0) (h2 : x < v 3) : ∃ i : Nat, i < 768 ∧ x = nI i := by
  obtain ⟨C, hC, e⟩ := hb.2.1
  obtain ⟨i, hi, rfl⟩ := nI_of h1
  rw [e] at h2
  have := (nI_ltI hi (by omega)).mp h2
  exact ⟨i, by omega, rfl⟩
theorem at_nat {y : Int32} (h1 : ¬ y < 0) (h2 : y < 256) : ∃ i : Nat, i < 256 ∧ y = nI i := by
  obtain ⟨i, hi, rfl⟩ := nI_of h1
  exact ⟨i, (nI_ltI (b := 256) hi (by decide)).mp h2, rfl⟩
theorem span_nat {x y : Int32} (h1 : ¬ y < 0) (h2 : ¬ x < 0) (h3 : x ≤ 256 - y) : ∃ i n : Nat, x = nI i ∧ y = nI n ∧ i + n ≤ 256 := by
  obtain ⟨n, hn, rfl⟩ := nI_of h1
  obtain ⟨i, hi, rfl⟩ := nI_of h2
  refine ⟨i, n, rfl, rfl, ?_⟩
  have e : ((256 : Int32) - nI n).toInt = 256 - (n : Int) := by
    have e0 : (256 : Int32).toInt = 256 := by decide
    rw [Int32.toInt_sub, nI_toInt hn, e0]
    first | exact Int.bmod_eq_of_le (by omega) (by omega) | (simp [Int.bmod]; omega)
  rw [Int32.le_iff_toInt_le, e, nI_toInt hi] at h3
  omega
theorem bfit (x : Int32) : fits .byte (.int (vp_nar .byte x)) = true := by rw [vp_nar_byte]; exact pk_fb x
set_option maxHeartbeats 4000000 in
set_option maxRecDepth 100000 in
theorem c_S_requireSpan {l : Launch} {D : va_G} {t : Nat → ClassId} {z : Nat} {sa : Nat → Nat} {ws : va_W} {a : Nat → Nat} {k0 : Nat} {v : Nat → Int32} {x9 y9 : Int32} (hl0 : l.stackTraces = false) (hI : Iv a t k0 v ws)  : Mu l y_S_requireSpan (Cond.code y_S_requireSpan b_S_requireSpan 3 (.none : Option Jvm.ClassFile.FieldType) :: WS) ({ frames := 6, cells := 2 * nul ws + 1, slots := 257 * nul ws + 6, locals := 82 }) D t z sa ws [.ref (a 0), .int x9, .int y9] (fun r u => r = none ∧ u = ws ∧ ¬ y9 < 0 ∧ ¬ x9 < 0 ∧ x9 ≤ 256 - y9) (fun E u => (E = xIOB) ∧ u = ws) (Kc ws) (Ks ws) := by
  refine mu_ofW (cc := b_S_requireSpan) (maxL := 3) (ret := (.none : Option Jvm.ClassFile.FieldType)) (by decide) rfl ?_
  intro p e s m args below meth c s₁ B hml hno hv
  obtain ⟨rfl, ⟨hP, hK, hD, hz⟩, hM⟩ := hv
  have hx := B.exec
  have hb := B.bytes
  have hr := B.returns
  have hts : ∀ w ∈ WS, w.before [.ref (a 0), .int x9, .int y9].toArray s = true := fun w h => atoms_spec B.pre w (List.mem_cons_of_mem _ h)
  have hown : s.vm.findClass R_S = some m.cls := findClass_of_methodNamed B.named
  have hlocks := B.notSynchronized
  have hA : ∀ q, s.heap.size ≤ q → Az z q := fun q h => Nat.le_trans hz h
  have hS : va_S (Az z) s.heap s.heap [] := va_S.rf
  have hF : Fr t ws ws := Fr.rf
  have hn : nul ws ≤ nul ws := Nat.le_refl _
  have hl := lv_entry ([.ref (a 0), .int x9, .int y9]) (n := 3) (Nat.le_of_ble_eq_true rfl)
  rw [lg_entry_eq]
  generalize (lg_sl ([.ref (a 0), .int x9, .int y9]) ++ List.replicate (3 - (lg_sl ([.ref (a 0), .int x9, .int y9])).length) Slot.unset).toArray = ls at hl ⊢
  have hl : lv_has ls 3 [(0, .ref (a 0)), (1, .int x9), (2, .int y9)] := hl
  refine W.widen (k := Kc ws ws) (n := Ks ws ws) (Nat.zero_le _) (Nat.zero_le _) ?_
  refine lv_iload_n hx hb d_S_requireSpan_0 rfl (lv_at hl 2 rfl) ?_
  refine lv_if_lt (tgt := 17) hx hb d_S_requireSpan_1 rfl (fun q1 => ?_) (fun q1 => ?_)
  · skip
    exact mu_th (u := ws) hx hb hl0 hown hts hlocks hno hP hK hD hz hM hS (hl.1.trans hml.symm) (site_172_179_176) d_S_requireSpan_17 d_S_requireSpan_20 d_S_requireSpan_21 d_S_requireSpan_23 d_S_requireSpan_26 (Nat.le_of_ble_eq_true rfl) (Nat.le_of_ble_eq_true rfl) (by show 2 * (nul ws - nul ws) + 1 ≤ 2 * nul ws + 1; omega) (by show 257 * (nul ws - nul ws) + 6 ≤ 257 * nul ws + 6; omega) (Nat.le_refl _) (Nat.le_refl _) ⟨rfl, rfl⟩
  · skip
    refine lv_iload_n hx hb d_S_requireSpan_4 rfl (lv_at hl 1 rfl) ?_
    refine lv_if_lt (tgt := 17) hx hb d_S_requireSpan_5 rfl (fun q2 => ?_) (fun q2 => ?_)
    · skip
      exact mu_th (u := ws) hx hb hl0 hown hts hlocks hno hP hK hD hz hM hS (hl.1.trans hml.symm) (site_172_179_176) d_S_requireSpan_17 d_S_requireSpan_20 d_S_requireSpan_21 d_S_requireSpan_23 d_S_requireSpan_26 (Nat.le_of_ble_eq_true rfl) (Nat.le_of_ble_eq_true rfl) (by show 2 * (nul ws - nul ws) + 1 ≤ 2 * nul ws + 1; omega) (by show 257 * (nul ws - nul ws) + 6 ≤ 257 * nul ws + 6; omega) (Nat.le_refl _) (Nat.le_refl _) ⟨rfl, rfl⟩
    · skip
      refine lv_iload_n hx hb d_S_requireSpan_8 rfl (lv_at hl 1 rfl) ?_
      refine lv_sipush (v := 256) hx hb d_S_requireSpan_9 (by decide) ?_
      refine lv_iload_n hx hb d_S_requireSpan_12 rfl (lv_at hl 2 rfl) ?_
      refine lv_isub hx hb d_S_requireSpan_13 ?_
      refine lv_topi (fun d9 hd9 => ?_)
      refine lv_icmp_le (tgt := 27) hx hb d_S_requireSpan_14 rfl (fun q3 => ?_) (fun q3 => ?_)
      · skip
        refine mu_end (u := ws) (v := (none)) ⟨rfl, rfl, ⟨by assumption, by assumption, by rw [← hd9]; assumption⟩⟩ (Nat.le_refl _) (Nat.le_refl _) ?_
        exact W.vret hx hb hr (fun t9 ht hW => ⟨rfl, ⟨by rw [ht]; exact hP, va_K.moved hW.alike hK, hD, by rw [ht]; exact Nat.le_trans hz hS.1⟩, hS.F ht⟩) hS.2.2 d_S_requireSpan_27
      · skip
        exact mu_th (u := ws) hx hb hl0 hown hts hlocks hno hP hK hD hz hM hS (hl.1.trans hml.symm) (site_172_179_176) d_S_requireSpan_17 d_S_requireSpan_20 d_S_requireSpan_21 d_S_requireSpan_23 d_S_requireSpan_26 (Nat.le_of_ble_eq_true rfl) (Nat.le_of_ble_eq_true rfl) (by show 2 * (nul ws - nul ws) + 1 ≤ 2 * nul ws + 1; omega) (by show 257 * (nul ws - nul ws) + 6 ≤ 257 * nul ws + 6; omega) (Nat.le_refl _) (Nat.le_refl _) ⟨rfl, rfl⟩
set_option maxHeartbeats 4000000 in
set_option maxRecDepth 100000 in
theorem c_S_get {l : Launch} {D : va_G} {t : Nat → ClassId} {z : Nat} {sa : Nat → Nat} {ws : va_W} {a : Nat → Nat} {k0 : Nat} {v : Nat → Int32} {x9 y9 : Int32} (hl0 : l.stackTraces = false) (hI : Iv a t k0 v ws) (hc1 : C1 v)  : Mu l y_S_get (Cond.code y_S_get b_S_get 3 (some .int) :: WS) ({ frames := 8, cells := 2 * nul ws + 1, slots := 257 * nul ws + 6, locals := 125 }) D t z sa ws [.ref (a 0), .int x9, .int y9] (fun r u => (∃ y, r = some (.int y)) ∧ So a t ws u) (fun E u => (E = xISE ∨ E = xIOB) ∧ u = ws) (Kc ws) (Ks ws) := by
  refine mu_ofW (cc := b_S_get) (maxL := 3) (ret := (some .int)) (by decide) rfl ?_
  intro p e s m args below meth c s₁ B hml hno hv
  obtain ⟨rfl, ⟨hP, hK, hD, hz⟩, hM⟩ := hv
  have hx := B.exec
  have hb := B.bytes
  have hr := B.returns
  have hts : ∀ w ∈ WS, w.before [.ref (a 0), .int x9, .int y9].toArray s = true := fun w h => atoms_spec B.pre w (List.mem_cons_of_mem _ h)
  have hown : s.vm.findClass R_S = some m.cls := findClass_of_methodNamed B.named
  have hlocks := B.notSynchronized
  have hA : ∀ q, s.heap.size ≤ q → Az z q := fun q h => Nat.le_trans hz h
  have hS : va_S (Az z) s.heap s.heap [] := va_S.rf
  have hF : Fr t ws ws := Fr.rf
  have hn : nul ws ≤ nul ws := Nat.le_refl _
  have hl := lv_entry ([.ref (a 0), .int x9, .int y9]) (n := 3) (Nat.le_of_ble_eq_true rfl)
  rw [lg_entry_eq]
  generalize (lg_sl ([.ref (a 0), .int x9, .int y9]) ++ List.replicate (3 - (lg_sl ([.ref (a 0), .int x9, .int y9])).length) Slot.unset).toArray = ls at hl ⊢
  have hl : lv_has ls 3 [(0, .ref (a 0)), (1, .int x9), (2, .int y9)] := hl
  refine W.widen (k := Kc ws ws) (n := Ks ws ws) (Nat.zero_le _) (Nat.zero_le _) ?_
  refine lv_aload_n hx hb d_S_get_0 rfl (lv_at hl 0 rfl) ?_
  refine mu_V (n := 0) (As := []) (rest := []) ⟨hx, hb, hml, hown, hts⟩ (c_S_requireOn (D := D) (t := t) (z := z) (sa := sa) (ws := ws)  hl0 hI ) ml_S_58 im_S_requireOn se_S_requireOn in_S cd_S_requireOn (by decide +kernel) ⟨Nat.le_of_ble_eq_true rfl, Nat.le_of_ble_eq_true rfl⟩ (va_recv hK hP (ci := 5) rfl hI.x) (Pz_at hP hK hD hz hM hS) rfl hl.1 rfl (Nat.le_of_ble_eq_true rfl) d_S_get_1 ⟨by show 2 * (nul ws - nul ws) + (2 * nul ws + 1) ≤ 2 * nul ws + 1; omega, by show 257 * (nul ws - nul ws) + (257 * nul ws + 6) ≤ 257 * nul ws + 6; omega⟩ hS (fun E ce q u H locs hxp hP hD hS h1 h2 h3 => by obtain ⟨hE, hu⟩ := hxp; rw [hu] at hP hD; exact mu_out (u := ws) hno hlocks h1 h2 h3 hP hK hD hz hS ⟨(by simp [hE]), rfl⟩ (by rw [hu]; show 2 * (nul ws - nul ws) + (2 * (nul ws - nul ws) + 1) ≤ 2 * (nul ws - nul ws) + 1; omega) (by rw [hu]; show 257 * (nul ws - nul ws) + (257 * (nul ws - nul ws) + 6) ≤ 257 * (nul ws - nul ws) + 6; omega)) (fun r9 u1 H locs hp hP hD hS => ?_)
  obtain ⟨hr9, hw9, h01⟩ := hp
  rw [hw9] at hP hD
  subst hr9
  refine W.widen (k := Kc ws ws) (n := Ks ws ws) (by rw [hw9]; show 2 * (nul ws - nul ws) + 2 * (nul ws - nul ws) ≤ 2 * (nul ws - nul ws); omega) (by rw [hw9]; show 257 * (nul ws - nul ws) + 257 * (nul ws - nul ws) ≤ 257 * (nul ws - nul ws); omega) ?_
  clear hw9
  refine W.eq (g2 := F0 m 4 ls []) rfl ?_
  refine lv_aload_n hx hb d_S_get_4 rfl (lv_at hl 0 rfl) ?_
  refine lv_iload_n hx hb d_S_get_5 rfl (lv_at hl 1 rfl) ?_
  refine lv_iload_n hx hb d_S_get_6 rfl (lv_at hl 2 rfl) ?_
  refine mu_V (n := 2) (As := [.int x9, .int y9]) (rest := []) ⟨hx, hb, hml, hown, hts⟩ (c_S_requireByte (D := D) (t := t) (z := z) (sa := sa) (ws := ws) (x9 := x9) (y9 := y9) hl0 hI ) ml_S_81 im_S_requireByte se_S_requireByte in_S cd_S_requireByte (by decide +kernel) ⟨Nat.le_of_ble_eq_true rfl, Nat.le_of_ble_eq_true rfl⟩ (va_recv hK hP (ci := 5) rfl hI.x) (Pz_at hP hK hD hz hM hS) rfl hl.1 rfl (Nat.le_of_ble_eq_true rfl) d_S_get_7 ⟨by show 2 * (nul ws - nul ws) + (2 * nul ws + 1) ≤ 2 * nul ws + 1; omega, by show 257 * (nul ws - nul ws) + (257 * nul ws + 6) ≤ 257 * nul ws + 6; omega⟩ hS (fun E ce q u H locs hxp hP hD hS h1 h2 h3 => by obtain ⟨hE, hu⟩ := hxp; rw [hu] at hP hD; exact mu_out (u := ws) hno hlocks h1 h2 h3 hP hK hD hz hS ⟨(by simp [hE]), rfl⟩ (by rw [hu]; show 2 * (nul ws - nul ws) + (2 * (nul ws - nul ws) + 1) ≤ 2 * (nul ws - nul ws) + 1; omega) (by rw [hu]; show 257 * (nul ws - nul ws) + (257 * (nul ws - nul ws) + 6) ≤ 257 * (nul ws - nul ws) + 6; omega)) (fun r9 u2 H locs hp hP hD hS => ?_)
  obtain ⟨hr9, hw9, h02⟩ := hp
  rw [hw9] at hP hD
  subst hr9
  refine W.widen (k := Kc ws ws) (n := Ks ws ws) (by rw [hw9]; show 2 * (nul ws - nul ws) + 2 * (nul ws - nul ws) ≤ 2 * (nul ws - nul ws); omega) (by rw [hw9]; show 257 * (nul ws - nul ws) + 257 * (nul ws - nul ws) ≤ 257 * (nul ws - nul ws); omega) ?_
  clear hw9
  refine W.eq (g2 := F0 m 10 ls []) rfl ?_
  obtain ⟨i, hi, hxi⟩ := pg_nat hI.bd h02.1.1 h02.1.2
  obtain ⟨iy, hiy, hyi⟩ := at_nat h02.2.1 h02.2.2
  refine lv_aload_n hx hb d_S_get_10 rfl (lv_at hl 0 rfl) ?_
  refine lv_iload_n hx hb d_S_get_11 rfl (lv_at hl 1 rfl) ?_
  refine mu_V (n := 1) (As := [.int x9]) (rest := []) ⟨hx, hb, hml, hown, hts⟩ (c_S_bytesOf (D := D) (t := t) (z := z) (sa := sa) (ws := ws) (i := i) hI hi hxi) ml_S_85 im_S_bytesOf se_S_bytesOf in_S cd_S_bytesOf (by decide +kernel) ⟨Nat.le_of_ble_eq_true rfl, Nat.le_of_ble_eq_true rfl⟩ (va_recv hK hP (ci := 5) rfl hI.x) (Pz_at hP hK hD hz hM hS) rfl hl.1 rfl (Nat.le_of_ble_eq_true rfl) d_S_get_12 ⟨by show 2 * (nul ws - nul ws) + (2 * nul ws + 1) ≤ 2 * nul ws + 1; omega, by show 257 * (nul ws - nul ws) + (257 * nul ws + 6) ≤ 257 * nul ws + 6; omega⟩ hS (fun _ _ _ _ _ _ h => h.elim) (fun r9 u3 H locs hp hP hD hS => ?_)
  obtain ⟨c4, j5, f6, hr9, h42c4, hcc4, hnec4, hI, hF9, hn9⟩ := hp
  subst hr9
  have hF := hF.trans hF9
  have hn : nul u3 ≤ nul ws := by omega
  refine W.widen (k := Kc ws u3) (n := Ks ws u3) (by show 2 * (nul ws - nul ws) + 2 * (nul ws - nul u3) ≤ 2 * (nul ws - nul u3); omega) (by show 257 * (nul ws - nul ws) + 257 * (nul ws - nul u3) ≤ 257 * (nul ws - nul u3); omega) ?_
  refine W.eq (g2 := F0 m 15 ls [.ref c4]) rfl ?_
  refine lv_iload_n hx hb d_S_get_15 rfl (lv_at hl 2 rfl) ?_
  refine va_bald (D := D) hx hb hK hP j5 0 hcc4 rfl (i := y9) (by rw [hyi]; exact vp_in_nI hiy (by decide)) d_S_get_16 ?_
  generalize f6 (y9 : Int32).toNatClampNeg = y7
  refine lv_sipush (v := 255) hx hb d_S_get_17 (by decide) ?_
  refine lv_iand hx hb d_S_get_20 ?_
  refine lv_topi (fun v8 hv8 => ?_)
  refine mu_end (u := u3) (v := (some (.int v8))) ⟨⟨_, rfl⟩, ⟨_, _, hI, hF, hn, hc1.eq rfl rfl⟩⟩ (Nat.le_refl _) (Nat.le_refl _) ?_
  exact W.iret (v := v8) hx hb hr (fun t9 ht hW => ⟨rfl, ⟨by rw [ht]; exact hP, va_K.moved hW.alike hK, hD, by rw [ht]; exact Nat.le_trans hz hS.1⟩, hS.F ht⟩) hS.2.2 d_S_get_21
set_option maxHeartbeats 4000000 in
set_option maxRecDepth 100000 in
theorem c_S_put {l : Launch} {D : va_G} {t : Nat → ClassId} {z : Nat} {sa : Nat → Nat} {ws : va_W} {a : Nat → Nat} {k0 : Nat} {v : Nat → Int32} {x9 y9 w9 : Int32} (hl0 : l.stackTraces = false) (hI : Iv a t k0 v ws) (hc1 : C1 v)  : Mu l y_S_put (Cond.code y_S_put b_S_put 6 (some .int) :: WS) ({ frames := 8, cells := 2 * nul ws + 1, slots := 257 * nul ws + 6, locals := 125 }) D t z sa ws [.ref (a 0), .int x9, .int y9, .int w9] (fun r u => (∃ y, r = some (.int y)) ∧ So a t ws u) (fun E u => (E = xISE ∨ E = xIOB) ∧ u = ws) (Kc ws) (Ks ws) := by
  refine mu_ofW (cc := b_S_put) (maxL := 6) (ret := (some .int)) (by decide) rfl ?_
  intro p e s m args below meth c s₁ B hml hno hv
  obtain ⟨rfl, ⟨hP, hK, hD, hz⟩, hM⟩ := hv
  have hx := B.exec
  have hb := B.bytes
  have hr := B.returns
  have hts : ∀ w ∈ WS, w.before [.ref (a 0), .int x9, .int y9, .int w9].toArray s = true := fun w h => atoms_spec B.pre w (List.mem_cons_of_mem _ h)
  have hown : s.vm.findClass R_S = some m.cls := findClass_of_methodNamed B.named
  have hlocks := B.notSynchronized
  have hA : ∀ q, s.heap.size ≤ q → Az z q := fun q h => Nat.le_trans hz h
  have hS : va_S (Az z) s.heap s.heap [] := va_S.rf
  have hF : Fr t ws ws := Fr.rf
  have hn : nul ws ≤ nul ws := Nat.le_refl _
  have hl := lv_entry ([.ref (a 0), .int x9, .int y9, .int w9]) (n := 6) (Nat.le_of_ble_eq_true rfl)
  rw [lg_entry_eq]
  generalize (lg_sl ([.ref (a 0), .int x9, .int y9, .int w9]) ++ List.replicate (6 - (lg_sl ([.ref (a 0), .int x9, .int y9, .int w9])).length) Slot.unset).toArray = ls at hl ⊢
  have hl : lv_has ls 6 [(0, .ref (a 0)), (1, .int x9), (2, .int y9), (3, .int w9)] := hl
  refine W.widen (k := Kc ws ws) (n := Ks ws ws) (Nat.zero_le _) (Nat.zero_le _) ?_
  refine lv_aload_n hx hb d_S_put_0 rfl (lv_at hl 0 rfl) ?_
  refine mu_V (n := 0) (As := []) (rest := []) ⟨hx, hb, hml, hown, hts⟩ (c_S_requireOpen (D := D) (t := t) (z := z) (sa := sa) (ws := ws)  hl0 hI ) ml_S_61 im_S_requireOpen se_S_requireOpen in_S cd_S_requireOpen (by decide +kernel) ⟨Nat.le_of_ble_eq_true rfl, Nat.le_of_ble_eq_true rfl⟩ (va_recv hK hP (ci := 5) rfl hI.x) (Pz_at hP hK hD hz hM hS) rfl hl.1 rfl (Nat.le_of_ble_eq_true rfl) d_S_put_1 ⟨by show 2 * (nul ws - nul ws) + (2 * nul ws + 1) ≤ 2 * nul ws + 1; omega, by show 257 * (nul ws - nul ws) + (257 * nul ws + 6) ≤ 257 * nul ws + 6; omega⟩ hS (fun E ce q u H locs hxp hP hD hS h1 h2 h3 => by obtain ⟨hE, hu⟩ := hxp; rw [hu] at hP hD; exact mu_out (u := ws) hno hlocks h1 h2 h3 hP hK hD hz hS ⟨(by simp [hE]), rfl⟩ (by rw [hu]; show 2 * (nul ws - nul ws) + (2 * (nul ws - nul ws) + 1) ≤ 2 * (nul ws - nul ws) + 1; omega) (by rw [hu]; show 257 * (nul ws - nul ws) + (257 * (nul ws - nul ws) + 6) ≤ 257 * (nul ws - nul ws) + 6; omega)) (fun r9 u1 H locs hp hP hD hS => ?_)
  obtain ⟨hr9, hw9, h01⟩ := hp
  rw [hw9] at hP hD
  subst hr9
  refine W.widen (k := Kc ws ws) (n := Ks ws ws) (by rw [hw9]; show 2 * (nul ws - nul ws) + 2 * (nul ws - nul ws) ≤ 2 * (nul ws - nul ws); omega) (by rw [hw9]; show 257 * (nul ws - nul ws) + 257 * (nul ws - nul ws) ≤ 257 * (nul ws - nul ws); omega) ?_
  clear hw9
  refine W.eq (g2 := F0 m 4 ls []) rfl ?_
  refine lv_aload_n hx hb d_S_put_4 rfl (lv_at hl 0 rfl) ?_
  refine lv_iload_n hx hb d_S_put_5 rfl (lv_at hl 1 rfl) ?_
  refine lv_iload_n hx hb d_S_put_6 rfl (lv_at hl 2 rfl) ?_
  refine mu_V (n := 2) (As := [.int x9, .int y9]) (rest := []) ⟨hx, hb, hml, hown, hts⟩ (c_S_requireByte (D := D) (t := t) (z := z) (sa := sa) (ws := ws) (x9 := x9) (y9 := y9) hl0 hI ) ml_S_81 im_S_requireByte se_S_requireByte in_S cd_S_requireByte (by decide +kernel) ⟨Nat.le_of_ble_eq_true rfl, Nat.le_of_ble_eq_true rfl⟩ (va_recv hK hP (ci := 5) rfl hI.x) (Pz_at hP hK hD hz hM hS) rfl hl.1 rfl (Nat.le_of_ble_eq_true rfl) d_S_put_7 ⟨by show 2 * (nul ws - nul ws) + (2 * nul ws + 1) ≤ 2 * nul ws + 1; omega, by show 257 * (nul ws - nul ws) + (257 * nul ws + 6) ≤ 257 * nul ws + 6; omega⟩ hS (fun E ce q u H locs hxp hP hD hS h1 h2 h3 => by obtain ⟨hE, hu⟩ := hxp; rw [hu] at hP hD; exact mu_out (u := ws) hno hlocks h1 h2 h3 hP hK hD hz hS ⟨(by simp [hE]), rfl⟩ (by rw [hu]; show 2 * (nul ws - nul ws) + (2 * (nul ws - nul ws) + 1) ≤ 2 * (nul ws - nul ws) + 1; omega) (by rw [hu]; show 257 * (nul ws - nul ws) + (257 * (nul ws - nul ws) + 6) ≤ 257 * (nul ws - nul ws) + 6; omega)) (fun r9 u2 H locs hp hP hD hS => ?_)
  obtain ⟨hr9, hw9, h02⟩ := hp
  rw [hw9] at hP hD
  subst hr9
  refine W.widen (k := Kc ws ws) (n := Ks ws ws) (by rw [hw9]; show 2 * (nul ws - nul ws) + 2 * (nul ws - nul ws) ≤ 2 * (nul ws - nul ws); omega) (by rw [hw9]; show 257 * (nul ws - nul ws) + 257 * (nul ws - nul ws) ≤ 257 * (nul ws - nul ws); omega) ?_
  clear hw9
  refine W.eq (g2 := F0 m 10 ls []) rfl ?_
  obtain ⟨i, hi, hxi⟩ := pg_nat hI.bd h02.1.1 h02.1.2
  obtain ⟨iy, hiy, hyi⟩ := at_nat h02.2.1 h02.2.2
  refine lv_aload_n hx hb d_S_put_10 rfl (lv_at hl 0 rfl) ?_
  refine lv_iload_n hx hb d_S_put_11 rfl (lv_at hl 1 rfl) ?_
  refine mu_V (n := 1) (As := [.int x9]) (rest := []) ⟨hx, hb, hml, hown, hts⟩ (c_S_bytesToChange (D := D) (t := t) (z := z) (sa := sa) (ws := ws) (i := i) hI hi hxi) ml_S_88 im_S_bytesToChange se_S_bytesToChange in_S cd_S_bytesToChange (by decide +kernel) ⟨Nat.le_of_ble_eq_true rfl, Nat.le_of_ble_eq_true rfl⟩ (va_recv hK hP (ci := 5) rfl hI.x) (Pz_at hP hK hD hz hM hS) rfl hl.1 rfl (Nat.le_of_ble_eq_true rfl) d_S_put_12 ⟨by show 2 * (nul ws - nul ws) + (2 * nul ws + 1) ≤ 2 * nul ws + 1; omega, by show 257 * (nul ws - nul ws) + (257 * nul ws + 6) ≤ 257 * nul ws + 6; omega⟩ hS (fun _ _ _ _ _ _ h => h.elim) (fun r9 u3 H locs hp hP hD hS => ?_)
  obtain ⟨c4, j5, f6, hr9, h42c4, hcc4, hnec4, hI, hF9, hn9⟩ := hp
  subst hr9
  have hF := hF.trans hF9
  have hn : nul u3 ≤ nul ws := by omega
  refine W.widen (k := Kc ws u3) (n := Ks ws u3) (by show 2 * (nul ws - nul ws) + 2 * (nul ws - nul u3) ≤ 2 * (nul ws - nul u3); omega) (by show 257 * (nul ws - nul ws) + 257 * (nul ws - nul u3) ≤ 257 * (nul ws - nul u3); omega) ?_
  refine W.eq (g2 := F0 m 15 ls [.ref c4]) rfl ?_
  refine lv_astore (lv' := [(4, .ref c4), (0, .ref (a 0)), (1, .int x9), (2, .int y9), (3, .int w9)]) hx hb d_S_put_15 hl (by decide) rfl (fun ls hl => ?_)
  refine lv_aload hx hb d_S_put_17 (lv_at hl 0 rfl) ?_
  refine lv_iload_n hx hb d_S_put_19 rfl (lv_at hl 3 rfl) ?_
  refine va_bald (D := D) hx hb hK hP j5 0 hcc4 rfl (i := y9) (by rw [hyi]; exact vp_in_nI hiy (by decide)) d_S_put_20 ?_
  generalize f6 (y9 : Int32).toNatClampNeg = y7
  refine lv_sipush (v := 255) hx hb d_S_put_21 (by decide) ?_
  refine lv_iand hx hb d_S_put_24 ?_
  refine lv_topi (fun v8 hv8 => ?_)
  refine lv_istore (lv' := [(5, .int v8), (4, .ref c4), (0, .ref (a 0)), (1, .int x9), (2, .int y9), (3, .int w9)]) hx hb d_S_put_25 hl (by decide) rfl (fun ls hl => ?_)
  refine lv_aload hx hb d_S_put_27 (lv_at hl 1 rfl) ?_
  refine lv_iload_n hx hb d_S_put_29 rfl (lv_at hl 4 rfl) ?_
  refine lv_iload_n hx hb d_S_put_30 rfl (lv_at hl 5 rfl) ?_
  refine lv_i2b hx hb d_S_put_31 rfl ?_
  refine lv_topi (fun y10 hy10 => ?_)
  refine va_bast (D := D) hx hb hK hP hD hS j5 0 hcc4 rfl (i := y9) (x := y10) (by rw [hyi]; exact vp_in_nI hiy (by decide)) d_S_put_32 (fun H locs hP hD hS => ?_)
  have hfn := sb_fitU (k := (y9 : Int32).toNatClampNeg) (hI.bf j5 _ _ _ (Or.inr h42c4) hcc4) (bfit y10)
  obtain ⟨f11, hff11⟩ : ∃ q, q = upd f6 (y9 : Int32).toNatClampNeg (vp_nar .byte y10) := ⟨_, rfl⟩
  rw [← hff11] at hP hD hfn
  obtain ⟨w12, hw⟩ : ∃ q, q = u3.set j5 (cA t c4 f11) := ⟨_, rfl⟩
  have hP : va_P D Cl (u3.set j5 (cA t c4 f11)) H := hP
  have hD : va_D (Az z) (u3.set j5 (cA t c4 f11)) := hD
  have hF : Fr t ws (u3.set j5 (cA t c4 f11)) := hF.setA hcc4 (Or.inr h42c4)
  have hI := hI.setB (f1 := f11) h42c4 hcc4 (fun h => absurd h hnec4) hfn
  have hq9 : nul (u3.set j5 (cA t c4 f11)) = nul u3 := nul_set (fun h => by have := mds_lt h; omega)
  rw [← hw] at hP hD hF hI hq9
  clear hw
  have hn : nul w12 ≤ nul ws := by omega
  refine W.widen (k := Kc ws w12) (n := Ks ws w12) (by show 2 * (nul ws - nul u3) ≤ 2 * (nul ws - nul w12); omega) (by show 257 * (nul ws - nul u3) ≤ 257 * (nul ws - nul w12); omega) ?_
  refine lv_iload hx hb d_S_put_33 (lv_at hl 0 rfl) ?_
  refine mu_end (u := w12) (v := (some (.int v8))) ⟨⟨_, rfl⟩, ⟨_, _, hI, hF, hn, hc1.eq rfl rfl⟩⟩ (Nat.le_refl _) (Nat.le_refl _) ?_
  exact W.iret (v := v8) hx hb hr (fun t9 ht hW => ⟨rfl, ⟨by rw [ht]; exact hP, va_K.moved hW.alike hK, hD, by rw [ht]; exact Nat.le_trans hz hS.1⟩, hS.F ht⟩) hS.2.2 d_S_put_35
set_option maxHeartbeats 4000000 in
set_option maxRecDepth 100000 in
theorem c_S_move {l : Launch} {D : va_G} {t : Nat → ClassId} {z : Nat} {sa : Nat → Nat} {ws : va_W} {a : Nat → Nat} {k0 : Nat} {v : Nat → Int32} {p9 f9 q9 t9 n9 : Int32} (hl0 : l.stackTraces = false) (hI : Iv a t k0 v ws) (hc1 : C1 v)  : Mu l y_S_move (Cond.code y_S_move b_S_move 7 (.none : Option Jvm.ClassFile.FieldType) :: WS) ({ frames := 8, cells := 2 * nul ws + 1, slots := 257 * nul ws + 6, locals := 122 }) D t z sa ws [.ref (a 0), .int p9, .int f9, .int q9, .int t9, .int n9] (fun r u => r = none ∧ So a t ws u) (fun E u => (E = xISE ∨ E = xIOB) ∧ u = ws) (Kc ws) (Ks ws) := by
  refine mu_ofW (cc := b_S_move) (maxL := 7) (ret := (.none : Option Jvm.ClassFile.FieldType)) (by decide) rfl ?_
  intro p e s m args below meth c s₁ B hml hno hv
  obtain ⟨rfl, ⟨hP, hK, hD, hz⟩, hM⟩ := hv
  have hx := B.exec
  have hb := B.bytes
  have hr := B.returns
  have hts : ∀ w ∈ WS, w.before [.ref (a 0), .int p9, .int f9, .int q9, .int t9, .int n9].toArray s = true := fun w h => atoms_spec B.pre w (List.mem_cons_of_mem _ h)
  have hown : s.vm.findClass R_S = some m.cls := findClass_of_methodNamed B.named
  have hlocks := B.notSynchronized
  have hA : ∀ q, s.heap.size ≤ q → Az z q := fun q h => Nat.le_trans hz h
  have hS : va_S (Az z) s.heap s.heap [] := va_S.rf
  have hF : Fr t ws ws := Fr.rf
  have hn : nul ws ≤ nul ws := Nat.le_refl _
  have hl := lv_entry ([.ref (a 0), .int p9, .int f9, .int q9, .int t9, .int n9]) (n := 7) (Nat.le_of_ble_eq_true rfl)
  rw [lg_entry_eq]
  generalize (lg_sl ([.ref (a 0), .int p9, .int f9, .int q9, .int t9, .int n9]) ++ List.replicate (7 - (lg_sl ([.ref (a 0), .int p9, .int f9, .int q9, .int t9, .int n9])).length) Slot.unset).toArray = ls at hl ⊢
  have hl : lv_has ls 7 [(0, .ref (a 0)), (1, .int p9), (2, .int f9), (3, .int q9), (4, .int t9), (5, .int n9)] := hl
  refine W.widen (k := Kc ws ws) (n := Ks ws ws) (Nat.zero_le _) (Nat.zero_le _) ?_
  refine lv_aload_n hx hb d_S_move_0 rfl (lv_at hl 0 rfl) ?_
  refine mu_V (n := 0) (As := []) (rest := []) ⟨hx, hb, hml, hown, hts⟩ (c_S_requireOpen (D := D) (t := t) (z := z) (sa := sa) (ws := ws)  hl0 hI ) ml_S_61 im_S_requireOpen se_S_requireOpen in_S cd_S_requireOpen (by decide +kernel) ⟨Nat.le_of_ble_eq_true rfl, Nat.le_of_ble_eq_true rfl⟩ (va_recv hK hP (ci := 5) rfl hI.x) (Pz_at hP hK hD hz hM hS) rfl hl.1 rfl (Nat.le_of_ble_eq_true rfl) d_S_move_1 ⟨by show 2 * (nul ws - nul ws) + (2 * nul ws + 1) ≤ 2 * nul ws + 1; omega, by show 257 * (nul ws - nul ws) + (257 * nul ws + 6) ≤ 257 * nul ws + 6; omega⟩ hS (fun E ce q u H locs hxp hP hD hS h1 h2 h3 => by obtain ⟨hE, hu⟩ := hxp; rw [hu] at hP hD; exact mu_out (u := ws) hno hlocks h1 h2 h3 hP hK hD hz hS ⟨(by simp [hE]), rfl⟩ (by rw [hu]; show 2 * (nul ws - nul ws) + (2 * (nul ws - nul ws) + 1) ≤ 2 * (nul ws - nul ws) + 1; omega) (by rw [hu]; show 257 * (nul ws - nul ws) + (257 * (nul ws - nul ws) + 6) ≤ 257 * (nul ws - nul ws) + 6; omega)) (fun r9 u1 H locs hp hP hD hS => ?_)
  obtain ⟨hr9, hw9, h01⟩ := hp
  rw [hw9] at hP hD
  subst hr9
  refine W.widen (k := Kc ws ws) (n := Ks ws ws) (by rw [hw9]; show 2 * (nul ws - nul ws) + 2 * (nul ws - nul ws) ≤ 2 * (nul ws - nul ws); omega) (by rw [hw9]; show 257 * (nul ws - nul ws) + 257 * (nul ws - nul ws) ≤ 257 * (nul ws - nul ws); omega) ?_
  clear hw9
  refine W.eq (g2 := F0 m 4 ls []) rfl ?_
  refine lv_aload_n hx hb d_S_move_4 rfl (lv_at hl 0 rfl) ?_
  refine lv_iload_n hx hb d_S_move_5 rfl (lv_at hl 1 rfl) ?_
  refine mu_V (n := 1) (As := [.int p9]) (rest := []) ⟨hx, hb, hml, hown, hts⟩ (c_S_requirePage (D := D) (t := t) (z := z) (sa := sa) (ws := ws) (x9 := p9) hl0 hI ) ml_S_91 im_S_requirePage se_S_requirePage in_S cd_S_requirePage (by decide +kernel) ⟨Nat.le_of_ble_eq_true rfl, Nat.le_of_ble_eq_true rfl⟩ (va_recv hK hP (ci := 5) rfl hI.x) (Pz_at hP hK hD hz hM hS) rfl hl.1 rfl (Nat.le_of_ble_eq_true rfl) d_S_move_6 ⟨by show 2 * (nul ws - nul ws) + (2 * nul ws + 1) ≤ 2 * nul ws + 1; omega, by show 257 * (nul ws - nul ws) + (257 * nul ws + 6) ≤ 257 * nul ws + 6; omega⟩ hS (fun E ce q u H locs hxp hP hD hS h1 h2 h3 => by obtain ⟨hE, hu⟩ := hxp; rw [hu] at hP hD; exact mu_out (u := ws) hno hlocks h1 h2 h3 hP hK hD hz hS ⟨(by simp [hE]), rfl⟩ (by rw [hu]; show 2 * (nul ws - nul ws) + (2 * (nul ws - nul ws) + 1) ≤ 2 * (nul ws - nul ws) + 1; omega) (by rw [hu]; show 257 * (nul ws - nul ws) + (257 * (nul ws - nul ws) + 6) ≤ 257 * (nul ws - nul ws) + 6; omega)) (fun r9 u2 H locs hp hP hD hS => ?_)
  obtain ⟨hr9, hw9, h0ip⟩ := hp
  rw [hw9] at hP hD
  subst hr9
  refine W.widen (k := Kc ws ws) (n := Ks ws ws) (by rw [hw9]; show 2 * (nul ws - nul ws) + 2 * (nul ws - nul ws) ≤ 2 * (nul ws - nul ws); omega) (by rw [hw9]; show 257 * (nul ws - nul ws) + 257 * (nul ws - nul ws) ≤ 257 * (nul ws - nul ws); omega) ?_
  clear hw9
  refine W.eq (g2 := F0 m 9 ls []) rfl ?_
  obtain ⟨ip, hip, hipx⟩ := pg_nat hI.bd h0ip.1 h0ip.2
  refine lv_aload_n hx hb d_S_move_9 rfl (lv_at hl 0 rfl) ?_
  refine lv_iload_n hx hb d_S_move_10 rfl (lv_at hl 3 rfl) ?_
  refine mu_V (n := 1) (As := [.int q9]) (rest := []) ⟨hx, hb, hml, hown, hts⟩ (c_S_requirePage (D := D) (t := t) (z := z) (sa := sa) (ws := ws) (x9 := q9) hl0 hI ) ml_S_91 im_S_requirePage se_S_requirePage in_S cd_S_requirePage (by decide +kernel) ⟨Nat.le_of_ble_eq_true rfl, Nat.le_of_ble_eq_true rfl⟩ (va_recv hK hP (ci := 5) rfl hI.x) (Pz_at hP hK hD hz hM hS) rfl hl.1 rfl (Nat.le_of_ble_eq_true rfl) d_S_move_11 ⟨by show 2 * (nul ws - nul ws) + (2 * nul ws + 1) ≤ 2 * nul ws + 1; omega, by show 257 * (nul ws - nul ws) + (257 * nul ws + 6) ≤ 257 * nul ws + 6; omega⟩ hS (fun E ce q u H locs hxp hP hD hS h1 h2 h3 => by obtain ⟨hE, hu⟩ := hxp; rw [hu] at hP hD; exact mu_out (u := ws) hno hlocks h1 h2 h3 hP hK hD hz hS ⟨(by simp [hE]), rfl⟩ (by rw [hu]; show 2 * (nul ws - nul ws) + (2 * (nul ws - nul ws) + 1) ≤ 2 * (nul ws - nul ws) + 1; omega) (by rw [hu]; show 257 * (nul ws - nul ws) + (257 * (nul ws - nul ws) + 6) ≤ 257 * (nul ws - nul ws) + 6; omega)) (fun r9 u3 H locs hp hP hD hS => ?_)
  obtain ⟨hr9, hw9, h0iq⟩ := hp
  rw [hw9] at hP hD
  subst hr9
  refine W.widen (k := Kc ws ws) (n := Ks ws ws) (by rw [hw9]; show 2 * (nul ws - nul ws) + 2 * (nul ws - nul ws) ≤ 2 * (nul ws - nul ws); omega) (by rw [hw9]; show 257 * (nul ws - nul ws) + 257 * (nul ws - nul ws) ≤ 257 * (nul ws - nul ws); omega) ?_
  clear hw9
  refine W.eq (g2 := F0 m 14 ls []) rfl ?_
  obtain ⟨iq, hiq, hiqx⟩ := pg_nat hI.bd h0iq.1 h0iq.2
  refine lv_aload_n hx hb d_S_move_14 rfl (lv_at hl 0 rfl) ?_
  refine lv_iload_n hx hb d_S_move_15 rfl (lv_at hl 2 rfl) ?_
  refine lv_iload hx hb d_S_move_16 (lv_at hl 5 rfl) ?_
  refine mu_V (n := 2) (As := [.int f9, .int n9]) (rest := []) ⟨hx, hb, hml, hown, hts⟩ (c_S_requireSpan (D := D) (t := t) (z := z) (sa := sa) (ws := ws) (x9 := f9) (y9 := n9) hl0 hI ) ml_S_94 im_S_requireSpan se_S_requireSpan in_S cd_S_requireSpan (by decide +kernel) ⟨Nat.le_of_ble_eq_true rfl, Nat.le_of_ble_eq_true rfl⟩ (va_recv hK hP (ci := 5) rfl hI.x) (Pz_at hP hK hD hz hM hS) rfl hl.1 rfl (Nat.le_of_ble_eq_true rfl) d_S_move_18 ⟨by show 2 * (nul ws - nul ws) + (2 * nul ws + 1) ≤ 2 * nul ws + 1; omega, by show 257 * (nul ws - nul ws) + (257 * nul ws + 6) ≤ 257 * nul ws + 6; omega⟩ hS (fun E ce q u H locs hxp hP hD hS h1 h2 h3 => by obtain ⟨hE, hu⟩ := hxp; rw [hu] at hP hD; exact mu_out (u := ws) hno hlocks h1 h2 h3 hP hK hD hz hS ⟨(by simp [hE]), rfl⟩ (by rw [hu]; show 2 * (nul ws - nul ws) + (2 * (nul ws - nul ws) + 1) ≤ 2 * (nul ws - nul ws) + 1; omega) (by rw [hu]; show 257 * (nul ws - nul ws) + (257 * (nul ws - nul ws) + 6) ≤ 257 * (nul ws - nul ws) + 6; omega)) (fun r9 u4 H locs hp hP hD hS => ?_)
  obtain ⟨hr9, hw9, h0s1⟩ := hp
  rw [hw9] at hP hD
  subst hr9
  refine W.widen (k := Kc ws ws) (n := Ks ws ws) (by rw [hw9]; show 2 * (nul ws - nul ws) + 2 * (nul ws - nul ws) ≤ 2 * (nul ws - nul ws); omega) (by rw [hw9]; show 257 * (nul ws - nul ws) + 257 * (nul ws - nul ws) ≤ 257 * (nul ws - nul ws); omega) ?_
  clear hw9
  refine W.eq (g2 := F0 m 21 ls []) rfl ?_
  obtain ⟨s1, m1, hs1x, hm1x, hs1⟩ := span_nat h0s1.1 h0s1.2.1 h0s1.2.2
  refine lv_aload_n hx hb d_S_move_21 rfl (lv_at hl 0 rfl) ?_
  refine lv_iload hx hb d_S_move_22 (lv_at hl 4 rfl) ?_
  refine lv_iload hx hb d_S_move_24 (lv_at hl 5 rfl) ?_
  refine mu_V (n := 2) (As := [.int t9, .int n9]) (rest := []) ⟨hx, hb, hml, hown, hts⟩ (c_S_requireSpan (D := D) (t := t) (z := z) (sa := sa) (ws := ws) (x9 := t9) (y9 := n9) hl0 hI ) ml_S_94 im_S_requireSpan se_S_requireSpan in_S cd_S_requireSpan (by decide +kernel) ⟨Nat.le_of_ble_eq_true rfl, Nat.le_of_ble_eq_true rfl⟩ (va_recv hK hP (ci := 5) rfl hI.x) (Pz_at hP hK hD hz hM hS) rfl hl.1 rfl (Nat.le_of_ble_eq_true rfl) d_S_move_26 ⟨by show 2 * (nul ws - nul ws) + (2 * nul ws + 1) ≤ 2 * nul ws + 1; omega, by show 257 * (nul ws - nul ws) + (257 * nul ws + 6) ≤ 257 * nul ws + 6; omega⟩ hS (fun E ce q u H locs hxp hP hD hS h1 h2 h3 => by obtain ⟨hE, hu⟩ := hxp; rw [hu] at hP hD; exact mu_out (u := ws) hno hlocks h1 h2 h3 hP hK hD hz hS ⟨(by simp [hE]), rfl⟩ (by rw [hu]; show 2 * (nul ws - nul ws) + (2 * (nul ws - nul ws) + 1) ≤ 2 * (nul ws - nul ws) + 1; omega) (by rw [hu]; show 257 * (nul ws - nul ws) + (257 * (nul ws - nul ws) + 6) ≤ 257 * (nul ws - nul ws) + 6; omega)) (fun r9 u5 H locs hp hP hD hS => ?_)
  obtain ⟨hr9, hw9, h0s2⟩ := hp
  rw [hw9] at hP hD
  subst hr9
  refine W.widen (k := Kc ws ws) (n := Ks ws ws) (by rw [hw9]; show 2 * (nul ws - nul ws) + 2 * (nul ws - nul ws) ≤ 2 * (nul ws - nul ws); omega) (by rw [hw9]; show 257 * (nul ws - nul ws) + 257 * (nul ws - nul ws) ≤ 257 * (nul ws - nul ws); omega) ?_
  clear hw9
  refine W.eq (g2 := F0 m 29 ls []) rfl ?_
  obtain ⟨s2, m2, hs2x, hm2x, hs2⟩ := span_nat h0s2.1 h0s2.2.1 h0s2.2.2
  refine lv_aload_n hx hb d_S_move_29 rfl (lv_at hl 0 rfl) ?_
  refine lv_iload_n hx hb d_S_move_30 rfl (lv_at hl 3 rfl) ?_
  refine mu_V (n := 1) (As := [.int q9]) (rest := []) ⟨hx, hb, hml, hown, hts⟩ (c_S_bytesToChange (D := D) (t := t) (z := z) (sa := sa) (ws := ws) (i := iq) hI hiq hiqx) ml_S_88 im_S_bytesToChange se_S_bytesToChange in_S cd_S_bytesToChange (by decide +kernel) ⟨Nat.le_of_ble_eq_true rfl, Nat.le_of_ble_eq_true rfl⟩ (va_recv hK hP (ci := 5) rfl hI.x) (Pz_at hP hK hD hz hM hS) rfl hl.1 rfl (Nat.le_of_ble_eq_true rfl) d_S_move_31 ⟨by show 2 * (nul ws - nul ws) + (2 * nul ws + 1) ≤ 2 * nul ws + 1; omega, by show 257 * (nul ws - nul ws) + (257 * nul ws + 6) ≤ 257 * nul ws + 6; omega⟩ hS (fun _ _ _ _ _ _ h => h.elim) (fun r9 u6 H locs hp hP hD hS => ?_)
  obtain ⟨c7, j8, f10, hr9, h42c7, hcc7, hnec7, hI, hF9, hn9⟩ := hp
  subst hr9
  have hF := hF.trans hF9
  have hn : nul u6 ≤ nul ws := by omega
  refine W.widen (k := Kc ws u6) (n := Ks ws u6) (by show 2 * (nul ws - nul ws) + 2 * (nul ws - nul u6) ≤ 2 * (nul ws - nul u6); omega) (by show 257 * (nul ws - nul ws) + 257 * (nul ws - nul u6) ≤ 257 * (nul ws - nul u6); omega) ?_
  refine W.eq (g2 := F0 m 34 ls [.ref c7]) rfl ?_
  refine lv_astore (lv' := [(6, .ref c7), (0, .ref (a 0)), (1, .int p9), (2, .int f9), (3, .int q9), (4, .int t9), (5, .int n9)]) hx hb d_S_move_34 hl (by decide) rfl (fun ls hl => ?_)
  refine lv_aload_n hx hb d_S_move_36 rfl (lv_at hl 1 rfl) ?_
  refine lv_iload_n hx hb d_S_move_37 rfl (lv_at hl 2 rfl) ?_
  refine mu_V (n := 1) (As := [.int p9]) (rest := []) ⟨hx, hb, hml, hown, hts⟩ (c_S_bytesOf (D := D) (t := t) (z := z) (sa := sa) (ws := u6) (i := ip) hI hip hipx) ml_S_85 im_S_bytesOf se_S_bytesOf in_S cd_S_bytesOf (by decide +kernel) ⟨Nat.le_of_ble_eq_true rfl, Nat.le_of_ble_eq_true rfl⟩ (va_recv hK hP (ci := 5) rfl hI.x) (Pz_at hP hK hD hz hM hS) rfl hl.1 rfl (Nat.le_of_ble_eq_true rfl) d_S_move_38 ⟨by show 2 * (nul ws - nul u6) + (2 * nul u6 + 1) ≤ 2 * nul ws + 1; omega, by show 257 * (nul ws - nul u6) + (257 * nul u6 + 6) ≤ 257 * nul ws + 6; omega⟩ hS (fun _ _ _ _ _ _ h => h.elim) (fun r9 u11 H locs hp hP hD hS => ?_)
  obtain ⟨c12, j13, f14, hr9, h42c12, hcc12, hnec12, hI, hF9, hn9⟩ := hp
  subst hr9
  have hF := hF.trans hF9
  obtain ⟨f15, hcc7⟩ := hF9.2.2 j8 c7 256 f10 (Or.inr h42c7) hcc7
  have hn : nul u11 ≤ nul ws := by omega
  refine W.widen (k := Kc ws u11) (n := Ks ws u11) (by show 2 * (nul ws - nul u6) + 2 * (nul u6 - nul u11) ≤ 2 * (nul ws - nul u11); omega) (by show 257 * (nul ws - nul u6) + 257 * (nul u6 - nul u11) ≤ 257 * (nul ws - nul u11); omega) ?_
  refine W.eq (g2 := F0 m 41 ls [.ref c12]) rfl ?_
  refine lv_iload_n hx hb d_S_move_41 rfl (lv_at hl 3 rfl) ?_
  refine lv_aload hx hb d_S_move_42 (lv_at hl 0 rfl) ?_
  refine lv_iload hx hb d_S_move_44 (lv_at hl 5 rfl) ?_
  refine lv_iload hx hb d_S_move_46 (lv_at hl 6 rfl) ?_
  refine va_copyi (D := D) hx hb (hml.trans hl.1.symm) hown (hts _ ml_S_97) (hts _ cp_im) (hts _ cp_st) (hts _ in_System) hK hP hD hS j13 j8 0 0 (ty := .byte) hcc12 hcc7 rfl rfl rfl (sp := f9) (dp := t9) (n := n9) (by rw [hs1x]; exact nI_pos (by omega)) (by rw [hs2x]; exact nI_pos (by omega)) (by rw [hm1x]; exact nI_pos (by omega)) (by rw [hs1x, hm1x, nI_clamp (by omega), nI_clamp (by omega)]; exact hs1) (by rw [hs2x, hm2x, nI_clamp (by omega), nI_clamp (by omega)]; exact hs2) (fun i9 _ => hI.bf j13 _ _ _ (Or.inr h42c12) hcc12 _) (Nat.le_of_ble_eq_true rfl) (Nat.le_of_ble_eq_true rfl) d_S_move_48 (fun H locs hP hD hS => ?_)
  have hfn := sb_fitC (sp := (f9 : Int32).toNatClampNeg) (dp := (t9 : Int32).toNatClampNeg) (n := (n9 : Int32).toNatClampNeg) (hI.bf j13 _ _ _ (Or.inr h42c12) hcc12) (hI.bf j8 _ _ _ (Or.inr h42c7) hcc7)
  obtain ⟨f16, hff16⟩ : ∃ q, q = va_cpy f14 f15 (f9 : Int32).toNatClampNeg (t9 : Int32).toNatClampNeg (n9 : Int32).toNatClampNeg := ⟨_, rfl⟩
  rw [← hff16] at hP hD hfn
  obtain ⟨w17, hw⟩ : ∃ q, q = u11.set j8 (cA t c7 f16) := ⟨_, rfl⟩
  have hP : va_P D Cl (u11.set j8 (cA t c7 f16)) H := hP
  have hD : va_D (Az z) (u11.set j8 (cA t c7 f16)) := hD
  have hF : Fr t ws (u11.set j8 (cA t c7 f16)) := hF.setA hcc7 (Or.inr h42c7)
  have hI := hI.setB (f1 := f16) h42c7 hcc7 (fun h => absurd h hnec7) hfn
  have hq9 : nul (u11.set j8 (cA t c7 f16)) = nul u11 := nul_set (fun h => by have := mds_lt h; omega)
  rw [← hw] at hP hD hF hI hq9
  clear hw
  have hn : nul w17 ≤ nul ws := by omega
  refine W.widen (k := Kc ws w17) (n := Ks ws w17) (by show 2 * (nul ws - nul u11) ≤ 2 * (nul ws - nul w17); omega) (by show 257 * (nul ws - nul u11) ≤ 257 * (nul ws - nul w17); omega) ?_
  refine mu_end (u := w17) (v := (none)) ⟨rfl, ⟨_, _, hI, hF, hn, hc1.eq rfl rfl⟩⟩ (Nat.le_refl _) (Nat.le_refl _) ?_
  exact W.vret hx hb hr (fun t9 ht hW => ⟨rfl, ⟨by rw [ht]; exact hP, va_K.moved hW.alike hK, hD, by rw [ht]; exact Nat.le_trans hz hS.1⟩, hS.F ht⟩) hS.2.2 d_S_move_51
end
section
abbrev b_J_fill : ByteArray := prog_19_method_109_code
def y_J_fill : MethodName := ⟨"java/util/Arrays", "fill", "([BB)V"⟩
theorem d_J_fill_0 : decode b_J_fill 0 = .ok (.iconst 0, 1) := by decide +kernel
theorem d_J_fill_1 : decode b_J_fill 1 = .ok (.istore_n 2, 1) := by decide +kernel
theorem d_J_fill_2 : decode b_J_fill 2 = .ok (.aload_n 0, 1) := by decide +kernel
theorem d_J_fill_3 : decode b_J_fill 3 = .ok (.arraylength, 1) := by decide +kernel
theorem d_J_fill_4 : decode b_J_fill 4 = .ok (.istore_n 3, 1) := by decide +kernel
theorem d_J_fill_5 : decode b_J_fill 5 = .ok (.iload_n 2, 1) := by decide +kernel
theorem d_J_fill_6 : decode b_J_fill 6 = .ok (.iload_n 3, 1) := by decide +kernel
theorem d_J_fill_7 : decode b_J_fill 7 = .ok (.if_icmp .ge 13, 3) := by decide +kernel
theorem d_J_fill_10 : decode b_J_fill 10 = .ok (.aload_n 0, 1) := by decide +kernel
theorem d_J_fill_11 : decode b_J_fill 11 = .ok (.iload_n 2, 1) := by decide +kernel
theorem d_J_fill_12 : decode b_J_fill 12 = .ok (.iload_n 1, 1) := by decide +kernel
theorem d_J_fill_13 : decode b_J_fill 13 = .ok (.bastore, 1) := by decide +kernel
theorem d_J_fill_14 : decode b_J_fill 14 = .ok (.iinc 2 1, 3) := by decide +kernel
theorem d_J_fill_17 : decode b_J_fill 17 = .ok (.goto (-12), 3) := by decide +kernel
theorem d_J_fill_20 : decode b_J_fill 20 = .ok (.return_, 1) := by decide +kernel
theorem st_J_fill : Cond.static y_J_fill ∈ WS := by decide +kernel
theorem cd_J_fill : Cond.code y_J_fill b_J_fill 4 none ∈ WS := by decide +kernel
theorem ml_J_fill : Cond.methodLink R_S 75 y_J_fill ∈ WS := by decide +kernel
theorem in_J_fill : Cond.initialized y_J_fill.cls ∈ WS := by decide +kernel
theorem gd_S {own : String} {i : Nat} {y : MethodName} {b : ByteArray} {n : Nat} {r : Option FieldType} (h1 : Cond.methodLink own i y ∈ WS) (h2 : Cond.static y ∈ WS) (h3 : Cond.initialized y.cls ∈ WS) (hc : Cond.code y b n r ∈ WS) : GoodIn WS (va_wsS own i y (Cond.code y b n r :: WS)) := by
  intro w h
  unfold va_wsS at h
  rcases List.mem_append.mp h with h | h
  · simp only [List.mem_cons, List.mem_nil_iff, or_false] at h
    rcases h with rfl | rfl | rfl
    · exact ⟨h1, WS_good h1⟩
    · exact ⟨h2, WS_good h2⟩
    · exact ⟨h3, WS_good h3⟩
  · exact gd_I hc w h
theorem ls_set2 {ws : va_W} {k : Nat} {x y : Nat × va_E} : (ws.set k x).set k y = ws.set k y := by simp
set_option maxHeartbeats 4000000 in
set_option maxRecDepth 100000 in
/-- Arrays.fill of a block's bytes -/
theorem c_J_fill {l : Launch} {D : va_G} {t : Nat → ClassId} {z : Nat} {sa : Nat → Nat} {ws : va_W} {k c0 : Nat} {f : Nat → Int32} {x9 : Int32} (e0 : ws[k]? = some (cA t c0 f)) (hf : sb_Fit f) : Met l y_J_fill (Cond.code y_J_fill b_J_fill 4 none :: WS) ({ frames := 0, cells := 0, slots := 0, locals := 0 }) (Pz D t z sa ws [.ref c0, .int x9]) (va_Qv (fun u : va_W => ∃ f', sb_Fit f' ∧ u = ws.set k (cA t c0 f')) (fun u U => Wd D t z u U) (Az z)) 0 0 (Az z) := by
  refine Met.ofW (cc := b_J_fill) (maxL := 4) (ret := none) (by decide) rfl ?_
  intro p e s m args below meth c s₁ B hml hv
  obtain ⟨rfl, ⟨hP, hK, hD, hz⟩, hM⟩ := hv
  have hx := B.exec
  have hb := B.bytes
  have hr := B.returns
  have hlocks := B.notSynchronized
  have hS : va_S (Az z) s.heap s.heap [] := va_S.rf
  have hl := lv_entry ([.ref c0, .int x9]) (n := 4) (Nat.le_of_ble_eq_true rfl)
  rw [lg_entry_eq]
  generalize (lg_sl ([.ref c0, .int x9]) ++ List.replicate (4 - (lg_sl ([.ref c0, .int x9])).length) Slot.unset).toArray = ls at hl ⊢
  have hl : lv_has ls 4 [(0, .ref c0), (1, .int x9)] := hl
  refine lv_iconst (v := 0) hx hb d_J_fill_0 (by decide) ?_
  refine lv_istore_n (lv' := [(2, .int 0), (0, .ref c0), (1, .int x9)]) hx hb d_J_fill_1 rfl hl (by decide) rfl (fun ls hl => ?_)
  refine lv_aload_n hx hb d_J_fill_2 rfl (lv_at hl 1 rfl) ?_
  refine va_alen (D := D) hx hb hK hP k 0 e0 rfl (v := 256) rfl d_J_fill_3 ?_
  refine lv_istore_n (lv' := [(3, .int 256), (2, .int 0), (0, .ref c0), (1, .int x9)]) hx hb d_J_fill_4 rfl hl (by decide) rfl (fun ls hl => ?_)
  have key : ∀ (n i : Nat) (f : Nat → Int32) (H : Heap) (locs : List Loc) (ls : Array Slot), i + n = 256 → sb_Fit f → va_P D Cl (ws.set k (cA t c0 f)) H → va_D (Az z) (ws.set k (cA t c0 f)) → va_S (Az z) s.heap H locs → lv_has ls 4 [(2, .int (nI i)), (3, .int 256), (0, .ref c0), (1, .int x9)] →
      W p l e (headSpec (Cond.code y_J_fill b_J_fill 4 none :: WS) ({ frames := 0, cells := 0, slots := 0, locals := 0 })).room s m [.ref c0, .int x9].toArray below meth c H locs 0 0 (MQ below (va_Qv (fun u : va_W => ∃ f', sb_Fit f' ∧ u = ws.set k (cA t c0 f')) (fun u U => Wd D t z u U) (Az z)) [.ref c0, .int x9].toArray s 0 0 (Az z)) (F0 m 5 ls []) := by
    intro n
    induction n with
    | zero =>
      intro i f H locs ls hi hf hP hD hS hl
      have hi : i = 256 := by omega
      subst hi
      refine lv_iload_n hx hb d_J_fill_5 rfl (lv_at hl 0 rfl) ?_
      refine lv_iload_n hx hb d_J_fill_6 rfl (lv_at hl 1 rfl) ?_
      refine lv_icmp_ge (tgt := 20) hx hb d_J_fill_7 rfl (fun _ => ?_) (fun h => absurd (show (256 : Int32) ≤ nI 256 by decide) h)
      exact W.vret hx hb hr (fun t9 ht hW => ⟨⟨_, rfl, ⟨f, hf, rfl⟩, by rw [ht]; exact hP, va_K.moved hW.alike hK, hD, by rw [ht]; exact Nat.le_trans hz hS.1⟩, hS.F ht⟩) hS.2.2 d_J_fill_20
    | succ n ih =>
      intro i f H locs ls hi hf hP hD hS hl
      refine lv_iload_n hx hb d_J_fill_5 rfl (lv_at hl 0 rfl) ?_
      refine lv_iload_n hx hb d_J_fill_6 rfl (lv_at hl 1 rfl) ?_
      refine lv_icmp_ge (tgt := 20) hx hb d_J_fill_7 rfl (fun h => absurd h (nI_ge (a := i) (b := 256) (by omega) (by decide))) (fun _ => ?_)
      refine lv_aload_n hx hb d_J_fill_10 rfl (lv_at hl 2 rfl) ?_
      refine lv_iload_n hx hb d_J_fill_11 rfl (lv_at hl 0 rfl) ?_
      refine lv_iload_n hx hb d_J_fill_12 rfl (lv_at hl 3 rfl) ?_
      refine va_bast (D := D) hx hb hK hP hD hS k 0 (lk_set e0) rfl (i := nI i) (x := x9) (vp_in_nI (by omega) (by decide)) d_J_fill_13 (fun H locs hP hD hS => ?_)
      rw [ls_set2] at hP hD
      refine lv_iinc (k := 0) (v := nI (i + 1)) (lv' := [(2, .int (nI (i + 1))), (3, .int 256), (0, .ref c0), (1, .int x9)]) hx hb d_J_fill_14 hl rfl (nI_1 i) (by decide) rfl (fun ls hl => ?_)
      refine lv_goto (tgt := 5) hx hb d_J_fill_17 rfl ?_
      exact ih (i + 1) _ H locs ls (by omega) (sb_fitU hf (bfit x9)) hP hD hS hl
  have e9 : ws.set k (cA t c0 f) = ws := List.ext_getElem? fun j => by
    by_cases h : k = j
    · subst h; rw [lk_set e0, e0]
    · rw [List.getElem?_set_ne h]
  exact key 256 0 f s.heap [] ls rfl hf (by rw [e9]; exact hP) (by rw [e9]; exact hD) hS (lv_sub hl [1, 0, 2, 3] rfl)
set_option maxHeartbeats 4000000 in
set_option maxRecDepth 100000 in
theorem c_S_add {l : Launch} {D : va_G} {t : Nat → ClassId} {z : Nat} {sa : Nat → Nat} {ws : va_W} {a : Nat → Nat} {k0 : Nat} {v : Nat → Int32}  (hl0 : l.stackTraces = false) (hI : Iv a t k0 v ws) (hc1 : C1 v)  : Mu l y_S_add (Cond.code y_S_add b_S_add 1 (some .int) :: WS) ({ frames := 8, cells := 2 * nul ws + 1, slots := 257 * nul ws + 6, locals := 122 }) D t z sa ws [.ref (a 0)] (fun r u => (∃ y, r = some (.int y)) ∧ So a t ws u) (fun E u => (E = xISE) ∧ u = ws) (Kc ws) (Ks ws) := by
  refine mu_ofW (cc := b_S_add) (maxL := 1) (ret := (some .int)) (by decide) rfl ?_
  intro p e s m args below meth c s₁ B hml hno hv
  obtain ⟨rfl, ⟨hP, hK, hD, hz⟩, hM⟩ := hv
  have hx := B.exec
  have hb := B.bytes
  have hr := B.returns
  have hts : ∀ w ∈ WS, w.before [.ref (a 0)].toArray s = true := fun w h => atoms_spec B.pre w (List.mem_cons_of_mem _ h)
  have hown : s.vm.findClass R_S = some m.cls := findClass_of_methodNamed B.named
  have hlocks := B.notSynchronized
  have hA : ∀ q, s.heap.size ≤ q → Az z q := fun q h => Nat.le_trans hz h
  have hS : va_S (Az z) s.heap s.heap [] := va_S.rf
  have hF : Fr t ws ws := Fr.rf
  have hn : nul ws ≤ nul ws := Nat.le_refl _
  have hl := lv_entry ([.ref (a 0)]) (n := 1) (Nat.le_of_ble_eq_true rfl)
  rw [lg_entry_eq]
  generalize (lg_sl ([.ref (a 0)]) ++ List.replicate (1 - (lg_sl ([.ref (a 0)])).length) Slot.unset).toArray = ls at hl ⊢
  have hl : lv_has ls 1 [(0, .ref (a 0))] := hl
  refine W.widen (k := Kc ws ws) (n := Ks ws ws) (Nat.zero_le _) (Nat.zero_le _) ?_
  refine lv_aload_n hx hb d_S_add_0 rfl (lv_at hl 0 rfl) ?_
  refine mu_V (n := 0) (As := []) (rest := []) ⟨hx, hb, hml, hown, hts⟩ (c_S_requireOpen (D := D) (t := t) (z := z) (sa := sa) (ws := ws)  hl0 hI ) ml_S_61 im_S_requireOpen se_S_requireOpen in_S cd_S_requireOpen (by decide +kernel) ⟨Nat.le_of_ble_eq_true rfl, Nat.le_of_ble_eq_true rfl⟩ (va_recv hK hP (ci := 5) rfl hI.x) (Pz_at hP hK hD hz hM hS) rfl hl.1 rfl (Nat.le_of_ble_eq_true rfl) d_S_add_1 ⟨by show 2 * (nul ws - nul ws) + (2 * nul ws + 1) ≤ 2 * nul ws + 1; omega, by show 257 * (nul ws - nul ws) + (257 * nul ws + 6) ≤ 257 * nul ws + 6; omega⟩ hS (fun E ce q u H locs hxp hP hD hS h1 h2 h3 => by obtain ⟨hE, hu⟩ := hxp; rw [hu] at hP hD; exact mu_out (u := ws) hno hlocks h1 h2 h3 hP hK hD hz hS ⟨(by simp [hE]), rfl⟩ (by rw [hu]; show 2 * (nul ws - nul ws) + (2 * (nul ws - nul ws) + 1) ≤ 2 * (nul ws - nul ws) + 1; omega) (by rw [hu]; show 257 * (nul ws - nul ws) + (257 * (nul ws - nul ws) + 6) ≤ 257 * (nul ws - nul ws) + 6; omega)) (fun r9 u1 H locs hp hP hD hS => ?_)
  obtain ⟨hr9, hw9, h01⟩ := hp
  rw [hw9] at hP hD
  subst hr9
  refine W.widen (k := Kc ws ws) (n := Ks ws ws) (by rw [hw9]; show 2 * (nul ws - nul ws) + 2 * (nul ws - nul ws) ≤ 2 * (nul ws - nul ws); omega) (by rw [hw9]; show 257 * (nul ws - nul ws) + 257 * (nul ws - nul ws) ≤ 257 * (nul ws - nul ws); omega) ?_
  clear hw9
  refine W.eq (g2 := F0 m 4 ls []) rfl ?_
  refine lv_aload_n hx hb d_S_add_4 rfl (lv_at hl 0 rfl) ?_
  refine va_get (D := D) (ci := 5) (v := .int (v 3)) (C := R_S) (T := F_S) (N := 10) hx hb hts ws_S hown hK hP 0 hI.x rfl 8 (by decide) (hts _ fl_S_51) (fun _ h9 => h9) rfl d_S_add_5 ?_
  refine lv_sipush (v := 768) hx hb d_S_add_8 (by decide) ?_
  refine lv_icmp_lt (tgt := 24) hx hb d_S_add_11 rfl (fun q2 => ?_) (fun q2 => ?_)
  · skip
    refine lv_aload_n hx hb d_S_add_24 rfl (lv_at hl 0 rfl) ?_
    refine va_get (D := D) (ci := 5) (v := .ref (a 7)) (C := R_S) (T := F_S) (N := 10) hx hb hts ws_S hown hK hP 0 hI.x rfl 2 (by decide) (hts _ fl_S_25) (fun _ h9 => h9) rfl d_S_add_25 ?_
    refine lv_aload_n hx hb d_S_add_28 rfl (lv_at hl 0 rfl) ?_
    refine va_get (D := D) (ci := 5) (v := .int (v 2)) (C := R_S) (T := F_S) (N := 10) hx hb hts ws_S hown hK hP 0 hI.x rfl 7 (by decide) (hts _ fl_S_47) (fun _ h9 => h9) rfl d_S_add_29 ?_
    obtain ⟨i, hC1, hxi⟩ := hI.bd.2.1
    have hi : i < 768 := (nI_ltI (b := 768) (by omega) (by decide)).mp (by rw [← hxi]; assumption)
    obtain ⟨jm, hM1, hM2⟩ := hI.bd.1
    have hjm : jm < 6 := by omega
    obtain ⟨gl, e7, g7⟩ := hI.l7
    refine va_aldq (D := D) hx hb hK hP 7 3 e7 rfl (i := (v 2)) (by rw [hM2]; exact vp_in_nI hjm (by decide)) d_S_add_32 ?_
    refine W.eq (g2 := F0 m 33 ls [.ref (a (10 + 4 * jm))]) (by rw [show (v 2).toNatClampNeg = jm from by rw [hM2]; exact nI_clamp (by omega), g7 jm hjm]; rfl) ?_
    refine lv_aload_n hx hb d_S_add_33 rfl (lv_at hl 0 rfl) ?_
    refine va_get (D := D) (ci := 5) (v := .int (v 3)) (C := R_S) (T := F_S) (N := 10) hx hb hts ws_S hown hK hP 0 hI.x rfl 8 (by decide) (hts _ fl_S_51) (fun _ h9 => h9) rfl d_S_add_34 ?_
    refine mu_V (n := 1) (As := [.int (v 3)]) (rest := []) ⟨hx, hb, hml, hown, hts⟩ (c_Z_hold (D := D) (t := t) (z := z) (sa := sa) (ws := ws) (j := jm) (i := i) hI hjm hi hxi) ml_S_71 im_Z_hold se_Z_hold in_Z cd_Z_hold (by decide +kernel) ⟨Nat.le_of_ble_eq_true rfl, Nat.le_of_ble_eq_true rfl⟩ (va_recv hK hP (ci := 4) rfl (hI.z hjm)) (Pz_at hP hK hD hz hM hS) rfl hl.1 rfl (Nat.le_of_ble_eq_true rfl) d_S_add_37 ⟨by show 2 * (nul ws - nul ws) + (2 * nul ws + 1) ≤ 2 * nul ws + 1; omega, by show 257 * (nul ws - nul ws) + (257 * nul ws + 6) ≤ 257 * nul ws + 6; omega⟩ hS (fun _ _ _ _ _ _ h => h.elim) (fun r9 u3 H locs hp hP hD hS => ?_)
    obtain ⟨c4, j5, k6, f7, hr9, h42c4, hcc4, hsp, hI, hF9, hn9, hj9⟩ := hp
    have hk1 : k6 = k0 := hj9 (Or.inr (fun h => by have h9 := h.1; omega))
    rw [hk1] at hI hsp
    subst hr9
    have hF := hF.trans hF9
    have hnec4 : j5 ≠ k0 := fun h => by have h9 := (hsp.mp h).1; omega
    have hn : nul u3 ≤ nul ws := by omega
    refine W.widen (k := Kc ws u3) (n := Ks ws u3) (by show 2 * (nul ws - nul ws) + 2 * (nul ws - nul u3) ≤ 2 * (nul ws - nul u3); omega) (by show 257 * (nul ws - nul ws) + 257 * (nul ws - nul u3) ≤ 257 * (nul ws - nul u3); omega) ?_
    refine W.eq (g2 := F0 m 40 ls [.ref c4]) rfl ?_
    refine lv_iconst (v := 0) hx hb d_S_add_40 (by decide) ?_
    refine va_callv (va_runS (As := [.ref c4, .int 0]) (rest := []) ⟨hx, hb, hml, hown, hts⟩ (c_J_fill (D := D) (t := t) (z := z) (sa := sa) (ws := u3) hcc4 (hI.bf j5 _ _ _ (Or.inr h42c4) hcc4)) (va_cwS 2 hts (gd_S ml_J_fill st_J_fill in_J_fill cd_J_fill) rfl rfl rfl (by decide +kernel) ⟨Nat.le_of_ble_eq_true rfl, Nat.le_of_ble_eq_true rfl⟩) ⟨Pz_blind, Pz_at hP hK hD hz hM hS⟩ rfl rfl hl.1 rfl (lv_room (Nat.le_of_ble_eq_true rfl)) d_S_add_41 ⟨by show 2 * (nul ws - nul u3) + 0 ≤ 2 * nul ws + 1; omega, by show 257 * (nul ws - nul u3) + 0 ≤ 257 * nul ws + 6; omega⟩) hS (fun q _ h => h) (fun q h => h) (fun u8 t9 H locs ht hvm hp hB hz1 hk1 hS => ?_)
    obtain ⟨hP, hK9, hD, -⟩ := hB
    rw [ht] at hP
    obtain ⟨f8, hf8, hu9⟩ := hp
    rw [hu9] at hP hD
    refine W.widen (k := Kc ws u3) (n := Ks ws u3) (Nat.le_refl _) (Nat.le_refl _) ?_
    obtain ⟨w10, hw⟩ : ∃ q, q = u3.set j5 (cA t c4 f8) := ⟨_, rfl⟩
    have hP : va_P D Cl (u3.set j5 (cA t c4 f8)) H := hP
    have hD : va_D (Az z) (u3.set j5 (cA t c4 f8)) := hD
    have hF : Fr t ws (u3.set j5 (cA t c4 f8)) := hF.setA hcc4 (Or.inr h42c4)
    have hI := hI.setB (f1 := f8) h42c4 hcc4 (fun h => absurd h hnec4) hf8
    have hq9 : nul (u3.set j5 (cA t c4 f8)) = nul u3 := nul_set (fun h => by have := mds_lt h; omega)
    rw [← hw] at hP hD hF hI hq9
    clear hw
    have hn : nul w10 ≤ nul ws := by omega
    refine W.widen (k := Kc ws w10) (n := Ks ws w10) (by show 2 * (nul ws - nul u3) ≤ 2 * (nul ws - nul w10); omega) (by show 257 * (nul ws - nul u3) ≤ 257 * (nul ws - nul w10); omega) ?_
    refine lv_aload_n hx hb d_S_add_44 rfl (lv_at hl 0 rfl) ?_
    refine lv_dup hx hb d_S_add_45 rfl ?_
    refine va_get (D := D) (ci := 5) (v := .int (v 3)) (C := R_S) (T := F_S) (N := 10) hx hb hts ws_S hown hK hP 0 hI.x rfl 8 (by decide) (hts _ fl_S_51) (fun _ h9 => h9) rfl d_S_add_46 ?_
    refine lv_iconst (v := 1) hx hb d_S_add_49 (by decide) ?_
    refine lv_iadd hx hb d_S_add_50 ?_
    refine lv_topi (fun y9 hy9 => ?_)
    have hy9 : y9 = nI (i + 1) := by rw [hy9, hxi]; exact nI_1 i
    refine va_put (D := D) (ci := 5) (v := .int y9) (ty := .int) (C := R_S) (T := F_S) (N := 10) hx hb hts ws_S t_S ok_S n_S hown hK hP hD hS 0 hI.x rfl 8 (by decide) (hts _ fl_S_51) (fun _ h9 => h9) rfl (by decide +kernel) rfl rfl (Nat.le_of_ble_eq_true rfl) d_S_add_51 (fun H locs hP hD hS => ?_)
    obtain ⟨v11, hv11⟩ : ∃ q : Nat → Int32, q = upd v 3 y9 := ⟨_, rfl⟩
    have gv11 : v11 3 = y9 := by rw [hv11]; exact pk_us
    have nv11 : ∀ i, i ≠ 3 → v11 i = v i := fun i hi => by rw [hv11]; exact pk_un hi
    have hP : va_P D Cl (w10.set 0 (cX a v11)) H := by rw [hv11]; exact hP
    have hD : va_D (Az z) (w10.set 0 (cX a v11)) := by rw [hv11]; exact hD
    obtain ⟨w12, hw⟩ : ∃ q, q = w10.set 0 (cX a v11) := ⟨_, rfl⟩
    have hP : va_P D Cl (w10.set 0 (cX a v11)) H := hP
    have hD : va_D (Az z) (w10.set 0 (cX a v11)) := hD
    have hF : Fr t ws (w10.set 0 (cX a v11)) := hF.set (by decide) (by decide)
    have hI := hI.setX (v' := v11) (fun i hi => nv11 i (by omega)) (by rw [nv11 2 (by decide)]; exact hI.bd.1) ⟨i + 1, by omega, by rw [gv11]; exact hy9⟩
    have hq9 : nul (w10.set 0 (cX a v11)) = nul w10 := nul_set (by decide)
    rw [← hw] at hP hD hF hI hq9
    clear hw
    have hn : nul w12 ≤ nul ws := by omega
    refine W.widen (k := Kc ws w12) (n := Ks ws w12) (by show 2 * (nul ws - nul w10) ≤ 2 * (nul ws - nul w12); omega) (by show 257 * (nul ws - nul w10) ≤ 257 * (nul ws - nul w12); omega) ?_
    refine lv_aload_n hx hb d_S_add_54 rfl (lv_at hl 0 rfl) ?_
    refine va_get (D := D) (ci := 5) (v := .int (v11 3)) (C := R_S) (T := F_S) (N := 10) hx hb hts ws_S hown hK hP 0 hI.x rfl 8 (by decide) (hts _ fl_S_51) (fun _ h9 => h9) rfl d_S_add_55 ?_
    refine lv_iconst (v := 1) hx hb d_S_add_58 (by decide) ?_
    refine lv_isub hx hb d_S_add_59 ?_
    refine lv_topi (fun v13 hv13 => ?_)
    refine mu_end (u := w12) (v := (some (.int v13))) ⟨⟨_, rfl⟩, ⟨_, _, hI, hF, hn, hc1.eq (by rw [nv11 0 (by omega)]) (by rw [nv11 6 (by omega)])⟩⟩ (Nat.le_refl _) (Nat.le_refl _) ?_
    exact W.iret (v := v13) hx hb hr (fun t9 ht hW => ⟨rfl, ⟨by rw [ht]; exact hP, va_K.moved hW.alike hK, hD, by rw [ht]; exact Nat.le_trans hz hS.1⟩, hS.F ht⟩) hS.2.2 d_S_add_60
  · skip
    exact mu_th (u := ws) hx hb hl0 hown hts hlocks hno hP hK hD hz hM hS (hl.1.trans hml.symm) (site_64_66_68) d_S_add_14 d_S_add_17 d_S_add_18 d_S_add_20 d_S_add_23 (Nat.le_of_ble_eq_true rfl) (Nat.le_of_ble_eq_true rfl) (by show 2 * (nul ws - nul ws) + 1 ≤ 2 * nul ws + 1; omega) (by show 257 * (nul ws - nul ws) + 6 ≤ 257 * nul ws + 6; omega) (Nat.le_refl _) (Nat.le_refl _) ⟨by decide, rfl⟩
end
section
set_option maxHeartbeats 4000000 in
set_option maxRecDepth 100000 in
theorem c_S_sum {l : Launch} {D : va_G} {t : Nat → ClassId} {z : Nat} {sa : Nat → Nat} {ws : va_W} {a : Nat → Nat} {k0 : Nat} {v : Nat → Int32} {x9 : Int32} (hl0 : l.stackTraces = false) (hI : Iv a t k0 v ws) (hc1 : C1 v)  : Mu l y_S_sum (Cond.code y_S_sum b_S_sum 6 (some .long) :: WS) ({ frames := 7, cells := 2 * nul ws + 1, slots := 257 * nul ws + 6, locals := 103 }) D t z sa ws [.ref (a 0), .int x9] (fun r u => (∃ y, r = some (.long y)) ∧ So a t ws u) (fun E u => (E = xISE ∨ E = xIOB) ∧ u = ws) (Kc ws) (Ks ws) := by
  refine mu_ofW (cc := b_S_sum) (maxL := 6) (ret := (some .long)) (by decide) rfl ?_
  intro p e s m args below meth c s₁ B hml hno hv
  obtain ⟨rfl, ⟨hP, hK, hD, hz⟩, hM⟩ := hv
  have hx := B.exec
  have hb := B.bytes
  have hr := B.returns
  have hts : ∀ w ∈ WS, w.before [.ref (a 0), .int x9].toArray s = true := fun w h => atoms_spec B.pre w (List.mem_cons_of_mem _ h)
  have hown : s.vm.findClass R_S = some m.cls := findClass_of_methodNamed B.named
  have hlocks := B.notSynchronized
  have hA : ∀ q, s.heap.size ≤ q → Az z q := fun q h => Nat.le_trans hz h
  have hS : va_S (Az z) s.heap s.heap [] := va_S.rf
  have hF : Fr t ws ws := Fr.rf
  have hn : nul ws ≤ nul ws := Nat.le_refl _
  have hl := lv_entry ([.ref (a 0), .int x9]) (n := 6) (Nat.le_of_ble_eq_true rfl)
  rw [lg_entry_eq]
  generalize (lg_sl ([.ref (a 0), .int x9]) ++ List.replicate (6 - (lg_sl ([.ref (a 0), .int x9])).length) Slot.unset).toArray = ls at hl ⊢
  have hl : lv_has ls 6 [(0, .ref (a 0)), (1, .int x9)] := hl
  refine W.widen (k := Kc ws ws) (n := Ks ws ws) (Nat.zero_le _) (Nat.zero_le _) ?_
  refine lv_aload_n hx hb d_S_sum_0 rfl (lv_at hl 0 rfl) ?_
  refine mu_V (n := 0) (As := []) (rest := []) ⟨hx, hb, hml, hown, hts⟩ (c_S_requireOn (D := D) (t := t) (z := z) (sa := sa) (ws := ws)  hl0 hI ) ml_S_58 im_S_requireOn se_S_requireOn in_S cd_S_requireOn (by decide +kernel) ⟨Nat.le_of_ble_eq_true rfl, Nat.le_of_ble_eq_true rfl⟩ (va_recv hK hP (ci := 5) rfl hI.x) (Pz_at hP hK hD hz hM hS) rfl hl.1 rfl (Nat.le_of_ble_eq_true rfl) d_S_sum_1 ⟨by show 2 * (nul ws - nul ws) + (2 * nul ws + 1) ≤ 2 * nul ws + 1; omega, by show 257 * (nul ws - nul ws) + (257 * nul ws + 6) ≤ 257 * nul ws + 6; omega⟩ hS (fun E ce q u H locs hxp hP hD hS h1 h2 h3 => by obtain ⟨hE, hu⟩ := hxp; rw [hu] at hP hD; exact mu_out (u := ws) hno hlocks h1 h2 h3 hP hK hD hz hS ⟨(by simp [hE]), rfl⟩ (by rw [hu]; show 2 * (nul ws - nul ws) + (2 * (nul ws - nul ws) + 1) ≤ 2 * (nul ws - nul ws) + 1; omega) (by rw [hu]; show 257 * (nul ws - nul ws) + (257 * (nul ws - nul ws) + 6) ≤ 257 * (nul ws - nul ws) + 6; omega)) (fun r9 u1 H locs hp hP hD hS => ?_)
  obtain ⟨hr9, hw9, h01⟩ := hp
  rw [hw9] at hP hD
  subst hr9
  refine W.widen (k := Kc ws ws) (n := Ks ws ws) (by rw [hw9]; show 2 * (nul ws - nul ws) + 2 * (nul ws - nul ws) ≤ 2 * (nul ws - nul ws); omega) (by rw [hw9]; show 257 * (nul ws - nul ws) + 257 * (nul ws - nul ws) ≤ 257 * (nul ws - nul ws); omega) ?_
  clear hw9
  refine W.eq (g2 := F0 m 4 ls []) rfl ?_
  refine lv_aload_n hx hb d_S_sum_4 rfl (lv_at hl 0 rfl) ?_
  refine lv_iload_n hx hb d_S_sum_5 rfl (lv_at hl 1 rfl) ?_
  refine mu_V (n := 1) (As := [.int x9]) (rest := []) ⟨hx, hb, hml, hown, hts⟩ (c_S_requirePage (D := D) (t := t) (z := z) (sa := sa) (ws := ws) (x9 := x9) hl0 hI ) ml_S_91 im_S_requirePage se_S_requirePage in_S cd_S_requirePage (by decide +kernel) ⟨Nat.le_of_ble_eq_true rfl, Nat.le_of_ble_eq_true rfl⟩ (va_recv hK hP (ci := 5) rfl hI.x) (Pz_at hP hK hD hz hM hS) rfl hl.1 rfl (Nat.le_of_ble_eq_true rfl) d_S_sum_6 ⟨by show 2 * (nul ws - nul ws) + (2 * nul ws + 1) ≤ 2 * nul ws + 1; omega, by show 257 * (nul ws - nul ws) + (257 * nul ws + 6) ≤ 257 * nul ws + 6; omega⟩ hS (fun E ce q u H locs hxp hP hD hS h1 h2 h3 => by obtain ⟨hE, hu⟩ := hxp; rw [hu] at hP hD; exact mu_out (u := ws) hno hlocks h1 h2 h3 hP hK hD hz hS ⟨(by simp [hE]), rfl⟩ (by rw [hu]; show 2 * (nul ws - nul ws) + (2 * (nul ws - nul ws) + 1) ≤ 2 * (nul ws - nul ws) + 1; omega) (by rw [hu]; show 257 * (nul ws - nul ws) + (257 * (nul ws - nul ws) + 6) ≤ 257 * (nul ws - nul ws) + 6; omega)) (fun r9 u2 H locs hp hP hD hS => ?_)
  obtain ⟨hr9, hw9, h02⟩ := hp
  rw [hw9] at hP hD
  subst hr9
  refine W.widen (k := Kc ws ws) (n := Ks ws ws) (by rw [hw9]; show 2 * (nul ws - nul ws) + 2 * (nul ws - nul ws) ≤ 2 * (nul ws - nul ws); omega) (by rw [hw9]; show 257 * (nul ws - nul ws) + 257 * (nul ws - nul ws) ≤ 257 * (nul ws - nul ws); omega) ?_
  clear hw9
  refine W.eq (g2 := F0 m 9 ls []) rfl ?_
  obtain ⟨i, hi, hxi⟩ := pg_nat hI.bd h02.1 h02.2
  refine lv_aload_n hx hb d_S_sum_9 rfl (lv_at hl 0 rfl) ?_
  refine lv_iload_n hx hb d_S_sum_10 rfl (lv_at hl 1 rfl) ?_
  refine mu_V (n := 1) (As := [.int x9]) (rest := []) ⟨hx, hb, hml, hown, hts⟩ (c_S_bytesOf (D := D) (t := t) (z := z) (sa := sa) (ws := ws) (i := i) hI hi hxi) ml_S_85 im_S_bytesOf se_S_bytesOf in_S cd_S_bytesOf (by decide +kernel) ⟨Nat.le_of_ble_eq_true rfl, Nat.le_of_ble_eq_true rfl⟩ (va_recv hK hP (ci := 5) rfl hI.x) (Pz_at hP hK hD hz hM hS) rfl hl.1 rfl (Nat.le_of_ble_eq_true rfl) d_S_sum_11 ⟨by show 2 * (nul ws - nul ws) + (2 * nul ws + 1) ≤ 2 * nul ws + 1; omega, by show 257 * (nul ws - nul ws) + (257 * nul ws + 6) ≤ 257 * nul ws + 6; omega⟩ hS (fun _ _ _ _ _ _ h => h.elim) (fun r9 u3 H locs hp hP hD hS => ?_)
  obtain ⟨c4, j5, f6, hr9, h42c4, hcc4, hnec4, hI, hF9, hn9⟩ := hp
  subst hr9
  have hF := hF.trans hF9
  have hn : nul u3 ≤ nul ws := by omega
  refine W.widen (k := Kc ws u3) (n := Ks ws u3) (by show 2 * (nul ws - nul ws) + 2 * (nul ws - nul u3) ≤ 2 * (nul ws - nul u3); omega) (by show 257 * (nul ws - nul ws) + 257 * (nul ws - nul u3) ≤ 257 * (nul ws - nul u3); omega) ?_
  refine W.eq (g2 := F0 m 14 ls [.ref c4]) rfl ?_
  refine lv_astore_n (lv' := [(2, .ref c4), (0, .ref (a 0)), (1, .int x9)]) hx hb d_S_sum_14 rfl hl (by decide) rfl (fun ls hl => ?_)
  refine lv_ldc2 (v := 7) hx hb hown (hts _ co_S_103) d_S_sum_15 ?_
  refine lv_lstore_n (lv' := [(3, .long 7), (2, .ref c4), (0, .ref (a 0)), (1, .int x9)]) hx hb d_S_sum_18 rfl hl (by decide) rfl (fun ls hl => ?_)
  refine lv_iconst (v := 0) hx hb d_S_sum_19 (by decide) ?_
  refine lv_istore (lv' := [(5, .int 0), (3, .long 7), (2, .ref c4), (0, .ref (a 0)), (1, .int x9)]) hx hb d_S_sum_20 hl (by decide) rfl (fun ls hl => ?_)
  have key : ∀ (n9 i9 : Nat) (sv : Int64) (ls : Array Slot), i9 + n9 = 256 → lv_has ls 6 [(5, .int (nI i9)), (3, .long sv), (2, .ref c4), (0, .ref (a 0)), (1, .int x9)] → W p l e (headSpec (Cond.code y_S_sum b_S_sum 6 (some .long) :: WS) ({ frames := 7, cells := 2 * nul ws + 1, slots := 257 * nul ws + 6, locals := 103 })).room s m [.ref (a 0), .int x9].toArray below meth c H locs (Kc ws u3) (Ks ws u3) (mu_MQ below D t z (fun r u => (∃ y, r = some (.long y)) ∧ So a t ws u) (fun E u => (E = xISE ∨ E = xIOB) ∧ u = ws) (Kc ws) (Ks ws) [.ref (a 0), .int x9].toArray s) (F0 m 22 ls []) := by
    intro n9
    induction n9 with
    | zero =>
      intro i9 sv ls hi9 hl
      have hi9 : i9 = 256 := by omega
      subst hi9
      refine lv_iload hx hb d_S_sum_22 (lv_at hl 0 rfl) ?_
      refine lv_sipush (v := 256) hx hb d_S_sum_24 (by decide) ?_
      refine lv_icmp_ge (tgt := 52) hx hb d_S_sum_27 rfl (fun _ => ?_) (fun h => absurd (show (256 : Int32) ≤ nI 256 by decide) h)
      refine lv_lload_n hx hb d_S_sum_52 rfl (lv_at hl 1 rfl) ?_
      refine mu_end (u := u3) (v := (some (.long sv))) ⟨⟨_, rfl⟩, ⟨_, _, hI, hF, hn, hc1.eq rfl rfl⟩⟩ (Nat.le_refl _) (Nat.le_refl _) ?_
      exact W.lret (v := sv) hx hb hr (fun t9 ht hW => ⟨rfl, ⟨by rw [ht]; exact hP, va_K.moved hW.alike hK, hD, by rw [ht]; exact Nat.le_trans hz hS.1⟩, hS.F ht⟩) hS.2.2 d_S_sum_53
    | succ n9 ih =>
      intro i9 sv ls hi9 hl
      refine lv_iload hx hb d_S_sum_22 (lv_at hl 0 rfl) ?_
      refine lv_sipush (v := 256) hx hb d_S_sum_24 (by decide) ?_
      refine lv_icmp_ge (tgt := 52) hx hb d_S_sum_27 rfl (fun h => absurd h (nI_ge (a := i9) (b := 256) (by omega) (by decide))) (fun _ => ?_)
      refine lv_ldc2 (v := 31) hx hb hown (hts _ co_S_105) d_S_sum_30 ?_
      refine lv_lload_n hx hb d_S_sum_33 rfl (lv_at hl 1 rfl) ?_
      refine lv_lmul hx hb d_S_sum_34 ?_
      refine lv_topl (fun l7 hl7 => ?_)
      refine lv_aload_n hx hb d_S_sum_35 rfl (lv_at hl 2 rfl) ?_
      refine lv_iload hx hb d_S_sum_36 (lv_at hl 0 rfl) ?_
      refine va_bald (D := D) hx hb hK hP j5 0 hcc4 rfl (i := nI i9) (vp_in_nI (by omega) (by decide)) d_S_sum_38 ?_
      generalize f6 (nI i9).toNatClampNeg = y8
      refine lv_sipush (v := 255) hx hb d_S_sum_39 (by decide) ?_
      refine lv_iand hx hb d_S_sum_42 ?_
      refine lv_topi (fun v10 hv10 => ?_)
      refine lv_i2l (v := v10.toInt64) hx hb d_S_sum_43 rfl ?_
      refine lv_ladd hx hb d_S_sum_44 ?_
      refine lv_topl (fun l11 hl11 => ?_)
      refine lv_lstore_n (lv' := [(3, .long l11), (5, .int (nI i9)), (2, .ref c4), (0, .ref (a 0)), (1, .int x9)]) hx hb d_S_sum_45 rfl hl (by decide) rfl (fun ls hl => ?_)
      refine lv_iinc (k := 1) (v := nI (i9 + 1)) (lv' := [(5, .int (nI (i9 + 1))), (3, .long l11), (2, .ref c4), (0, .ref (a 0)), (1, .int x9)]) hx hb d_S_sum_46 hl rfl (nI_1 i9) (by decide) rfl (fun ls hl => ?_)
      refine lv_goto (tgt := 22) hx hb d_S_sum_49 rfl ?_
      exact ih (i9 + 1) _ ls (by omega) hl
  exact key 256 0 7 ls rfl hl
end
section
theorem Iv.swp {a : Nat → Nat} {t : Nat → ClassId} {k0 j1 j2 i : Nat} {v : Nat → Int32} {ws : va_W} {g1 g2 : Nat → Option Nat} (h : Iv a t k0 v ws) (h1 : j1 < 6) (h2 : j2 < 6) (hne : j1 ≠ j2) (e1 : ws[12 + 4 * j1]? = some (cM a t (12 + 4 * j1) g1)) (e2 : ws[12 + 4 * j2]? = some (cM a t (12 + 4 * j2) g2)) (hi : i < 768) :
    Iv a t k0 v ((ws.set (12 + 4 * j1) (cM a t (12 + 4 * j1) (va_up g1 i (g2 i)))).set (12 + 4 * j2) (cM a t (12 + 4 * j2) (va_up g2 i (g1 i)))) := by
  obtain ⟨⟨h0, h1', h2', h4, h5, ⟨gl, h7, hg⟩, h8, ⟨r, h10⟩, hz, hk, hh⟩, hb, hB, hN, hl, hk0⟩ := h
  have up : ∀ {p : Nat} {e : Nat × va_E}, ws[p]? = some e → 12 + 4 * j1 ≠ p → 12 + 4 * j2 ≠ p → ((ws.set (12 + 4 * j1) (cM a t (12 + 4 * j1) (va_up g1 i (g2 i)))).set (12 + 4 * j2) (cM a t (12 + 4 * j2) (va_up g2 i (g1 i))))[p]? = some e := fun q n1 n2 => lk_ne (lk_ne q n1) n2
  have bk : ∀ {b : Nat} {sp sp' : Prop}, (sp ↔ sp') → Bk t k0 ws b sp → Bk t k0 ((ws.set (12 + 4 * j1) (cM a t (12 + 4 * j1) (va_up g1 i (g2 i)))).set (12 + 4 * j2) (cM a t (12 + 4 * j2) (va_up g2 i (g1 i)))) b sp' := by
    intro b sp sp' hs q
    obtain ⟨k, c9, k', f, q1, q2, q3, q4, q5⟩ := q
    exact ⟨k, c9, k', f, q1, q2, up q3 (by omega) (by omega), up q4 (by omega) (by omega), q5.trans hs⟩
  obtain ⟨g1', f1, f2⟩ := hB _ (mds_j h1)
  cases e1.symm.trans f1
  obtain ⟨g2', f3, f4⟩ := hB _ (mds_j h2)
  cases e2.symm.trans f3
  rw [Nn_j] at f2 f4
  refine ⟨⟨up h0 (by omega) (by omega), up h1' (by omega) (by omega), up h2' (by omega) (by omega), up h4 (by omega) (by omega), up h5 (by omega) (by omega), ⟨gl, up h7 (by omega) (by omega), hg⟩, up h8 (by omega) (by omega), ⟨r, up h10 (by omega) (by omega)⟩, fun j hj => up (hz j hj) (by omega) (by omega), fun j hj => up (hk j hj) (by omega) (by omega), fun j hj => ?_⟩, hb, fun pm hpm => ?_, fun q => ?_, by rw [List.length_set, List.length_set]; exact hl, hk0.1, by rw [List.length_set, List.length_set]; exact hk0.2.1, fun k c9 L f g9 q => ?_⟩
  · obtain ⟨h11, e9, e8⟩ := hh j hj
    exact ⟨h11, up e9 (by omega) (by omega), e8⟩
  · by_cases p1 : pm = 12 + 4 * j1
    · subst p1
      refine ⟨_, lk_ne (lk_set e1) (by omega), fun i9 hi9 b hb9 => ?_⟩
      rw [Nn_j] at hi9
      by_cases ei : i9 = i
      · subst ei
        rw [va_up_self] at hb9
        exact bk ⟨fun q => by have := q.1; omega, fun q => by have := q.1; omega⟩ (f4 i9 hi9 b hb9)
      · rw [va_up_ne _ _ ei] at hb9
        exact bk Iff.rfl (f2 i9 hi9 b hb9)
    · by_cases p2 : pm = 12 + 4 * j2
      · subst p2
        refine ⟨_, lk_set (lk_ne e2 (by omega)), fun i9 hi9 b hb9 => ?_⟩
        rw [Nn_j] at hi9
        by_cases ei : i9 = i
        · subst ei
          rw [va_up_self] at hb9
          exact bk ⟨fun q => by have := q.1; omega, fun q => by have := q.1; omega⟩ (f2 i9 hi9 b hb9)
        · rw [va_up_ne _ _ ei] at hb9
          exact bk Iff.rfl (f4 i9 hi9 b hb9)
      · obtain ⟨g9, q1, q2⟩ := hB pm hpm
        exact ⟨g9, up q1 (fun z => p1 z.symm) (fun z => p2 z.symm), fun i9 hi9 b hb9 => bk Iff.rfl (q2 i9 hi9 b hb9)⟩
  · obtain ⟨q1, ⟨g9, b9, q2, q3⟩, c9, f, n, q4, q5⟩ := hN q
    exact ⟨q1, ⟨g9, b9, up q2 (by omega) (by omega), q3⟩, c9, f, n, up q4 (by omega) (by omega), q5⟩
  · rw [List.getElem?_set_ne (by omega), List.getElem?_set_ne (by omega)] at q
    exact hk0.2.2 k c9 L f g9 q
theorem nul_swp {a : Nat → Nat} {t : Nat → ClassId} {j1 j2 i : Nat} {ws : va_W} {g1 g2 : Nat → Option Nat} (h1 : j1 < 6) (h2 : j2 < 6) (hne : j1 ≠ j2) (e1 : ws[12 + 4 * j1]? = some (cM a t (12 + 4 * j1) g1)) (e2 : ws[12 + 4 * j2]? = some (cM a t (12 + 4 * j2) g2)) (hi : i < 768) :
    nul ((ws.set (12 + 4 * j1) (cM a t (12 + 4 * j1) (va_up g1 i (g2 i)))).set (12 + 4 * j2) (cM a t (12 + 4 * j2) (va_up g2 i (g1 i)))) = nul ws := by
  have q1 := nul_ch (ws := ws) (u := ws.set (12 + 4 * j1) (cM a t (12 + 4 * j1) (va_up g1 i (g2 i)))) (d := (cnt g1 768 : Int) - cnt (va_up g1 i (g2 i)) 768) (mds_j h1) (fun q _ hq => List.getElem?_set_ne (Ne.symm hq)) (by
    rw [lk_set e1, e1]
    show ((cnt _ (Nn (12 + 4 * j1)) : Nat) : Int) + _ = ((cnt _ (Nn (12 + 4 * j1)) : Nat) : Int)
    rw [Nn_j]; omega)
  have e2' : (ws.set (12 + 4 * j1) (cM a t (12 + 4 * j1) (va_up g1 i (g2 i))))[12 + 4 * j2]? = some (cM a t (12 + 4 * j2) g2) := lk_ne e2 (by omega)
  have q2 := nul_ch (ws := ws.set (12 + 4 * j1) (cM a t (12 + 4 * j1) (va_up g1 i (g2 i)))) (u := (ws.set (12 + 4 * j1) (cM a t (12 + 4 * j1) (va_up g1 i (g2 i)))).set (12 + 4 * j2) (cM a t (12 + 4 * j2) (va_up g2 i (g1 i)))) (d := (cnt g2 768 : Int) - cnt (va_up g2 i (g1 i)) 768) (mds_j h2) (fun q _ hq => List.getElem?_set_ne (Ne.symm hq)) (by
    rw [lk_set e2', e2']
    show ((cnt _ (Nn (12 + 4 * j2)) : Nat) : Int) + _ = ((cnt _ (Nn (12 + 4 * j2)) : Nat) : Int)
    rw [Nn_j]; omega)
  have q3 := cnt_swap (g := g1) (h := g2) (i := i) (n := 768) hi
  omega
set_option maxHeartbeats 4000000 in
set_option maxRecDepth 100000 in
theorem c_K_swap {l : Launch} {D : va_G} {t : Nat → ClassId} {z : Nat} {sa : Nat → Nat} {ws : va_W} {a : Nat → Nat} {k0 : Nat} {v : Nat → Int32} {j1 j2 i : Nat} {x9 : Int32} (hI : Iv a t k0 v ws) (hj1 : j1 < 6) (hj2 : j2 < 6) (hne : j1 ≠ j2) (hi : i < 768) (hxi : x9 = nI i) : Mu l y_K_swap (Cond.code y_K_swap b_K_swap 4 (.none : Option Jvm.ClassFile.FieldType) :: WS) ({ frames := 0, cells := 2 * nul ws + 1, slots := 257 * nul ws + 6, locals := 0 }) D t z sa ws [.ref (a (11 + 4 * j1)), .int x9, .ref (a (11 + 4 * j2))] (fun r u => Iv a t k0 v u ∧ Fr t ws u ∧ nul u ≤ nul ws ∧ r = none) Xno (Kc ws) (Ks ws) := by
  refine mu_ofW (cc := b_K_swap) (maxL := 4) (ret := (.none : Option Jvm.ClassFile.FieldType)) (by decide) rfl ?_
  intro p e s m args below meth c s₁ B hml hno hv
  obtain ⟨rfl, ⟨hP, hK, hD, hz⟩, hM⟩ := hv
  have hx := B.exec
  have hb := B.bytes
  have hr := B.returns
  have hts : ∀ w ∈ WS, w.before [.ref (a (11 + 4 * j1)), .int x9, .ref (a (11 + 4 * j2))].toArray s = true := fun w h => atoms_spec B.pre w (List.mem_cons_of_mem _ h)
  have hown : s.vm.findClass R_K = some m.cls := findClass_of_methodNamed B.named
  have hlocks := B.notSynchronized
  have hA : ∀ q, s.heap.size ≤ q → Az z q := fun q h => Nat.le_trans hz h
  have hS : va_S (Az z) s.heap s.heap [] := va_S.rf
  have hF : Fr t ws ws := Fr.rf
  have hn : nul ws ≤ nul ws := Nat.le_refl _
  have hl := lv_entry ([.ref (a (11 + 4 * j1)), .int x9, .ref (a (11 + 4 * j2))]) (n := 4) (Nat.le_of_ble_eq_true rfl)
  rw [lg_entry_eq]
  generalize (lg_sl ([.ref (a (11 + 4 * j1)), .int x9, .ref (a (11 + 4 * j2))]) ++ List.replicate (4 - (lg_sl ([.ref (a (11 + 4 * j1)), .int x9, .ref (a (11 + 4 * j2))])).length) Slot.unset).toArray = ls at hl ⊢
  have hl : lv_has ls 4 [(0, .ref (a (11 + 4 * j1))), (1, .int x9), (2, .ref (a (11 + 4 * j2)))] := hl
  refine W.widen (k := Kc ws ws) (n := Ks ws ws) (Nat.zero_le _) (Nat.zero_le _) ?_
  have hcl : (x9 : Int32).toNatClampNeg = i := by rw [hxi]; exact nI_clamp (by omega)
  have hin9 : vp_in x9 (Nn (12 + 4 * j1)) := by rw [Nn_j, hxi]; exact vp_in_nI hi (by decide)
  have hin8 : vp_in x9 (Nn (12 + 4 * j2)) := by rw [Nn_j, hxi]; exact vp_in_nI hi (by decide)
  obtain ⟨g1, em1, hg1⟩ := hI.blk (mds_j hj1)
  obtain ⟨g2, em2, hg2⟩ := hI.blk (mds_j hj2)
  refine lv_aload_n hx hb d_K_swap_0 rfl (lv_at hl 0 rfl) ?_
  refine va_get (D := D) (ci := 1) (v := .ref (a (12 + 4 * j1))) (C := R_K) (T := F_K) (N := 1) hx hb hts ws_K hown hK hP (11 + 4 * j1) (hI.zk hj1) rfl 0 (by decide) (hts _ fl_K_9) (fun _ h9 => h9) rfl d_K_swap_1 ?_
  refine lv_iload_n hx hb d_K_swap_4 rfl (lv_at hl 1 rfl) ?_
  refine va_aldq (D := D) hx hb hK hP (12 + 4 * j1) 2 em1 rfl (i := x9) hin9 d_K_swap_5 ?_
  rw [hcl]
  have hz1 := hI.zk hj1
  have hz2 := hI.zk hj2
  have hfin : ∀ {H : Heap} {locs : List Loc} {ls : Array Slot}, va_P D Cl ((ws.set (12 + 4 * j1) (cM a t (12 + 4 * j1) (va_up g1 i (g2 i)))).set (12 + 4 * j2) (cM a t (12 + 4 * j2) (va_up g2 i (g1 i)))) H → va_D (Az z) ((ws.set (12 + 4 * j1) (cM a t (12 + 4 * j1) (va_up g1 i (g2 i)))).set (12 + 4 * j2) (cM a t (12 + 4 * j2) (va_up g2 i (g1 i)))) → va_S (Az z) s.heap H locs → W p l e (headSpec (Cond.code y_K_swap b_K_swap 4 (.none : Option Jvm.ClassFile.FieldType) :: WS) ({ frames := 0, cells := 2 * nul ws + 1, slots := 257 * nul ws + 6, locals := 0 })).room s m [.ref (a (11 + 4 * j1)), .int x9, .ref (a (11 + 4 * j2))].toArray below meth c H locs (Kc ws ws) (Ks ws ws) (mu_MQ below D t z (fun r u => Iv a t k0 v u ∧ Fr t ws u ∧ nul u ≤ nul ws ∧ r = none) Xno (Kc ws) (Ks ws) [.ref (a (11 + 4 * j1)), .int x9, .ref (a (11 + 4 * j2))].toArray s) (F0 m 26 ls []) := by
    intro H locs ls hP hD hS
    have hq9 := nul_swp (a := a) (t := t) hj1 hj2 hne em1 em2 hi
    have hI := hI.swp hj1 hj2 hne em1 em2 hi
    have hF := (hF.set (p := 12 + 4 * j1) (c := cM a t (12 + 4 * j1) (va_up g1 i (g2 i))) (by omega) (by omega)).set (p := 12 + 4 * j2) (c := cM a t (12 + 4 * j2) (va_up g2 i (g1 i))) (by omega) (by omega)
    generalize (ws.set (12 + 4 * j1) (cM a t (12 + 4 * j1) (va_up g1 i (g2 i)))).set (12 + 4 * j2) (cM a t (12 + 4 * j2) (va_up g2 i (g1 i))) = u at hP hD hI hF hq9
    have hn : nul u ≤ nul ws := by omega
    refine mu_end (u := u) (v := none) ⟨hI, hF, hn, rfl⟩ (by show 2 * (nul ws - nul ws) ≤ 2 * (nul ws - nul u); omega) (by show 257 * (nul ws - nul ws) ≤ 257 * (nul ws - nul u); omega) ?_
    exact W.vret hx hb hr (fun t9 ht hW => ⟨rfl, ⟨by rw [ht]; exact hP, va_K.moved hW.alike hK, hD, by rw [ht]; exact Nat.le_trans hz hS.1⟩, hS.F ht⟩) hS.2.2 d_K_swap_26
  cases hc1g : g1 i with
  | none =>
    refine lv_astore_nN (lv' := [(3, .null), (0, .ref (a (11 + 4 * j1))), (1, .int x9), (2, .ref (a (11 + 4 * j2)))]) hx hb d_K_swap_6 rfl hl (by decide) rfl (fun ls hl => ?_)
    refine lv_aload_n hx hb d_K_swap_7 rfl (lv_at hl 1 rfl) ?_
    refine va_get (D := D) (ci := 1) (v := .ref (a (12 + 4 * j1))) (C := R_K) (T := F_K) (N := 1) hx hb hts ws_K hown hK hP (11 + 4 * j1) hz1 rfl 0 (by decide) (hts _ fl_K_9) (fun _ h9 => h9) rfl d_K_swap_8 ?_
    refine lv_iload_n hx hb d_K_swap_11 rfl (lv_at hl 2 rfl) ?_
    refine lv_aload_n hx hb d_K_swap_12 rfl (lv_at hl 3 rfl) ?_
    refine va_get (D := D) (ci := 1) (v := .ref (a (12 + 4 * j2))) (C := R_K) (T := F_K) (N := 1) hx hb hts ws_K hown hK hP (11 + 4 * j2) hz2 rfl 0 (by decide) (hts _ fl_K_9) (fun _ h9 => h9) rfl d_K_swap_13 ?_
    refine lv_iload_n hx hb d_K_swap_16 rfl (lv_at hl 2 rfl) ?_
    refine va_aldq (D := D) hx hb hK hP (12 + 4 * j2) 2 em2 rfl (i := x9) hin8 d_K_swap_17 ?_
    rw [hcl]
    cases hc2g : g2 i with
    | none =>
      refine va_astqN (D := D) hx hb hK hP hD hS (12 + 4 * j1) 2 em1 rfl (i := x9) hin9 d_K_swap_18 (fun H locs hP hD hS => ?_)
      rw [hcl] at hP hD
      refine lv_aload_n hx hb d_K_swap_19 rfl (lv_at hl 3 rfl) ?_
      refine va_get (D := D) (ci := 1) (v := .ref (a (12 + 4 * j2))) (C := R_K) (T := F_K) (N := 1) hx hb hts ws_K hown hK hP (11 + 4 * j2) (lk_ne hz2 (by omega)) rfl 0 (by decide) (hts _ fl_K_9) (fun _ h9 => h9) rfl d_K_swap_20 ?_
      refine lv_iload_n hx hb d_K_swap_23 rfl (lv_at hl 2 rfl) ?_
      refine lv_aload_nN hx hb d_K_swap_24 rfl (lv_at hl 0 rfl) ?_
      refine va_astqN (D := D) hx hb hK hP hD hS (12 + 4 * j2) 2 (lk_ne em2 (by omega)) rfl (i := x9) hin8 d_K_swap_25 (fun H locs hP hD hS => ?_)
      rw [hcl] at hP hD
      exact hfin (by rw [hc1g, hc2g]; exact hP) (by rw [hc1g, hc2g]; exact hD) hS
    | some b2 =>
      obtain ⟨k2, c2, l2, f2, q21, q22, q23, q24, q25⟩ := hg2 i (by rw [Nn_j]; exact hi) b2 hc2g
      refine va_astq (D := D) hx hb hK hP hD hS (12 + 4 * j1) 2 k2 0 (r := (R_B, F_B, 1)) em1 rfl q23 rfl (i := x9) hin9 d_K_swap_18 (fun H locs hP hD hS => ?_)
      rw [hcl] at hP hD
      refine lv_aload_n hx hb d_K_swap_19 rfl (lv_at hl 3 rfl) ?_
      refine va_get (D := D) (ci := 1) (v := .ref (a (12 + 4 * j2))) (C := R_K) (T := F_K) (N := 1) hx hb hts ws_K hown hK hP (11 + 4 * j2) (lk_ne hz2 (by omega)) rfl 0 (by decide) (hts _ fl_K_9) (fun _ h9 => h9) rfl d_K_swap_20 ?_
      refine lv_iload_n hx hb d_K_swap_23 rfl (lv_at hl 2 rfl) ?_
      refine lv_aload_nN hx hb d_K_swap_24 rfl (lv_at hl 0 rfl) ?_
      refine va_astqN (D := D) hx hb hK hP hD hS (12 + 4 * j2) 2 (lk_ne em2 (by omega)) rfl (i := x9) hin8 d_K_swap_25 (fun H locs hP hD hS => ?_)
      rw [hcl] at hP hD
      exact hfin (by rw [hc1g, hc2g]; exact hP) (by rw [hc1g, hc2g]; exact hD) hS
  | some b1 =>
    obtain ⟨k1, c1, l1, f1, q11, q12, q13, q14, q15⟩ := hg1 i (by rw [Nn_j]; exact hi) b1 hc1g
    refine lv_astore_n (lv' := [(3, .ref b1), (0, .ref (a (11 + 4 * j1))), (1, .int x9), (2, .ref (a (11 + 4 * j2)))]) hx hb d_K_swap_6 rfl hl (by decide) rfl (fun ls hl => ?_)
    refine lv_aload_n hx hb d_K_swap_7 rfl (lv_at hl 1 rfl) ?_
    refine va_get (D := D) (ci := 1) (v := .ref (a (12 + 4 * j1))) (C := R_K) (T := F_K) (N := 1) hx hb hts ws_K hown hK hP (11 + 4 * j1) hz1 rfl 0 (by decide) (hts _ fl_K_9) (fun _ h9 => h9) rfl d_K_swap_8 ?_
    refine lv_iload_n hx hb d_K_swap_11 rfl (lv_at hl 2 rfl) ?_
    refine lv_aload_n hx hb d_K_swap_12 rfl (lv_at hl 3 rfl) ?_
    refine va_get (D := D) (ci := 1) (v := .ref (a (12 + 4 * j2))) (C := R_K) (T := F_K) (N := 1) hx hb hts ws_K hown hK hP (11 + 4 * j2) hz2 rfl 0 (by decide) (hts _ fl_K_9) (fun _ h9 => h9) rfl d_K_swap_13 ?_
    refine lv_iload_n hx hb d_K_swap_16 rfl (lv_at hl 2 rfl) ?_
    refine va_aldq (D := D) hx hb hK hP (12 + 4 * j2) 2 em2 rfl (i := x9) hin8 d_K_swap_17 ?_
    rw [hcl]
    cases hc2g : g2 i with
    | none =>
      refine va_astqN (D := D) hx hb hK hP hD hS (12 + 4 * j1) 2 em1 rfl (i := x9) hin9 d_K_swap_18 (fun H locs hP hD hS => ?_)
      rw [hcl] at hP hD
      refine lv_aload_n hx hb d_K_swap_19 rfl (lv_at hl 3 rfl) ?_
      refine va_get (D := D) (ci := 1) (v := .ref (a (12 + 4 * j2))) (C := R_K) (T := F_K) (N := 1) hx hb hts ws_K hown hK hP (11 + 4 * j2) (lk_ne hz2 (by omega)) rfl 0 (by decide) (hts _ fl_K_9) (fun _ h9 => h9) rfl d_K_swap_20 ?_
      refine lv_iload_n hx hb d_K_swap_23 rfl (lv_at hl 2 rfl) ?_
      refine lv_aload_n hx hb d_K_swap_24 rfl (lv_at hl 0 rfl) ?_
      refine va_astq (D := D) hx hb hK hP hD hS (12 + 4 * j2) 2 k1 0 (r := (R_B, F_B, 1)) (lk_ne em2 (by omega)) rfl (lk_ne q13 (by omega)) rfl (i := x9) hin8 d_K_swap_25 (fun H locs hP hD hS => ?_)
      rw [hcl] at hP hD
      exact hfin (by rw [hc1g, hc2g]; exact hP) (by rw [hc1g, hc2g]; exact hD) hS
    | some b2 =>
      obtain ⟨k2, c2, l2, f2, q21, q22, q23, q24, q25⟩ := hg2 i (by rw [Nn_j]; exact hi) b2 hc2g
      refine va_astq (D := D) hx hb hK hP hD hS (12 + 4 * j1) 2 k2 0 (r := (R_B, F_B, 1)) em1 rfl q23 rfl (i := x9) hin9 d_K_swap_18 (fun H locs hP hD hS => ?_)
      rw [hcl] at hP hD
      refine lv_aload_n hx hb d_K_swap_19 rfl (lv_at hl 3 rfl) ?_
      refine va_get (D := D) (ci := 1) (v := .ref (a (12 + 4 * j2))) (C := R_K) (T := F_K) (N := 1) hx hb hts ws_K hown hK hP (11 + 4 * j2) (lk_ne hz2 (by omega)) rfl 0 (by decide) (hts _ fl_K_9) (fun _ h9 => h9) rfl d_K_swap_20 ?_
      refine lv_iload_n hx hb d_K_swap_23 rfl (lv_at hl 2 rfl) ?_
      refine lv_aload_n hx hb d_K_swap_24 rfl (lv_at hl 0 rfl) ?_
      refine va_astq (D := D) hx hb hK hP hD hS (12 + 4 * j2) 2 k1 0 (r := (R_B, F_B, 1)) (lk_ne em2 (by omega)) rfl (lk_ne q13 (by omega)) rfl (i := x9) hin8 d_K_swap_25 (fun H locs hP hD hS => ?_)
      rw [hcl] at hP hD
      exact hfin (by rw [hc1g, hc2g]; exact hP) (by rw [hc1g, hc2g]; exact hD) hS
end
section
set_option maxHeartbeats 4000000 in
set_option maxRecDepth 100000 in
theorem c_Z_takeOver {l : Launch} {D : va_G} {t : Nat → ClassId} {z : Nat} {sa : Nat → Nat} {ws : va_W} {a : Nat → Nat} {k0 : Nat} {v : Nat → Int32} {j1 j2 : Nat} (hI : Iv a t k0 v ws) (hj1 : j1 < 6) (hj2 : j2 < 6) (hne : j1 ≠ j2) : Mu l y_Z_takeOver (Cond.code y_Z_takeOver b_Z_takeOver 3 (.none : Option Jvm.ClassFile.FieldType) :: WS) ({ frames := 1, cells := 2 * nul ws + 1, slots := 257 * nul ws + 6, locals := 23 }) D t z sa ws [.ref (a (10 + 4 * j1)), .ref (a (10 + 4 * j2))] (fun r u => Iv a t k0 v u ∧ Fr t ws u ∧ nul u ≤ nul ws ∧ r = none) Xno (Kc ws) (Ks ws) := by
  refine mu_ofW (cc := b_Z_takeOver) (maxL := 3) (ret := (.none : Option Jvm.ClassFile.FieldType)) (by decide) rfl ?_
  intro p e s m args below meth c s₁ B hml hno hv
  obtain ⟨rfl, ⟨hP, hK, hD, hz⟩, hM⟩ := hv
  have hx := B.exec
  have hb := B.bytes
  have hr := B.returns
  have hts : ∀ w ∈ WS, w.before [.ref (a (10 + 4 * j1)), .ref (a (10 + 4 * j2))].toArray s = true := fun w h => atoms_spec B.pre w (List.mem_cons_of_mem _ h)
  have hown : s.vm.findClass R_Z = some m.cls := findClass_of_methodNamed B.named
  have hlocks := B.notSynchronized
  have hA : ∀ q, s.heap.size ≤ q → Az z q := fun q h => Nat.le_trans hz h
  have hS : va_S (Az z) s.heap s.heap [] := va_S.rf
  have hF : Fr t ws ws := Fr.rf
  have hn : nul ws ≤ nul ws := Nat.le_refl _
  have hl := lv_entry ([.ref (a (10 + 4 * j1)), .ref (a (10 + 4 * j2))]) (n := 3) (Nat.le_of_ble_eq_true rfl)
  rw [lg_entry_eq]
  generalize (lg_sl ([.ref (a (10 + 4 * j1)), .ref (a (10 + 4 * j2))]) ++ List.replicate (3 - (lg_sl ([.ref (a (10 + 4 * j1)), .ref (a (10 + 4 * j2))])).length) Slot.unset).toArray = ls at hl ⊢
  have hl : lv_has ls 3 [(0, .ref (a (10 + 4 * j1))), (1, .ref (a (10 + 4 * j2)))] := hl
  refine W.widen (k := Kc ws ws) (n := Ks ws ws) (Nat.zero_le _) (Nat.zero_le _) ?_
  refine lv_iconst (v := 0) hx hb d_Z_takeOver_0 (by decide) ?_
  refine lv_istore_n (lv' := [(2, .int 0), (0, .ref (a (10 + 4 * j1))), (1, .ref (a (10 + 4 * j2)))]) hx hb d_Z_takeOver_1 rfl hl (by decide) rfl (fun ls hl => ?_)
  have key : ∀ (n9 i : Nat) (w9 : va_W) (H : Heap) (locs : List Loc) (ls : Array Slot), i + n9 = 768 → va_P D Cl w9 H → va_D (Az z) w9 → va_S (Az z) s.heap H locs → Iv a t k0 v w9 → Fr t ws w9 → nul w9 ≤ nul ws → lv_has ls 3 [(2, .int (nI i)), (0, .ref (a (10 + 4 * j1))), (1, .ref (a (10 + 4 * j2)))] → W p l e (headSpec (Cond.code y_Z_takeOver b_Z_takeOver 3 (.none : Option Jvm.ClassFile.FieldType) :: WS) ({ frames := 1, cells := 2 * nul ws + 1, slots := 257 * nul ws + 6, locals := 23 })).room s m [.ref (a (10 + 4 * j1)), .ref (a (10 + 4 * j2))].toArray below meth c H locs (Kc ws w9) (Ks ws w9) (mu_MQ below D t z (fun r u => Iv a t k0 v u ∧ Fr t ws u ∧ nul u ≤ nul ws ∧ r = none) Xno (Kc ws) (Ks ws) [.ref (a (10 + 4 * j1)), .ref (a (10 + 4 * j2))].toArray s) (F0 m 2 ls []) := by
    intro n9
    induction n9 with
    | zero =>
      intro i w9 H locs ls hi9 hP hD hS hI hF hn hl
      have hi9 : i = 768 := by omega
      subst hi9
      refine lv_iload_n hx hb d_Z_takeOver_2 rfl (lv_at hl 0 rfl) ?_
      refine lv_sipush (v := 768) hx hb d_Z_takeOver_3 (by decide) ?_
      refine lv_icmp_ge (tgt := 43) hx hb d_Z_takeOver_6 rfl (fun _ => ?_) (fun h => absurd (show (768 : Int32) ≤ nI 768 by decide) h)
      refine mu_end (u := w9) (v := (none)) ⟨hI, hF, hn, rfl⟩ (Nat.le_refl _) (Nat.le_refl _) ?_
      exact W.vret hx hb hr (fun t9 ht hW => ⟨rfl, ⟨by rw [ht]; exact hP, va_K.moved hW.alike hK, hD, by rw [ht]; exact Nat.le_trans hz hS.1⟩, hS.F ht⟩) hS.2.2 d_Z_takeOver_43
    | succ n9 ih =>
      intro i w9 H locs ls hi9 hP hD hS hI hF hn hl
      have hi : i < 768 := by omega
      obtain ⟨x9, hxi⟩ : ∃ q, q = nI i := ⟨_, rfl⟩
      rw [← hxi] at hl
      refine lv_iload_n hx hb d_Z_takeOver_2 rfl (lv_at hl 0 rfl) ?_
      refine lv_sipush (v := 768) hx hb d_Z_takeOver_3 (by decide) ?_
      refine lv_icmp_ge (tgt := 43) hx hb d_Z_takeOver_6 rfl (fun h => absurd h (by rw [hxi]; exact nI_ge (a := i) (b := 768) (by omega) (by decide))) (fun _ => ?_)
      refine lv_aload_n hx hb d_Z_takeOver_9 rfl (lv_at hl 2 rfl) ?_
      refine va_get (D := D) (ci := 4) (v := .ref (a (13 + 4 * j2))) (C := R_Z) (T := F_Z) (N := 3) hx hb hts ws_Z hown hK hP (10 + 4 * j2) (hI.z hj2) rfl 1 (by decide) (hts _ fl_Z_20) (fun _ h9 => h9) rfl d_Z_takeOver_10 ?_
      refine lv_iload_n hx hb d_Z_takeOver_13 rfl (lv_at hl 0 rfl) ?_
      obtain ⟨h13, e13, e14⟩ := hI.zh hj2
      refine va_zald (D := D) hx hb hK hP (13 + 4 * j2) 1 e13 rfl (i := x9) (zz_lt hxi hi) d_Z_takeOver_14 ?_
      generalize h13 (x9 : Int32).toNatClampNeg = y1
      refine lv_if_eq (tgt := 37) hx hb d_Z_takeOver_15 rfl (fun q2 => ?_) (fun q2 => ?_)
      · skip
        refine lv_iinc (k := 0) (v := nI (i + 1)) (lv' := [(2, .int (nI (i + 1))), (0, .ref (a (10 + 4 * j1))), (1, .ref (a (10 + 4 * j2)))]) hx hb d_Z_takeOver_37 hl rfl (by rw [hxi]; exact nI_1 i) (by decide) rfl (fun ls hl => ?_)
        refine lv_goto (tgt := 2) hx hb d_Z_takeOver_40 rfl ?_
        exact ih (i + 1) w9 H locs ls (by omega) hP hD hS hI hF hn hl
      · skip
        refine lv_aload_n hx hb d_Z_takeOver_18 rfl (lv_at hl 1 rfl) ?_
        refine va_get (D := D) (ci := 4) (v := .ref (a (11 + 4 * j1))) (C := R_Z) (T := F_Z) (N := 3) hx hb hts ws_Z hown hK hP (10 + 4 * j1) (hI.z hj1) rfl 0 (by decide) (hts _ fl_Z_14) (fun _ h9 => h9) rfl d_Z_takeOver_19 ?_
        refine lv_iload_n hx hb d_Z_takeOver_22 rfl (lv_at hl 0 rfl) ?_
        refine lv_aload_n hx hb d_Z_takeOver_23 rfl (lv_at hl 2 rfl) ?_
        refine va_get (D := D) (ci := 4) (v := .ref (a (11 + 4 * j2))) (C := R_Z) (T := F_Z) (N := 3) hx hb hts ws_Z hown hK hP (10 + 4 * j2) (hI.z hj2) rfl 0 (by decide) (hts _ fl_Z_14) (fun _ h9 => h9) rfl d_Z_takeOver_24 ?_
        refine mu_V (n := 2) (As := [.int x9, .ref (a (11 + 4 * j2))]) (rest := []) ⟨hx, hb, hml, hown, hts⟩ (c_K_swap (D := D) (t := t) (z := z) (sa := sa) (ws := w9) (j1 := j1) (j2 := j2) (i := i) hI hj1 hj2 hne hi hxi) ml_Z_32 im_K_swap se_K_swap in_K cd_K_swap (by decide +kernel) ⟨Nat.le_of_ble_eq_true rfl, Nat.le_of_ble_eq_true rfl⟩ (va_recv hK hP (ci := 1) rfl (hI.zk hj1)) (Pz_at hP hK hD hz hM hS) rfl hl.1 rfl (Nat.le_of_ble_eq_true rfl) d_Z_takeOver_27 ⟨by show 2 * (nul ws - nul w9) + (2 * nul w9 + 1) ≤ 2 * nul ws + 1; omega, by show 257 * (nul ws - nul w9) + (257 * nul w9 + 6) ≤ 257 * nul ws + 6; omega⟩ hS (fun _ _ _ _ _ _ h => h.elim) (fun r9 u3 H locs hp hP hD hS => ?_)
        obtain ⟨hI, hF9, hn9, hr9⟩ := hp
        subst hr9
        have hF := hF.trans hF9
        have hn : nul u3 ≤ nul ws := by omega
        refine W.widen (k := Kc ws u3) (n := Ks ws u3) (by show 2 * (nul ws - nul w9) + 2 * (nul w9 - nul u3) ≤ 2 * (nul ws - nul u3); omega) (by show 257 * (nul ws - nul w9) + 257 * (nul w9 - nul u3) ≤ 257 * (nul ws - nul u3); omega) ?_
        refine W.eq (g2 := F0 m 30 ls []) rfl ?_
        refine lv_aload_n hx hb d_Z_takeOver_30 rfl (lv_at hl 1 rfl) ?_
        refine va_get (D := D) (ci := 4) (v := .ref (a (13 + 4 * j1))) (C := R_Z) (T := F_Z) (N := 3) hx hb hts ws_Z hown hK hP (10 + 4 * j1) (hI.z hj1) rfl 1 (by decide) (hts _ fl_Z_20) (fun _ h9 => h9) rfl d_Z_takeOver_31 ?_
        refine lv_iload_n hx hb d_Z_takeOver_34 rfl (lv_at hl 0 rfl) ?_
        refine lv_iconst (v := 1) hx hb d_Z_takeOver_35 (by decide) ?_
        obtain ⟨h13, e13, e14⟩ := hI.zh hj1
        refine va_zast (D := D) hx hb hK hP hD hS (13 + 4 * j1) 1 e13 rfl (x := 1) (i := x9) (zz_lt hxi hi) d_Z_takeOver_36 (fun H locs hP hD hS => ?_)
        obtain ⟨h15, hh15⟩ : ∃ q, q = upd h13 (x9 : Int32).toNatClampNeg (vp_nar .boolean 1) := ⟨_, rfl⟩
        have e15 : ∀ i, h15 i = 0 ∨ h15 i = 1 := by rw [hh15]; exact up01 e14 (by decide)
        rw [← hh15] at hP hD
        obtain ⟨w4, hw⟩ : ∃ q, q = u3.set (13 + 4 * j1) (a (13 + 4 * j1), .inl (t 1, 768, .inl h15)) := ⟨_, rfl⟩
        have hP : va_P D Cl (u3.set (13 + 4 * j1) (a (13 + 4 * j1), .inl (t 1, 768, .inl h15))) H := hP
        have hD : va_D (Az z) (u3.set (13 + 4 * j1) (a (13 + 4 * j1), .inl (t 1, 768, .inl h15))) := hD
        have hF : Fr t ws (u3.set (13 + 4 * j1) (a (13 + 4 * j1), .inl (t 1, 768, .inl h15))) := hF.set (by omega) (by omega)
        have hI := hI.setH hj1 e15
        have hq9 : nul (u3.set (13 + 4 * j1) (a (13 + 4 * j1), .inl (t 1, 768, .inl h15))) = nul u3 := nul_set nm13
        rw [← hw] at hP hD hF hI hq9
        clear hw
        have hn : nul w4 ≤ nul ws := by omega
        refine W.widen (k := Kc ws w4) (n := Ks ws w4) (by show 2 * (nul ws - nul u3) ≤ 2 * (nul ws - nul w4); omega) (by show 257 * (nul ws - nul u3) ≤ 257 * (nul ws - nul w4); omega) ?_
        refine lv_iinc (k := 0) (v := nI (i + 1)) (lv' := [(2, .int (nI (i + 1))), (0, .ref (a (10 + 4 * j1))), (1, .ref (a (10 + 4 * j2)))]) hx hb d_Z_takeOver_37 hl rfl (by rw [hxi]; exact nI_1 i) (by decide) rfl (fun ls hl => ?_)
        refine lv_goto (tgt := 2) hx hb d_Z_takeOver_40 rfl ?_
        exact ih (i + 1) w4 H locs ls (by omega) hP hD hS hI hF hn hl
  exact key 768 0 ws _ _ _ rfl hP hD hS hI hF hn hl
end
section
set_option maxHeartbeats 4000000 in
set_option maxRecDepth 100000 in
theorem c_S_foldMarks {l : Launch} {D : va_G} {t : Nat → ClassId} {z : Nat} {sa : Nat → Nat} {ws : va_W} {a : Nat → Nat} {k0 : Nat} {v : Nat → Int32} {j1 : Nat} {x9 : Int32} (hI : Iv a t k0 v ws) (hj1 : j1 < 6) (hxi : x9 = nI (j1 + 1)) : Mu l y_S_foldMarks (Cond.code y_S_foldMarks b_S_foldMarks 3 (.none : Option Jvm.ClassFile.FieldType) :: WS) ({ frames := 2, cells := 2 * nul ws + 1, slots := 257 * nul ws + 6, locals := 45 }) D t z sa ws [.ref (a 0), .int x9] (fun r u => ∃ v1, Iv a t k0 v1 u ∧ Fr t ws u ∧ nul u ≤ nul ws ∧ r = none ∧ (∀ i, i ≠ 2 → v1 i = v i)) Xno (Kc ws) (Ks ws) := by
  refine mu_ofW (cc := b_S_foldMarks) (maxL := 3) (ret := (.none : Option Jvm.ClassFile.FieldType)) (by decide) rfl ?_
  intro p e s m args below meth c s₁ B hml hno hv
  obtain ⟨rfl, ⟨hP, hK, hD, hz⟩, hM⟩ := hv
  have hx := B.exec
  have hb := B.bytes
  have hr := B.returns
  have hts : ∀ w ∈ WS, w.before [.ref (a 0), .int x9].toArray s = true := fun w h => atoms_spec B.pre w (List.mem_cons_of_mem _ h)
  have hown : s.vm.findClass R_S = some m.cls := findClass_of_methodNamed B.named
  have hlocks := B.notSynchronized
  have hA : ∀ q, s.heap.size ≤ q → Az z q := fun q h => Nat.le_trans hz h
  have hS : va_S (Az z) s.heap s.heap [] := va_S.rf
  have hF : Fr t ws ws := Fr.rf
  have hn : nul ws ≤ nul ws := Nat.le_refl _
  have hl := lv_entry ([.ref (a 0), .int x9]) (n := 3) (Nat.le_of_ble_eq_true rfl)
  rw [lg_entry_eq]
  generalize (lg_sl ([.ref (a 0), .int x9]) ++ List.replicate (3 - (lg_sl ([.ref (a 0), .int x9])).length) Slot.unset).toArray = ls at hl ⊢
  have hl : lv_has ls 3 [(0, .ref (a 0)), (1, .int x9)] := hl
  refine W.widen (k := Kc ws ws) (n := Ks ws ws) (Nat.zero_le _) (Nat.zero_le _) ?_
  refine lv_iload_n hx hb d_S_foldMarks_0 rfl (lv_at hl 1 rfl) ?_
  refine lv_istore_n (lv' := [(2, .int x9), (0, .ref (a 0)), (1, .int x9)]) hx hb d_S_foldMarks_1 rfl hl (by decide) rfl (fun ls hl => ?_)
  obtain ⟨M9, hM1, hM2⟩ := hI.bd.1
  have key : ∀ (n9 i2 : Nat) (w9 : va_W) (H : Heap) (locs : List Loc) (ls : Array Slot), M9 < i2 + n9 → j1 + 1 ≤ i2 → i2 ≤ 6 → va_P D Cl w9 H → va_D (Az z) w9 → va_S (Az z) s.heap H locs → Iv a t k0 v w9 → Fr t ws w9 → nul w9 ≤ nul ws → lv_has ls 3 [(2, .int (nI i2)), (0, .ref (a 0)), (1, .int x9)] → W p l e (headSpec (Cond.code y_S_foldMarks b_S_foldMarks 3 (.none : Option Jvm.ClassFile.FieldType) :: WS) ({ frames := 2, cells := 2 * nul ws + 1, slots := 257 * nul ws + 6, locals := 45 })).room s m [.ref (a 0), .int x9].toArray below meth c H locs (Kc ws w9) (Ks ws w9) (mu_MQ below D t z (fun r u => ∃ v1, Iv a t k0 v1 u ∧ Fr t ws u ∧ nul u ≤ nul ws ∧ r = none ∧ (∀ i, i ≠ 2 → v1 i = v i)) Xno (Kc ws) (Ks ws) [.ref (a 0), .int x9].toArray s) (F0 m 2 ls []) := by
    intro n9
    induction n9 with
    | zero =>
      intro i2 w9 H locs ls hi9 hge hle hP hD hS hI hF hn hl
      refine lv_iload_n hx hb d_S_foldMarks_2 rfl (lv_at hl 0 rfl) ?_
      refine lv_aload_n hx hb d_S_foldMarks_3 rfl (lv_at hl 1 rfl) ?_
      refine va_get (D := D) (ci := 5) (v := .int (v 2)) (C := R_S) (T := F_S) (N := 10) hx hb hts ws_S hown hK hP 0 hI.x rfl 7 (by decide) (hts _ fl_S_47) (fun _ h9 => h9) rfl d_S_foldMarks_4 ?_
      refine lv_icmp_gt (tgt := 33) hx hb d_S_foldMarks_7 rfl (fun _ => ?_) (fun q9 => ?_)
      · skip
        refine lv_aload_n hx hb d_S_foldMarks_33 rfl (lv_at hl 1 rfl) ?_
        refine lv_iload_n hx hb d_S_foldMarks_34 rfl (lv_at hl 2 rfl) ?_
        refine lv_iconst (v := 1) hx hb d_S_foldMarks_35 (by decide) ?_
        refine lv_isub hx hb d_S_foldMarks_36 ?_
        refine lv_topi (fun y1 hy1 => ?_)
        have hy1 : y1 = nI j1 := by rw [hy1, hxi]; exact nI_pred j1
        refine va_put (D := D) (ci := 5) (v := .int y1) (ty := .int) (C := R_S) (T := F_S) (N := 10) hx hb hts ws_S t_S ok_S n_S hown hK hP hD hS 0 hI.x rfl 7 (by decide) (hts _ fl_S_47) (fun _ h9 => h9) rfl (by decide +kernel) rfl rfl (Nat.le_of_ble_eq_true rfl) d_S_foldMarks_37 (fun H locs hP hD hS => ?_)
        obtain ⟨v2, hv2⟩ : ∃ q : Nat → Int32, q = upd v 2 y1 := ⟨_, rfl⟩
        have gv2 : v2 2 = y1 := by rw [hv2]; exact pk_us
        have nv2 : ∀ i, i ≠ 2 → v2 i = v i := fun i hi => by rw [hv2]; exact pk_un hi
        have hP : va_P D Cl (w9.set 0 (cX a v2)) H := by rw [hv2]; exact hP
        have hD : va_D (Az z) (w9.set 0 (cX a v2)) := by rw [hv2]; exact hD
        obtain ⟨w3, hw⟩ : ∃ q, q = w9.set 0 (cX a v2) := ⟨_, rfl⟩
        have hP : va_P D Cl (w9.set 0 (cX a v2)) H := hP
        have hD : va_D (Az z) (w9.set 0 (cX a v2)) := hD
        have hF : Fr t ws (w9.set 0 (cX a v2)) := hF.set (by decide) (by decide)
        have hI := hI.setX (v' := v2) (fun i hi => nv2 i (by omega)) ⟨j1, by omega, by rw [gv2]; exact hy1⟩ (by rw [nv2 3 (by decide)]; exact hI.bd.2.1)
        have hq9 : nul (w9.set 0 (cX a v2)) = nul w9 := nul_set (by decide)
        rw [← hw] at hP hD hF hI hq9
        clear hw
        have hn : nul w3 ≤ nul ws := by omega
        refine W.widen (k := Kc ws w3) (n := Ks ws w3) (by show 2 * (nul ws - nul w9) ≤ 2 * (nul ws - nul w3); omega) (by show 257 * (nul ws - nul w9) ≤ 257 * (nul ws - nul w3); omega) ?_
        refine mu_end (u := w3) (v := (none)) ⟨_, hI, hF, hn, rfl, nv2⟩ (Nat.le_refl _) (Nat.le_refl _) ?_
        exact W.vret hx hb hr (fun t9 ht hW => ⟨rfl, ⟨by rw [ht]; exact hP, va_K.moved hW.alike hK, hD, by rw [ht]; exact Nat.le_trans hz hS.1⟩, hS.F ht⟩) hS.2.2 d_S_foldMarks_40
      · have hi2M : i2 ≤ M9 := Nat.not_lt.mp (fun h => q9 (by rw [hM2]; exact nI_lt h (by omega)))
        omega
    | succ n9 ih =>
      intro i2 w9 H locs ls hi9 hge hle hP hD hS hI hF hn hl
      refine lv_iload_n hx hb d_S_foldMarks_2 rfl (lv_at hl 0 rfl) ?_
      refine lv_aload_n hx hb d_S_foldMarks_3 rfl (lv_at hl 1 rfl) ?_
      refine va_get (D := D) (ci := 5) (v := .int (v 2)) (C := R_S) (T := F_S) (N := 10) hx hb hts ws_S hown hK hP 0 hI.x rfl 7 (by decide) (hts _ fl_S_47) (fun _ h9 => h9) rfl d_S_foldMarks_4 ?_
      refine lv_icmp_gt (tgt := 33) hx hb d_S_foldMarks_7 rfl (fun _ => ?_) (fun q9 => ?_)
      · skip
        refine lv_aload_n hx hb d_S_foldMarks_33 rfl (lv_at hl 1 rfl) ?_
        refine lv_iload_n hx hb d_S_foldMarks_34 rfl (lv_at hl 2 rfl) ?_
        refine lv_iconst (v := 1) hx hb d_S_foldMarks_35 (by decide) ?_
        refine lv_isub hx hb d_S_foldMarks_36 ?_
        refine lv_topi (fun y4 hy4 => ?_)
        have hy4 : y4 = nI j1 := by rw [hy4, hxi]; exact nI_pred j1
        refine va_put (D := D) (ci := 5) (v := .int y4) (ty := .int) (C := R_S) (T := F_S) (N := 10) hx hb hts ws_S t_S ok_S n_S hown hK hP hD hS 0 hI.x rfl 7 (by decide) (hts _ fl_S_47) (fun _ h9 => h9) rfl (by decide +kernel) rfl rfl (Nat.le_of_ble_eq_true rfl) d_S_foldMarks_37 (fun H locs hP hD hS => ?_)
        obtain ⟨v5, hv5⟩ : ∃ q : Nat → Int32, q = upd v 2 y4 := ⟨_, rfl⟩
        have gv5 : v5 2 = y4 := by rw [hv5]; exact pk_us
        have nv5 : ∀ i, i ≠ 2 → v5 i = v i := fun i hi => by rw [hv5]; exact pk_un hi
        have hP : va_P D Cl (w9.set 0 (cX a v5)) H := by rw [hv5]; exact hP
        have hD : va_D (Az z) (w9.set 0 (cX a v5)) := by rw [hv5]; exact hD
        obtain ⟨w6, hw⟩ : ∃ q, q = w9.set 0 (cX a v5) := ⟨_, rfl⟩
        have hP : va_P D Cl (w9.set 0 (cX a v5)) H := hP
        have hD : va_D (Az z) (w9.set 0 (cX a v5)) := hD
        have hF : Fr t ws (w9.set 0 (cX a v5)) := hF.set (by decide) (by decide)
        have hI := hI.setX (v' := v5) (fun i hi => nv5 i (by omega)) ⟨j1, by omega, by rw [gv5]; exact hy4⟩ (by rw [nv5 3 (by decide)]; exact hI.bd.2.1)
        have hq9 : nul (w9.set 0 (cX a v5)) = nul w9 := nul_set (by decide)
        rw [← hw] at hP hD hF hI hq9
        clear hw
        have hn : nul w6 ≤ nul ws := by omega
        refine W.widen (k := Kc ws w6) (n := Ks ws w6) (by show 2 * (nul ws - nul w9) ≤ 2 * (nul ws - nul w6); omega) (by show 257 * (nul ws - nul w9) ≤ 257 * (nul ws - nul w6); omega) ?_
        refine mu_end (u := w6) (v := (none)) ⟨_, hI, hF, hn, rfl, nv5⟩ (Nat.le_refl _) (Nat.le_refl _) ?_
        exact W.vret hx hb hr (fun t9 ht hW => ⟨rfl, ⟨by rw [ht]; exact hP, va_K.moved hW.alike hK, hD, by rw [ht]; exact Nat.le_trans hz hS.1⟩, hS.F ht⟩) hS.2.2 d_S_foldMarks_40
      · have hi2M : i2 ≤ M9 := Nat.not_lt.mp (fun h => q9 (by rw [hM2]; exact nI_lt h (by omega)))
        have hi2 : i2 < 6 := by omega
        refine lv_aload_n hx hb d_S_foldMarks_10 rfl (lv_at hl 1 rfl) ?_
        refine va_get (D := D) (ci := 5) (v := .ref (a 7)) (C := R_S) (T := F_S) (N := 10) hx hb hts ws_S hown hK hP 0 hI.x rfl 2 (by decide) (hts _ fl_S_25) (fun _ h9 => h9) rfl d_S_foldMarks_11 ?_
        refine lv_iload_n hx hb d_S_foldMarks_14 rfl (lv_at hl 2 rfl) ?_
        refine lv_iconst (v := 1) hx hb d_S_foldMarks_15 (by decide) ?_
        refine lv_isub hx hb d_S_foldMarks_16 ?_
        refine lv_topi (fun y7 hy7 => ?_)
        have hy7 : y7 = nI j1 := by rw [hy7, hxi]; exact nI_pred j1
        obtain ⟨gl, e7, g7⟩ := hI.l7
        refine va_aldq (D := D) hx hb hK hP 7 3 e7 rfl (i := y7) (by rw [hy7]; exact vp_in_nI hj1 (by decide)) d_S_foldMarks_17 ?_
        refine W.eq (g2 := F0 m 18 ls [.ref (a (10 + 4 * j1))]) (by rw [show (y7 : Int32).toNatClampNeg = j1 from by rw [hy7]; exact nI_clamp (by omega), g7 j1 hj1]; rfl) ?_
        refine lv_aload_n hx hb d_S_foldMarks_18 rfl (lv_at hl 1 rfl) ?_
        refine va_get (D := D) (ci := 5) (v := .ref (a 7)) (C := R_S) (T := F_S) (N := 10) hx hb hts ws_S hown hK hP 0 hI.x rfl 2 (by decide) (hts _ fl_S_25) (fun _ h9 => h9) rfl d_S_foldMarks_19 ?_
        refine lv_iload_n hx hb d_S_foldMarks_22 rfl (lv_at hl 0 rfl) ?_
        obtain ⟨gl, e7, g7⟩ := hI.l7
        refine va_aldq (D := D) hx hb hK hP 7 3 e7 rfl (i := (nI i2)) (vp_in_nI hi2 (by decide)) d_S_foldMarks_23 ?_
        refine W.eq (g2 := F0 m 24 ls [.ref (a (10 + 4 * i2)), .ref (a (10 + 4 * j1))]) (by rw [show (nI i2).toNatClampNeg = i2 from nI_clamp (by omega), g7 i2 hi2]; rfl) ?_
        refine mu_V (n := 1) (As := [.ref (a (10 + 4 * i2))]) (rest := []) ⟨hx, hb, hml, hown, hts⟩ (c_Z_takeOver (D := D) (t := t) (z := z) (sa := sa) (ws := w9) (j1 := j1) (j2 := i2) hI hj1 hi2 (by omega)) ml_S_191 im_Z_takeOver se_Z_takeOver in_Z cd_Z_takeOver (by decide +kernel) ⟨Nat.le_of_ble_eq_true rfl, Nat.le_of_ble_eq_true rfl⟩ (va_recv hK hP (ci := 4) rfl (hI.z hj1)) (Pz_at hP hK hD hz hM hS) rfl hl.1 rfl (Nat.le_of_ble_eq_true rfl) d_S_foldMarks_24 ⟨by show 2 * (nul ws - nul w9) + (2 * nul w9 + 1) ≤ 2 * nul ws + 1; omega, by show 257 * (nul ws - nul w9) + (257 * nul w9 + 6) ≤ 257 * nul ws + 6; omega⟩ hS (fun _ _ _ _ _ _ h => h.elim) (fun r9 u8 H locs hp hP hD hS => ?_)
        obtain ⟨hI, hF9, hn9, hr9⟩ := hp
        subst hr9
        have hF := hF.trans hF9
        have hn : nul u8 ≤ nul ws := by omega
        refine W.widen (k := Kc ws u8) (n := Ks ws u8) (by show 2 * (nul ws - nul w9) + 2 * (nul w9 - nul u8) ≤ 2 * (nul ws - nul u8); omega) (by show 257 * (nul ws - nul w9) + 257 * (nul w9 - nul u8) ≤ 257 * (nul ws - nul u8); omega) ?_
        refine W.eq (g2 := F0 m 27 ls []) rfl ?_
        refine lv_iinc (k := 0) (v := nI (i2 + 1)) (lv' := [(2, .int (nI (i2 + 1))), (0, .ref (a 0)), (1, .int x9)]) hx hb d_S_foldMarks_27 hl rfl (nI_1 i2) (by decide) rfl (fun ls hl => ?_)
        refine lv_goto (tgt := 2) hx hb d_S_foldMarks_30 rfl ?_
        exact ih (i2 + 1) u8 H locs ls (by omega) (by omega) (by omega) hP hD hS hI hF hn hl
  exact key 6 (j1 + 1) ws _ _ _ (by omega) (Nat.le_refl _) (by omega) hP hD hS hI hF hn (by have h9 := hl; rw [← hxi]; exact h9)
set_option maxHeartbeats 4000000 in
set_option maxRecDepth 100000 in
theorem c_S_keep {l : Launch} {D : va_G} {t : Nat → ClassId} {z : Nat} {sa : Nat → Nat} {ws : va_W} {a : Nat → Nat} {k0 : Nat} {v : Nat → Int32} {x9 : Int32} (hl0 : l.stackTraces = false) (hI : Iv a t k0 v ws) (hc1 : C1 v)  : Mu l y_S_keep (Cond.code y_S_keep b_S_keep 2 (.none : Option Jvm.ClassFile.FieldType) :: WS) ({ frames := 8, cells := 2 * nul ws + 1, slots := 257 * nul ws + 6, locals := 122 }) D t z sa ws [.ref (a 0), .int x9] (fun r u => r = none ∧ So a t ws u) (fun E u => (E = xISE ∨ E = xIOB) ∧ u = ws) (Kc ws) (Ks ws) := by
  refine mu_ofW (cc := b_S_keep) (maxL := 2) (ret := (.none : Option Jvm.ClassFile.FieldType)) (by decide) rfl ?_
  intro p e s m args below meth c s₁ B hml hno hv
  obtain ⟨rfl, ⟨hP, hK, hD, hz⟩, hM⟩ := hv
  have hx := B.exec
  have hb := B.bytes
  have hr := B.returns
  have hts : ∀ w ∈ WS, w.before [.ref (a 0), .int x9].toArray s = true := fun w h => atoms_spec B.pre w (List.mem_cons_of_mem _ h)
  have hown : s.vm.findClass R_S = some m.cls := findClass_of_methodNamed B.named
  have hlocks := B.notSynchronized
  have hA : ∀ q, s.heap.size ≤ q → Az z q := fun q h => Nat.le_trans hz h
  have hS : va_S (Az z) s.heap s.heap [] := va_S.rf
  have hF : Fr t ws ws := Fr.rf
  have hn : nul ws ≤ nul ws := Nat.le_refl _
  have hl := lv_entry ([.ref (a 0), .int x9]) (n := 2) (Nat.le_of_ble_eq_true rfl)
  rw [lg_entry_eq]
  generalize (lg_sl ([.ref (a 0), .int x9]) ++ List.replicate (2 - (lg_sl ([.ref (a 0), .int x9])).length) Slot.unset).toArray = ls at hl ⊢
  have hl : lv_has ls 2 [(0, .ref (a 0)), (1, .int x9)] := hl
  refine W.widen (k := Kc ws ws) (n := Ks ws ws) (Nat.zero_le _) (Nat.zero_le _) ?_
  refine lv_aload_n hx hb d_S_keep_0 rfl (lv_at hl 0 rfl) ?_
  refine mu_V (n := 0) (As := []) (rest := []) ⟨hx, hb, hml, hown, hts⟩ (c_S_requireOpen (D := D) (t := t) (z := z) (sa := sa) (ws := ws)  hl0 hI ) ml_S_61 im_S_requireOpen se_S_requireOpen in_S cd_S_requireOpen (by decide +kernel) ⟨Nat.le_of_ble_eq_true rfl, Nat.le_of_ble_eq_true rfl⟩ (va_recv hK hP (ci := 5) rfl hI.x) (Pz_at hP hK hD hz hM hS) rfl hl.1 rfl (Nat.le_of_ble_eq_true rfl) d_S_keep_1 ⟨by show 2 * (nul ws - nul ws) + (2 * nul ws + 1) ≤ 2 * nul ws + 1; omega, by show 257 * (nul ws - nul ws) + (257 * nul ws + 6) ≤ 257 * nul ws + 6; omega⟩ hS (fun E ce q u H locs hxp hP hD hS h1 h2 h3 => by obtain ⟨hE, hu⟩ := hxp; rw [hu] at hP hD; exact mu_out (u := ws) hno hlocks h1 h2 h3 hP hK hD hz hS ⟨(by simp [hE]), rfl⟩ (by rw [hu]; show 2 * (nul ws - nul ws) + (2 * (nul ws - nul ws) + 1) ≤ 2 * (nul ws - nul ws) + 1; omega) (by rw [hu]; show 257 * (nul ws - nul ws) + (257 * (nul ws - nul ws) + 6) ≤ 257 * (nul ws - nul ws) + 6; omega)) (fun r9 u1 H locs hp hP hD hS => ?_)
  obtain ⟨hr9, hw9, h01⟩ := hp
  rw [hw9] at hP hD
  subst hr9
  refine W.widen (k := Kc ws ws) (n := Ks ws ws) (by rw [hw9]; show 2 * (nul ws - nul ws) + 2 * (nul ws - nul ws) ≤ 2 * (nul ws - nul ws); omega) (by rw [hw9]; show 257 * (nul ws - nul ws) + 257 * (nul ws - nul ws) ≤ 257 * (nul ws - nul ws); omega) ?_
  clear hw9
  refine W.eq (g2 := F0 m 4 ls []) rfl ?_
  refine lv_aload_n hx hb d_S_keep_4 rfl (lv_at hl 0 rfl) ?_
  refine lv_iload_n hx hb d_S_keep_5 rfl (lv_at hl 1 rfl) ?_
  refine mu_V (n := 1) (As := [.int x9]) (rest := []) ⟨hx, hb, hml, hown, hts⟩ (c_S_requireMark (D := D) (t := t) (z := z) (sa := sa) (ws := ws) (x9 := x9) hl0 hI ) ml_S_140 im_S_requireMark se_S_requireMark in_S cd_S_requireMark (by decide +kernel) ⟨Nat.le_of_ble_eq_true rfl, Nat.le_of_ble_eq_true rfl⟩ (va_recv hK hP (ci := 5) rfl hI.x) (Pz_at hP hK hD hz hM hS) rfl hl.1 rfl (Nat.le_of_ble_eq_true rfl) d_S_keep_6 ⟨by show 2 * (nul ws - nul ws) + (2 * nul ws + 1) ≤ 2 * nul ws + 1; omega, by show 257 * (nul ws - nul ws) + (257 * nul ws + 6) ≤ 257 * nul ws + 6; omega⟩ hS (fun E ce q u H locs hxp hP hD hS h1 h2 h3 => by obtain ⟨hE, hu⟩ := hxp; rw [hu] at hP hD; exact mu_out (u := ws) hno hlocks h1 h2 h3 hP hK hD hz hS ⟨(by simp [hE]), rfl⟩ (by rw [hu]; show 2 * (nul ws - nul ws) + (2 * (nul ws - nul ws) + 1) ≤ 2 * (nul ws - nul ws) + 1; omega) (by rw [hu]; show 257 * (nul ws - nul ws) + (257 * (nul ws - nul ws) + 6) ≤ 257 * (nul ws - nul ws) + 6; omega)) (fun r9 u2 H locs hp hP hD hS => ?_)
  obtain ⟨hr9, hw9, h02⟩ := hp
  rw [hw9] at hP hD
  subst hr9
  refine W.widen (k := Kc ws ws) (n := Ks ws ws) (by rw [hw9]; show 2 * (nul ws - nul ws) + 2 * (nul ws - nul ws) ≤ 2 * (nul ws - nul ws); omega) (by rw [hw9]; show 257 * (nul ws - nul ws) + 257 * (nul ws - nul ws) ≤ 257 * (nul ws - nul ws); omega) ?_
  clear hw9
  refine W.eq (g2 := F0 m 9 ls []) rfl ?_
  obtain ⟨M9, hM1, hM2⟩ := hI.bd.1
  obtain ⟨jm, hjm5, hvm⟩ := nI_of2 (M := nI M9) (n := M9) (x := x9) (nI_toInt (by omega)) (fun h => h02.1 (lt01 h)) (by rw [← hM2]; exact h02.2)
  have hjm : jm < 6 := by omega
  obtain ⟨j1, hj1e⟩ : ∃ q, jm = q + 1 := ⟨jm - 1, by have h9 : ¬ jm = 0 := fun h => h02.1 (by rw [hvm, h]; decide); omega⟩
  have hj1 : j1 < 6 := by omega
  rw [hj1e] at hvm
  refine lv_aload_n hx hb d_S_keep_9 rfl (lv_at hl 0 rfl) ?_
  refine lv_iload_n hx hb d_S_keep_10 rfl (lv_at hl 1 rfl) ?_
  refine mu_V (n := 1) (As := [.int x9]) (rest := []) ⟨hx, hb, hml, hown, hts⟩ (c_S_foldMarks (D := D) (t := t) (z := z) (sa := sa) (ws := ws) (j1 := j1) hI hj1 hvm) ml_S_109 im_S_foldMarks se_S_foldMarks in_S cd_S_foldMarks (by decide +kernel) ⟨Nat.le_of_ble_eq_true rfl, Nat.le_of_ble_eq_true rfl⟩ (va_recv hK hP (ci := 5) rfl hI.x) (Pz_at hP hK hD hz hM hS) rfl hl.1 rfl (Nat.le_of_ble_eq_true rfl) d_S_keep_11 ⟨by show 2 * (nul ws - nul ws) + (2 * nul ws + 1) ≤ 2 * nul ws + 1; omega, by show 257 * (nul ws - nul ws) + (257 * nul ws + 6) ≤ 257 * nul ws + 6; omega⟩ hS (fun _ _ _ _ _ _ h => h.elim) (fun r9 u3 H locs hp hP hD hS => ?_)
  obtain ⟨v4, hI, hF9, hn9, hr9, nv4⟩ := hp
  subst hr9
  have hF := hF.trans hF9
  have hn : nul u3 ≤ nul ws := by omega
  refine W.widen (k := Kc ws u3) (n := Ks ws u3) (by show 2 * (nul ws - nul ws) + 2 * (nul ws - nul u3) ≤ 2 * (nul ws - nul u3); omega) (by show 257 * (nul ws - nul ws) + 257 * (nul ws - nul u3) ≤ 257 * (nul ws - nul u3); omega) ?_
  refine W.eq (g2 := F0 m 14 ls []) rfl ?_
  refine mu_end (u := u3) (v := (none)) ⟨rfl, ⟨_, _, hI, hF, hn, hc1.eq (by rw [nv4 0 (by omega)]) (by rw [nv4 6 (by omega)])⟩⟩ (Nat.le_refl _) (Nat.le_refl _) ?_
  exact W.vret hx hb hr (fun t9 ht hW => ⟨rfl, ⟨by rw [ht]; exact hP, va_K.moved hW.alike hK, hD, by rw [ht]; exact Nat.le_trans hz hS.1⟩, hS.F ht⟩) hS.2.2 d_S_keep_14
set_option maxHeartbeats 4000000 in
set_option maxRecDepth 100000 in
theorem c_S_settle {l : Launch} {D : va_G} {t : Nat → ClassId} {z : Nat} {sa : Nat → Nat} {ws : va_W} {a : Nat → Nat} {k0 : Nat} {v : Nat → Int32} {p9 : Int32} (hl0 : l.stackTraces = false) (hI : Iv a t k0 v ws) (hp01 : p9 = 0 ∨ p9 = 1) : Mu l y_S_settle (Cond.code y_S_settle b_S_settle 2 (.none : Option Jvm.ClassFile.FieldType) :: WS) ({ frames := 6, cells := 2 * nul ws + 1, slots := 257 * nul ws + 6, locals := 82 }) D t z sa ws [.ref (a 0), .int p9] (fun r u => ∃ v1, Iv a t k0 v1 u ∧ Fr t ws u ∧ nul u ≤ nul ws ∧ r = none ∧ (∀ i, i = 5 ∨ i = 6 → v1 i = v i) ∧ ¬ p9 = 0) (fun E u => E = xAE ∧ p9 = 0 ∧ ∃ v1, Iv a t k0 v1 u ∧ Fr t ws u ∧ nul u ≤ nul ws ∧ v1 0 = 0) (Kc ws) (Ks ws) := by
  refine mu_ofW (cc := b_S_settle) (maxL := 2) (ret := (.none : Option Jvm.ClassFile.FieldType)) (by decide) rfl ?_
  intro p e s m args below meth c s₁ B hml hno hv
  obtain ⟨rfl, ⟨hP, hK, hD, hz⟩, hM⟩ := hv
  have hx := B.exec
  have hb := B.bytes
  have hr := B.returns
  have hts : ∀ w ∈ WS, w.before [.ref (a 0), .int p9].toArray s = true := fun w h => atoms_spec B.pre w (List.mem_cons_of_mem _ h)
  have hown : s.vm.findClass R_S = some m.cls := findClass_of_methodNamed B.named
  have hlocks := B.notSynchronized
  have hA : ∀ q, s.heap.size ≤ q → Az z q := fun q h => Nat.le_trans hz h
  have hS : va_S (Az z) s.heap s.heap [] := va_S.rf
  have hF : Fr t ws ws := Fr.rf
  have hn : nul ws ≤ nul ws := Nat.le_refl _
  have hl := lv_entry ([.ref (a 0), .int p9]) (n := 2) (Nat.le_of_ble_eq_true rfl)
  rw [lg_entry_eq]
  generalize (lg_sl ([.ref (a 0), .int p9]) ++ List.replicate (2 - (lg_sl ([.ref (a 0), .int p9])).length) Slot.unset).toArray = ls at hl ⊢
  have hl : lv_has ls 2 [(0, .ref (a 0)), (1, .int p9)] := hl
  refine W.widen (k := Kc ws ws) (n := Ks ws ws) (Nat.zero_le _) (Nat.zero_le _) ?_
  refine lv_aload_n hx hb d_S_settle_0 rfl (lv_at hl 0 rfl) ?_
  refine va_get (D := D) (ci := 5) (v := .ref (a 8)) (C := R_S) (T := F_S) (N := 10) hx hb hts ws_S hown hK hP 0 hI.x rfl 3 (by decide) (hts _ fl_S_32) (fun _ h9 => h9) rfl d_S_settle_1 ?_
  refine mu_V (n := 0) (As := []) (rest := []) ⟨hx, hb, hml, hown, hts⟩ (c_U_forget (D := D) (t := t) (z := z) (sa := sa) (ws := ws)  hI ) ml_S_198 im_U_forget se_U_forget in_U cd_U_forget (by decide +kernel) ⟨Nat.le_of_ble_eq_true rfl, Nat.le_of_ble_eq_true rfl⟩ (va_recv hK hP (ci := 2) rfl hI.u8) (Pz_at hP hK hD hz hM hS) rfl hl.1 rfl (Nat.le_of_ble_eq_true rfl) d_S_settle_4 ⟨by show 2 * (nul ws - nul ws) + (2 * nul ws + 1) ≤ 2 * nul ws + 1; omega, by show 257 * (nul ws - nul ws) + (257 * nul ws + 6) ≤ 257 * nul ws + 6; omega⟩ hS (fun _ _ _ _ _ _ h => h.elim) (fun r9 u1 H locs hp hP hD hS => ?_)
  obtain ⟨v2, hI, hF9, hn9, hr9, nv2, -⟩ := hp
  subst hr9
  have hF := hF.trans hF9
  have hn : nul u1 ≤ nul ws := by omega
  refine W.widen (k := Kc ws u1) (n := Ks ws u1) (by show 2 * (nul ws - nul ws) + 2 * (nul ws - nul u1) ≤ 2 * (nul ws - nul u1); omega) (by show 257 * (nul ws - nul ws) + 257 * (nul ws - nul u1) ≤ 257 * (nul ws - nul u1); omega) ?_
  refine W.eq (g2 := F0 m 7 ls []) rfl ?_
  refine lv_aload_n hx hb d_S_settle_7 rfl (lv_at hl 0 rfl) ?_
  refine mu_V (n := 0) (As := []) (rest := []) ⟨hx, hb, hml, hown, hts⟩ (c_S_endTransaction (D := D) (t := t) (z := z) (sa := sa) (ws := u1)  hI ) ml_S_132 im_S_endTransaction se_S_endTransaction in_S cd_S_endTransaction (by decide +kernel) ⟨Nat.le_of_ble_eq_true rfl, Nat.le_of_ble_eq_true rfl⟩ (va_recv hK hP (ci := 5) rfl hI.x) (Pz_at hP hK hD hz hM hS) rfl hl.1 rfl (Nat.le_of_ble_eq_true rfl) d_S_settle_8 ⟨by show 2 * (nul ws - nul u1) + (2 * nul u1 + 1) ≤ 2 * nul ws + 1; omega, by show 257 * (nul ws - nul u1) + (257 * nul u1 + 6) ≤ 257 * nul ws + 6; omega⟩ hS (fun _ _ _ _ _ _ h => h.elim) (fun r9 u3 H locs hp hP hD hS => ?_)
  obtain ⟨v4, hI, hF9, hn9, hr9, nv4⟩ := hp
  subst hr9
  have hF := hF.trans hF9
  have hn : nul u3 ≤ nul ws := by omega
  refine W.widen (k := Kc ws u3) (n := Ks ws u3) (by show 2 * (nul ws - nul u1) + 2 * (nul u1 - nul u3) ≤ 2 * (nul ws - nul u3); omega) (by show 257 * (nul ws - nul u1) + 257 * (nul u1 - nul u3) ≤ 257 * (nul ws - nul u3); omega) ?_
  refine W.eq (g2 := F0 m 11 ls []) rfl ?_
  refine lv_aload_n hx hb d_S_settle_11 rfl (lv_at hl 0 rfl) ?_
  refine lv_iload_n hx hb d_S_settle_12 rfl (lv_at hl 1 rfl) ?_
  refine va_put (D := D) (ci := 5) (v := .int p9) (ty := .boolean) (C := R_S) (T := F_S) (N := 10) hx hb hts ws_S t_S ok_S n_S hown hK hP hD hS 0 hI.x rfl 5 (by decide) (hts _ fl_S_40) (fun _ h9 => h9) rfl (by decide +kernel) (nar01 hp01) (fit01 hp01) (Nat.le_of_ble_eq_true rfl) d_S_settle_13 (fun H locs hP hD hS => ?_)
  obtain ⟨v5, hv5⟩ : ∃ q : Nat → Int32, q = upd v4 0 p9 := ⟨_, rfl⟩
  have gv5 : v5 0 = p9 := by rw [hv5]; exact pk_us
  have nv5 : ∀ i, i ≠ 0 → v5 i = v4 i := fun i hi => by rw [hv5]; exact pk_un hi
  have hP : va_P D Cl (u3.set 0 (cX a v5)) H := by rw [hv5]; exact hP
  have hD : va_D (Az z) (u3.set 0 (cX a v5)) := by rw [hv5]; exact hD
  obtain ⟨w6, hw⟩ : ∃ q, q = u3.set 0 (cX a v5) := ⟨_, rfl⟩
  have hP : va_P D Cl (u3.set 0 (cX a v5)) H := hP
  have hD : va_D (Az z) (u3.set 0 (cX a v5)) := hD
  have hF : Fr t ws (u3.set 0 (cX a v5)) := hF.set (by decide) (by decide)
  have hI := hI.setX (v' := v5) (fun i hi => nv5 i (by omega)) (by rw [nv5 2 (by decide)]; exact hI.bd.1) (by rw [nv5 3 (by decide)]; exact hI.bd.2.1)
  have hq9 : nul (u3.set 0 (cX a v5)) = nul u3 := nul_set (by decide)
  rw [← hw] at hP hD hF hI hq9
  clear hw
  have hn : nul w6 ≤ nul ws := by omega
  refine W.widen (k := Kc ws w6) (n := Ks ws w6) (by show 2 * (nul ws - nul u3) ≤ 2 * (nul ws - nul w6); omega) (by show 257 * (nul ws - nul u3) ≤ 257 * (nul ws - nul w6); omega) ?_
  refine lv_iload_n hx hb d_S_settle_16 rfl (lv_at hl 1 rfl) ?_
  refine lv_if_ne (tgt := 30) hx hb d_S_settle_17 rfl (fun q7 => ?_) (fun q7 => ?_)
  · skip
    refine mu_end (u := w6) (v := (none)) ⟨_, hI, hF, hn, rfl, (fun i hi => by rw [nv5 i (by omega), nv4 i (by omega), nv2 i (by omega)]), by assumption⟩ (Nat.le_refl _) (Nat.le_refl _) ?_
    exact W.vret hx hb hr (fun t9 ht hW => ⟨rfl, ⟨by rw [ht]; exact hP, va_K.moved hW.alike hK, hD, by rw [ht]; exact Nat.le_trans hz hS.1⟩, hS.F ht⟩) hS.2.2 d_S_settle_30
  · skip
    exact mu_th (u := w6) hx hb hl0 hown hts hlocks hno hP hK hD hz hM hS (hl.1.trans hml.symm) (site_201_203_205) d_S_settle_20 d_S_settle_23 d_S_settle_24 d_S_settle_26 d_S_settle_29 (Nat.le_of_ble_eq_true rfl) (Nat.le_of_ble_eq_true rfl) (by show 2 * (nul ws - nul w6) + 1 ≤ 2 * nul ws + 1; omega) (by show 257 * (nul ws - nul w6) + 6 ≤ 257 * nul ws + 6; omega) (Nat.le_refl _) (Nat.le_refl _) ⟨rfl, by assumption, _, hI, hF, hn, by rw [gv5]; assumption⟩
end
section
theorem wr_div {A i : Nat} (h : A + i ≤ 199936) : (nI A + nI i) / 256 = nI ((A + i) / 256) := by rw [nI_add]; exact pk_div (d := 256) (by omega) (by decide) (by decide)
theorem wr_rem {A i : Nat} (h : A + i ≤ 199936) : (nI A + nI i) - (nI A + nI i) / 256 * 256 = nI ((A + i) % 256) := by rw [nI_add]; exact pk_rem (d := 256) (by omega) (by decide) (by decide)
theorem mx_nat {m n : Nat} (hm : m < 2 ^ 31) (hn : n < 2 ^ 31) : (if nI m < nI n then nI n else nI m) = nI (max m n) := by
  by_cases h : m < n
  · rw [if_pos ((nI_ltI hm hn).mpr h), Nat.max_eq_right (Nat.le_of_lt h)]
  · rw [if_neg (fun q => h ((nI_ltI hm hn).mp q)), Nat.max_eq_left (Nat.not_lt.mp h)]
/-- a byte array of L places: the record, or a block's -/
def BA (t : Nat → ClassId) (ws : va_W) (c L : Nat) : Prop := ∃ (k : Nat) (f : Nat → Int32), (k = 9 ∨ 42 ≤ k) ∧ ws[k]? = some (c, .inl (t 0, L, .inl f))
theorem BA.go {t : Nat → ClassId} {ws u : va_W} {c L : Nat} (h : BA t ws c L) (hF : Fr t ws u) : BA t u c L := by
  obtain ⟨k, f, h1, h2⟩ := h
  obtain ⟨f', h3⟩ := hF.2.2 k c L f h1 h2
  exact ⟨k, f', h1, h3⟩
theorem upd4 {f : Nat → Int32} {k : Nat} {x : Int32} (h : 4 ≤ k) : ∀ i, i < 4 → upd f k x i = f i := fun i hi => pk_un (by omega)
set_option maxHeartbeats 4000000 in
set_option maxRecDepth 100000 in
theorem c_Y_write_f {l : Launch} {D : va_G} {t : Nat → ClassId} {z : Nat} {sa : Nat → Nat} {ws : va_W} {a : Nat → Nat} {k0 : Nat} {v : Nat → Int32} {x9 y9 : Int32} {c9 A N L : Nat} (hI : Iv a t k0 v ws) (hxA : x9 = nI A) (hyN : y9 = nI N) (hAN : A + N ≤ 196608) (hBA : BA t ws c9 L) (hNL : N ≤ L) (hL31 : L ≤ 260)  : Mu l y_Y_write (Cond.code y_Y_write b_Y_write 5 (.none : Option Jvm.ClassFile.FieldType) :: WS) ({ frames := 3, cells := 2 * nul ws + 1, slots := 257 * nul ws + 6, locals := 54 }) D t z sa ws [.ref (a 1), .int x9, .ref c9, .int y9] (fun r u => ∃ v1, Iv a t k0 v1 u ∧ Fr t ws u ∧ nul u ≤ nul ws ∧ r = none ∧ (∀ i, i ≠ 5 → v1 i = v i) ∧ ∃ F : Nat, F ≤ 196608 ∧ v 5 = nI F ∧ v1 5 = nI (max F (A + N))) Xno (Kc ws) (Ks ws) := by
  refine mu_ofW (cc := b_Y_write) (maxL := 5) (ret := (.none : Option Jvm.ClassFile.FieldType)) (by decide) rfl ?_
  intro p e s m args below meth c s₁ B hml hno hv
  obtain ⟨rfl, ⟨hP, hK, hD, hz⟩, hM⟩ := hv
  have hx := B.exec
  have hb := B.bytes
  have hr := B.returns
  have hts : ∀ w ∈ WS, w.before [.ref (a 1), .int x9, .ref c9, .int y9].toArray s = true := fun w h => atoms_spec B.pre w (List.mem_cons_of_mem _ h)
  have hown : s.vm.findClass R_Y = some m.cls := findClass_of_methodNamed B.named
  have hlocks := B.notSynchronized
  have hA : ∀ q, s.heap.size ≤ q → Az z q := fun q h => Nat.le_trans hz h
  have hS : va_S (Az z) s.heap s.heap [] := va_S.rf
  have hF : Fr t ws ws := Fr.rf
  have hn : nul ws ≤ nul ws := Nat.le_refl _
  have hl := lv_entry ([.ref (a 1), .int x9, .ref c9, .int y9]) (n := 5) (Nat.le_of_ble_eq_true rfl)
  rw [lg_entry_eq]
  generalize (lg_sl ([.ref (a 1), .int x9, .ref c9, .int y9]) ++ List.replicate (5 - (lg_sl ([.ref (a 1), .int x9, .ref c9, .int y9])).length) Slot.unset).toArray = ls at hl ⊢
  have hl : lv_has ls 5 [(0, .ref (a 1)), (1, .int x9), (2, .ref c9), (3, .int y9)] := hl
  refine W.widen (k := Kc ws ws) (n := Ks ws ws) (Nat.zero_le _) (Nat.zero_le _) ?_
  refine lv_iconst (v := 0) hx hb d_Y_write_0 (by decide) ?_
  refine lv_istore (lv' := [(4, .int 0), (0, .ref (a 1)), (1, .int x9), (2, .ref c9), (3, .int y9)]) hx hb d_Y_write_1 hl (by decide) rfl (fun ls hl => ?_)
  have key : ∀ (n9 i : Nat) (w9 : va_W) (H : Heap) (locs : List Loc) (ls : Array Slot), i + n9 = N → va_P D Cl w9 H → va_D (Az z) w9 → va_S (Az z) s.heap H locs → Iv a t k0 v w9 → Fr t ws w9 → nul w9 ≤ nul ws → lv_has ls 5 [(4, .int (nI i)), (0, .ref (a 1)), (1, .int x9), (2, .ref c9), (3, .int y9)] → W p l e (headSpec (Cond.code y_Y_write b_Y_write 5 (.none : Option Jvm.ClassFile.FieldType) :: WS) ({ frames := 3, cells := 2 * nul ws + 1, slots := 257 * nul ws + 6, locals := 54 })).room s m [.ref (a 1), .int x9, .ref c9, .int y9].toArray below meth c H locs (Kc ws w9) (Ks ws w9) (mu_MQ below D t z (fun r u => ∃ v1, Iv a t k0 v1 u ∧ Fr t ws u ∧ nul u ≤ nul ws ∧ r = none ∧ (∀ i, i ≠ 5 → v1 i = v i) ∧ ∃ F : Nat, F ≤ 196608 ∧ v 5 = nI F ∧ v1 5 = nI (max F (A + N))) Xno (Kc ws) (Ks ws) [.ref (a 1), .int x9, .ref c9, .int y9].toArray s) (F0 m 3 ls []) := by
    intro n9
    induction n9 with
    | zero =>
      intro i w9 H locs ls hi9 hP hD hS hI hF hn hl
      refine lv_iload hx hb d_Y_write_3 (lv_at hl 0 rfl) ?_
      refine lv_iload_n hx hb d_Y_write_5 rfl (lv_at hl 4 rfl) ?_
      refine lv_icmp_ge (tgt := 43) hx hb d_Y_write_6 rfl (fun _ => ?_) (fun h => absurd (by rw [hyN]; exact nI_le (by omega) (by omega)) h)
      refine lv_aload_n hx hb d_Y_write_43 rfl (lv_at hl 1 rfl) ?_
      refine lv_aload_n hx hb d_Y_write_44 rfl (lv_at hl 1 rfl) ?_
      refine va_get (D := D) (ci := 3) (v := .int (v 5)) (C := R_Y) (T := F_Y) (N := 2) hx hb hts ws_Y hown hK hP 1 hI.y1 rfl 1 (by decide) (hts _ fl_Y_9) (fun _ h9 => h9) rfl d_Y_write_45 ?_
      refine lv_iload_n hx hb d_Y_write_48 rfl (lv_at hl 2 rfl) ?_
      refine lv_iload_n hx hb d_Y_write_49 rfl (lv_at hl 4 rfl) ?_
      refine lv_iadd hx hb d_Y_write_50 ?_
      refine va_mmax hx hb (hml.trans hl.1.symm) hown (hts _ ml_Y_28) (hts _ mx_st) (hts _ in_Math) (hts _ mx_cd) (Nat.le_of_ble_eq_true rfl) (Nat.le_of_ble_eq_true rfl) (by show 2 * (nul ws - nul w9) ≤ 2 * nul ws + 1; omega) (by show 257 * (nul ws - nul w9) ≤ 257 * nul ws + 6; omega) d_Y_write_51 ?_
      refine lv_topi (fun ym hym => ?_)
      obtain ⟨F9, hF1, hF2⟩ := hI.bd.2.2.1
      have hym : ym = nI (max F9 (A + N)) := by rw [hym, hF2, hxA, hyN, nI_add]; exact mx_nat (by omega) (by omega)
      refine va_put (D := D) (ci := 3) (v := .int ym) (ty := .int) (C := R_Y) (T := F_Y) (N := 2) hx hb hts ws_Y t_Y ok_Y n_Y hown hK hP hD hS 1 hI.y1 rfl 1 (by decide) (hts _ fl_Y_9) (fun _ h9 => h9) rfl (by decide +kernel) rfl rfl (Nat.le_of_ble_eq_true rfl) d_Y_write_54 (fun H locs hP hD hS => ?_)
      obtain ⟨v1, hv1⟩ : ∃ q : Nat → Int32, q = upd v 5 ym := ⟨_, rfl⟩
      have gv1 : v1 5 = ym := by rw [hv1]; exact pk_us
      have nv1 : ∀ i, i ≠ 5 → v1 i = v i := fun i hi => by rw [hv1]; exact pk_un hi
      have hP : va_P D Cl (w9.set 1 (cY1 a v1)) H := by rw [hv1]; exact hP
      have hD : va_D (Az z) (w9.set 1 (cY1 a v1)) := by rw [hv1]; exact hD
      obtain ⟨w2, hw⟩ : ∃ q, q = w9.set 1 (cY1 a v1) := ⟨_, rfl⟩
      have hP : va_P D Cl (w9.set 1 (cY1 a v1)) H := hP
      have hD : va_D (Az z) (w9.set 1 (cY1 a v1)) := hD
      have hF : Fr t ws (w9.set 1 (cY1 a v1)) := hF.set (by decide) (by decide)
      have hI := (by have h9 := hI.setF (F := max F9 (A + N)) (by omega); rw [show upd v 5 (nI (max F9 (A + N))) = v1 from by rw [hv1, hym]] at h9; exact h9)
      have hq9 : nul (w9.set 1 (cY1 a v1)) = nul w9 := nul_set (by decide)
      rw [← hw] at hP hD hF hI hq9
      clear hw
      have hn : nul w2 ≤ nul ws := by omega
      refine W.widen (k := Kc ws w2) (n := Ks ws w2) (by show 2 * (nul ws - nul w9) ≤ 2 * (nul ws - nul w2); omega) (by show 257 * (nul ws - nul w9) ≤ 257 * (nul ws - nul w2); omega) ?_
      refine mu_end (u := w2) (v := (none)) ⟨_, hI, hF, hn, rfl, nv1, F9, hF1, hF2, by rw [gv1]; exact hym⟩ (Nat.le_refl _) (Nat.le_refl _) ?_
      exact W.vret hx hb hr (fun t9 ht hW => ⟨rfl, ⟨by rw [ht]; exact hP, va_K.moved hW.alike hK, hD, by rw [ht]; exact Nat.le_trans hz hS.1⟩, hS.F ht⟩) hS.2.2 d_Y_write_57
    | succ n9 ih =>
      intro i w9 H locs ls hi9 hP hD hS hI hF hn hl
      refine lv_iload hx hb d_Y_write_3 (lv_at hl 0 rfl) ?_
      refine lv_iload_n hx hb d_Y_write_5 rfl (lv_at hl 4 rfl) ?_
      refine lv_icmp_ge (tgt := 43) hx hb d_Y_write_6 rfl (fun h => absurd h (by rw [hyN]; exact nI_ge (by omega) (by omega))) (fun _ => ?_)
      refine lv_aload_n hx hb d_Y_write_9 rfl (lv_at hl 1 rfl) ?_
      refine va_get (D := D) (ci := 3) (v := .ref (a 2)) (C := R_Y) (T := F_Y) (N := 2) hx hb hts ws_Y hown hK hP 1 hI.y1 rfl 0 (by decide) (hts _ fl_Y_20) (fun _ h9 => h9) rfl d_Y_write_10 ?_
      refine lv_iload_n hx hb d_Y_write_13 rfl (lv_at hl 2 rfl) ?_
      refine lv_iload hx hb d_Y_write_14 (lv_at hl 0 rfl) ?_
      refine lv_iadd hx hb d_Y_write_16 ?_
      refine lv_sipush (v := 256) hx hb d_Y_write_17 (by decide) ?_
      refine lv_idiv hx hb d_Y_write_20 (by decide) ?_
      refine lv_topi (fun y3 hy3 => ?_)
      have hy3 : y3 = nI ((A + i) / 256) := by rw [hy3, hxA]; exact wr_div (by omega)
      refine mu_V (n := 1) (As := [.int y3]) (rest := []) ⟨hx, hb, hml, hown, hts⟩ (c_K_bytesOf' (D := D) (t := t) (z := z) (sa := sa) (ws := w9) (pm := 3) (i := (A + i) / 256) hI hI.k2 (by decide) (show (A + i) / 256 < Nn 3 from by show (A + i) / 256 < 768; omega) hy3) ml_Y_24 im_K_bytesOf se_K_bytesOf in_K cd_K_bytesOf (by decide +kernel) ⟨Nat.le_of_ble_eq_true rfl, Nat.le_of_ble_eq_true rfl⟩ (va_recv hK hP (ci := 1) rfl hI.k2) (Pz_at hP hK hD hz hM hS) rfl hl.1 rfl (Nat.le_of_ble_eq_true rfl) d_Y_write_21 ⟨by show 2 * (nul ws - nul w9) + (2 * nul w9 + 1) ≤ 2 * nul ws + 1; omega, by show 257 * (nul ws - nul w9) + (257 * nul w9 + 6) ≤ 257 * nul ws + 6; omega⟩ hS (fun _ _ _ _ _ _ h => h.elim) (fun r9 u4 H locs hp hP hD hS => ?_)
      obtain ⟨c5, j6, k8, f7, hr9, h42, hcc, hsp, hI, hF9, hn9, hj9, -⟩ := hp
      subst hr9
      have hF := hF.trans hF9
      have hk1 : k8 = k0 := hj9 (Or.inr (fun h => absurd h.1 (by decide)))
      rw [hk1] at hI hsp
      have hn : nul u4 ≤ nul ws := by omega
      refine W.widen (k := Kc ws u4) (n := Ks ws u4) (by show 2 * (nul ws - nul w9) + 2 * (nul w9 - nul u4) ≤ 2 * (nul ws - nul u4); omega) (by show 257 * (nul ws - nul w9) + 257 * (nul w9 - nul u4) ≤ 257 * (nul ws - nul u4); omega) ?_
      refine W.eq (g2 := F0 m 24 ls [.ref c5]) rfl ?_
      refine lv_iload_n hx hb d_Y_write_24 rfl (lv_at hl 2 rfl) ?_
      refine lv_iload hx hb d_Y_write_25 (lv_at hl 0 rfl) ?_
      refine lv_iadd hx hb d_Y_write_27 ?_
      refine lv_sipush (v := 256) hx hb d_Y_write_28 (by decide) ?_
      refine lv_irem hx hb d_Y_write_31 (by decide) ?_
      refine lv_topi (fun r8 hr8 => ?_)
      have hr8 : r8 = nI ((A + i) % 256) := by rw [hr8, hxA]; exact wr_rem (by omega)
      refine lv_aload_n hx hb d_Y_write_32 rfl (lv_at hl 3 rfl) ?_
      refine lv_iload hx hb d_Y_write_33 (lv_at hl 0 rfl) ?_
      obtain ⟨kf, ff, hkf, hcf⟩ := hBA.go hF
      refine va_bald (D := D) hx hb hK hP kf 0 hcf rfl (i := nI i) (vp_in_nI (by omega) (by omega)) d_Y_write_35 ?_
      generalize ff (nI i).toNatClampNeg = y10
      refine va_bast (D := D) hx hb hK hP hD hS j6 0 hcc rfl (i := r8) (x := y10) (by rw [hr8]; exact vp_in_nI (by omega) (by decide)) d_Y_write_36 (fun H locs hP hD hS => ?_)
      rw [hr8, nI_clamp (by omega)] at hP hD
      have hfn := sb_fitU (k := (A + i) % 256) (hI.bf j6 _ _ _ (Or.inr h42) hcc) (bfit y10)
      obtain ⟨f11, hff11⟩ : ∃ q, q = upd f7 ((A + i) % 256) (vp_nar .byte y10) := ⟨_, rfl⟩
      rw [← hff11] at hP hD hfn
      obtain ⟨w12, hw⟩ : ∃ q, q = u4.set j6 (cA t c5 f11) := ⟨_, rfl⟩
      have hP : va_P D Cl (u4.set j6 (cA t c5 f11)) H := hP
      have hD : va_D (Az z) (u4.set j6 (cA t c5 f11)) := hD
      have hF : Fr t ws (u4.set j6 (cA t c5 f11)) := hF.setA hcc (Or.inr h42)
      have hI := hI.setB (f1 := f11) h42 hcc (fun h => absurd (hsp.mp h).1 (by decide)) hfn
      have hq9 : nul (u4.set j6 (cA t c5 f11)) = nul u4 := nul_set (fun h => by have := mds_lt h; omega)
      rw [← hw] at hP hD hF hI hq9
      clear hw
      have hn : nul w12 ≤ nul ws := by omega
      refine W.widen (k := Kc ws w12) (n := Ks ws w12) (by show 2 * (nul ws - nul u4) ≤ 2 * (nul ws - nul w12); omega) (by show 257 * (nul ws - nul u4) ≤ 257 * (nul ws - nul w12); omega) ?_
      refine lv_iinc (k := 0) (v := nI (i + 1)) (lv' := [(4, .int (nI (i + 1))), (0, .ref (a 1)), (1, .int x9), (2, .ref c9), (3, .int y9)]) hx hb d_Y_write_37 hl rfl (nI_1 i) (by decide) rfl (fun ls hl => ?_)
      refine lv_goto (tgt := 3) hx hb d_Y_write_40 rfl ?_
      exact ih (i + 1) w12 H locs ls (by omega) hP hD hS hI hF hn hl
  exact key N 0 ws _ _ _ (Nat.zero_add _) hP hD hS hI hF hn hl
set_option maxHeartbeats 4000000 in
set_option maxRecDepth 100000 in
theorem c_Y_write_j {l : Launch} {D : va_G} {t : Nat → ClassId} {z : Nat} {sa : Nat → Nat} {ws : va_W} {a : Nat → Nat} {k0 : Nat} {v : Nat → Int32} {x9 y9 : Int32} {c9 A N L : Nat} (hI : Iv a t k0 v ws) (hxA : x9 = nI A) (hyN : y9 = nI N) (hAN : A + N ≤ 199684) (hBA : BA t ws c9 L) (hNL : N ≤ L) (hL31 : L ≤ 260) (hA4 : 4 ≤ A) (hJ4 : 4 ≤ v 6) : Mu l y_Y_write (Cond.code y_Y_write b_Y_write 5 (.none : Option Jvm.ClassFile.FieldType) :: WS) ({ frames := 3, cells := 2 * nul ws + 1, slots := 257 * nul ws + 6, locals := 54 }) D t z sa ws [.ref (a 4), .int x9, .ref c9, .int y9] (fun r u => ∃ v1, Iv a t k0 v1 u ∧ Fr t ws u ∧ nul u ≤ nul ws ∧ r = none ∧ (∀ i, i ≠ 6 → v1 i = v i) ∧ ∃ F : Nat, F ≤ 199684 ∧ v 6 = nI F ∧ v1 6 = nI (max F (A + N))) Xno (Kc ws) (Ks ws) := by
  refine mu_ofW (cc := b_Y_write) (maxL := 5) (ret := (.none : Option Jvm.ClassFile.FieldType)) (by decide) rfl ?_
  intro p e s m args below meth c s₁ B hml hno hv
  obtain ⟨rfl, ⟨hP, hK, hD, hz⟩, hM⟩ := hv
  have hx := B.exec
  have hb := B.bytes
  have hr := B.returns
  have hts : ∀ w ∈ WS, w.before [.ref (a 4), .int x9, .ref c9, .int y9].toArray s = true := fun w h => atoms_spec B.pre w (List.mem_cons_of_mem _ h)
  have hown : s.vm.findClass R_Y = some m.cls := findClass_of_methodNamed B.named
  have hlocks := B.notSynchronized
  have hA : ∀ q, s.heap.size ≤ q → Az z q := fun q h => Nat.le_trans hz h
  have hS : va_S (Az z) s.heap s.heap [] := va_S.rf
  have hF : Fr t ws ws := Fr.rf
  have hn : nul ws ≤ nul ws := Nat.le_refl _
  have hl := lv_entry ([.ref (a 4), .int x9, .ref c9, .int y9]) (n := 5) (Nat.le_of_ble_eq_true rfl)
  rw [lg_entry_eq]
  generalize (lg_sl ([.ref (a 4), .int x9, .ref c9, .int y9]) ++ List.replicate (5 - (lg_sl ([.ref (a 4), .int x9, .ref c9, .int y9])).length) Slot.unset).toArray = ls at hl ⊢
  have hl : lv_has ls 5 [(0, .ref (a 4)), (1, .int x9), (2, .ref c9), (3, .int y9)] := hl
  refine W.widen (k := Kc ws ws) (n := Ks ws ws) (Nat.zero_le _) (Nat.zero_le _) ?_
  refine lv_iconst (v := 0) hx hb d_Y_write_0 (by decide) ?_
  refine lv_istore (lv' := [(4, .int 0), (0, .ref (a 4)), (1, .int x9), (2, .ref c9), (3, .int y9)]) hx hb d_Y_write_1 hl (by decide) rfl (fun ls hl => ?_)
  have key : ∀ (n9 i : Nat) (w9 : va_W) (H : Heap) (locs : List Loc) (ls : Array Slot), i + n9 = N → va_P D Cl w9 H → va_D (Az z) w9 → va_S (Az z) s.heap H locs → Iv a t k0 v w9 → Fr t ws w9 → nul w9 ≤ nul ws → lv_has ls 5 [(4, .int (nI i)), (0, .ref (a 4)), (1, .int x9), (2, .ref c9), (3, .int y9)] → W p l e (headSpec (Cond.code y_Y_write b_Y_write 5 (.none : Option Jvm.ClassFile.FieldType) :: WS) ({ frames := 3, cells := 2 * nul ws + 1, slots := 257 * nul ws + 6, locals := 54 })).room s m [.ref (a 4), .int x9, .ref c9, .int y9].toArray below meth c H locs (Kc ws w9) (Ks ws w9) (mu_MQ below D t z (fun r u => ∃ v1, Iv a t k0 v1 u ∧ Fr t ws u ∧ nul u ≤ nul ws ∧ r = none ∧ (∀ i, i ≠ 6 → v1 i = v i) ∧ ∃ F : Nat, F ≤ 199684 ∧ v 6 = nI F ∧ v1 6 = nI (max F (A + N))) Xno (Kc ws) (Ks ws) [.ref (a 4), .int x9, .ref c9, .int y9].toArray s) (F0 m 3 ls []) := by
    intro n9
    induction n9 with
    | zero =>
      intro i w9 H locs ls hi9 hP hD hS hI hF hn hl
      refine lv_iload hx hb d_Y_write_3 (lv_at hl 0 rfl) ?_
      refine lv_iload_n hx hb d_Y_write_5 rfl (lv_at hl 4 rfl) ?_
      refine lv_icmp_ge (tgt := 43) hx hb d_Y_write_6 rfl (fun _ => ?_) (fun h => absurd (by rw [hyN]; exact nI_le (by omega) (by omega)) h)
      refine lv_aload_n hx hb d_Y_write_43 rfl (lv_at hl 1 rfl) ?_
      refine lv_aload_n hx hb d_Y_write_44 rfl (lv_at hl 1 rfl) ?_
      refine va_get (D := D) (ci := 3) (v := .int (v 6)) (C := R_Y) (T := F_Y) (N := 2) hx hb hts ws_Y hown hK hP 4 hI.y4 rfl 1 (by decide) (hts _ fl_Y_9) (fun _ h9 => h9) rfl d_Y_write_45 ?_
      refine lv_iload_n hx hb d_Y_write_48 rfl (lv_at hl 2 rfl) ?_
      refine lv_iload_n hx hb d_Y_write_49 rfl (lv_at hl 4 rfl) ?_
      refine lv_iadd hx hb d_Y_write_50 ?_
      refine va_mmax hx hb (hml.trans hl.1.symm) hown (hts _ ml_Y_28) (hts _ mx_st) (hts _ in_Math) (hts _ mx_cd) (Nat.le_of_ble_eq_true rfl) (Nat.le_of_ble_eq_true rfl) (by show 2 * (nul ws - nul w9) ≤ 2 * nul ws + 1; omega) (by show 257 * (nul ws - nul w9) ≤ 257 * nul ws + 6; omega) d_Y_write_51 ?_
      refine lv_topi (fun ym hym => ?_)
      obtain ⟨F9, hF1, hF2⟩ := hI.bd.2.2.2.1
      have hym : ym = nI (max F9 (A + N)) := by rw [hym, hF2, hxA, hyN, nI_add]; exact mx_nat (by omega) (by omega)
      refine va_put (D := D) (ci := 3) (v := .int ym) (ty := .int) (C := R_Y) (T := F_Y) (N := 2) hx hb hts ws_Y t_Y ok_Y n_Y hown hK hP hD hS 4 hI.y4 rfl 1 (by decide) (hts _ fl_Y_9) (fun _ h9 => h9) rfl (by decide +kernel) rfl rfl (Nat.le_of_ble_eq_true rfl) d_Y_write_54 (fun H locs hP hD hS => ?_)
      obtain ⟨v1, hv1⟩ : ∃ q : Nat → Int32, q = upd v 6 ym := ⟨_, rfl⟩
      have gv1 : v1 6 = ym := by rw [hv1]; exact pk_us
      have nv1 : ∀ i, i ≠ 6 → v1 i = v i := fun i hi => by rw [hv1]; exact pk_un hi
      have hP : va_P D Cl (w9.set 4 (cY4 a v1)) H := by rw [hv1]; exact hP
      have hD : va_D (Az z) (w9.set 4 (cY4 a v1)) := by rw [hv1]; exact hD
      obtain ⟨w2, hw⟩ : ∃ q, q = w9.set 4 (cY4 a v1) := ⟨_, rfl⟩
      have hP : va_P D Cl (w9.set 4 (cY4 a v1)) H := hP
      have hD : va_D (Az z) (w9.set 4 (cY4 a v1)) := hD
      have hF : Fr t ws (w9.set 4 (cY4 a v1)) := hF.set (by decide) (by decide)
      have hI := (by have h9 := hI.setJ (J := max F9 (A + N)) (by omega) (fun _ => hI.2.2.2.1 hJ4); rw [show upd v 6 (nI (max F9 (A + N))) = v1 from by rw [hv1, hym]] at h9; exact h9)
      have hq9 : nul (w9.set 4 (cY4 a v1)) = nul w9 := nul_set (by decide)
      rw [← hw] at hP hD hF hI hq9
      clear hw
      have hn : nul w2 ≤ nul ws := by omega
      refine W.widen (k := Kc ws w2) (n := Ks ws w2) (by show 2 * (nul ws - nul w9) ≤ 2 * (nul ws - nul w2); omega) (by show 257 * (nul ws - nul w9) ≤ 257 * (nul ws - nul w2); omega) ?_
      refine mu_end (u := w2) (v := (none)) ⟨_, hI, hF, hn, rfl, nv1, F9, hF1, hF2, by rw [gv1]; exact hym⟩ (Nat.le_refl _) (Nat.le_refl _) ?_
      exact W.vret hx hb hr (fun t9 ht hW => ⟨rfl, ⟨by rw [ht]; exact hP, va_K.moved hW.alike hK, hD, by rw [ht]; exact Nat.le_trans hz hS.1⟩, hS.F ht⟩) hS.2.2 d_Y_write_57
    | succ n9 ih =>
      intro i w9 H locs ls hi9 hP hD hS hI hF hn hl
      refine lv_iload hx hb d_Y_write_3 (lv_at hl 0 rfl) ?_
      refine lv_iload_n hx hb d_Y_write_5 rfl (lv_at hl 4 rfl) ?_
      refine lv_icmp_ge (tgt := 43) hx hb d_Y_write_6 rfl (fun h => absurd h (by rw [hyN]; exact nI_ge (by omega) (by omega))) (fun _ => ?_)
      refine lv_aload_n hx hb d_Y_write_9 rfl (lv_at hl 1 rfl) ?_
      refine va_get (D := D) (ci := 3) (v := .ref (a 5)) (C := R_Y) (T := F_Y) (N := 2) hx hb hts ws_Y hown hK hP 4 hI.y4 rfl 0 (by decide) (hts _ fl_Y_20) (fun _ h9 => h9) rfl d_Y_write_10 ?_
      refine lv_iload_n hx hb d_Y_write_13 rfl (lv_at hl 2 rfl) ?_
      refine lv_iload hx hb d_Y_write_14 (lv_at hl 0 rfl) ?_
      refine lv_iadd hx hb d_Y_write_16 ?_
      refine lv_sipush (v := 256) hx hb d_Y_write_17 (by decide) ?_
      refine lv_idiv hx hb d_Y_write_20 (by decide) ?_
      refine lv_topi (fun y3 hy3 => ?_)
      have hy3 : y3 = nI ((A + i) / 256) := by rw [hy3, hxA]; exact wr_div (by omega)
      refine mu_V (n := 1) (As := [.int y3]) (rest := []) ⟨hx, hb, hml, hown, hts⟩ (c_K_bytesOf' (D := D) (t := t) (z := z) (sa := sa) (ws := w9) (pm := 6) (i := (A + i) / 256) hI hI.k5 (by decide) (show (A + i) / 256 < Nn 6 from by show (A + i) / 256 < 781; omega) hy3) ml_Y_24 im_K_bytesOf se_K_bytesOf in_K cd_K_bytesOf (by decide +kernel) ⟨Nat.le_of_ble_eq_true rfl, Nat.le_of_ble_eq_true rfl⟩ (va_recv hK hP (ci := 1) rfl hI.k5) (Pz_at hP hK hD hz hM hS) rfl hl.1 rfl (Nat.le_of_ble_eq_true rfl) d_Y_write_21 ⟨by show 2 * (nul ws - nul w9) + (2 * nul w9 + 1) ≤ 2 * nul ws + 1; omega, by show 257 * (nul ws - nul w9) + (257 * nul w9 + 6) ≤ 257 * nul ws + 6; omega⟩ hS (fun _ _ _ _ _ _ h => h.elim) (fun r9 u4 H locs hp hP hD hS => ?_)
      obtain ⟨c5, j6, k8, f7, hr9, h42, hcc, hsp, hI, hF9, hn9, hj9, -⟩ := hp
      subst hr9
      have hF := hF.trans hF9
      have hk1 : k8 = k0 := hj9 (Or.inl hJ4)
      rw [hk1] at hI hsp
      have hn : nul u4 ≤ nul ws := by omega
      refine W.widen (k := Kc ws u4) (n := Ks ws u4) (by show 2 * (nul ws - nul w9) + 2 * (nul w9 - nul u4) ≤ 2 * (nul ws - nul u4); omega) (by show 257 * (nul ws - nul w9) + 257 * (nul w9 - nul u4) ≤ 257 * (nul ws - nul u4); omega) ?_
      refine W.eq (g2 := F0 m 24 ls [.ref c5]) rfl ?_
      refine lv_iload_n hx hb d_Y_write_24 rfl (lv_at hl 2 rfl) ?_
      refine lv_iload hx hb d_Y_write_25 (lv_at hl 0 rfl) ?_
      refine lv_iadd hx hb d_Y_write_27 ?_
      refine lv_sipush (v := 256) hx hb d_Y_write_28 (by decide) ?_
      refine lv_irem hx hb d_Y_write_31 (by decide) ?_
      refine lv_topi (fun r8 hr8 => ?_)
      have hr8 : r8 = nI ((A + i) % 256) := by rw [hr8, hxA]; exact wr_rem (by omega)
      refine lv_aload_n hx hb d_Y_write_32 rfl (lv_at hl 3 rfl) ?_
      refine lv_iload hx hb d_Y_write_33 (lv_at hl 0 rfl) ?_
      obtain ⟨kf, ff, hkf, hcf⟩ := hBA.go hF
      refine va_bald (D := D) hx hb hK hP kf 0 hcf rfl (i := nI i) (vp_in_nI (by omega) (by omega)) d_Y_write_35 ?_
      generalize ff (nI i).toNatClampNeg = y10
      refine va_bast (D := D) hx hb hK hP hD hS j6 0 hcc rfl (i := r8) (x := y10) (by rw [hr8]; exact vp_in_nI (by omega) (by decide)) d_Y_write_36 (fun H locs hP hD hS => ?_)
      rw [hr8, nI_clamp (by omega)] at hP hD
      have hfn := sb_fitU (k := (A + i) % 256) (hI.bf j6 _ _ _ (Or.inr h42) hcc) (bfit y10)
      obtain ⟨f11, hff11⟩ : ∃ q, q = upd f7 ((A + i) % 256) (vp_nar .byte y10) := ⟨_, rfl⟩
      rw [← hff11] at hP hD hfn
      obtain ⟨w12, hw⟩ : ∃ q, q = u4.set j6 (cA t c5 f11) := ⟨_, rfl⟩
      have hP : va_P D Cl (u4.set j6 (cA t c5 f11)) H := hP
      have hD : va_D (Az z) (u4.set j6 (cA t c5 f11)) := hD
      have hF : Fr t ws (u4.set j6 (cA t c5 f11)) := hF.setA hcc (Or.inr h42)
      have hI := hI.setB (f1 := f11) h42 hcc (fun h _ => by rw [hff11]; exact upd4 (by have h9 := (hsp.mp h).2; omega)) hfn
      have hq9 : nul (u4.set j6 (cA t c5 f11)) = nul u4 := nul_set (fun h => by have := mds_lt h; omega)
      rw [← hw] at hP hD hF hI hq9
      clear hw
      have hn : nul w12 ≤ nul ws := by omega
      refine W.widen (k := Kc ws w12) (n := Ks ws w12) (by show 2 * (nul ws - nul u4) ≤ 2 * (nul ws - nul w12); omega) (by show 257 * (nul ws - nul u4) ≤ 257 * (nul ws - nul w12); omega) ?_
      refine lv_iinc (k := 0) (v := nI (i + 1)) (lv' := [(4, .int (nI (i + 1))), (0, .ref (a 4)), (1, .int x9), (2, .ref c9), (3, .int y9)]) hx hb d_Y_write_37 hl rfl (nI_1 i) (by decide) rfl (fun ls hl => ?_)
      refine lv_goto (tgt := 3) hx hb d_Y_write_40 rfl ?_
      exact ih (i + 1) w12 H locs ls (by omega) hP hD hS hI hF hn hl
  exact key N 0 ws _ _ _ (Nat.zero_add _) hP hD hS hI hF hn hl
end
section
/-- as Bp: and the place is filled, the world as it was where it was filled before -/
def Bs (a : Nat → Nat) (t : Nat → ClassId) (k0 pm i : Nat) (v : Nat → Int32) (ws : va_W) : Option Value → va_W → Prop := fun r u =>
  ∃ (c k' k1 : Nat) (f : Nat → Int32), r = some (.ref c) ∧ 42 ≤ k' ∧ u[k']? = some (cA t c f) ∧ (k' = k1 ↔ pm = 6 ∧ i = 0) ∧ Iv a t k1 v u ∧ Fr t ws u ∧ nul u ≤ nul ws ∧ (4 ≤ v 6 ∨ ¬ (pm = 6 ∧ i = 0) → k1 = k0) ∧ (∀ p, p < 42 → p ∉ Mds → u[p]? = ws[p]?) ∧ (∃ (g : Nat → Option Nat) (b : Nat), u[pm]? = some (cM a t pm g) ∧ g i = some b) ∧ ((∃ (g : Nat → Option Nat) (b : Nat), ws[pm]? = some (cM a t pm g) ∧ g i = some b) → u = ws ∧ k1 = k0)
set_option maxHeartbeats 4000000 in
set_option maxRecDepth 100000 in
theorem c_K_bytesOfS {l : Launch} {D : va_G} {t : Nat → ClassId} {z : Nat} {sa : Nat → Nat} {ws : va_W} {a : Nat → Nat} {k0 pk pm i kk : Nat} {v : Nat → Int32} (hI : Iv a t k0 v ws) (ek : ws[pk]? = some (kk, .inr (1, [.ref (a pm)]))) (hp : pm ∈ Mds) (hi : i < Nn pm) :
    Mu l y_K_bytesOf (Cond.code y_K_bytesOf b_K_bytesOf 2 (some (.array .byte)) :: WS) ({ frames := 2, cells := 2 * nul ws + 1, slots := 257 * nul ws + 6, locals := 33 }) D t z sa ws [.ref kk, .int (nI i)] (Bs a t k0 pm i v ws) Xno (Kc ws) (Ks ws) := by
  refine mu_ofW (cc := b_K_bytesOf) (maxL := 2) (ret := (some (.array .byte))) (by decide) rfl ?_
  intro p e s m args below meth c s₁ B hml hno hv
  obtain ⟨rfl, ⟨hP, hK, hD, hz⟩, hM⟩ := hv
  have hx := B.exec
  have hb := B.bytes
  have hr := B.returns
  have hts : ∀ w ∈ WS, w.before [.ref kk, .int (nI i)].toArray s = true := fun w h => atoms_spec B.pre w (List.mem_cons_of_mem _ h)
  have hown : s.vm.findClass R_K = some m.cls := findClass_of_methodNamed B.named
  have hlocks := B.notSynchronized
  have hA : ∀ q, s.heap.size ≤ q → Az z q := fun q h => Nat.le_trans hz h
  have hS : va_S (Az z) s.heap s.heap [] := va_S.rf
  have hl := lv_entry ([.ref kk, .int (nI i)]) (n := 2) (Nat.le_of_ble_eq_true rfl)
  rw [lg_entry_eq]
  generalize (lg_sl ([.ref kk, .int (nI i)]) ++ List.replicate (2 - (lg_sl ([.ref kk, .int (nI i)])).length) Slot.unset).toArray = ls at hl ⊢
  have hl : lv_has ls 2 [(0, .ref kk), (1, .int (nI i))] := hl
  have hN : Nn pm ≤ 781 := by unfold Nn; split <;> omega
  have hcl : (nI i).toNatClampNeg = i := nI_clamp (by omega)
  have hin9 : vp_in (nI i) (Nn pm) := vp_in_nI hi (by omega)
  have h42 := hI.2.2.2.2.1
  have hpl := mds_lt hp
  obtain ⟨g, em, hg⟩ := hI.blk hp
  -- what comes behind place 22, in a world where the block is there
  have fin : ∀ (w : va_W) (H : Heap) (locs : List Loc) (g2 : Nat → Option Nat) (b9 c9 k k' k1 cells slots : Nat) (f : Nat → Int32), va_P D Cl w H → va_D (Az z) w → va_S (Az z) s.heap H locs → w[pk]? = some (kk, .inr (1, [.ref (a pm)])) → w[pm]? = some (cM a t pm g2) → g2 i = some b9 → 42 ≤ k' → w[k]? = some (cB b9 c9) → w[k']? = some (cA t c9 f) → (k' = k1 ↔ pm = 6 ∧ i = 0) → Iv a t k1 v w → Fr t ws w → nul w ≤ nul ws → (4 ≤ v 6 ∨ ¬ (pm = 6 ∧ i = 0) → k1 = k0) → (∀ p, p < 42 → p ∉ Mds → w[p]? = ws[p]?) → ((∃ (g : Nat → Option Nat) (b : Nat), ws[pm]? = some (cM a t pm g) ∧ g i = some b) → w = ws ∧ k1 = k0) → cells ≤ Kc ws w → slots ≤ Ks ws w →
      W p l e (headSpec (Cond.code y_K_bytesOf b_K_bytesOf 2 (some (.array .byte)) :: WS) ({ frames := 2, cells := 2 * nul ws + 1, slots := 257 * nul ws + 6, locals := 33 })).room s m [.ref kk, .int (nI i)].toArray below meth c H locs cells slots (mu_MQ below D t z (Bs a t k0 pm i v ws) Xno (Kc ws) (Ks ws) [.ref kk, .int (nI i)].toArray s) (F0 m 22 ls []) := by
    intro w H locs g2 b9 c9 k k' k1 cells slots f hP hD hS ek em2 hg2 hk' ekb ekc hsp hI2 hF hn hj hq hfl hc hs
    refine lv_aload_n hx hb d_K_bytesOf_22 rfl (lv_at hl 0 rfl) ?_
    refine va_get (D := D) (ci := 1) (v := .ref (a pm)) (C := R_K) (T := F_K) (N := 1) hx hb hts ws_K hown hK hP pk ek rfl 0 (by decide) (hts _ fl_K_9) (fun _ h9 => h9) rfl d_K_bytesOf_23 ?_
    refine lv_iload_n hx hb d_K_bytesOf_26 rfl (lv_at hl 1 rfl) ?_
    refine va_aldq (D := D) hx hb hK hP pm 2 em2 rfl (i := nI i) hin9 d_K_bytesOf_27 ?_
    refine W.eq (g2 := F0 m 28 ls [.ref b9]) (by rw [hcl, hg2]; rfl) ?_
    refine va_getN (D := D) (ci := 0) (v := .ref c9) (C := R_B) (T := F_B) (N := 1) hx hb hts ws_B hown hK hP k ekb rfl 0 (by decide) hM.2.2.2.1 (fun _ h9 => h9) rfl d_K_bytesOf_28 ?_
    refine mu_end (u := w) (v := some (.ref c9)) ⟨c9, k', k1, f, rfl, hk', ekc, hsp, hI2, hF, hn, hj, hq, ⟨_, _, em2, hg2⟩, hfl⟩ hc hs ?_
    exact W.aret (v := .ref c9) (rt := .array .byte) hx hb hr (Or.inr ⟨_, rfl⟩) (Or.inr ⟨_, rfl⟩) (fun t9 ht hW => ⟨rfl, ⟨by rw [ht]; exact hP, va_K.moved hW.alike hK, hD, by rw [ht]; exact Nat.le_trans hz hS.1⟩, hS.F ht⟩) hS.2.2 d_K_bytesOf_31
  refine lv_aload_n hx hb d_K_bytesOf_0 rfl (lv_at hl 0 rfl) ?_
  refine va_get (D := D) (ci := 1) (v := .ref (a pm)) (C := R_K) (T := F_K) (N := 1) hx hb hts ws_K hown hK hP pk ek rfl 0 (by decide) (hts _ fl_K_9) (fun _ h9 => h9) rfl d_K_bytesOf_1 ?_
  refine lv_iload_n hx hb d_K_bytesOf_4 rfl (lv_at hl 1 rfl) ?_
  refine va_aldq (D := D) hx hb hK hP pm 2 em rfl (i := nI i) hin9 d_K_bytesOf_5 ?_
  cases hgi : g i with
  | some b9 =>
    refine W.eq (g2 := F0 m 6 ls [.ref b9]) (by rw [hcl, hgi]; rfl) ?_
    refine lv_ifnonnull (tgt := 22) hx hb d_K_bytesOf_6 rfl ?_
    obtain ⟨k, c9, k', f, q1, q2, q3, q4, q5⟩ := hg i hi b9 hgi
    exact fin ws s.heap [] g b9 c9 k k' k0 0 0 f hP hD hS ek em hgi q2 q3 q4 q5 hI Fr.rf (Nat.le_refl _) (fun _ => rfl) (fun _ _ _ => rfl) (fun _ => ⟨rfl, rfl⟩) (Nat.zero_le _) (Nat.zero_le _)
  | none =>
    refine W.eq (g2 := F0 m 6 ls [.null]) (by rw [hcl, hgi]; rfl) ?_
    refine lv_ifnonnullN hx hb d_K_bytesOf_6 ?_
    refine lv_aload_n hx hb d_K_bytesOf_9 rfl (lv_at hl 0 rfl) ?_
    refine va_get (D := D) (ci := 1) (v := .ref (a pm)) (C := R_K) (T := F_K) (N := 1) hx hb hts ws_K hown hK hP pk ek rfl 0 (by decide) (hts _ fl_K_9) (fun _ h9 => h9) rfl d_K_bytesOf_10 ?_
    refine lv_iload_n hx hb d_K_bytesOf_13 rfl (lv_at hl 1 rfl) ?_
    have hn0 : 0 < nul ws := by
      have h9 := nul_ch (ws := ws) (u := ws.set pm (cM a t pm (va_up g i (some 0)))) (d := 1) hp (fun q _ hq => List.getElem?_set_ne (Ne.symm hq)) (by
        rw [lk_set em, em]
        have := cnt_fill (b := 0) hgi (n := Nn pm) hi
        show ((cnt _ _ : Nat) : Int) + 1 = ((cnt _ _ : Nat) : Int)
        omega)
      omega
    refine va_new (ci := 0) (fs := [.null]) (C := R_B) (T := F_B) (N := 1) hx hb hts ws_B t_B ok_B hown (hts _ cl_K_7) (hts _ ib_B) (hts _ in_B) hK hP hD hS hA rfl (fun j hj => by rcases (show j = 0 by omega) with rfl; rfl) (by show 0 + 1 ≤ 2 * nul ws + 1; omega) (by show 0 + 1 ≤ 257 * nul ws + 6; omega) d_K_bytesOf_14 (fun b9 H hP hD hS => ?_)
    refine lv_dup hx hb d_K_bytesOf_17 rfl ?_
    refine va_callv (va_runIN (As := []) (rest := [.ref b9, .int (nI i), .ref (a pm)]) ⟨hx, hb, hml, hown, hts⟩ (c_B_init (D := D) (t := t) (z := z) (sa := sa) (ws := ws ++ [(b9, .inr (0, [.null]))]) (n := ws.length) (lk_new rfl)) ⟨va_cnB 0 hts (gd_I cd_B_init) rfl rfl rfl hM.2.2.1 (hts _ in_B) (by decide +kernel) ⟨Nat.le_of_ble_eq_true rfl, Nat.le_of_ble_eq_true rfl⟩, rfl, hts _ im_B_init⟩ ⟨Pz_blind, Pz_at hP hK hD hz hM hS⟩ rfl rfl hl.1 rfl (lv_room (Nat.le_of_ble_eq_true rfl)) d_K_bytesOf_18 ⟨by show 0 + 1 + 1 ≤ 2 * nul ws + 1; omega, by show 0 + 1 + 256 ≤ 257 * nul ws + 6; omega⟩) hS (fun q _ h => h) (fun q h => h) (fun u t9 H locs ht hvm hp9 hB hz1 hk1 hS => ?_)
    obtain ⟨hP, hK9, hD, -⟩ := hB
    rw [ht] at hP
    obtain ⟨c9, hu⟩ := hp9
    have hu : u = (ws ++ [cB b9 c9]) ++ [cA t c9 (fun _ => 0)] := hu.trans ls_two
    subst hu
    have emu : ((ws ++ [cB b9 c9]) ++ [cA t c9 (fun _ => 0)])[pm]? = some (cM a t pm g) := lk_push (lk_push em)
    have ekb : ((ws ++ [cB b9 c9]) ++ [cA t c9 (fun _ => 0)])[ws.length]? = some (cB b9 c9) := lk_push (lk_new rfl)
    have ekc : ((ws ++ [cB b9 c9]) ++ [cA t c9 (fun _ => 0)])[ws.length + 1]? = some (cA t c9 (fun _ => 0)) := lk_new (by rw [List.length_append]; rfl)
    refine va_astq (D := D) hx hb hK hP hD hS pm 2 ws.length 0 (r := (R_B, F_B, 1)) emu rfl ekb rfl (i := nI i) hin9 d_K_bytesOf_21 (fun H locs hP hD hS => ?_)
    rw [hcl] at hP hD
    obtain ⟨k1, hI2, hsp, hj⟩ := hI.mk (b := b9) (c := c9) hp em hi hgi
    have hnu : nul (((ws ++ [cB b9 c9]) ++ [cA t c9 (fun _ => 0)]).set pm (cM a t pm (va_up g i (some b9)))) + 1 = nul ws := by
      have h9 := nul_ch (ws := ws) (u := ((ws ++ [cB b9 c9]) ++ [cA t c9 (fun _ => 0)]).set pm (cM a t pm (va_up g i (some b9)))) (d := 1) hp (fun q hq hne => by rw [List.getElem?_set_ne (Ne.symm hne), List.append_assoc, List.getElem?_append_left (by have := mds_lt hq; omega)]) (by
        rw [lk_set emu, em]
        have := cnt_fill (b := b9) hgi (n := Nn pm) hi
        show ((cnt _ _ : Nat) : Int) + 1 = ((cnt _ _ : Nat) : Int)
        omega)
      omega
    have hpk : pk ≠ pm := fun h => by rw [h] at ek; cases ek.symm.trans em
    have hpkl : pk < ws.length := (List.getElem?_eq_some_iff.mp ek).1
    refine fin (((ws ++ [cB b9 c9]) ++ [cA t c9 (fun _ => 0)]).set pm (cM a t pm (va_up g i (some b9)))) H locs (va_up g i (some b9)) b9 c9 ws.length (ws.length + 1) k1 _ _ (fun _ => 0) hP hD hS (lk_ne (lk_push (lk_push ek)) (Ne.symm hpk)) (lk_set emu) (va_up_self _ _ _) (by omega) (lk_ne ekb (by omega)) (lk_ne ekc (by omega)) hsp hI2 ?_ (by omega) hj (fun q h1 h2 => by rw [List.getElem?_set_ne (fun h => h2 (by rw [← h]; exact hp)), List.append_assoc, List.getElem?_append_left (by omega)]) (fun ⟨g9, b8, z1, z2⟩ => by cases em.symm.trans z1; rw [hgi] at z2; cases z2) (by show 0 + 1 + 1 ≤ 2 * (nul ws - nul (((ws ++ [cB b9 c9]) ++ [cA t c9 (fun _ => 0)]).set pm (cM a t pm (va_up g i (some b9))))); omega) (by show 0 + 1 + 256 ≤ 257 * (nul ws - nul (((ws ++ [cB b9 c9]) ++ [cA t c9 (fun _ => 0)]).set pm (cM a t pm (va_up g i (some b9))))); omega)
    refine ((Fr.rf.push h42).push h42).set hpl (fun h => by rw [h] at hp; exact absurd hp (by decide))

theorem c_K_bytesOfS' {l : Launch} {D : va_G} {t : Nat → ClassId} {z : Nat} {sa : Nat → Nat} {ws : va_W} {a : Nat → Nat} {k0 : Nat} {v : Nat → Int32} {pk pm i kk : Nat} {x9 : Int32} (hI : Iv a t k0 v ws) (ek : ws[pk]? = some (kk, .inr (1, [.ref (a pm)]))) (hp : pm ∈ Mds) (hi : i < Nn pm) (hxi : x9 = nI i) :
    Mu l y_K_bytesOf (Cond.code y_K_bytesOf b_K_bytesOf 2 (some (.array .byte)) :: WS) ({ frames := 2, cells := 2 * nul ws + 1, slots := 257 * nul ws + 6, locals := 33 }) D t z sa ws [.ref kk, .int x9] (Bs a t k0 pm i v ws) Xno (Kc ws) (Ks ws) := by
  subst hxi
  exact c_K_bytesOfS hI ek hp hi
/-- the journal's number, its first i bytes laid -/
def JP (a : Nat → Nat) (t : Nat → ClassId) (k0 n i : Nat) (ws : va_W) : Prop := 0 < i → 42 ≤ k0 ∧ (∃ (g : Nat → Option Nat) (b : Nat), ws[6]? = some (a 6, .inl (t 2, Nn 6, qA g)) ∧ g 0 = some b) ∧ ∃ (c : Nat) (f : Nat → Int32), ws[k0]? = some (c, .inl (t 0, 256, .inl f)) ∧ ∀ j, j < i → f j = byt n j
theorem nar_byt {n i : Nat} : vp_nar .byte (byt n i) = byt n i := by
  rw [vp_nar_byte]
  unfold byt
  simp
theorem wr_div0 {i : Nat} (h : i < 256) : (nI 0 + nI i) / 256 = nI 0 := by
  have h9 := wr_div (A := 0) (i := i) (by omega)
  rwa [Nat.zero_add, Nat.div_eq_of_lt h] at h9
theorem wr_rem0 {i : Nat} (h : i < 256) : (nI 0 + nI i) - (nI 0 + nI i) / 256 * 256 = nI i := by
  have h9 := wr_rem (A := 0) (i := i) (by omega)
  rwa [Nat.zero_add, Nat.mod_eq_of_lt h] at h9
theorem jn_num : ∀ n, n < 769 → (((0 ||| (byt n 0 &&& 255) <<< ((0 : Int32) &&& 31)) ||| (byt n 1 &&& 255) <<< ((8 : Int32) &&& 31)) ||| (byt n 2 &&& 255) <<< ((16 : Int32) &&& 31)) ||| (byt n 3 &&& 255) <<< ((24 : Int32) &&& 31) = nI n := by decide +kernel
set_option maxHeartbeats 4000000 in
set_option maxRecDepth 100000 in
theorem c_U_through {l : Launch} {D : va_G} {t : Nat → ClassId} {z : Nat} {sa : Nat → Nat} {ws : va_W} {a : Nat → Nat} {k0 : Nat} {v : Nat → Int32} {x9 y9 : Int32} {n : Nat} (hI : Iv a t k0 v ws) (hn9 : y9 = nI n) (hn31 : n < 2 ^ 31) : Mu l y_U_bytesThrough (Cond.code y_U_bytesThrough b_U_bytesThrough 3 (some .int) :: WS) ({ frames := 1, cells := 2 * nul ws + 1, slots := 257 * nul ws + 6, locals := 13 }) D t z sa ws [.ref (a 8), .int x9, .int y9] (fun r u => ∃ v1, Iv a t k0 v1 u ∧ Fr t ws u ∧ nul u ≤ nul ws ∧ (∃ m : Nat, m ≤ n ∧ r = some (.int (nI m)) ∧ (m = n ∨ v1 10 = 1)) ∧ (∀ i, i ≠ 8 → i ≠ 10 → v1 i = v i) ∧ (∀ p, p ≠ 8 → u[p]? = ws[p]?)) Xno (Kc ws) (Ks ws) := by
  refine mu_ofW (cc := b_U_bytesThrough) (maxL := 3) (ret := (some .int)) (by decide) rfl ?_
  intro p e s m args below meth c s₁ B hml hno hv
  obtain ⟨rfl, ⟨hP, hK, hD, hz⟩, hM⟩ := hv
  have hx := B.exec
  have hb := B.bytes
  have hr := B.returns
  have hts : ∀ w ∈ WS, w.before [.ref (a 8), .int x9, .int y9].toArray s = true := fun w h => atoms_spec B.pre w (List.mem_cons_of_mem _ h)
  have hown : s.vm.findClass R_U = some m.cls := findClass_of_methodNamed B.named
  have hlocks := B.notSynchronized
  have hA : ∀ q, s.heap.size ≤ q → Az z q := fun q h => Nat.le_trans hz h
  have hS : va_S (Az z) s.heap s.heap [] := va_S.rf
  have hF : Fr t ws ws := Fr.rf
  have hn : nul ws ≤ nul ws := Nat.le_refl _
  have hl := lv_entry ([.ref (a 8), .int x9, .int y9]) (n := 3) (Nat.le_of_ble_eq_true rfl)
  rw [lg_entry_eq]
  generalize (lg_sl ([.ref (a 8), .int x9, .int y9]) ++ List.replicate (3 - (lg_sl ([.ref (a 8), .int x9, .int y9])).length) Slot.unset).toArray = ls at hl ⊢
  have hl : lv_has ls 3 [(0, .ref (a 8)), (1, .int x9), (2, .int y9)] := hl
  refine W.widen (k := Kc ws ws) (n := Ks ws ws) (Nat.zero_le _) (Nat.zero_le _) ?_
  refine lv_aload_n hx hb d_U_bytesThrough_0 rfl (lv_at hl 0 rfl) ?_
  refine va_get (D := D) (ci := 2) (v := .int (v 7)) (C := R_U) (T := F_U) (N := 4) hx hb hts ws_U hown hK hP 8 hI.u8 rfl 0 (by decide) (hts _ fl_U_9) (fun _ h9 => h9) rfl d_U_bytesThrough_1 ?_
  refine lv_iload_n hx hb d_U_bytesThrough_4 rfl (lv_at hl 1 rfl) ?_
  refine lv_icmp_eq (tgt := 10) hx hb d_U_bytesThrough_5 rfl (fun q1 => ?_) (fun q1 => ?_)
  · skip
    refine lv_aload_n hx hb d_U_bytesThrough_10 rfl (lv_at hl 0 rfl) ?_
    refine va_get (D := D) (ci := 2) (v := .int (v 8)) (C := R_U) (T := F_U) (N := 4) hx hb hts ws_U hown hK hP 8 hI.u8 rfl 1 (by decide) (hts _ fl_U_15) (fun _ h9 => h9) rfl d_U_bytesThrough_11 ?_
    refine lv_if_le (tgt := 29) hx hb d_U_bytesThrough_14 rfl (fun q2 => ?_) (fun q2 => ?_)
    · skip
      refine lv_aload_n hx hb d_U_bytesThrough_29 rfl (lv_at hl 0 rfl) ?_
      refine lv_iconst (v := 1) hx hb d_U_bytesThrough_30 (by decide) ?_
      refine va_put (D := D) (ci := 2) (v := .int 1) (ty := .boolean) (C := R_U) (T := F_U) (N := 4) hx hb hts ws_U t_U ok_U n_U hown hK hP hD hS 8 hI.u8 rfl 3 (by decide) (hts _ fl_U_21) (fun _ h9 => h9) rfl (by decide +kernel) rfl rfl (Nat.le_of_ble_eq_true rfl) d_U_bytesThrough_31 (fun H locs hP hD hS => ?_)
      obtain ⟨v3, hv3⟩ : ∃ q : Nat → Int32, q = upd v 10 1 := ⟨_, rfl⟩
      have gv3 : v3 10 = 1 := by rw [hv3]; exact pk_us
      have nv3 : ∀ i, i ≠ 10 → v3 i = v i := fun i hi => by rw [hv3]; exact pk_un hi
      have hP : va_P D Cl (ws.set 8 (cU a v3)) H := by rw [hv3]; exact hP
      have hD : va_D (Az z) (ws.set 8 (cU a v3)) := by rw [hv3]; exact hD
      obtain ⟨w4, hw⟩ : ∃ q, q = ws.set 8 (cU a v3) := ⟨_, rfl⟩
      have hP : va_P D Cl (ws.set 8 (cU a v3)) H := hP
      have hD : va_D (Az z) (ws.set 8 (cU a v3)) := hD
      have hF : Fr t ws (ws.set 8 (cU a v3)) := hF.set (by decide) (by decide)
      have hI := hI.setU (v' := v3) (fun i hi => nv3 i (by omega)) (by rw [nv3 9 (by decide)]; exact hI.bd.2.2.2.2.1) (by rw [gv3]; decide)
      have hq9 : nul (ws.set 8 (cU a v3)) = nul ws := nul_set (by decide)
      rw [← hw] at hP hD hF hI hq9
      have hoth9 : ∀ p, p ≠ 8 → w4[p]? = ws[p]? := fun p hp => by rw [hw]; exact List.getElem?_set_ne (Ne.symm hp)
      clear hw
      have hn : nul w4 ≤ nul ws := by omega
      refine W.widen (k := Kc ws w4) (n := Ks ws w4) (by show 2 * (nul ws - nul ws) ≤ 2 * (nul ws - nul w4); omega) (by show 257 * (nul ws - nul ws) ≤ 257 * (nul ws - nul w4); omega) ?_
      refine lv_aload_n hx hb d_U_bytesThrough_34 rfl (lv_at hl 0 rfl) ?_
      refine va_get (D := D) (ci := 2) (v := .int (v3 9)) (C := R_U) (T := F_U) (N := 4) hx hb hts ws_U hown hK hP 8 hI.u8 rfl 2 (by decide) (hts _ fl_U_18) (fun _ h9 => h9) rfl d_U_bytesThrough_35 ?_
      refine lv_iload_n hx hb d_U_bytesThrough_38 rfl (lv_at hl 2 rfl) ?_
      refine va_mmin hx hb (hml.trans hl.1.symm) hown (hts _ ml_U_29) (hts _ mm_st) (hts _ in_Math) (hts _ mm_cd) (Nat.le_of_ble_eq_true rfl) (Nat.le_of_ble_eq_true rfl) (by show 2 * (nul ws - nul w4) ≤ 2 * nul ws + 1; omega) (by show 257 * (nul ws - nul w4) ≤ 257 * nul ws + 6; omega) d_U_bytesThrough_39 ?_
      refine lv_topi (fun y5 hy5 => ?_)
      obtain ⟨B9, hB1, hB2⟩ := hI.bd.2.2.2.2.1
      have hy59 : y5 = nI (min B9 n) := by rw [hy5, hB2, hn9]; exact mn_nat (by omega) hn31
      refine mu_end (u := w4) (v := (some (.int y5))) ⟨_, hI, hF, hn, ⟨min B9 n, Nat.min_le_right _ _, by rw [hy59], Or.inr gv3⟩, (fun i h8 h10 => by rw [nv3 i (by omega)]), hoth9⟩ (Nat.le_refl _) (Nat.le_refl _) ?_
      exact W.iret (v := y5) hx hb hr (fun t9 ht hW => ⟨rfl, ⟨by rw [ht]; exact hP, va_K.moved hW.alike hK, hD, by rw [ht]; exact Nat.le_trans hz hS.1⟩, hS.F ht⟩) hS.2.2 d_U_bytesThrough_42
    · skip
      refine lv_aload_n hx hb d_U_bytesThrough_17 rfl (lv_at hl 0 rfl) ?_
      refine lv_dup hx hb d_U_bytesThrough_18 rfl ?_
      refine va_get (D := D) (ci := 2) (v := .int (v 8)) (C := R_U) (T := F_U) (N := 4) hx hb hts ws_U hown hK hP 8 hI.u8 rfl 1 (by decide) (hts _ fl_U_15) (fun _ h9 => h9) rfl d_U_bytesThrough_19 ?_
      refine lv_iconst (v := 1) hx hb d_U_bytesThrough_22 (by decide) ?_
      refine lv_isub hx hb d_U_bytesThrough_23 ?_
      refine lv_topi (fun v6 hv6 => ?_)
      refine va_put (D := D) (ci := 2) (v := .int v6) (ty := .int) (C := R_U) (T := F_U) (N := 4) hx hb hts ws_U t_U ok_U n_U hown hK hP hD hS 8 hI.u8 rfl 1 (by decide) (hts _ fl_U_15) (fun _ h9 => h9) rfl (by decide +kernel) rfl rfl (Nat.le_of_ble_eq_true rfl) d_U_bytesThrough_24 (fun H locs hP hD hS => ?_)
      obtain ⟨v7, hv7⟩ : ∃ q : Nat → Int32, q = upd v 8 v6 := ⟨_, rfl⟩
      have gv7 : v7 8 = v6 := by rw [hv7]; exact pk_us
      have nv7 : ∀ i, i ≠ 8 → v7 i = v i := fun i hi => by rw [hv7]; exact pk_un hi
      have hP : va_P D Cl (ws.set 8 (cU a v7)) H := by rw [hv7]; exact hP
      have hD : va_D (Az z) (ws.set 8 (cU a v7)) := by rw [hv7]; exact hD
      obtain ⟨w8, hw⟩ : ∃ q, q = ws.set 8 (cU a v7) := ⟨_, rfl⟩
      have hP : va_P D Cl (ws.set 8 (cU a v7)) H := hP
      have hD : va_D (Az z) (ws.set 8 (cU a v7)) := hD
      have hF : Fr t ws (ws.set 8 (cU a v7)) := hF.set (by decide) (by decide)
      have hI := hI.setU (v' := v7) (fun i hi => nv7 i (by omega)) (by rw [nv7 9 (by decide)]; exact hI.bd.2.2.2.2.1) (by rw [nv7 10 (by decide)]; exact hI.bd.2.2.2.2.2.2)
      have hq9 : nul (ws.set 8 (cU a v7)) = nul ws := nul_set (by decide)
      rw [← hw] at hP hD hF hI hq9
      have hoth9 : ∀ p, p ≠ 8 → w8[p]? = ws[p]? := fun p hp => by rw [hw]; exact List.getElem?_set_ne (Ne.symm hp)
      clear hw
      have hn : nul w8 ≤ nul ws := by omega
      refine W.widen (k := Kc ws w8) (n := Ks ws w8) (by show 2 * (nul ws - nul ws) ≤ 2 * (nul ws - nul w8); omega) (by show 257 * (nul ws - nul ws) ≤ 257 * (nul ws - nul w8); omega) ?_
      refine lv_iload_n hx hb d_U_bytesThrough_27 rfl (lv_at hl 2 rfl) ?_
      refine mu_end (u := w8) (v := (some (.int y9))) ⟨_, hI, hF, hn, ⟨n, Nat.le_refl _, by rw [hn9], Or.inl rfl⟩, (fun i h8 h10 => by rw [nv7 i (by omega)]), hoth9⟩ (Nat.le_refl _) (Nat.le_refl _) ?_
      exact W.iret (v := y9) hx hb hr (fun t9 ht hW => ⟨rfl, ⟨by rw [ht]; exact hP, va_K.moved hW.alike hK, hD, by rw [ht]; exact Nat.le_trans hz hS.1⟩, hS.F ht⟩) hS.2.2 d_U_bytesThrough_28
  · skip
    refine lv_iload_n hx hb d_U_bytesThrough_8 rfl (lv_at hl 2 rfl) ?_
    refine mu_end (u := ws) (v := (some (.int y9))) ⟨_, hI, hF, hn, ⟨n, Nat.le_refl _, by rw [hn9], Or.inl rfl⟩, (fun i _ _ => rfl), fun _ _ => rfl⟩ (Nat.le_refl _) (Nat.le_refl _) ?_
    exact W.iret (v := y9) hx hb hr (fun t9 ht hW => ⟨rfl, ⟨by rw [ht]; exact hP, va_K.moved hW.alike hK, hD, by rw [ht]; exact Nat.le_trans hz hS.1⟩, hS.F ht⟩) hS.2.2 d_U_bytesThrough_9
set_option maxHeartbeats 4000000 in
set_option maxRecDepth 100000 in
theorem c_Y_write_n {l : Launch} {D : va_G} {t : Nat → ClassId} {z : Nat} {sa : Nat → Nat} {ws : va_W} {a : Nat → Nat} {k0 : Nat} {v : Nat → Int32} {x9 y9 : Int32} {N nn : Nat} {r0 : Nat → Int32} (hI : Iv a t k0 v ws) (hxA : x9 = nI 0) (hyN : y9 = nI N) (hN4 : N ≤ 4) (hv6 : v 6 = 0) (hr0 : ws[9]? = some (a 9, .inl (t 0, 260, .inl r0))) (hrb : ∀ i, i < 4 → r0 i = byt nn i) (hnn : nn ≤ 768) : Mu l y_Y_write (Cond.code y_Y_write b_Y_write 5 (.none : Option Jvm.ClassFile.FieldType) :: WS) ({ frames := 3, cells := 2 * nul ws + 1, slots := 257 * nul ws + 6, locals := 54 }) D t z sa ws [.ref (a 4), .int x9, .ref (a 9), .int y9] (fun r u => ∃ k1 v1, Iv a t k1 v1 u ∧ Fr t ws u ∧ nul u ≤ nul ws ∧ r = none ∧ (∀ i, i ≠ 6 → v1 i = v i) ∧ v1 6 = nI N) Xno (Kc ws) (Ks ws) := by
  refine mu_ofW (cc := b_Y_write) (maxL := 5) (ret := (.none : Option Jvm.ClassFile.FieldType)) (by decide) rfl ?_
  intro p e s m args below meth c s₁ B hml hno hv
  obtain ⟨rfl, ⟨hP, hK, hD, hz⟩, hM⟩ := hv
  have hx := B.exec
  have hb := B.bytes
  have hr := B.returns
  have hts : ∀ w ∈ WS, w.before [.ref (a 4), .int x9, .ref (a 9), .int y9].toArray s = true := fun w h => atoms_spec B.pre w (List.mem_cons_of_mem _ h)
  have hown : s.vm.findClass R_Y = some m.cls := findClass_of_methodNamed B.named
  have hlocks := B.notSynchronized
  have hA : ∀ q, s.heap.size ≤ q → Az z q := fun q h => Nat.le_trans hz h
  have hS : va_S (Az z) s.heap s.heap [] := va_S.rf
  have hF : Fr t ws ws := Fr.rf
  have hn : nul ws ≤ nul ws := Nat.le_refl _
  have hl := lv_entry ([.ref (a 4), .int x9, .ref (a 9), .int y9]) (n := 5) (Nat.le_of_ble_eq_true rfl)
  rw [lg_entry_eq]
  generalize (lg_sl ([.ref (a 4), .int x9, .ref (a 9), .int y9]) ++ List.replicate (5 - (lg_sl ([.ref (a 4), .int x9, .ref (a 9), .int y9])).length) Slot.unset).toArray = ls at hl ⊢
  have hl : lv_has ls 5 [(0, .ref (a 4)), (1, .int x9), (2, .ref (a 9)), (3, .int y9)] := hl
  refine W.widen (k := Kc ws ws) (n := Ks ws ws) (Nat.zero_le _) (Nat.zero_le _) ?_
  refine lv_iconst (v := 0) hx hb d_Y_write_0 (by decide) ?_
  refine lv_istore (lv' := [(4, .int 0), (0, .ref (a 4)), (1, .int x9), (2, .ref (a 9)), (3, .int y9)]) hx hb d_Y_write_1 hl (by decide) rfl (fun ls hl => ?_)
  have key : ∀ (n9 i k9 : Nat) (w9 : va_W) (H : Heap) (locs : List Loc) (ls : Array Slot), i + n9 = N → va_P D Cl w9 H → va_D (Az z) w9 → va_S (Az z) s.heap H locs → Iv a t k9 v w9 → Fr t ws w9 → nul w9 ≤ nul ws → JP a t k9 nn i w9 → w9[9]? = some (a 9, .inl (t 0, 260, .inl r0)) → lv_has ls 5 [(4, .int (nI i)), (0, .ref (a 4)), (1, .int x9), (2, .ref (a 9)), (3, .int y9)] → W p l e (headSpec (Cond.code y_Y_write b_Y_write 5 (.none : Option Jvm.ClassFile.FieldType) :: WS) ({ frames := 3, cells := 2 * nul ws + 1, slots := 257 * nul ws + 6, locals := 54 })).room s m [.ref (a 4), .int x9, .ref (a 9), .int y9].toArray below meth c H locs (Kc ws w9) (Ks ws w9) (mu_MQ below D t z (fun r u => ∃ k1 v1, Iv a t k1 v1 u ∧ Fr t ws u ∧ nul u ≤ nul ws ∧ r = none ∧ (∀ i, i ≠ 6 → v1 i = v i) ∧ v1 6 = nI N) Xno (Kc ws) (Ks ws) [.ref (a 4), .int x9, .ref (a 9), .int y9].toArray s) (F0 m 3 ls []) := by
    intro n9
    induction n9 with
    | zero =>
      intro i k9 w9 H locs ls hi9 hP hD hS hI hF hn hJP hr9w hl
      refine lv_iload hx hb d_Y_write_3 (lv_at hl 0 rfl) ?_
      refine lv_iload_n hx hb d_Y_write_5 rfl (lv_at hl 4 rfl) ?_
      refine lv_icmp_ge (tgt := 43) hx hb d_Y_write_6 rfl (fun _ => ?_) (fun h => absurd (by rw [hyN]; exact nI_le (by omega) (by omega)) h)
      refine lv_aload_n hx hb d_Y_write_43 rfl (lv_at hl 1 rfl) ?_
      refine lv_aload_n hx hb d_Y_write_44 rfl (lv_at hl 1 rfl) ?_
      refine va_get (D := D) (ci := 3) (v := .int (v 6)) (C := R_Y) (T := F_Y) (N := 2) hx hb hts ws_Y hown hK hP 4 hI.y4 rfl 1 (by decide) (hts _ fl_Y_9) (fun _ h9 => h9) rfl d_Y_write_45 ?_
      refine lv_iload_n hx hb d_Y_write_48 rfl (lv_at hl 2 rfl) ?_
      refine lv_iload_n hx hb d_Y_write_49 rfl (lv_at hl 4 rfl) ?_
      refine lv_iadd hx hb d_Y_write_50 ?_
      refine va_mmax hx hb (hml.trans hl.1.symm) hown (hts _ ml_Y_28) (hts _ mx_st) (hts _ in_Math) (hts _ mx_cd) (Nat.le_of_ble_eq_true rfl) (Nat.le_of_ble_eq_true rfl) (by show 2 * (nul ws - nul w9) ≤ 2 * nul ws + 1; omega) (by show 257 * (nul ws - nul w9) ≤ 257 * nul ws + 6; omega) d_Y_write_51 ?_
      refine lv_topi (fun ym hym => ?_)
      have hym : ym = nI N := by rw [hym, hv6, hxA, hyN, nI_add, Nat.zero_add]; exact (mx_nat (m := 0) (by omega) (by omega)).trans (by rw [Nat.zero_max])
      refine va_put (D := D) (ci := 3) (v := .int ym) (ty := .int) (C := R_Y) (T := F_Y) (N := 2) hx hb hts ws_Y t_Y ok_Y n_Y hown hK hP hD hS 4 hI.y4 rfl 1 (by decide) (hts _ fl_Y_9) (fun _ h9 => h9) rfl (by decide +kernel) rfl rfl (Nat.le_of_ble_eq_true rfl) d_Y_write_54 (fun H locs hP hD hS => ?_)
      obtain ⟨v1, hv1⟩ : ∃ q : Nat → Int32, q = upd v 6 ym := ⟨_, rfl⟩
      have gv1 : v1 6 = ym := by rw [hv1]; exact pk_us
      have nv1 : ∀ i, i ≠ 6 → v1 i = v i := fun i hi => by rw [hv1]; exact pk_un hi
      have hP : va_P D Cl (w9.set 4 (cY4 a v1)) H := by rw [hv1]; exact hP
      have hD : va_D (Az z) (w9.set 4 (cY4 a v1)) := by rw [hv1]; exact hD
      obtain ⟨w2, hw⟩ : ∃ q, q = w9.set 4 (cY4 a v1) := ⟨_, rfl⟩
      have hP : va_P D Cl (w9.set 4 (cY4 a v1)) H := hP
      have hD : va_D (Az z) (w9.set 4 (cY4 a v1)) := hD
      have hF : Fr t ws (w9.set 4 (cY4 a v1)) := hF.set (by decide) (by decide)
      have hI := (by have h9 := hI.setJ (J := N) (by omega) (fun h4 => by obtain ⟨z1, z2, c7, f7, z3, z4⟩ := hJP (by omega); exact ⟨z1, z2, c7, f7, nn, z3, hnn, fun j hj => z4 j (by omega)⟩); rw [show upd v 6 (nI N) = v1 from by rw [hv1, hym]] at h9; exact h9)
      have hq9 : nul (w9.set 4 (cY4 a v1)) = nul w9 := nul_set (by decide)
      rw [← hw] at hP hD hF hI hq9
      clear hw
      have hn : nul w2 ≤ nul ws := by omega
      refine W.widen (k := Kc ws w2) (n := Ks ws w2) (by show 2 * (nul ws - nul w9) ≤ 2 * (nul ws - nul w2); omega) (by show 257 * (nul ws - nul w9) ≤ 257 * (nul ws - nul w2); omega) ?_
      refine mu_end (u := w2) (v := (none)) ⟨_, _, hI, hF, hn, rfl, nv1, by rw [gv1]; exact hym⟩ (Nat.le_refl _) (Nat.le_refl _) ?_
      exact W.vret hx hb hr (fun t9 ht hW => ⟨rfl, ⟨by rw [ht]; exact hP, va_K.moved hW.alike hK, hD, by rw [ht]; exact Nat.le_trans hz hS.1⟩, hS.F ht⟩) hS.2.2 d_Y_write_57
    | succ n9 ih =>
      intro i k9 w9 H locs ls hi9 hP hD hS hI hF hn hJP hr9w hl
      refine lv_iload hx hb d_Y_write_3 (lv_at hl 0 rfl) ?_
      refine lv_iload_n hx hb d_Y_write_5 rfl (lv_at hl 4 rfl) ?_
      refine lv_icmp_ge (tgt := 43) hx hb d_Y_write_6 rfl (fun h => absurd h (by rw [hyN]; exact nI_ge (by omega) (by omega))) (fun _ => ?_)
      refine lv_aload_n hx hb d_Y_write_9 rfl (lv_at hl 1 rfl) ?_
      refine va_get (D := D) (ci := 3) (v := .ref (a 5)) (C := R_Y) (T := F_Y) (N := 2) hx hb hts ws_Y hown hK hP 4 hI.y4 rfl 0 (by decide) (hts _ fl_Y_20) (fun _ h9 => h9) rfl d_Y_write_10 ?_
      refine lv_iload_n hx hb d_Y_write_13 rfl (lv_at hl 2 rfl) ?_
      refine lv_iload hx hb d_Y_write_14 (lv_at hl 0 rfl) ?_
      refine lv_iadd hx hb d_Y_write_16 ?_
      refine lv_sipush (v := 256) hx hb d_Y_write_17 (by decide) ?_
      refine lv_idiv hx hb d_Y_write_20 (by decide) ?_
      refine lv_topi (fun y3 hy3 => ?_)
      have hy3 : y3 = nI 0 := by rw [hy3, hxA]; exact wr_div0 (by omega)
      refine mu_V (n := 1) (As := [.int y3]) (rest := []) ⟨hx, hb, hml, hown, hts⟩ (c_K_bytesOfS' (D := D) (t := t) (z := z) (sa := sa) (ws := w9) (pm := 6) (i := 0) hI hI.k5 (by decide) (show 0 < Nn 6 from by decide) hy3) ml_Y_24 im_K_bytesOf se_K_bytesOf in_K cd_K_bytesOf (by decide +kernel) ⟨Nat.le_of_ble_eq_true rfl, Nat.le_of_ble_eq_true rfl⟩ (va_recv hK hP (ci := 1) rfl hI.k5) (Pz_at hP hK hD hz hM hS) rfl hl.1 rfl (Nat.le_of_ble_eq_true rfl) d_Y_write_21 ⟨by show 2 * (nul ws - nul w9) + (2 * nul w9 + 1) ≤ 2 * nul ws + 1; omega, by show 257 * (nul ws - nul w9) + (257 * nul w9 + 6) ≤ 257 * nul ws + 6; omega⟩ hS (fun _ _ _ _ _ _ h => h.elim) (fun r9 u4 H locs hp hP hD hS => ?_)
      obtain ⟨c8, k8, k1, f8, hr9, h42, hcc, hsp, hI, hF9, hn9, hj9, hq9, hfl, hsame⟩ := hp
      subst hr9
      have hF := hF.trans hF9
      have hk8 : k8 = k1 := hsp.mpr ⟨rfl, rfl⟩
      subst hk8
      have hr9w := (hq9 9 (by decide) (by decide)).trans hr9w
      have hf8 : ∀ j, j < i → f8 j = byt nn j := fun j hj => by
        obtain ⟨z1, z2, c7, f7, z3, z4⟩ := hJP (by omega)
        obtain ⟨z5, z6⟩ := hsame z2
        rw [z5, z6] at hcc
        cases hcc.symm.trans z3
        exact z4 j hj
      have hn : nul u4 ≤ nul ws := by omega
      refine W.widen (k := Kc ws u4) (n := Ks ws u4) (by show 2 * (nul ws - nul w9) + 2 * (nul w9 - nul u4) ≤ 2 * (nul ws - nul u4); omega) (by show 257 * (nul ws - nul w9) + 257 * (nul w9 - nul u4) ≤ 257 * (nul ws - nul u4); omega) ?_
      refine W.eq (g2 := F0 m 24 ls [.ref c8]) rfl ?_
      refine lv_iload_n hx hb d_Y_write_24 rfl (lv_at hl 2 rfl) ?_
      refine lv_iload hx hb d_Y_write_25 (lv_at hl 0 rfl) ?_
      refine lv_iadd hx hb d_Y_write_27 ?_
      refine lv_sipush (v := 256) hx hb d_Y_write_28 (by decide) ?_
      refine lv_irem hx hb d_Y_write_31 (by decide) ?_
      refine lv_topi (fun r8 hr8 => ?_)
      have hr8 : r8 = nI i := by rw [hr8, hxA]; exact wr_rem0 (by omega)
      refine lv_aload_n hx hb d_Y_write_32 rfl (lv_at hl 3 rfl) ?_
      refine lv_iload hx hb d_Y_write_33 (lv_at hl 0 rfl) ?_
      refine va_bald (D := D) hx hb hK hP 9 0 hr9w rfl (i := nI i) (vp_in_nI (by omega) (by omega)) d_Y_write_35 ?_
      refine lv_topi (fun y5 hy5 => ?_)
      have hy5 : y5 = byt nn i := by rw [hy5, nI_clamp (by omega)]; exact hrb i (by omega)
      refine va_bast (D := D) hx hb hK hP hD hS k8 0 hcc rfl (i := r8) (x := y5) (by rw [hr8]; exact vp_in_nI (by omega) (by decide)) d_Y_write_36 (fun H locs hP hD hS => ?_)
      rw [hr8, nI_clamp (by omega), hy5, nar_byt] at hP hD
      have hfn := sb_fitU (k := i) (hI.bf k8 _ _ _ (Or.inr h42) hcc) (by have h9 := bfit (byt nn i); rw [nar_byt] at h9; exact h9)
      obtain ⟨fn, hfn9⟩ : ∃ q, q = upd f8 i (byt nn i) := ⟨_, rfl⟩
      rw [← hfn9] at hP hD hfn
      have hJP2 : JP a t k8 nn (i + 1) (u4.set k8 (cA t c8 fn)) := fun _ => by
        obtain ⟨g9, b9, z1, z2⟩ := hfl
        refine ⟨h42, ⟨g9, b9, lk_ne z1 (by omega), z2⟩, c8, fn, lk_set hcc, fun j hj => ?_⟩
        rw [hfn9]
        by_cases h : j = i
        · subst h; exact pk_us
        · rw [pk_un h]; exact hf8 j (by omega)
      have hr9w : (u4.set k8 (cA t c8 fn))[9]? = some (a 9, .inl (t 0, 260, .inl r0)) := lk_ne hr9w (by omega)
      obtain ⟨w6, hw⟩ : ∃ q, q = u4.set k8 (cA t c8 fn) := ⟨_, rfl⟩
      have hP : va_P D Cl (u4.set k8 (cA t c8 fn)) H := hP
      have hD : va_D (Az z) (u4.set k8 (cA t c8 fn)) := hD
      have hF : Fr t ws (u4.set k8 (cA t c8 fn)) := hF.setA hcc (Or.inr h42)
      have hI := hI.setB (f1 := fn) h42 hcc (fun _ h => absurd h (by rw [hv6]; decide)) hfn
      have hq9 : nul (u4.set k8 (cA t c8 fn)) = nul u4 := nul_set (fun h => by have := mds_lt h; omega)
      rw [← hw] at hP hD hF hI hq9
      rw [← hw] at hJP2 hr9w
      clear hw
      have hn : nul w6 ≤ nul ws := by omega
      refine W.widen (k := Kc ws w6) (n := Ks ws w6) (by show 2 * (nul ws - nul u4) ≤ 2 * (nul ws - nul w6); omega) (by show 257 * (nul ws - nul u4) ≤ 257 * (nul ws - nul w6); omega) ?_
      refine lv_iinc (k := 0) (v := nI (i + 1)) (lv' := [(4, .int (nI (i + 1))), (0, .ref (a 4)), (1, .int x9), (2, .ref (a 9)), (3, .int y9)]) hx hb d_Y_write_37 hl rfl (nI_1 i) (by decide) rfl (fun ls hl => ?_)
      refine lv_goto (tgt := 3) hx hb d_Y_write_40 rfl ?_
      exact ih (i + 1) _ w6 H locs ls (by omega) hP hD hS hI hF hn hJP2 hr9w hl
  exact key N 0 k0 ws _ _ _ (Nat.zero_add _) hP hD hS hI hF hn (fun h => absurd h (by decide)) hr0 hl
end
section
set_option maxHeartbeats 4000000 in
set_option maxRecDepth 100000 in
theorem c_Y_read_j {l : Launch} {D : va_G} {t : Nat → ClassId} {z : Nat} {sa : Nat → Nat} {ws : va_W} {a : Nat → Nat} {k0 : Nat} {v : Nat → Int32} {x9 y9 : Int32} {A N : Nat} (hI : Iv a t k0 v ws) (hxA : x9 = nI A) (hyN : y9 = nI N) (hAN : A + N ≤ 199684) (hN : N ≤ 260) (hJ4 : 4 ≤ v 6) : Mu l y_Y_read (Cond.code y_Y_read b_Y_read 5 (.none : Option Jvm.ClassFile.FieldType) :: WS) ({ frames := 3, cells := 2 * nul ws + 1, slots := 257 * nul ws + 6, locals := 54 }) D t z sa ws [.ref (a 4), .int x9, .ref (a 9), .int y9] (fun r u => Iv a t k0 v u ∧ Fr t ws u ∧ nul u ≤ nul ws ∧ r = none) Xno (Kc ws) (Ks ws) := by
  refine mu_ofW (cc := b_Y_read) (maxL := 5) (ret := (.none : Option Jvm.ClassFile.FieldType)) (by decide) rfl ?_
  intro p e s m args below meth c s₁ B hml hno hv
  obtain ⟨rfl, ⟨hP, hK, hD, hz⟩, hM⟩ := hv
  have hx := B.exec
  have hb := B.bytes
  have hr := B.returns
  have hts : ∀ w ∈ WS, w.before [.ref (a 4), .int x9, .ref (a 9), .int y9].toArray s = true := fun w h => atoms_spec B.pre w (List.mem_cons_of_mem _ h)
  have hown : s.vm.findClass R_Y = some m.cls := findClass_of_methodNamed B.named
  have hlocks := B.notSynchronized
  have hA : ∀ q, s.heap.size ≤ q → Az z q := fun q h => Nat.le_trans hz h
  have hS : va_S (Az z) s.heap s.heap [] := va_S.rf
  have hF : Fr t ws ws := Fr.rf
  have hn : nul ws ≤ nul ws := Nat.le_refl _
  have hl := lv_entry ([.ref (a 4), .int x9, .ref (a 9), .int y9]) (n := 5) (Nat.le_of_ble_eq_true rfl)
  rw [lg_entry_eq]
  generalize (lg_sl ([.ref (a 4), .int x9, .ref (a 9), .int y9]) ++ List.replicate (5 - (lg_sl ([.ref (a 4), .int x9, .ref (a 9), .int y9])).length) Slot.unset).toArray = ls at hl ⊢
  have hl : lv_has ls 5 [(0, .ref (a 4)), (1, .int x9), (2, .ref (a 9)), (3, .int y9)] := hl
  refine W.widen (k := Kc ws ws) (n := Ks ws ws) (Nat.zero_le _) (Nat.zero_le _) ?_
  refine lv_iconst (v := 0) hx hb d_Y_read_0 (by decide) ?_
  refine lv_istore (lv' := [(4, .int 0), (0, .ref (a 4)), (1, .int x9), (2, .ref (a 9)), (3, .int y9)]) hx hb d_Y_read_1 hl (by decide) rfl (fun ls hl => ?_)
  have key : ∀ (n9 i : Nat) (w9 : va_W) (H : Heap) (locs : List Loc) (ls : Array Slot), i + n9 = N → va_P D Cl w9 H → va_D (Az z) w9 → va_S (Az z) s.heap H locs → Iv a t k0 v w9 → Fr t ws w9 → nul w9 ≤ nul ws → lv_has ls 5 [(4, .int (nI i)), (0, .ref (a 4)), (1, .int x9), (2, .ref (a 9)), (3, .int y9)] → W p l e (headSpec (Cond.code y_Y_read b_Y_read 5 (.none : Option Jvm.ClassFile.FieldType) :: WS) ({ frames := 3, cells := 2 * nul ws + 1, slots := 257 * nul ws + 6, locals := 54 })).room s m [.ref (a 4), .int x9, .ref (a 9), .int y9].toArray below meth c H locs (Kc ws w9) (Ks ws w9) (mu_MQ below D t z (fun r u => Iv a t k0 v u ∧ Fr t ws u ∧ nul u ≤ nul ws ∧ r = none) Xno (Kc ws) (Ks ws) [.ref (a 4), .int x9, .ref (a 9), .int y9].toArray s) (F0 m 3 ls []) := by
    intro n9
    induction n9 with
    | zero =>
      intro i w9 H locs ls hi9 hP hD hS hI hF hn hl
      refine lv_iload hx hb d_Y_read_3 (lv_at hl 0 rfl) ?_
      refine lv_iload_n hx hb d_Y_read_5 rfl (lv_at hl 4 rfl) ?_
      refine lv_icmp_ge (tgt := 43) hx hb d_Y_read_6 rfl (fun _ => ?_) (fun h => absurd (by rw [hyN]; exact nI_le (by omega) (by omega)) h)
      refine mu_end (u := w9) (v := (none)) ⟨hI, hF, hn, rfl⟩ (Nat.le_refl _) (Nat.le_refl _) ?_
      exact W.vret hx hb hr (fun t9 ht hW => ⟨rfl, ⟨by rw [ht]; exact hP, va_K.moved hW.alike hK, hD, by rw [ht]; exact Nat.le_trans hz hS.1⟩, hS.F ht⟩) hS.2.2 d_Y_read_43
    | succ n9 ih =>
      intro i w9 H locs ls hi9 hP hD hS hI hF hn hl
      refine lv_iload hx hb d_Y_read_3 (lv_at hl 0 rfl) ?_
      refine lv_iload_n hx hb d_Y_read_5 rfl (lv_at hl 4 rfl) ?_
      refine lv_icmp_ge (tgt := 43) hx hb d_Y_read_6 rfl (fun h => absurd h (by rw [hyN]; exact nI_ge (by omega) (by omega))) (fun _ => ?_)
      refine lv_aload_n hx hb d_Y_read_9 rfl (lv_at hl 3 rfl) ?_
      refine lv_iload hx hb d_Y_read_10 (lv_at hl 0 rfl) ?_
      refine lv_aload_n hx hb d_Y_read_12 rfl (lv_at hl 1 rfl) ?_
      refine va_get (D := D) (ci := 3) (v := .ref (a 5)) (C := R_Y) (T := F_Y) (N := 2) hx hb hts ws_Y hown hK hP 4 hI.y4 rfl 0 (by decide) (hts _ fl_Y_20) (fun _ h9 => h9) rfl d_Y_read_13 ?_
      refine lv_iload_n hx hb d_Y_read_16 rfl (lv_at hl 2 rfl) ?_
      refine lv_iload hx hb d_Y_read_17 (lv_at hl 0 rfl) ?_
      refine lv_iadd hx hb d_Y_read_19 ?_
      refine lv_sipush (v := 256) hx hb d_Y_read_20 (by decide) ?_
      refine lv_idiv hx hb d_Y_read_23 (by decide) ?_
      refine lv_topi (fun y1 hy1 => ?_)
      have hy1 : y1 = nI ((A + i) / 256) := by rw [hy1, hxA]; exact wr_div (by omega)
      refine mu_V (n := 1) (As := [.int y1]) (rest := [.int (nI i), .ref (a 9)]) ⟨hx, hb, hml, hown, hts⟩ (c_K_bytesOfS' (D := D) (t := t) (z := z) (sa := sa) (ws := w9) (pm := 6) (i := (A + i) / 256) hI hI.k5 (by decide) (show (A + i) / 256 < Nn 6 from by show (A + i) / 256 < 781; omega) hy1) ml_Y_24 im_K_bytesOf se_K_bytesOf in_K cd_K_bytesOf (by decide +kernel) ⟨Nat.le_of_ble_eq_true rfl, Nat.le_of_ble_eq_true rfl⟩ (va_recv hK hP (ci := 1) rfl hI.k5) (Pz_at hP hK hD hz hM hS) rfl hl.1 rfl (Nat.le_of_ble_eq_true rfl) d_Y_read_24 ⟨by show 2 * (nul ws - nul w9) + (2 * nul w9 + 1) ≤ 2 * nul ws + 1; omega, by show 257 * (nul ws - nul w9) + (257 * nul w9 + 6) ≤ 257 * nul ws + 6; omega⟩ hS (fun _ _ _ _ _ _ h => h.elim) (fun r9 u2 H locs hp hP hD hS => ?_)
      obtain ⟨c8, k8, k1, f8, hr9, h42c, hcc, hsp, hI, hF9, hn9, hj9, hq9, hfl, hsame⟩ := hp
      subst hr9
      have hF := hF.trans hF9
      have hk1 : k1 = k0 := hj9 (Or.inl hJ4)
      rw [hk1] at hI hsp
      have hn : nul u2 ≤ nul ws := by omega
      refine W.widen (k := Kc ws u2) (n := Ks ws u2) (by show 2 * (nul ws - nul w9) + 2 * (nul w9 - nul u2) ≤ 2 * (nul ws - nul u2); omega) (by show 257 * (nul ws - nul w9) + 257 * (nul w9 - nul u2) ≤ 257 * (nul ws - nul u2); omega) ?_
      refine W.eq (g2 := F0 m 27 ls [.ref c8, .int (nI i), .ref (a 9)]) rfl ?_
      refine lv_iload_n hx hb d_Y_read_27 rfl (lv_at hl 2 rfl) ?_
      refine lv_iload hx hb d_Y_read_28 (lv_at hl 0 rfl) ?_
      refine lv_iadd hx hb d_Y_read_30 ?_
      refine lv_sipush (v := 256) hx hb d_Y_read_31 (by decide) ?_
      refine lv_irem hx hb d_Y_read_34 (by decide) ?_
      refine lv_topi (fun r8 hr8 => ?_)
      have hr8 : r8 = nI ((A + i) % 256) := by rw [hr8, hxA]; exact wr_rem (by omega)
      refine va_bald (D := D) hx hb hK hP k8 0 hcc rfl (i := r8) (by rw [hr8]; exact vp_in_nI (by omega) (by decide)) d_Y_read_35 ?_
      refine lv_topi (fun y3 hy3 => ?_)
      obtain ⟨r1, hr9w⟩ := hI.r9
      refine va_bast (D := D) hx hb hK hP hD hS 9 0 hr9w rfl (i := nI i) (x := y3) (vp_in_nI (by omega) (by decide)) d_Y_read_36 (fun H locs hP hD hS => ?_)
      rw [nI_clamp (by omega)] at hP hD
      have hfn := sb_fitU (k := i) (hI.bf 9 _ _ _ (Or.inl rfl) hr9w) (bfit y3)
      obtain ⟨fn, hfn9⟩ : ∃ q, q = upd r1 i (vp_nar .byte y3) := ⟨_, rfl⟩
      rw [← hfn9] at hP hD hfn
      obtain ⟨w4, hw⟩ : ∃ q, q = u2.set 9 (a 9, .inl (t 0, 260, .inl fn)) := ⟨_, rfl⟩
      have hP : va_P D Cl (u2.set 9 (a 9, .inl (t 0, 260, .inl fn))) H := hP
      have hD : va_D (Az z) (u2.set 9 (a 9, .inl (t 0, 260, .inl fn))) := hD
      have hF : Fr t ws (u2.set 9 (a 9, .inl (t 0, 260, .inl fn))) := hF.setA hr9w (Or.inl (by decide))
      have hI := hI.setR (r9 := fn) hfn
      have hq9 : nul (u2.set 9 (a 9, .inl (t 0, 260, .inl fn))) = nul u2 := nul_set (by decide)
      rw [← hw] at hP hD hF hI hq9
      clear hw
      have hn : nul w4 ≤ nul ws := by omega
      refine W.widen (k := Kc ws w4) (n := Ks ws w4) (by show 2 * (nul ws - nul u2) ≤ 2 * (nul ws - nul w4); omega) (by show 257 * (nul ws - nul u2) ≤ 257 * (nul ws - nul w4); omega) ?_
      refine lv_iinc (k := 0) (v := nI (i + 1)) (lv' := [(4, .int (nI (i + 1))), (0, .ref (a 4)), (1, .int x9), (2, .ref (a 9)), (3, .int y9)]) hx hb d_Y_read_37 hl rfl (nI_1 i) (by decide) rfl (fun ls hl => ?_)
      refine lv_goto (tgt := 3) hx hb d_Y_read_40 rfl ?_
      exact ih (i + 1) w4 H locs ls (by omega) hP hD hS hI hF hn hl
  exact key N 0 ws _ _ _ (Nat.zero_add _) hP hD hS hI hF hn hl
set_option maxHeartbeats 4000000 in
set_option maxRecDepth 100000 in
theorem c_Y_read_0 {l : Launch} {D : va_G} {t : Nat → ClassId} {z : Nat} {sa : Nat → Nat} {ws : va_W} {a : Nat → Nat} {k0 : Nat} {v : Nat → Int32} {x9 y9 : Int32} (hI : Iv a t k0 v ws) (hxA : x9 = nI 0) (hyN : y9 = nI 4) (hJ4 : 4 ≤ v 6) : Mu l y_Y_read (Cond.code y_Y_read b_Y_read 5 (.none : Option Jvm.ClassFile.FieldType) :: WS) ({ frames := 3, cells := 2 * nul ws + 1, slots := 257 * nul ws + 6, locals := 54 }) D t z sa ws [.ref (a 4), .int x9, .ref (a 9), .int y9] (fun r u => Iv a t k0 v u ∧ Fr t ws u ∧ nul u ≤ nul ws ∧ r = none ∧ ∃ (nn : Nat) (r0 : Nat → Int32), nn ≤ 768 ∧ u[9]? = some (a 9, .inl (t 0, 260, .inl r0)) ∧ ∀ i, i < 4 → r0 i = byt nn i) Xno (Kc ws) (Ks ws) := by
  refine mu_ofW (cc := b_Y_read) (maxL := 5) (ret := (.none : Option Jvm.ClassFile.FieldType)) (by decide) rfl ?_
  intro p e s m args below meth c s₁ B hml hno hv
  obtain ⟨rfl, ⟨hP, hK, hD, hz⟩, hM⟩ := hv
  have hx := B.exec
  have hb := B.bytes
  have hr := B.returns
  have hts : ∀ w ∈ WS, w.before [.ref (a 4), .int x9, .ref (a 9), .int y9].toArray s = true := fun w h => atoms_spec B.pre w (List.mem_cons_of_mem _ h)
  have hown : s.vm.findClass R_Y = some m.cls := findClass_of_methodNamed B.named
  have hlocks := B.notSynchronized
  have hA : ∀ q, s.heap.size ≤ q → Az z q := fun q h => Nat.le_trans hz h
  have hS : va_S (Az z) s.heap s.heap [] := va_S.rf
  have hF : Fr t ws ws := Fr.rf
  have hn : nul ws ≤ nul ws := Nat.le_refl _
  have hl := lv_entry ([.ref (a 4), .int x9, .ref (a 9), .int y9]) (n := 5) (Nat.le_of_ble_eq_true rfl)
  rw [lg_entry_eq]
  generalize (lg_sl ([.ref (a 4), .int x9, .ref (a 9), .int y9]) ++ List.replicate (5 - (lg_sl ([.ref (a 4), .int x9, .ref (a 9), .int y9])).length) Slot.unset).toArray = ls at hl ⊢
  have hl : lv_has ls 5 [(0, .ref (a 4)), (1, .int x9), (2, .ref (a 9)), (3, .int y9)] := hl
  refine W.widen (k := Kc ws ws) (n := Ks ws ws) (Nat.zero_le _) (Nat.zero_le _) ?_
  refine lv_iconst (v := 0) hx hb d_Y_read_0 (by decide) ?_
  refine lv_istore (lv' := [(4, .int 0), (0, .ref (a 4)), (1, .int x9), (2, .ref (a 9)), (3, .int y9)]) hx hb d_Y_read_1 hl (by decide) rfl (fun ls hl => ?_)
  obtain ⟨h42, hg6, c7, f7, nn, hk0, hnn, hf7⟩ := hI.2.2.2.1 hJ4
  obtain ⟨r8, hr8w⟩ := hI.r9
  have key : ∀ (n9 i : Nat) (r1 : Nat → Int32) (w9 : va_W) (H : Heap) (locs : List Loc) (ls : Array Slot), i + n9 = 4 → va_P D Cl w9 H → va_D (Az z) w9 → va_S (Az z) s.heap H locs → Iv a t k0 v w9 → Fr t ws w9 → nul w9 ≤ nul ws → w9[6]? = ws[6]? → w9[k0]? = ws[k0]? → w9[9]? = some (a 9, .inl (t 0, 260, .inl r1)) → (∀ j, j < i → r1 j = byt nn j) → lv_has ls 5 [(4, .int (nI i)), (0, .ref (a 4)), (1, .int x9), (2, .ref (a 9)), (3, .int y9)] → W p l e (headSpec (Cond.code y_Y_read b_Y_read 5 (.none : Option Jvm.ClassFile.FieldType) :: WS) ({ frames := 3, cells := 2 * nul ws + 1, slots := 257 * nul ws + 6, locals := 54 })).room s m [.ref (a 4), .int x9, .ref (a 9), .int y9].toArray below meth c H locs (Kc ws w9) (Ks ws w9) (mu_MQ below D t z (fun r u => Iv a t k0 v u ∧ Fr t ws u ∧ nul u ≤ nul ws ∧ r = none ∧ ∃ (nn : Nat) (r0 : Nat → Int32), nn ≤ 768 ∧ u[9]? = some (a 9, .inl (t 0, 260, .inl r0)) ∧ ∀ i, i < 4 → r0 i = byt nn i) Xno (Kc ws) (Ks ws) [.ref (a 4), .int x9, .ref (a 9), .int y9].toArray s) (F0 m 3 ls []) := by
    intro n9
    induction n9 with
    | zero =>
      intro i r1 w9 H locs ls hi9 hP hD hS hI hF hn h6w h0w hr9w hrb hl
      refine lv_iload hx hb d_Y_read_3 (lv_at hl 0 rfl) ?_
      refine lv_iload_n hx hb d_Y_read_5 rfl (lv_at hl 4 rfl) ?_
      refine lv_icmp_ge (tgt := 43) hx hb d_Y_read_6 rfl (fun _ => ?_) (fun h => absurd (by rw [hyN]; exact nI_le (by omega) (by omega)) h)
      refine mu_end (u := w9) (v := (none)) ⟨hI, hF, hn, rfl, nn, r1, hnn, hr9w, fun j hj => hrb j (by omega)⟩ (Nat.le_refl _) (Nat.le_refl _) ?_
      exact W.vret hx hb hr (fun t9 ht hW => ⟨rfl, ⟨by rw [ht]; exact hP, va_K.moved hW.alike hK, hD, by rw [ht]; exact Nat.le_trans hz hS.1⟩, hS.F ht⟩) hS.2.2 d_Y_read_43
    | succ n9 ih =>
      intro i r1 w9 H locs ls hi9 hP hD hS hI hF hn h6w h0w hr9w hrb hl
      refine lv_iload hx hb d_Y_read_3 (lv_at hl 0 rfl) ?_
      refine lv_iload_n hx hb d_Y_read_5 rfl (lv_at hl 4 rfl) ?_
      refine lv_icmp_ge (tgt := 43) hx hb d_Y_read_6 rfl (fun h => absurd h (by rw [hyN]; exact nI_ge (by omega) (by omega))) (fun _ => ?_)
      refine lv_aload_n hx hb d_Y_read_9 rfl (lv_at hl 3 rfl) ?_
      refine lv_iload hx hb d_Y_read_10 (lv_at hl 0 rfl) ?_
      refine lv_aload_n hx hb d_Y_read_12 rfl (lv_at hl 1 rfl) ?_
      refine va_get (D := D) (ci := 3) (v := .ref (a 5)) (C := R_Y) (T := F_Y) (N := 2) hx hb hts ws_Y hown hK hP 4 hI.y4 rfl 0 (by decide) (hts _ fl_Y_20) (fun _ h9 => h9) rfl d_Y_read_13 ?_
      refine lv_iload_n hx hb d_Y_read_16 rfl (lv_at hl 2 rfl) ?_
      refine lv_iload hx hb d_Y_read_17 (lv_at hl 0 rfl) ?_
      refine lv_iadd hx hb d_Y_read_19 ?_
      refine lv_sipush (v := 256) hx hb d_Y_read_20 (by decide) ?_
      refine lv_idiv hx hb d_Y_read_23 (by decide) ?_
      refine lv_topi (fun y1 hy1 => ?_)
      have hy1 : y1 = nI 0 := by rw [hy1, hxA]; exact wr_div0 (by omega)
      refine mu_V (n := 1) (As := [.int y1]) (rest := [.int (nI i), .ref (a 9)]) ⟨hx, hb, hml, hown, hts⟩ (c_K_bytesOfS' (D := D) (t := t) (z := z) (sa := sa) (ws := w9) (pm := 6) (i := 0) hI hI.k5 (by decide) (show 0 < Nn 6 from by show 0 < 781; omega) hy1) ml_Y_24 im_K_bytesOf se_K_bytesOf in_K cd_K_bytesOf (by decide +kernel) ⟨Nat.le_of_ble_eq_true rfl, Nat.le_of_ble_eq_true rfl⟩ (va_recv hK hP (ci := 1) rfl hI.k5) (Pz_at hP hK hD hz hM hS) rfl hl.1 rfl (Nat.le_of_ble_eq_true rfl) d_Y_read_24 ⟨by show 2 * (nul ws - nul w9) + (2 * nul w9 + 1) ≤ 2 * nul ws + 1; omega, by show 257 * (nul ws - nul w9) + (257 * nul w9 + 6) ≤ 257 * nul ws + 6; omega⟩ hS (fun _ _ _ _ _ _ h => h.elim) (fun r9 u2 H locs hp hP hD hS => ?_)
      obtain ⟨c8, k8, k1, f8, hr9, h42c, hcc, hsp, hI, hF9, hn9, hj9, hq9, hfl, hsame⟩ := hp
      subst hr9
      have hF := hF.trans hF9
      have hk1 : k1 = k0 := hj9 (Or.inl hJ4)
      rw [hk1] at hI hsp
      have hk8 : k8 = k0 := hsp.mpr ⟨rfl, rfl⟩
      rw [hk8] at hcc h42c
      have hu9 := (hsame (by rw [h6w]; exact hg6)).1
      have hf8 : ∀ j, j < 4 → f8 j = byt nn j := by
        rw [hu9] at hcc
        cases hcc.symm.trans (h0w.trans hk0)
        exact hf7
      have h6w := (show u2[6]? = ws[6]? from by rw [hu9]; exact h6w)
      have h0w := (show u2[k0]? = ws[k0]? from by rw [hu9]; exact h0w)
      have hr9w := (hq9 9 (by decide) (by decide)).trans hr9w
      have hn : nul u2 ≤ nul ws := by omega
      refine W.widen (k := Kc ws u2) (n := Ks ws u2) (by show 2 * (nul ws - nul w9) + 2 * (nul w9 - nul u2) ≤ 2 * (nul ws - nul u2); omega) (by show 257 * (nul ws - nul w9) + 257 * (nul w9 - nul u2) ≤ 257 * (nul ws - nul u2); omega) ?_
      refine W.eq (g2 := F0 m 27 ls [.ref c8, .int (nI i), .ref (a 9)]) rfl ?_
      refine lv_iload_n hx hb d_Y_read_27 rfl (lv_at hl 2 rfl) ?_
      refine lv_iload hx hb d_Y_read_28 (lv_at hl 0 rfl) ?_
      refine lv_iadd hx hb d_Y_read_30 ?_
      refine lv_sipush (v := 256) hx hb d_Y_read_31 (by decide) ?_
      refine lv_irem hx hb d_Y_read_34 (by decide) ?_
      refine lv_topi (fun r8 hr8 => ?_)
      have hr8 : r8 = nI i := by rw [hr8, hxA]; exact wr_rem0 (by omega)
      refine va_bald (D := D) hx hb hK hP k0 0 hcc rfl (i := r8) (by rw [hr8]; exact vp_in_nI (by omega) (by decide)) d_Y_read_35 ?_
      refine lv_topi (fun y3 hy3 => ?_)
      have hy3 : y3 = byt nn i := by rw [hy3, hr8, nI_clamp (by omega)]; exact hf8 i (by omega)
      refine va_bast (D := D) hx hb hK hP hD hS 9 0 hr9w rfl (i := nI i) (x := y3) (vp_in_nI (by omega) (by decide)) d_Y_read_36 (fun H locs hP hD hS => ?_)
      rw [nI_clamp (by omega)] at hP hD
      have hfn := sb_fitU (k := i) (hI.bf 9 _ _ _ (Or.inl rfl) hr9w) (bfit y3)
      obtain ⟨fn, hfn9⟩ : ∃ q, q = upd r1 i (vp_nar .byte y3) := ⟨_, rfl⟩
      rw [← hfn9] at hP hD hfn
      have hrb : ∀ j, j < i + 1 → fn j = byt nn j := fun j hj => by
        rw [hfn9]
        by_cases h : j = i
        · subst h; rw [pk_us, hy3]; exact nar_byt
        · rw [pk_un h]; exact hrb j (by omega)
      have h6w : (u2.set 9 (a 9, .inl (t 0, 260, .inl fn)))[6]? = ws[6]? := (List.getElem?_set_ne (by decide)).trans h6w
      have h0w : (u2.set 9 (a 9, .inl (t 0, 260, .inl fn)))[k0]? = ws[k0]? := (List.getElem?_set_ne (by omega)).trans h0w
      have hr9x : (u2.set 9 (a 9, .inl (t 0, 260, .inl fn)))[9]? = some (a 9, .inl (t 0, 260, .inl fn)) := lk_set hr9w
      obtain ⟨w4, hw⟩ : ∃ q, q = u2.set 9 (a 9, .inl (t 0, 260, .inl fn)) := ⟨_, rfl⟩
      have hP : va_P D Cl (u2.set 9 (a 9, .inl (t 0, 260, .inl fn))) H := hP
      have hD : va_D (Az z) (u2.set 9 (a 9, .inl (t 0, 260, .inl fn))) := hD
      have hF : Fr t ws (u2.set 9 (a 9, .inl (t 0, 260, .inl fn))) := hF.setA hr9w (Or.inl (by decide))
      have hI := hI.setR (r9 := fn) hfn
      have hq9 : nul (u2.set 9 (a 9, .inl (t 0, 260, .inl fn))) = nul u2 := nul_set (by decide)
      rw [← hw] at hP hD hF hI hq9
      rw [← hw] at h6w h0w hr9x
      clear hw
      have hn : nul w4 ≤ nul ws := by omega
      refine W.widen (k := Kc ws w4) (n := Ks ws w4) (by show 2 * (nul ws - nul u2) ≤ 2 * (nul ws - nul w4); omega) (by show 257 * (nul ws - nul u2) ≤ 257 * (nul ws - nul w4); omega) ?_
      have hr9w := hr9x
      refine lv_iinc (k := 0) (v := nI (i + 1)) (lv' := [(4, .int (nI (i + 1))), (0, .ref (a 4)), (1, .int x9), (2, .ref (a 9)), (3, .int y9)]) hx hb d_Y_read_37 hl rfl (nI_1 i) (by decide) rfl (fun ls hl => ?_)
      refine lv_goto (tgt := 3) hx hb d_Y_read_40 rfl ?_
      exact ih (i + 1) _ w4 H locs ls (by omega) hP hD hS hI hF hn h6w h0w hr9w hrb hl
  exact key 4 0 r8 ws _ _ _ rfl hP hD hS hI hF hn rfl rfl hr8w (fun j hj => absurd hj (Nat.not_lt_zero j)) hl
set_option maxHeartbeats 4000000 in
set_option maxRecDepth 100000 in
theorem c_S_setNumber {l : Launch} {D : va_G} {t : Nat → ClassId} {z : Nat} {sa : Nat → Nat} {ws : va_W} {a : Nat → Nat} {k0 : Nat} {v : Nat → Int32} {x9 : Int32} {nn : Nat} (hI : Iv a t k0 v ws) (hxn : x9 = nI nn) : Mu l y_S_setNumber (Cond.code y_S_setNumber b_S_setNumber 3 (.none : Option Jvm.ClassFile.FieldType) :: WS) ({ frames := 0, cells := 2 * nul ws + 1, slots := 257 * nul ws + 6, locals := 0 }) D t z sa ws [.ref (a 0), .int x9] (fun r u => Iv a t k0 v u ∧ Fr t ws u ∧ nul u ≤ nul ws ∧ r = none ∧ ∃ (r0 : Nat → Int32), u[9]? = some (a 9, .inl (t 0, 260, .inl r0)) ∧ ∀ i, i < 4 → r0 i = byt nn i) Xno (Kc ws) (Ks ws) := by
  refine mu_ofW (cc := b_S_setNumber) (maxL := 3) (ret := (.none : Option Jvm.ClassFile.FieldType)) (by decide) rfl ?_
  intro p e s m args below meth c s₁ B hml hno hv
  obtain ⟨rfl, ⟨hP, hK, hD, hz⟩, hM⟩ := hv
  have hx := B.exec
  have hb := B.bytes
  have hr := B.returns
  have hts : ∀ w ∈ WS, w.before [.ref (a 0), .int x9].toArray s = true := fun w h => atoms_spec B.pre w (List.mem_cons_of_mem _ h)
  have hown : s.vm.findClass R_S = some m.cls := findClass_of_methodNamed B.named
  have hlocks := B.notSynchronized
  have hA : ∀ q, s.heap.size ≤ q → Az z q := fun q h => Nat.le_trans hz h
  have hS : va_S (Az z) s.heap s.heap [] := va_S.rf
  have hF : Fr t ws ws := Fr.rf
  have hn : nul ws ≤ nul ws := Nat.le_refl _
  have hl := lv_entry ([.ref (a 0), .int x9]) (n := 3) (Nat.le_of_ble_eq_true rfl)
  rw [lg_entry_eq]
  generalize (lg_sl ([.ref (a 0), .int x9]) ++ List.replicate (3 - (lg_sl ([.ref (a 0), .int x9])).length) Slot.unset).toArray = ls at hl ⊢
  have hl : lv_has ls 3 [(0, .ref (a 0)), (1, .int x9)] := hl
  refine W.widen (k := Kc ws ws) (n := Ks ws ws) (Nat.zero_le _) (Nat.zero_le _) ?_
  refine lv_iconst (v := 0) hx hb d_S_setNumber_0 (by decide) ?_
  refine lv_istore_n (lv' := [(2, .int 0), (0, .ref (a 0)), (1, .int x9)]) hx hb d_S_setNumber_1 rfl hl (by decide) rfl (fun ls hl => ?_)
  refine lv_iload_n hx hb d_S_setNumber_2 rfl (lv_at hl 0 rfl) ?_
  refine lv_iconst (v := 4) hx hb d_S_setNumber_3 (by decide) ?_
  refine lv_icmp_ge (tgt := 26) hx hb d_S_setNumber_4 rfl (fun h => absurd h (by decide)) (fun _ => ?_)
  refine lv_aload_n hx hb d_S_setNumber_7 rfl (lv_at hl 1 rfl) ?_
  refine va_get (D := D) (ci := 5) (v := .ref (a 9)) (C := R_S) (T := F_S) (N := 10) hx hb hts ws_S hown hK hP 0 hI.x rfl 4 (by decide) (hts _ fl_S_36) (fun _ h9 => h9) rfl d_S_setNumber_8 ?_
  refine lv_iload_n hx hb d_S_setNumber_11 rfl (lv_at hl 0 rfl) ?_
  refine lv_iload_n hx hb d_S_setNumber_12 rfl (lv_at hl 2 rfl) ?_
  refine lv_bipush (v := 8) hx hb d_S_setNumber_13 (by decide) ?_
  refine lv_iload_n hx hb d_S_setNumber_15 rfl (lv_at hl 0 rfl) ?_
  refine lv_imul hx hb d_S_setNumber_16 ?_
  refine lv_topi (fun v1 hv1 => ?_)
  have hv1 : v1 = 0 := hv1.trans (by decide)
  subst hv1
  refine lv_ishr hx hb d_S_setNumber_17 ?_
  refine lv_topi (fun v2 hv2 => ?_)
  refine lv_i2b hx hb d_S_setNumber_18 rfl ?_
  refine lv_topi (fun y3 hy3 => ?_)
  obtain ⟨r8, hr9w⟩ := hI.r9
  have hy3 : y3 = byt nn 0 := by rw [hy3, hv2, hxn]; rfl
  refine va_bast (D := D) hx hb hK hP hD hS 9 0 hr9w rfl (i := 0) (x := y3) (by unfold vp_in; decide) d_S_setNumber_19 (fun H locs hP hD hS => ?_)
  rw [show (0 : Int32).toNatClampNeg = 0 from by decide, hy3, nar_byt] at hP hD
  have hfn := sb_fitU (k := 0) (hI.bf 9 _ _ _ (Or.inl rfl) hr9w) (by have h9 := bfit (byt nn 0); rw [nar_byt] at h9; exact h9)
  obtain ⟨r_0, hfn9⟩ : ∃ q, q = upd r8 0 (byt nn 0) := ⟨_, rfl⟩
  rw [← hfn9] at hP hD hfn
  have hb0 : r_0 0 = byt nn 0 := by rw [hfn9]; exact pk_us
  have hr9x : (ws.set 9 (a 9, .inl (t 0, 260, .inl r_0)))[9]? = some (a 9, .inl (t 0, 260, .inl r_0)) := lk_set hr9w
  obtain ⟨w4, hw⟩ : ∃ q, q = ws.set 9 (a 9, .inl (t 0, 260, .inl r_0)) := ⟨_, rfl⟩
  have hP : va_P D Cl (ws.set 9 (a 9, .inl (t 0, 260, .inl r_0))) H := hP
  have hD : va_D (Az z) (ws.set 9 (a 9, .inl (t 0, 260, .inl r_0))) := hD
  have hF : Fr t ws (ws.set 9 (a 9, .inl (t 0, 260, .inl r_0))) := hF.setA hr9w (Or.inl (by decide))
  have hI := hI.setR (r9 := r_0) hfn
  have hq9 : nul (ws.set 9 (a 9, .inl (t 0, 260, .inl r_0))) = nul ws := nul_set (by decide)
  rw [← hw] at hP hD hF hI hq9
  rw [← hw] at hr9x
  clear hw
  have hn : nul w4 ≤ nul ws := by omega
  refine W.widen (k := Kc ws w4) (n := Ks ws w4) (by show 2 * (nul ws - nul ws) ≤ 2 * (nul ws - nul w4); omega) (by show 257 * (nul ws - nul ws) ≤ 257 * (nul ws - nul w4); omega) ?_
  have hr9w := hr9x
  clear hfn9 hfn hr9x
  refine lv_iinc (k := 0) (v := 1) (lv' := [(2, .int 1), (0, .ref (a 0)), (1, .int x9)]) hx hb d_S_setNumber_20 hl rfl (by decide) (by decide) rfl (fun ls hl => ?_)
  refine lv_goto (tgt := 2) hx hb d_S_setNumber_23 rfl ?_
  refine lv_iload_n hx hb d_S_setNumber_2 rfl (lv_at hl 0 rfl) ?_
  refine lv_iconst (v := 4) hx hb d_S_setNumber_3 (by decide) ?_
  refine lv_icmp_ge (tgt := 26) hx hb d_S_setNumber_4 rfl (fun h => absurd h (by decide)) (fun _ => ?_)
  refine lv_aload_n hx hb d_S_setNumber_7 rfl (lv_at hl 1 rfl) ?_
  refine va_get (D := D) (ci := 5) (v := .ref (a 9)) (C := R_S) (T := F_S) (N := 10) hx hb hts ws_S hown hK hP 0 hI.x rfl 4 (by decide) (hts _ fl_S_36) (fun _ h9 => h9) rfl d_S_setNumber_8 ?_
  refine lv_iload_n hx hb d_S_setNumber_11 rfl (lv_at hl 0 rfl) ?_
  refine lv_iload_n hx hb d_S_setNumber_12 rfl (lv_at hl 2 rfl) ?_
  refine lv_bipush (v := 8) hx hb d_S_setNumber_13 (by decide) ?_
  refine lv_iload_n hx hb d_S_setNumber_15 rfl (lv_at hl 0 rfl) ?_
  refine lv_imul hx hb d_S_setNumber_16 ?_
  refine lv_topi (fun v5 hv5 => ?_)
  have hv5 : v5 = 8 := hv5.trans (by decide)
  subst hv5
  refine lv_ishr hx hb d_S_setNumber_17 ?_
  refine lv_topi (fun v6 hv6 => ?_)
  refine lv_i2b hx hb d_S_setNumber_18 rfl ?_
  refine lv_topi (fun y7 hy7 => ?_)
  have hy7 : y7 = byt nn 1 := by rw [hy7, hv6, hxn]; rfl
  refine va_bast (D := D) hx hb hK hP hD hS 9 0 hr9w rfl (i := 1) (x := y7) (by unfold vp_in; decide) d_S_setNumber_19 (fun H locs hP hD hS => ?_)
  rw [show (1 : Int32).toNatClampNeg = 1 from by decide, hy7, nar_byt] at hP hD
  have hfn := sb_fitU (k := 1) (hI.bf 9 _ _ _ (Or.inl rfl) hr9w) (by have h9 := bfit (byt nn 1); rw [nar_byt] at h9; exact h9)
  obtain ⟨r_1, hfn9⟩ : ∃ q, q = upd r_0 1 (byt nn 1) := ⟨_, rfl⟩
  rw [← hfn9] at hP hD hfn
  have hb0 : r_1 0 = byt nn 0 := by rw [hfn9, pk_un (by decide)]; exact hb0
  have hb1 : r_1 1 = byt nn 1 := by rw [hfn9]; exact pk_us
  have hr9x : (w4.set 9 (a 9, .inl (t 0, 260, .inl r_1)))[9]? = some (a 9, .inl (t 0, 260, .inl r_1)) := lk_set hr9w
  obtain ⟨w8, hw⟩ : ∃ q, q = w4.set 9 (a 9, .inl (t 0, 260, .inl r_1)) := ⟨_, rfl⟩
  have hP : va_P D Cl (w4.set 9 (a 9, .inl (t 0, 260, .inl r_1))) H := hP
  have hD : va_D (Az z) (w4.set 9 (a 9, .inl (t 0, 260, .inl r_1))) := hD
  have hF : Fr t ws (w4.set 9 (a 9, .inl (t 0, 260, .inl r_1))) := hF.setA hr9w (Or.inl (by decide))
  have hI := hI.setR (r9 := r_1) hfn
  have hq9 : nul (w4.set 9 (a 9, .inl (t 0, 260, .inl r_1))) = nul w4 := nul_set (by decide)
  rw [← hw] at hP hD hF hI hq9
  rw [← hw] at hr9x
  clear hw
  have hn : nul w8 ≤ nul ws := by omega
  refine W.widen (k := Kc ws w8) (n := Ks ws w8) (by show 2 * (nul ws - nul w4) ≤ 2 * (nul ws - nul w8); omega) (by show 257 * (nul ws - nul w4) ≤ 257 * (nul ws - nul w8); omega) ?_
  have hr9w := hr9x
  clear hfn9 hfn hr9x
  refine lv_iinc (k := 0) (v := 2) (lv' := [(2, .int 2), (0, .ref (a 0)), (1, .int x9)]) hx hb d_S_setNumber_20 hl rfl (by decide) (by decide) rfl (fun ls hl => ?_)
  refine lv_goto (tgt := 2) hx hb d_S_setNumber_23 rfl ?_
  refine lv_iload_n hx hb d_S_setNumber_2 rfl (lv_at hl 0 rfl) ?_
  refine lv_iconst (v := 4) hx hb d_S_setNumber_3 (by decide) ?_
  refine lv_icmp_ge (tgt := 26) hx hb d_S_setNumber_4 rfl (fun h => absurd h (by decide)) (fun _ => ?_)
  refine lv_aload_n hx hb d_S_setNumber_7 rfl (lv_at hl 1 rfl) ?_
  refine va_get (D := D) (ci := 5) (v := .ref (a 9)) (C := R_S) (T := F_S) (N := 10) hx hb hts ws_S hown hK hP 0 hI.x rfl 4 (by decide) (hts _ fl_S_36) (fun _ h9 => h9) rfl d_S_setNumber_8 ?_
  refine lv_iload_n hx hb d_S_setNumber_11 rfl (lv_at hl 0 rfl) ?_
  refine lv_iload_n hx hb d_S_setNumber_12 rfl (lv_at hl 2 rfl) ?_
  refine lv_bipush (v := 8) hx hb d_S_setNumber_13 (by decide) ?_
  refine lv_iload_n hx hb d_S_setNumber_15 rfl (lv_at hl 0 rfl) ?_
  refine lv_imul hx hb d_S_setNumber_16 ?_
  refine lv_topi (fun v10 hv10 => ?_)
  have hv10 : v10 = 16 := hv10.trans (by decide)
  subst hv10
  refine lv_ishr hx hb d_S_setNumber_17 ?_
  refine lv_topi (fun v11 hv11 => ?_)
  refine lv_i2b hx hb d_S_setNumber_18 rfl ?_
  refine lv_topi (fun y12 hy12 => ?_)
  have hy12 : y12 = byt nn 2 := by rw [hy12, hv11, hxn]; rfl
  refine va_bast (D := D) hx hb hK hP hD hS 9 0 hr9w rfl (i := 2) (x := y12) (by unfold vp_in; decide) d_S_setNumber_19 (fun H locs hP hD hS => ?_)
  rw [show (2 : Int32).toNatClampNeg = 2 from by decide, hy12, nar_byt] at hP hD
  have hfn := sb_fitU (k := 2) (hI.bf 9 _ _ _ (Or.inl rfl) hr9w) (by have h9 := bfit (byt nn 2); rw [nar_byt] at h9; exact h9)
  obtain ⟨r_2, hfn9⟩ : ∃ q, q = upd r_1 2 (byt nn 2) := ⟨_, rfl⟩
  rw [← hfn9] at hP hD hfn
  have hb0 : r_2 0 = byt nn 0 := by rw [hfn9, pk_un (by decide)]; exact hb0
  have hb1 : r_2 1 = byt nn 1 := by rw [hfn9, pk_un (by decide)]; exact hb1
  have hb2 : r_2 2 = byt nn 2 := by rw [hfn9]; exact pk_us
  have hr9x : (w8.set 9 (a 9, .inl (t 0, 260, .inl r_2)))[9]? = some (a 9, .inl (t 0, 260, .inl r_2)) := lk_set hr9w
  obtain ⟨w13, hw⟩ : ∃ q, q = w8.set 9 (a 9, .inl (t 0, 260, .inl r_2)) := ⟨_, rfl⟩
  have hP : va_P D Cl (w8.set 9 (a 9, .inl (t 0, 260, .inl r_2))) H := hP
  have hD : va_D (Az z) (w8.set 9 (a 9, .inl (t 0, 260, .inl r_2))) := hD
  have hF : Fr t ws (w8.set 9 (a 9, .inl (t 0, 260, .inl r_2))) := hF.setA hr9w (Or.inl (by decide))
  have hI := hI.setR (r9 := r_2) hfn
  have hq9 : nul (w8.set 9 (a 9, .inl (t 0, 260, .inl r_2))) = nul w8 := nul_set (by decide)
  rw [← hw] at hP hD hF hI hq9
  rw [← hw] at hr9x
  clear hw
  have hn : nul w13 ≤ nul ws := by omega
  refine W.widen (k := Kc ws w13) (n := Ks ws w13) (by show 2 * (nul ws - nul w8) ≤ 2 * (nul ws - nul w13); omega) (by show 257 * (nul ws - nul w8) ≤ 257 * (nul ws - nul w13); omega) ?_
  have hr9w := hr9x
  clear hfn9 hfn hr9x
  refine lv_iinc (k := 0) (v := 3) (lv' := [(2, .int 3), (0, .ref (a 0)), (1, .int x9)]) hx hb d_S_setNumber_20 hl rfl (by decide) (by decide) rfl (fun ls hl => ?_)
  refine lv_goto (tgt := 2) hx hb d_S_setNumber_23 rfl ?_
  refine lv_iload_n hx hb d_S_setNumber_2 rfl (lv_at hl 0 rfl) ?_
  refine lv_iconst (v := 4) hx hb d_S_setNumber_3 (by decide) ?_
  refine lv_icmp_ge (tgt := 26) hx hb d_S_setNumber_4 rfl (fun h => absurd h (by decide)) (fun _ => ?_)
  refine lv_aload_n hx hb d_S_setNumber_7 rfl (lv_at hl 1 rfl) ?_
  refine va_get (D := D) (ci := 5) (v := .ref (a 9)) (C := R_S) (T := F_S) (N := 10) hx hb hts ws_S hown hK hP 0 hI.x rfl 4 (by decide) (hts _ fl_S_36) (fun _ h9 => h9) rfl d_S_setNumber_8 ?_
  refine lv_iload_n hx hb d_S_setNumber_11 rfl (lv_at hl 0 rfl) ?_
  refine lv_iload_n hx hb d_S_setNumber_12 rfl (lv_at hl 2 rfl) ?_
  refine lv_bipush (v := 8) hx hb d_S_setNumber_13 (by decide) ?_
  refine lv_iload_n hx hb d_S_setNumber_15 rfl (lv_at hl 0 rfl) ?_
  refine lv_imul hx hb d_S_setNumber_16 ?_
  refine lv_topi (fun v14 hv14 => ?_)
  have hv14 : v14 = 24 := hv14.trans (by decide)
  subst hv14
  refine lv_ishr hx hb d_S_setNumber_17 ?_
  refine lv_topi (fun v15 hv15 => ?_)
  refine lv_i2b hx hb d_S_setNumber_18 rfl ?_
  refine lv_topi (fun y16 hy16 => ?_)
  have hy16 : y16 = byt nn 3 := by rw [hy16, hv15, hxn]; rfl
  refine va_bast (D := D) hx hb hK hP hD hS 9 0 hr9w rfl (i := 3) (x := y16) (by unfold vp_in; decide) d_S_setNumber_19 (fun H locs hP hD hS => ?_)
  rw [show (3 : Int32).toNatClampNeg = 3 from by decide, hy16, nar_byt] at hP hD
  have hfn := sb_fitU (k := 3) (hI.bf 9 _ _ _ (Or.inl rfl) hr9w) (by have h9 := bfit (byt nn 3); rw [nar_byt] at h9; exact h9)
  obtain ⟨r_3, hfn9⟩ : ∃ q, q = upd r_2 3 (byt nn 3) := ⟨_, rfl⟩
  rw [← hfn9] at hP hD hfn
  have hb0 : r_3 0 = byt nn 0 := by rw [hfn9, pk_un (by decide)]; exact hb0
  have hb1 : r_3 1 = byt nn 1 := by rw [hfn9, pk_un (by decide)]; exact hb1
  have hb2 : r_3 2 = byt nn 2 := by rw [hfn9, pk_un (by decide)]; exact hb2
  have hb3 : r_3 3 = byt nn 3 := by rw [hfn9]; exact pk_us
  have hr9x : (w13.set 9 (a 9, .inl (t 0, 260, .inl r_3)))[9]? = some (a 9, .inl (t 0, 260, .inl r_3)) := lk_set hr9w
  obtain ⟨w17, hw⟩ : ∃ q, q = w13.set 9 (a 9, .inl (t 0, 260, .inl r_3)) := ⟨_, rfl⟩
  have hP : va_P D Cl (w13.set 9 (a 9, .inl (t 0, 260, .inl r_3))) H := hP
  have hD : va_D (Az z) (w13.set 9 (a 9, .inl (t 0, 260, .inl r_3))) := hD
  have hF : Fr t ws (w13.set 9 (a 9, .inl (t 0, 260, .inl r_3))) := hF.setA hr9w (Or.inl (by decide))
  have hI := hI.setR (r9 := r_3) hfn
  have hq9 : nul (w13.set 9 (a 9, .inl (t 0, 260, .inl r_3))) = nul w13 := nul_set (by decide)
  rw [← hw] at hP hD hF hI hq9
  rw [← hw] at hr9x
  clear hw
  have hn : nul w17 ≤ nul ws := by omega
  refine W.widen (k := Kc ws w17) (n := Ks ws w17) (by show 2 * (nul ws - nul w13) ≤ 2 * (nul ws - nul w17); omega) (by show 257 * (nul ws - nul w13) ≤ 257 * (nul ws - nul w17); omega) ?_
  have hr9w := hr9x
  clear hfn9 hfn hr9x
  refine lv_iinc (k := 0) (v := 4) (lv' := [(2, .int 4), (0, .ref (a 0)), (1, .int x9)]) hx hb d_S_setNumber_20 hl rfl (by decide) (by decide) rfl (fun ls hl => ?_)
  refine lv_goto (tgt := 2) hx hb d_S_setNumber_23 rfl ?_
  refine lv_iload_n hx hb d_S_setNumber_2 rfl (lv_at hl 0 rfl) ?_
  refine lv_iconst (v := 4) hx hb d_S_setNumber_3 (by decide) ?_
  refine lv_icmp_ge (tgt := 26) hx hb d_S_setNumber_4 rfl (fun _ => ?_) (fun h => absurd h (by decide))
  refine mu_end (u := w17) (v := (none)) ⟨hI, hF, hn, rfl, _, hr9w, fun j hj => by rcases (show j = 0 ∨ j = 1 ∨ j = 2 ∨ j = 3 by omega) with rfl | rfl | rfl | rfl <;> assumption⟩ (Nat.le_refl _) (Nat.le_refl _) ?_
  exact W.vret hx hb hr (fun t9 ht hW => ⟨rfl, ⟨by rw [ht]; exact hP, va_K.moved hW.alike hK, hD, by rw [ht]; exact Nat.le_trans hz hS.1⟩, hS.F ht⟩) hS.2.2 d_S_setNumber_26
set_option maxHeartbeats 4000000 in
set_option maxRecDepth 100000 in
theorem c_S_journalNumber_j {l : Launch} {D : va_G} {t : Nat → ClassId} {z : Nat} {sa : Nat → Nat} {ws : va_W} {a : Nat → Nat} {k0 : Nat} {v : Nat → Int32} {x9 : Int32} {A : Nat} (hI : Iv a t k0 v ws) (hxA : x9 = nI A) (hAN : A + 4 ≤ 199684) (hJ4 : 4 ≤ v 6) : Mu l y_S_journalNumber (Cond.code y_S_journalNumber b_S_journalNumber 4 (some .int) :: WS) ({ frames := 4, cells := 2 * nul ws + 1, slots := 257 * nul ws + 6, locals := 78 }) D t z sa ws [.ref (a 0), .int x9] (fun r u => Iv a t k0 v u ∧ Fr t ws u ∧ nul u ≤ nul ws ∧ ∃ y, r = some (.int y)) Xno (Kc ws) (Ks ws) := by
  refine mu_ofW (cc := b_S_journalNumber) (maxL := 4) (ret := (some .int)) (by decide) rfl ?_
  intro p e s m args below meth c s₁ B hml hno hv
  obtain ⟨rfl, ⟨hP, hK, hD, hz⟩, hM⟩ := hv
  have hx := B.exec
  have hb := B.bytes
  have hr := B.returns
  have hts : ∀ w ∈ WS, w.before [.ref (a 0), .int x9].toArray s = true := fun w h => atoms_spec B.pre w (List.mem_cons_of_mem _ h)
  have hown : s.vm.findClass R_S = some m.cls := findClass_of_methodNamed B.named
  have hlocks := B.notSynchronized
  have hA : ∀ q, s.heap.size ≤ q → Az z q := fun q h => Nat.le_trans hz h
  have hS : va_S (Az z) s.heap s.heap [] := va_S.rf
  have hF : Fr t ws ws := Fr.rf
  have hn : nul ws ≤ nul ws := Nat.le_refl _
  have hl := lv_entry ([.ref (a 0), .int x9]) (n := 4) (Nat.le_of_ble_eq_true rfl)
  rw [lg_entry_eq]
  generalize (lg_sl ([.ref (a 0), .int x9]) ++ List.replicate (4 - (lg_sl ([.ref (a 0), .int x9])).length) Slot.unset).toArray = ls at hl ⊢
  have hl : lv_has ls 4 [(0, .ref (a 0)), (1, .int x9)] := hl
  refine W.widen (k := Kc ws ws) (n := Ks ws ws) (Nat.zero_le _) (Nat.zero_le _) ?_
  refine lv_aload_n hx hb d_S_journalNumber_0 rfl (lv_at hl 0 rfl) ?_
  refine va_get (D := D) (ci := 5) (v := .ref (a 4)) (C := R_S) (T := F_S) (N := 10) hx hb hts ws_S hown hK hP 0 hI.x rfl 1 (by decide) (hts _ fl_S_20) (fun _ h9 => h9) rfl d_S_journalNumber_1 ?_
  refine lv_iload_n hx hb d_S_journalNumber_4 rfl (lv_at hl 1 rfl) ?_
  refine lv_aload_n hx hb d_S_journalNumber_5 rfl (lv_at hl 0 rfl) ?_
  refine va_get (D := D) (ci := 5) (v := .ref (a 9)) (C := R_S) (T := F_S) (N := 10) hx hb hts ws_S hown hK hP 0 hI.x rfl 4 (by decide) (hts _ fl_S_36) (fun _ h9 => h9) rfl d_S_journalNumber_6 ?_
  refine lv_iconst (v := 4) hx hb d_S_journalNumber_9 (by decide) ?_
  refine mu_V (n := 3) (As := [.int x9, .ref (a 9), .int 4]) (rest := []) ⟨hx, hb, hml, hown, hts⟩ (c_Y_read_j (D := D) (t := t) (z := z) (sa := sa) (ws := ws) (A := A) (N := 4) (x9 := x9) (y9 := 4) hI hxA rfl hAN (by decide) hJ4) ml_S_223 im_Y_read se_Y_read in_Y cd_Y_read (by decide +kernel) ⟨Nat.le_of_ble_eq_true rfl, Nat.le_of_ble_eq_true rfl⟩ (va_recv hK hP (ci := 3) rfl hI.y4) (Pz_at hP hK hD hz hM hS) rfl hl.1 rfl (Nat.le_of_ble_eq_true rfl) d_S_journalNumber_10 ⟨by show 2 * (nul ws - nul ws) + (2 * nul ws + 1) ≤ 2 * nul ws + 1; omega, by show 257 * (nul ws - nul ws) + (257 * nul ws + 6) ≤ 257 * nul ws + 6; omega⟩ hS (fun _ _ _ _ _ _ h => h.elim) (fun r9 u1 H locs hp hP hD hS => ?_)
  obtain ⟨hI, hF9, hn9, hr9⟩ := hp
  subst hr9
  have hF := hF.trans hF9
  have hn : nul u1 ≤ nul ws := by omega
  refine W.widen (k := Kc ws u1) (n := Ks ws u1) (by show 2 * (nul ws - nul ws) + 2 * (nul ws - nul u1) ≤ 2 * (nul ws - nul u1); omega) (by show 257 * (nul ws - nul ws) + 257 * (nul ws - nul u1) ≤ 257 * (nul ws - nul u1); omega) ?_
  refine W.eq (g2 := F0 m 13 ls []) rfl ?_
  refine lv_iconst (v := 0) hx hb d_S_journalNumber_13 (by decide) ?_
  refine lv_istore_n (lv' := [(2, .int 0), (0, .ref (a 0)), (1, .int x9)]) hx hb d_S_journalNumber_14 rfl hl (by decide) rfl (fun ls hl => ?_)
  refine lv_iconst (v := 0) hx hb d_S_journalNumber_15 (by decide) ?_
  refine lv_istore_n (lv' := [(3, .int 0), (2, .int 0), (0, .ref (a 0)), (1, .int x9)]) hx hb d_S_journalNumber_16 rfl hl (by decide) rfl (fun ls hl => ?_)
  refine lv_iload_n hx hb d_S_journalNumber_17 rfl (lv_at hl 0 rfl) ?_
  refine lv_iconst (v := 4) hx hb d_S_journalNumber_18 (by decide) ?_
  refine lv_icmp_ge (tgt := 46) hx hb d_S_journalNumber_19 rfl (fun h => absurd h (by decide)) (fun _ => ?_)
  refine lv_iload_n hx hb d_S_journalNumber_22 rfl (lv_at hl 1 rfl) ?_
  refine lv_aload_n hx hb d_S_journalNumber_23 rfl (lv_at hl 2 rfl) ?_
  refine va_get (D := D) (ci := 5) (v := .ref (a 9)) (C := R_S) (T := F_S) (N := 10) hx hb hts ws_S hown hK hP 0 hI.x rfl 4 (by decide) (hts _ fl_S_36) (fun _ h9 => h9) rfl d_S_journalNumber_24 ?_
  refine lv_iload_n hx hb d_S_journalNumber_27 rfl (lv_at hl 0 rfl) ?_
  obtain ⟨r0, hr9w⟩ := hI.r9
  refine va_bald (D := D) hx hb hK hP 9 0 hr9w rfl (i := 0) (by unfold vp_in; decide) d_S_journalNumber_28 ?_
  refine lv_topi (fun y2 hy2 => ?_)
  refine lv_sipush (v := 255) hx hb d_S_journalNumber_29 (by decide) ?_
  refine lv_iand hx hb d_S_journalNumber_32 ?_
  refine lv_topi (fun v3 hv3 => ?_)
  refine lv_bipush (v := 8) hx hb d_S_journalNumber_33 (by decide) ?_
  refine lv_iload_n hx hb d_S_journalNumber_35 rfl (lv_at hl 0 rfl) ?_
  refine lv_imul hx hb d_S_journalNumber_36 ?_
  refine lv_topi (fun v4 hv4 => ?_)
  have hv4 : v4 = 0 := hv4.trans (by decide)
  subst hv4
  refine lv_ishl hx hb d_S_journalNumber_37 ?_
  refine lv_topi (fun v5 hv5 => ?_)
  refine lv_ior hx hb d_S_journalNumber_38 ?_
  refine lv_topi (fun v6 hv6 => ?_)
  refine lv_istore_n (lv' := [(2, .int v6), (3, .int 0), (0, .ref (a 0)), (1, .int x9)]) hx hb d_S_journalNumber_39 rfl hl (by decide) rfl (fun ls hl => ?_)
  refine lv_iinc (k := 1) (v := 1) (lv' := [(3, .int 1), (2, .int v6), (0, .ref (a 0)), (1, .int x9)]) hx hb d_S_journalNumber_40 hl rfl (by decide) (by decide) rfl (fun ls hl => ?_)
  refine lv_goto (tgt := 17) hx hb d_S_journalNumber_43 rfl ?_
  refine lv_iload_n hx hb d_S_journalNumber_17 rfl (lv_at hl 0 rfl) ?_
  refine lv_iconst (v := 4) hx hb d_S_journalNumber_18 (by decide) ?_
  refine lv_icmp_ge (tgt := 46) hx hb d_S_journalNumber_19 rfl (fun h => absurd h (by decide)) (fun _ => ?_)
  refine lv_iload_n hx hb d_S_journalNumber_22 rfl (lv_at hl 1 rfl) ?_
  refine lv_aload_n hx hb d_S_journalNumber_23 rfl (lv_at hl 2 rfl) ?_
  refine va_get (D := D) (ci := 5) (v := .ref (a 9)) (C := R_S) (T := F_S) (N := 10) hx hb hts ws_S hown hK hP 0 hI.x rfl 4 (by decide) (hts _ fl_S_36) (fun _ h9 => h9) rfl d_S_journalNumber_24 ?_
  refine lv_iload_n hx hb d_S_journalNumber_27 rfl (lv_at hl 0 rfl) ?_
  obtain ⟨r0, hr9w⟩ := hI.r9
  refine va_bald (D := D) hx hb hK hP 9 0 hr9w rfl (i := 1) (by unfold vp_in; decide) d_S_journalNumber_28 ?_
  refine lv_topi (fun y7 hy7 => ?_)
  refine lv_sipush (v := 255) hx hb d_S_journalNumber_29 (by decide) ?_
  refine lv_iand hx hb d_S_journalNumber_32 ?_
  refine lv_topi (fun v8 hv8 => ?_)
  refine lv_bipush (v := 8) hx hb d_S_journalNumber_33 (by decide) ?_
  refine lv_iload_n hx hb d_S_journalNumber_35 rfl (lv_at hl 0 rfl) ?_
  refine lv_imul hx hb d_S_journalNumber_36 ?_
  refine lv_topi (fun v10 hv10 => ?_)
  have hv10 : v10 = 8 := hv10.trans (by decide)
  subst hv10
  refine lv_ishl hx hb d_S_journalNumber_37 ?_
  refine lv_topi (fun v11 hv11 => ?_)
  refine lv_ior hx hb d_S_journalNumber_38 ?_
  refine lv_topi (fun v12 hv12 => ?_)
  refine lv_istore_n (lv' := [(2, .int v12), (3, .int 1), (0, .ref (a 0)), (1, .int x9)]) hx hb d_S_journalNumber_39 rfl hl (by decide) rfl (fun ls hl => ?_)
  refine lv_iinc (k := 1) (v := 2) (lv' := [(3, .int 2), (2, .int v12), (0, .ref (a 0)), (1, .int x9)]) hx hb d_S_journalNumber_40 hl rfl (by decide) (by decide) rfl (fun ls hl => ?_)
  refine lv_goto (tgt := 17) hx hb d_S_journalNumber_43 rfl ?_
  refine lv_iload_n hx hb d_S_journalNumber_17 rfl (lv_at hl 0 rfl) ?_
  refine lv_iconst (v := 4) hx hb d_S_journalNumber_18 (by decide) ?_
  refine lv_icmp_ge (tgt := 46) hx hb d_S_journalNumber_19 rfl (fun h => absurd h (by decide)) (fun _ => ?_)
  refine lv_iload_n hx hb d_S_journalNumber_22 rfl (lv_at hl 1 rfl) ?_
  refine lv_aload_n hx hb d_S_journalNumber_23 rfl (lv_at hl 2 rfl) ?_
  refine va_get (D := D) (ci := 5) (v := .ref (a 9)) (C := R_S) (T := F_S) (N := 10) hx hb hts ws_S hown hK hP 0 hI.x rfl 4 (by decide) (hts _ fl_S_36) (fun _ h9 => h9) rfl d_S_journalNumber_24 ?_
  refine lv_iload_n hx hb d_S_journalNumber_27 rfl (lv_at hl 0 rfl) ?_
  obtain ⟨r0, hr9w⟩ := hI.r9
  refine va_bald (D := D) hx hb hK hP 9 0 hr9w rfl (i := 2) (by unfold vp_in; decide) d_S_journalNumber_28 ?_
  refine lv_topi (fun y13 hy13 => ?_)
  refine lv_sipush (v := 255) hx hb d_S_journalNumber_29 (by decide) ?_
  refine lv_iand hx hb d_S_journalNumber_32 ?_
  refine lv_topi (fun v14 hv14 => ?_)
  refine lv_bipush (v := 8) hx hb d_S_journalNumber_33 (by decide) ?_
  refine lv_iload_n hx hb d_S_journalNumber_35 rfl (lv_at hl 0 rfl) ?_
  refine lv_imul hx hb d_S_journalNumber_36 ?_
  refine lv_topi (fun v15 hv15 => ?_)
  have hv15 : v15 = 16 := hv15.trans (by decide)
  subst hv15
  refine lv_ishl hx hb d_S_journalNumber_37 ?_
  refine lv_topi (fun v16 hv16 => ?_)
  refine lv_ior hx hb d_S_journalNumber_38 ?_
  refine lv_topi (fun v17 hv17 => ?_)
  refine lv_istore_n (lv' := [(2, .int v17), (3, .int 2), (0, .ref (a 0)), (1, .int x9)]) hx hb d_S_journalNumber_39 rfl hl (by decide) rfl (fun ls hl => ?_)
  refine lv_iinc (k := 1) (v := 3) (lv' := [(3, .int 3), (2, .int v17), (0, .ref (a 0)), (1, .int x9)]) hx hb d_S_journalNumber_40 hl rfl (by decide) (by decide) rfl (fun ls hl => ?_)
  refine lv_goto (tgt := 17) hx hb d_S_journalNumber_43 rfl ?_
  refine lv_iload_n hx hb d_S_journalNumber_17 rfl (lv_at hl 0 rfl) ?_
  refine lv_iconst (v := 4) hx hb d_S_journalNumber_18 (by decide) ?_
  refine lv_icmp_ge (tgt := 46) hx hb d_S_journalNumber_19 rfl (fun h => absurd h (by decide)) (fun _ => ?_)
  refine lv_iload_n hx hb d_S_journalNumber_22 rfl (lv_at hl 1 rfl) ?_
  refine lv_aload_n hx hb d_S_journalNumber_23 rfl (lv_at hl 2 rfl) ?_
  refine va_get (D := D) (ci := 5) (v := .ref (a 9)) (C := R_S) (T := F_S) (N := 10) hx hb hts ws_S hown hK hP 0 hI.x rfl 4 (by decide) (hts _ fl_S_36) (fun _ h9 => h9) rfl d_S_journalNumber_24 ?_
  refine lv_iload_n hx hb d_S_journalNumber_27 rfl (lv_at hl 0 rfl) ?_
  obtain ⟨r0, hr9w⟩ := hI.r9
  refine va_bald (D := D) hx hb hK hP 9 0 hr9w rfl (i := 3) (by unfold vp_in; decide) d_S_journalNumber_28 ?_
  refine lv_topi (fun y18 hy18 => ?_)
  refine lv_sipush (v := 255) hx hb d_S_journalNumber_29 (by decide) ?_
  refine lv_iand hx hb d_S_journalNumber_32 ?_
  refine lv_topi (fun v19 hv19 => ?_)
  refine lv_bipush (v := 8) hx hb d_S_journalNumber_33 (by decide) ?_
  refine lv_iload_n hx hb d_S_journalNumber_35 rfl (lv_at hl 0 rfl) ?_
  refine lv_imul hx hb d_S_journalNumber_36 ?_
  refine lv_topi (fun v20 hv20 => ?_)
  have hv20 : v20 = 24 := hv20.trans (by decide)
  subst hv20
  refine lv_ishl hx hb d_S_journalNumber_37 ?_
  refine lv_topi (fun v21 hv21 => ?_)
  refine lv_ior hx hb d_S_journalNumber_38 ?_
  refine lv_topi (fun v22 hv22 => ?_)
  refine lv_istore_n (lv' := [(2, .int v22), (3, .int 3), (0, .ref (a 0)), (1, .int x9)]) hx hb d_S_journalNumber_39 rfl hl (by decide) rfl (fun ls hl => ?_)
  refine lv_iinc (k := 1) (v := 4) (lv' := [(3, .int 4), (2, .int v22), (0, .ref (a 0)), (1, .int x9)]) hx hb d_S_journalNumber_40 hl rfl (by decide) (by decide) rfl (fun ls hl => ?_)
  refine lv_goto (tgt := 17) hx hb d_S_journalNumber_43 rfl ?_
  refine lv_iload_n hx hb d_S_journalNumber_17 rfl (lv_at hl 0 rfl) ?_
  refine lv_iconst (v := 4) hx hb d_S_journalNumber_18 (by decide) ?_
  refine lv_icmp_ge (tgt := 46) hx hb d_S_journalNumber_19 rfl (fun _ => ?_) (fun h => absurd h (by decide))
  refine lv_iload_n hx hb d_S_journalNumber_46 rfl (lv_at hl 1 rfl) ?_
  refine mu_end (u := u1) (v := (some (.int v22))) ⟨hI, hF, hn, _, rfl⟩ (Nat.le_refl _) (Nat.le_refl _) ?_
  exact W.iret (v := v22) hx hb hr (fun t9 ht hW => ⟨rfl, ⟨by rw [ht]; exact hP, va_K.moved hW.alike hK, hD, by rw [ht]; exact Nat.le_trans hz hS.1⟩, hS.F ht⟩) hS.2.2 d_S_journalNumber_47
set_option maxHeartbeats 4000000 in
set_option maxRecDepth 100000 in
theorem c_S_journalNumber_0 {l : Launch} {D : va_G} {t : Nat → ClassId} {z : Nat} {sa : Nat → Nat} {ws : va_W} {a : Nat → Nat} {k0 : Nat} {v : Nat → Int32} {x9 : Int32} (hI : Iv a t k0 v ws) (hxA : x9 = nI 0) (hJ4 : 4 ≤ v 6) : Mu l y_S_journalNumber (Cond.code y_S_journalNumber b_S_journalNumber 4 (some .int) :: WS) ({ frames := 4, cells := 2 * nul ws + 1, slots := 257 * nul ws + 6, locals := 78 }) D t z sa ws [.ref (a 0), .int x9] (fun r u => Iv a t k0 v u ∧ Fr t ws u ∧ nul u ≤ nul ws ∧ ∃ nn : Nat, nn ≤ 768 ∧ r = some (.int (nI nn))) Xno (Kc ws) (Ks ws) := by
  refine mu_ofW (cc := b_S_journalNumber) (maxL := 4) (ret := (some .int)) (by decide) rfl ?_
  intro p e s m args below meth c s₁ B hml hno hv
  obtain ⟨rfl, ⟨hP, hK, hD, hz⟩, hM⟩ := hv
  have hx := B.exec
  have hb := B.bytes
  have hr := B.returns
  have hts : ∀ w ∈ WS, w.before [.ref (a 0), .int x9].toArray s = true := fun w h => atoms_spec B.pre w (List.mem_cons_of_mem _ h)
  have hown : s.vm.findClass R_S = some m.cls := findClass_of_methodNamed B.named
  have hlocks := B.notSynchronized
  have hA : ∀ q, s.heap.size ≤ q → Az z q := fun q h => Nat.le_trans hz h
  have hS : va_S (Az z) s.heap s.heap [] := va_S.rf
  have hF : Fr t ws ws := Fr.rf
  have hn : nul ws ≤ nul ws := Nat.le_refl _
  have hl := lv_entry ([.ref (a 0), .int x9]) (n := 4) (Nat.le_of_ble_eq_true rfl)
  rw [lg_entry_eq]
  generalize (lg_sl ([.ref (a 0), .int x9]) ++ List.replicate (4 - (lg_sl ([.ref (a 0), .int x9])).length) Slot.unset).toArray = ls at hl ⊢
  have hl : lv_has ls 4 [(0, .ref (a 0)), (1, .int x9)] := hl
  refine W.widen (k := Kc ws ws) (n := Ks ws ws) (Nat.zero_le _) (Nat.zero_le _) ?_
  refine lv_aload_n hx hb d_S_journalNumber_0 rfl (lv_at hl 0 rfl) ?_
  refine va_get (D := D) (ci := 5) (v := .ref (a 4)) (C := R_S) (T := F_S) (N := 10) hx hb hts ws_S hown hK hP 0 hI.x rfl 1 (by decide) (hts _ fl_S_20) (fun _ h9 => h9) rfl d_S_journalNumber_1 ?_
  refine lv_iload_n hx hb d_S_journalNumber_4 rfl (lv_at hl 1 rfl) ?_
  refine lv_aload_n hx hb d_S_journalNumber_5 rfl (lv_at hl 0 rfl) ?_
  refine va_get (D := D) (ci := 5) (v := .ref (a 9)) (C := R_S) (T := F_S) (N := 10) hx hb hts ws_S hown hK hP 0 hI.x rfl 4 (by decide) (hts _ fl_S_36) (fun _ h9 => h9) rfl d_S_journalNumber_6 ?_
  refine lv_iconst (v := 4) hx hb d_S_journalNumber_9 (by decide) ?_
  refine mu_V (n := 3) (As := [.int x9, .ref (a 9), .int 4]) (rest := []) ⟨hx, hb, hml, hown, hts⟩ (c_Y_read_0 (D := D) (t := t) (z := z) (sa := sa) (ws := ws) (x9 := x9) (y9 := 4) hI hxA rfl hJ4) ml_S_223 im_Y_read se_Y_read in_Y cd_Y_read (by decide +kernel) ⟨Nat.le_of_ble_eq_true rfl, Nat.le_of_ble_eq_true rfl⟩ (va_recv hK hP (ci := 3) rfl hI.y4) (Pz_at hP hK hD hz hM hS) rfl hl.1 rfl (Nat.le_of_ble_eq_true rfl) d_S_journalNumber_10 ⟨by show 2 * (nul ws - nul ws) + (2 * nul ws + 1) ≤ 2 * nul ws + 1; omega, by show 257 * (nul ws - nul ws) + (257 * nul ws + 6) ≤ 257 * nul ws + 6; omega⟩ hS (fun _ _ _ _ _ _ h => h.elim) (fun r9 u1 H locs hp hP hD hS => ?_)
  obtain ⟨hI, hF9, hn9, hr9, nn, r0, hnn, hr9w, hrb⟩ := hp
  subst hr9
  have hF := hF.trans hF9
  have hn : nul u1 ≤ nul ws := by omega
  refine W.widen (k := Kc ws u1) (n := Ks ws u1) (by show 2 * (nul ws - nul ws) + 2 * (nul ws - nul u1) ≤ 2 * (nul ws - nul u1); omega) (by show 257 * (nul ws - nul ws) + 257 * (nul ws - nul u1) ≤ 257 * (nul ws - nul u1); omega) ?_
  refine W.eq (g2 := F0 m 13 ls []) rfl ?_
  refine lv_iconst (v := 0) hx hb d_S_journalNumber_13 (by decide) ?_
  refine lv_istore_n (lv' := [(2, .int 0), (0, .ref (a 0)), (1, .int x9)]) hx hb d_S_journalNumber_14 rfl hl (by decide) rfl (fun ls hl => ?_)
  refine lv_iconst (v := 0) hx hb d_S_journalNumber_15 (by decide) ?_
  refine lv_istore_n (lv' := [(3, .int 0), (2, .int 0), (0, .ref (a 0)), (1, .int x9)]) hx hb d_S_journalNumber_16 rfl hl (by decide) rfl (fun ls hl => ?_)
  refine lv_iload_n hx hb d_S_journalNumber_17 rfl (lv_at hl 0 rfl) ?_
  refine lv_iconst (v := 4) hx hb d_S_journalNumber_18 (by decide) ?_
  refine lv_icmp_ge (tgt := 46) hx hb d_S_journalNumber_19 rfl (fun h => absurd h (by decide)) (fun _ => ?_)
  refine lv_iload_n hx hb d_S_journalNumber_22 rfl (lv_at hl 1 rfl) ?_
  refine lv_aload_n hx hb d_S_journalNumber_23 rfl (lv_at hl 2 rfl) ?_
  refine va_get (D := D) (ci := 5) (v := .ref (a 9)) (C := R_S) (T := F_S) (N := 10) hx hb hts ws_S hown hK hP 0 hI.x rfl 4 (by decide) (hts _ fl_S_36) (fun _ h9 => h9) rfl d_S_journalNumber_24 ?_
  refine lv_iload_n hx hb d_S_journalNumber_27 rfl (lv_at hl 0 rfl) ?_
  refine va_bald (D := D) hx hb hK hP 9 0 hr9w rfl (i := 0) (by unfold vp_in; decide) d_S_journalNumber_28 ?_
  refine lv_topi (fun y2 hy2 => ?_)
  have hy2 : y2 = byt nn 0 := by rw [hy2, show (0 : Int32).toNatClampNeg = 0 from by decide]; exact hrb 0 (by decide)
  refine lv_sipush (v := 255) hx hb d_S_journalNumber_29 (by decide) ?_
  refine lv_iand hx hb d_S_journalNumber_32 ?_
  refine lv_topi (fun v3 hv3 => ?_)
  refine lv_bipush (v := 8) hx hb d_S_journalNumber_33 (by decide) ?_
  refine lv_iload_n hx hb d_S_journalNumber_35 rfl (lv_at hl 0 rfl) ?_
  refine lv_imul hx hb d_S_journalNumber_36 ?_
  refine lv_topi (fun v4 hv4 => ?_)
  have hv4 : v4 = 0 := hv4.trans (by decide)
  subst hv4
  refine lv_ishl hx hb d_S_journalNumber_37 ?_
  refine lv_topi (fun v5 hv5 => ?_)
  refine lv_ior hx hb d_S_journalNumber_38 ?_
  refine lv_topi (fun v6 hv6 => ?_)
  refine lv_istore_n (lv' := [(2, .int v6), (3, .int 0), (0, .ref (a 0)), (1, .int x9)]) hx hb d_S_journalNumber_39 rfl hl (by decide) rfl (fun ls hl => ?_)
  refine lv_iinc (k := 1) (v := 1) (lv' := [(3, .int 1), (2, .int v6), (0, .ref (a 0)), (1, .int x9)]) hx hb d_S_journalNumber_40 hl rfl (by decide) (by decide) rfl (fun ls hl => ?_)
  refine lv_goto (tgt := 17) hx hb d_S_journalNumber_43 rfl ?_
  refine lv_iload_n hx hb d_S_journalNumber_17 rfl (lv_at hl 0 rfl) ?_
  refine lv_iconst (v := 4) hx hb d_S_journalNumber_18 (by decide) ?_
  refine lv_icmp_ge (tgt := 46) hx hb d_S_journalNumber_19 rfl (fun h => absurd h (by decide)) (fun _ => ?_)
  refine lv_iload_n hx hb d_S_journalNumber_22 rfl (lv_at hl 1 rfl) ?_
  refine lv_aload_n hx hb d_S_journalNumber_23 rfl (lv_at hl 2 rfl) ?_
  refine va_get (D := D) (ci := 5) (v := .ref (a 9)) (C := R_S) (T := F_S) (N := 10) hx hb hts ws_S hown hK hP 0 hI.x rfl 4 (by decide) (hts _ fl_S_36) (fun _ h9 => h9) rfl d_S_journalNumber_24 ?_
  refine lv_iload_n hx hb d_S_journalNumber_27 rfl (lv_at hl 0 rfl) ?_
  refine va_bald (D := D) hx hb hK hP 9 0 hr9w rfl (i := 1) (by unfold vp_in; decide) d_S_journalNumber_28 ?_
  refine lv_topi (fun y7 hy7 => ?_)
  have hy7 : y7 = byt nn 1 := by rw [hy7, show (1 : Int32).toNatClampNeg = 1 from by decide]; exact hrb 1 (by decide)
  refine lv_sipush (v := 255) hx hb d_S_journalNumber_29 (by decide) ?_
  refine lv_iand hx hb d_S_journalNumber_32 ?_
  refine lv_topi (fun v8 hv8 => ?_)
  refine lv_bipush (v := 8) hx hb d_S_journalNumber_33 (by decide) ?_
  refine lv_iload_n hx hb d_S_journalNumber_35 rfl (lv_at hl 0 rfl) ?_
  refine lv_imul hx hb d_S_journalNumber_36 ?_
  refine lv_topi (fun v10 hv10 => ?_)
  have hv10 : v10 = 8 := hv10.trans (by decide)
  subst hv10
  refine lv_ishl hx hb d_S_journalNumber_37 ?_
  refine lv_topi (fun v11 hv11 => ?_)
  refine lv_ior hx hb d_S_journalNumber_38 ?_
  refine lv_topi (fun v12 hv12 => ?_)
  refine lv_istore_n (lv' := [(2, .int v12), (3, .int 1), (0, .ref (a 0)), (1, .int x9)]) hx hb d_S_journalNumber_39 rfl hl (by decide) rfl (fun ls hl => ?_)
  refine lv_iinc (k := 1) (v := 2) (lv' := [(3, .int 2), (2, .int v12), (0, .ref (a 0)), (1, .int x9)]) hx hb d_S_journalNumber_40 hl rfl (by decide) (by decide) rfl (fun ls hl => ?_)
  refine lv_goto (tgt := 17) hx hb d_S_journalNumber_43 rfl ?_
  refine lv_iload_n hx hb d_S_journalNumber_17 rfl (lv_at hl 0 rfl) ?_
  refine lv_iconst (v := 4) hx hb d_S_journalNumber_18 (by decide) ?_
  refine lv_icmp_ge (tgt := 46) hx hb d_S_journalNumber_19 rfl (fun h => absurd h (by decide)) (fun _ => ?_)
  refine lv_iload_n hx hb d_S_journalNumber_22 rfl (lv_at hl 1 rfl) ?_
  refine lv_aload_n hx hb d_S_journalNumber_23 rfl (lv_at hl 2 rfl) ?_
  refine va_get (D := D) (ci := 5) (v := .ref (a 9)) (C := R_S) (T := F_S) (N := 10) hx hb hts ws_S hown hK hP 0 hI.x rfl 4 (by decide) (hts _ fl_S_36) (fun _ h9 => h9) rfl d_S_journalNumber_24 ?_
  refine lv_iload_n hx hb d_S_journalNumber_27 rfl (lv_at hl 0 rfl) ?_
  refine va_bald (D := D) hx hb hK hP 9 0 hr9w rfl (i := 2) (by unfold vp_in; decide) d_S_journalNumber_28 ?_
  refine lv_topi (fun y13 hy13 => ?_)
  have hy13 : y13 = byt nn 2 := by rw [hy13, show (2 : Int32).toNatClampNeg = 2 from by decide]; exact hrb 2 (by decide)
  refine lv_sipush (v := 255) hx hb d_S_journalNumber_29 (by decide) ?_
  refine lv_iand hx hb d_S_journalNumber_32 ?_
  refine lv_topi (fun v14 hv14 => ?_)
  refine lv_bipush (v := 8) hx hb d_S_journalNumber_33 (by decide) ?_
  refine lv_iload_n hx hb d_S_journalNumber_35 rfl (lv_at hl 0 rfl) ?_
  refine lv_imul hx hb d_S_journalNumber_36 ?_
  refine lv_topi (fun v15 hv15 => ?_)
  have hv15 : v15 = 16 := hv15.trans (by decide)
  subst hv15
  refine lv_ishl hx hb d_S_journalNumber_37 ?_
  refine lv_topi (fun v16 hv16 => ?_)
  refine lv_ior hx hb d_S_journalNumber_38 ?_
  refine lv_topi (fun v17 hv17 => ?_)
  refine lv_istore_n (lv' := [(2, .int v17), (3, .int 2), (0, .ref (a 0)), (1, .int x9)]) hx hb d_S_journalNumber_39 rfl hl (by decide) rfl (fun ls hl => ?_)
  refine lv_iinc (k := 1) (v := 3) (lv' := [(3, .int 3), (2, .int v17), (0, .ref (a 0)), (1, .int x9)]) hx hb d_S_journalNumber_40 hl rfl (by decide) (by decide) rfl (fun ls hl => ?_)
  refine lv_goto (tgt := 17) hx hb d_S_journalNumber_43 rfl ?_
  refine lv_iload_n hx hb d_S_journalNumber_17 rfl (lv_at hl 0 rfl) ?_
  refine lv_iconst (v := 4) hx hb d_S_journalNumber_18 (by decide) ?_
  refine lv_icmp_ge (tgt := 46) hx hb d_S_journalNumber_19 rfl (fun h => absurd h (by decide)) (fun _ => ?_)
  refine lv_iload_n hx hb d_S_journalNumber_22 rfl (lv_at hl 1 rfl) ?_
  refine lv_aload_n hx hb d_S_journalNumber_23 rfl (lv_at hl 2 rfl) ?_
  refine va_get (D := D) (ci := 5) (v := .ref (a 9)) (C := R_S) (T := F_S) (N := 10) hx hb hts ws_S hown hK hP 0 hI.x rfl 4 (by decide) (hts _ fl_S_36) (fun _ h9 => h9) rfl d_S_journalNumber_24 ?_
  refine lv_iload_n hx hb d_S_journalNumber_27 rfl (lv_at hl 0 rfl) ?_
  refine va_bald (D := D) hx hb hK hP 9 0 hr9w rfl (i := 3) (by unfold vp_in; decide) d_S_journalNumber_28 ?_
  refine lv_topi (fun y18 hy18 => ?_)
  have hy18 : y18 = byt nn 3 := by rw [hy18, show (3 : Int32).toNatClampNeg = 3 from by decide]; exact hrb 3 (by decide)
  refine lv_sipush (v := 255) hx hb d_S_journalNumber_29 (by decide) ?_
  refine lv_iand hx hb d_S_journalNumber_32 ?_
  refine lv_topi (fun v19 hv19 => ?_)
  refine lv_bipush (v := 8) hx hb d_S_journalNumber_33 (by decide) ?_
  refine lv_iload_n hx hb d_S_journalNumber_35 rfl (lv_at hl 0 rfl) ?_
  refine lv_imul hx hb d_S_journalNumber_36 ?_
  refine lv_topi (fun v20 hv20 => ?_)
  have hv20 : v20 = 24 := hv20.trans (by decide)
  subst hv20
  refine lv_ishl hx hb d_S_journalNumber_37 ?_
  refine lv_topi (fun v21 hv21 => ?_)
  refine lv_ior hx hb d_S_journalNumber_38 ?_
  refine lv_topi (fun v22 hv22 => ?_)
  refine lv_istore_n (lv' := [(2, .int v22), (3, .int 3), (0, .ref (a 0)), (1, .int x9)]) hx hb d_S_journalNumber_39 rfl hl (by decide) rfl (fun ls hl => ?_)
  refine lv_iinc (k := 1) (v := 4) (lv' := [(3, .int 4), (2, .int v22), (0, .ref (a 0)), (1, .int x9)]) hx hb d_S_journalNumber_40 hl rfl (by decide) (by decide) rfl (fun ls hl => ?_)
  refine lv_goto (tgt := 17) hx hb d_S_journalNumber_43 rfl ?_
  refine lv_iload_n hx hb d_S_journalNumber_17 rfl (lv_at hl 0 rfl) ?_
  refine lv_iconst (v := 4) hx hb d_S_journalNumber_18 (by decide) ?_
  refine lv_icmp_ge (tgt := 46) hx hb d_S_journalNumber_19 rfl (fun _ => ?_) (fun h => absurd h (by decide))
  refine lv_iload_n hx hb d_S_journalNumber_46 rfl (lv_at hl 1 rfl) ?_
  refine mu_end (u := u1) (v := (some (.int v22))) ⟨hI, hF, hn, nn, hnn, by rw [show v22 = nI nn from by rw [hv22, hv21, hv19, hy18, hv17, hv16, hv14, hy13, hv12, hv11, hv8, hy7, hv6, hv5, hv3, hy2]; exact jn_num nn (by omega)]⟩ (Nat.le_refl _) (Nat.le_refl _) ?_
  exact W.iret (v := v22) hx hb hr (fun t9 ht hW => ⟨rfl, ⟨by rw [ht]; exact hP, va_K.moved hW.alike hK, hD, by rw [ht]; exact Nat.le_trans hz hS.1⟩, hS.F ht⟩) hS.2.2 d_S_journalNumber_47
end
section
set_option maxHeartbeats 4000000 in
set_option maxRecDepth 100000 in
theorem c_S_write_f {l : Launch} {D : va_G} {t : Nat → ClassId} {z : Nat} {sa : Nat → Nat} {ws : va_W} {a : Nat → Nat} {k0 : Nat} {v : Nat → Int32} {x9 y9 w9 : Int32} {c9 A N L : Nat} (hI : Iv a t k0 v ws) (hxA : x9 = nI A) (hyN : y9 = nI N) (hAN : A + N ≤ 196608) (hBA : BA t ws c9 L) (hNL : N ≤ L) (hL31 : L ≤ 260) : Mu l y_S_write (Cond.code y_S_write b_S_write 6 (some .boolean) :: WS) ({ frames := 4, cells := 2 * nul ws + 1, slots := 257 * nul ws + 6, locals := 78 }) D t z sa ws [.ref (a 0), .ref (a 1), .ref c9, .int x9, .int y9, .int w9] (fun r u => ∃ v1 y, Iv a t k0 v1 u ∧ Fr t ws u ∧ nul u ≤ nul ws ∧ r = some (.int y) ∧ (y = 0 ∨ y = 1) ∧ (∀ i, i ≠ 5 → i ≠ 8 → i ≠ 10 → v1 i = v i)) Xno (Kc ws) (Ks ws) := by
  refine mu_ofW (cc := b_S_write) (maxL := 6) (ret := (some .boolean)) (by decide) rfl ?_
  intro p e s m args below meth c s₁ B hml hno hv
  obtain ⟨rfl, ⟨hP, hK, hD, hz⟩, hM⟩ := hv
  have hx := B.exec
  have hb := B.bytes
  have hr := B.returns
  have hts : ∀ w ∈ WS, w.before [.ref (a 0), .ref (a 1), .ref c9, .int x9, .int y9, .int w9].toArray s = true := fun w h => atoms_spec B.pre w (List.mem_cons_of_mem _ h)
  have hown : s.vm.findClass R_S = some m.cls := findClass_of_methodNamed B.named
  have hlocks := B.notSynchronized
  have hA : ∀ q, s.heap.size ≤ q → Az z q := fun q h => Nat.le_trans hz h
  have hS : va_S (Az z) s.heap s.heap [] := va_S.rf
  have hF : Fr t ws ws := Fr.rf
  have hn : nul ws ≤ nul ws := Nat.le_refl _
  have hl := lv_entry ([.ref (a 0), .ref (a 1), .ref c9, .int x9, .int y9, .int w9]) (n := 6) (Nat.le_of_ble_eq_true rfl)
  rw [lg_entry_eq]
  generalize (lg_sl ([.ref (a 0), .ref (a 1), .ref c9, .int x9, .int y9, .int w9]) ++ List.replicate (6 - (lg_sl ([.ref (a 0), .ref (a 1), .ref c9, .int x9, .int y9, .int w9])).length) Slot.unset).toArray = ls at hl ⊢
  have hl : lv_has ls 6 [(0, .ref (a 0)), (1, .ref (a 1)), (2, .ref c9), (3, .int x9), (4, .int y9), (5, .int w9)] := hl
  refine W.widen (k := Kc ws ws) (n := Ks ws ws) (Nat.zero_le _) (Nat.zero_le _) ?_
  refine lv_aload_n hx hb d_S_write_0 rfl (lv_at hl 1 rfl) ?_
  refine lv_iload_n hx hb d_S_write_1 rfl (lv_at hl 3 rfl) ?_
  refine lv_aload_n hx hb d_S_write_2 rfl (lv_at hl 2 rfl) ?_
  refine lv_aload_n hx hb d_S_write_3 rfl (lv_at hl 0 rfl) ?_
  refine va_get (D := D) (ci := 5) (v := .ref (a 8)) (C := R_S) (T := F_S) (N := 10) hx hb hts ws_S hown hK hP 0 hI.x rfl 3 (by decide) (hts _ fl_S_32) (fun _ h9 => h9) rfl d_S_write_4 ?_
  refine lv_iload hx hb d_S_write_7 (lv_at hl 5 rfl) ?_
  refine lv_iload hx hb d_S_write_9 (lv_at hl 4 rfl) ?_
  refine mu_V (n := 2) (As := [.int w9, .int y9]) (rest := [.ref c9, .int x9, .ref (a 1)]) ⟨hx, hb, hml, hown, hts⟩ (c_U_through (D := D) (t := t) (z := z) (sa := sa) (ws := ws) (x9 := w9) (y9 := y9) (n := N) hI hyN (by omega)) ml_S_227 im_U_bytesThrough se_U_bytesThrough in_U cd_U_bytesThrough (by decide +kernel) ⟨Nat.le_of_ble_eq_true rfl, Nat.le_of_ble_eq_true rfl⟩ (va_recv hK hP (ci := 2) rfl hI.u8) (Pz_at hP hK hD hz hM hS) rfl hl.1 rfl (Nat.le_of_ble_eq_true rfl) d_S_write_11 ⟨by show 2 * (nul ws - nul ws) + (2 * nul ws + 1) ≤ 2 * nul ws + 1; omega, by show 257 * (nul ws - nul ws) + (257 * nul ws + 6) ≤ 257 * nul ws + 6; omega⟩ hS (fun _ _ _ _ _ _ h => h.elim) (fun r9 u1 H locs hp hP hD hS => ?_)
  obtain ⟨vT, hI, hF9, hn9, ⟨m9, hm1, hr9, hm2⟩, nT, hoT⟩ := hp
  subst hr9
  have hF := hF.trans hF9
  have hBA := hBA.go hF9
  have hn : nul u1 ≤ nul ws := by omega
  refine W.widen (k := Kc ws u1) (n := Ks ws u1) (by show 2 * (nul ws - nul ws) + 2 * (nul ws - nul u1) ≤ 2 * (nul ws - nul u1); omega) (by show 257 * (nul ws - nul ws) + 257 * (nul ws - nul u1) ≤ 257 * (nul ws - nul u1); omega) ?_
  refine W.eq (g2 := F0 m 14 ls [.int (nI m9), .ref c9, .int x9, .ref (a 1)]) rfl ?_
  refine mu_V (n := 3) (As := [.int x9, .ref c9, .int (nI m9)]) (rest := []) ⟨hx, hb, hml, hown, hts⟩ (c_Y_write_f (D := D) (t := t) (z := z) (sa := sa) (ws := u1) (A := A) (N := m9) (L := L) hI hxA rfl (by omega) hBA (by omega) hL31) ml_S_231 im_Y_write se_Y_write in_Y cd_Y_write (by decide +kernel) ⟨Nat.le_of_ble_eq_true rfl, Nat.le_of_ble_eq_true rfl⟩ (va_recv hK hP (ci := 3) rfl hI.y1) (Pz_at hP hK hD hz hM hS) rfl hl.1 rfl (Nat.le_of_ble_eq_true rfl) d_S_write_14 ⟨by show 2 * (nul ws - nul u1) + (2 * nul u1 + 1) ≤ 2 * nul ws + 1; omega, by show 257 * (nul ws - nul u1) + (257 * nul u1 + 6) ≤ 257 * nul ws + 6; omega⟩ hS (fun _ _ _ _ _ _ h => h.elim) (fun r9 u2 H locs hp hP hD hS => ?_)
  obtain ⟨vW, hI, hF9, hn9, hr9, nW, -⟩ := hp
  subst hr9
  have hF := hF.trans hF9
  have hn : nul u2 ≤ nul ws := by omega
  refine W.widen (k := Kc ws u2) (n := Ks ws u2) (by show 2 * (nul ws - nul u1) + 2 * (nul u1 - nul u2) ≤ 2 * (nul ws - nul u2); omega) (by show 257 * (nul ws - nul u1) + 257 * (nul u1 - nul u2) ≤ 257 * (nul ws - nul u2); omega) ?_
  refine W.eq (g2 := F0 m 17 ls []) rfl ?_
  refine lv_aload_n hx hb d_S_write_17 rfl (lv_at hl 0 rfl) ?_
  refine va_get (D := D) (ci := 5) (v := .ref (a 8)) (C := R_S) (T := F_S) (N := 10) hx hb hts ws_S hown hK hP 0 hI.x rfl 3 (by decide) (hts _ fl_S_32) (fun _ h9 => h9) rfl d_S_write_18 ?_
  refine mu_V (n := 0) (As := []) (rest := []) ⟨hx, hb, hml, hown, hts⟩ (c_U_blown (D := D) (t := t) (z := z) (sa := sa) (ws := u2)  hI ) ml_S_233 im_U_blown se_U_blown in_U cd_U_blown (by decide +kernel) ⟨Nat.le_of_ble_eq_true rfl, Nat.le_of_ble_eq_true rfl⟩ (va_recv hK hP (ci := 2) rfl hI.u8) (Pz_at hP hK hD hz hM hS) rfl hl.1 rfl (Nat.le_of_ble_eq_true rfl) d_S_write_21 ⟨by show 2 * (nul ws - nul u2) + (2 * nul u2 + 1) ≤ 2 * nul ws + 1; omega, by show 257 * (nul ws - nul u2) + (257 * nul u2 + 6) ≤ 257 * nul ws + 6; omega⟩ hS (fun _ _ _ _ _ _ h => h.elim) (fun r9 u3 H locs hp hP hD hS => ?_)
  obtain ⟨hr9, hw9⟩ := hp
  rw [hw9] at hP hD
  subst hr9
  refine W.widen (k := Kc ws u2) (n := Ks ws u2) (by rw [hw9]; show 2 * (nul ws - nul u2) + 2 * (nul u2 - nul u2) ≤ 2 * (nul ws - nul u2); omega) (by rw [hw9]; show 257 * (nul ws - nul u2) + 257 * (nul u2 - nul u2) ≤ 257 * (nul ws - nul u2); omega) ?_
  clear hw9
  refine W.eq (g2 := F0 m 24 ls [.int (vW 10)]) rfl ?_
  refine lv_if_ne (tgt := 31) hx hb d_S_write_24 rfl (fun q4 => ?_) (fun q4 => ?_)
  · skip
    refine lv_iconst (v := 0) hx hb d_S_write_31 (by decide) ?_
    refine mu_end (u := u2) (v := (some (.int 0))) ⟨_, _, hI, hF, hn, rfl, by decide, fun i h1 h2 h3 => (nW i h1).trans (nT i h2 h3)⟩ (Nat.le_refl _) (Nat.le_refl _) ?_
    exact W.zret (v := 0) (ty := .boolean) hx hb hr rfl (fun t9 ht hW => ⟨rfl, ⟨by rw [ht]; exact hP, va_K.moved hW.alike hK, hD, by rw [ht]; exact Nat.le_trans hz hS.1⟩, hS.F ht⟩) hS.2.2 d_S_write_32
  · skip
    refine lv_iconst (v := 1) hx hb d_S_write_27 (by decide) ?_
    refine lv_goto (tgt := 32) hx hb d_S_write_28 rfl ?_
    refine mu_end (u := u2) (v := (some (.int 1))) ⟨_, _, hI, hF, hn, rfl, by decide, fun i h1 h2 h3 => (nW i h1).trans (nT i h2 h3)⟩ (Nat.le_refl _) (Nat.le_refl _) ?_
    exact W.zret (v := 1) (ty := .boolean) hx hb hr rfl (fun t9 ht hW => ⟨rfl, ⟨by rw [ht]; exact hP, va_K.moved hW.alike hK, hD, by rw [ht]; exact Nat.le_trans hz hS.1⟩, hS.F ht⟩) hS.2.2 d_S_write_32
set_option maxHeartbeats 4000000 in
set_option maxRecDepth 100000 in
theorem c_S_write_j {l : Launch} {D : va_G} {t : Nat → ClassId} {z : Nat} {sa : Nat → Nat} {ws : va_W} {a : Nat → Nat} {k0 : Nat} {v : Nat → Int32} {x9 y9 w9 : Int32} {c9 A N L : Nat} (hI : Iv a t k0 v ws) (hxA : x9 = nI A) (hyN : y9 = nI N) (hAN : A + N ≤ 199684) (hBA : BA t ws c9 L) (hNL : N ≤ L) (hL31 : L ≤ 260) (hA4 : 4 ≤ A) (hJ4 : 4 ≤ v 6) : Mu l y_S_write (Cond.code y_S_write b_S_write 6 (some .boolean) :: WS) ({ frames := 4, cells := 2 * nul ws + 1, slots := 257 * nul ws + 6, locals := 78 }) D t z sa ws [.ref (a 0), .ref (a 4), .ref c9, .int x9, .int y9, .int w9] (fun r u => ∃ v1 y, Iv a t k0 v1 u ∧ Fr t ws u ∧ nul u ≤ nul ws ∧ r = some (.int y) ∧ (y = 0 ∨ y = 1) ∧ ∃ (F m : Nat), F ≤ 199684 ∧ m ≤ N ∧ v 6 = nI F ∧ v1 6 = nI (max F (A + m))) Xno (Kc ws) (Ks ws) := by
  refine mu_ofW (cc := b_S_write) (maxL := 6) (ret := (some .boolean)) (by decide) rfl ?_
  intro p e s m args below meth c s₁ B hml hno hv
  obtain ⟨rfl, ⟨hP, hK, hD, hz⟩, hM⟩ := hv
  have hx := B.exec
  have hb := B.bytes
  have hr := B.returns
  have hts : ∀ w ∈ WS, w.before [.ref (a 0), .ref (a 4), .ref c9, .int x9, .int y9, .int w9].toArray s = true := fun w h => atoms_spec B.pre w (List.mem_cons_of_mem _ h)
  have hown : s.vm.findClass R_S = some m.cls := findClass_of_methodNamed B.named
  have hlocks := B.notSynchronized
  have hA : ∀ q, s.heap.size ≤ q → Az z q := fun q h => Nat.le_trans hz h
  have hS : va_S (Az z) s.heap s.heap [] := va_S.rf
  have hF : Fr t ws ws := Fr.rf
  have hn : nul ws ≤ nul ws := Nat.le_refl _
  have hl := lv_entry ([.ref (a 0), .ref (a 4), .ref c9, .int x9, .int y9, .int w9]) (n := 6) (Nat.le_of_ble_eq_true rfl)
  rw [lg_entry_eq]
  generalize (lg_sl ([.ref (a 0), .ref (a 4), .ref c9, .int x9, .int y9, .int w9]) ++ List.replicate (6 - (lg_sl ([.ref (a 0), .ref (a 4), .ref c9, .int x9, .int y9, .int w9])).length) Slot.unset).toArray = ls at hl ⊢
  have hl : lv_has ls 6 [(0, .ref (a 0)), (1, .ref (a 4)), (2, .ref c9), (3, .int x9), (4, .int y9), (5, .int w9)] := hl
  refine W.widen (k := Kc ws ws) (n := Ks ws ws) (Nat.zero_le _) (Nat.zero_le _) ?_
  refine lv_aload_n hx hb d_S_write_0 rfl (lv_at hl 1 rfl) ?_
  refine lv_iload_n hx hb d_S_write_1 rfl (lv_at hl 3 rfl) ?_
  refine lv_aload_n hx hb d_S_write_2 rfl (lv_at hl 2 rfl) ?_
  refine lv_aload_n hx hb d_S_write_3 rfl (lv_at hl 0 rfl) ?_
  refine va_get (D := D) (ci := 5) (v := .ref (a 8)) (C := R_S) (T := F_S) (N := 10) hx hb hts ws_S hown hK hP 0 hI.x rfl 3 (by decide) (hts _ fl_S_32) (fun _ h9 => h9) rfl d_S_write_4 ?_
  refine lv_iload hx hb d_S_write_7 (lv_at hl 5 rfl) ?_
  refine lv_iload hx hb d_S_write_9 (lv_at hl 4 rfl) ?_
  refine mu_V (n := 2) (As := [.int w9, .int y9]) (rest := [.ref c9, .int x9, .ref (a 4)]) ⟨hx, hb, hml, hown, hts⟩ (c_U_through (D := D) (t := t) (z := z) (sa := sa) (ws := ws) (x9 := w9) (y9 := y9) (n := N) hI hyN (by omega)) ml_S_227 im_U_bytesThrough se_U_bytesThrough in_U cd_U_bytesThrough (by decide +kernel) ⟨Nat.le_of_ble_eq_true rfl, Nat.le_of_ble_eq_true rfl⟩ (va_recv hK hP (ci := 2) rfl hI.u8) (Pz_at hP hK hD hz hM hS) rfl hl.1 rfl (Nat.le_of_ble_eq_true rfl) d_S_write_11 ⟨by show 2 * (nul ws - nul ws) + (2 * nul ws + 1) ≤ 2 * nul ws + 1; omega, by show 257 * (nul ws - nul ws) + (257 * nul ws + 6) ≤ 257 * nul ws + 6; omega⟩ hS (fun _ _ _ _ _ _ h => h.elim) (fun r9 u1 H locs hp hP hD hS => ?_)
  obtain ⟨vT, hI, hF9, hn9, ⟨m9, hm1, hr9, hm2⟩, nT, hoT⟩ := hp
  subst hr9
  have hF := hF.trans hF9
  have hBA := hBA.go hF9
  have hn : nul u1 ≤ nul ws := by omega
  refine W.widen (k := Kc ws u1) (n := Ks ws u1) (by show 2 * (nul ws - nul ws) + 2 * (nul ws - nul u1) ≤ 2 * (nul ws - nul u1); omega) (by show 257 * (nul ws - nul ws) + 257 * (nul ws - nul u1) ≤ 257 * (nul ws - nul u1); omega) ?_
  refine W.eq (g2 := F0 m 14 ls [.int (nI m9), .ref c9, .int x9, .ref (a 4)]) rfl ?_
  refine mu_V (n := 3) (As := [.int x9, .ref c9, .int (nI m9)]) (rest := []) ⟨hx, hb, hml, hown, hts⟩ (c_Y_write_j (D := D) (t := t) (z := z) (sa := sa) (ws := u1) (A := A) (N := m9) (L := L) hI hxA rfl (by omega) hBA (by omega) hL31 hA4 (by rw [nT 6 (by decide) (by decide)]; exact hJ4)) ml_S_231 im_Y_write se_Y_write in_Y cd_Y_write (by decide +kernel) ⟨Nat.le_of_ble_eq_true rfl, Nat.le_of_ble_eq_true rfl⟩ (va_recv hK hP (ci := 3) rfl hI.y4) (Pz_at hP hK hD hz hM hS) rfl hl.1 rfl (Nat.le_of_ble_eq_true rfl) d_S_write_14 ⟨by show 2 * (nul ws - nul u1) + (2 * nul u1 + 1) ≤ 2 * nul ws + 1; omega, by show 257 * (nul ws - nul u1) + (257 * nul u1 + 6) ≤ 257 * nul ws + 6; omega⟩ hS (fun _ _ _ _ _ _ h => h.elim) (fun r9 u2 H locs hp hP hD hS => ?_)
  obtain ⟨vW, hI, hF9, hn9, hr9, nW, F8, hF1, hF2, hF3⟩ := hp
  subst hr9
  have hF := hF.trans hF9
  have hn : nul u2 ≤ nul ws := by omega
  refine W.widen (k := Kc ws u2) (n := Ks ws u2) (by show 2 * (nul ws - nul u1) + 2 * (nul u1 - nul u2) ≤ 2 * (nul ws - nul u2); omega) (by show 257 * (nul ws - nul u1) + 257 * (nul u1 - nul u2) ≤ 257 * (nul ws - nul u2); omega) ?_
  refine W.eq (g2 := F0 m 17 ls []) rfl ?_
  refine lv_aload_n hx hb d_S_write_17 rfl (lv_at hl 0 rfl) ?_
  refine va_get (D := D) (ci := 5) (v := .ref (a 8)) (C := R_S) (T := F_S) (N := 10) hx hb hts ws_S hown hK hP 0 hI.x rfl 3 (by decide) (hts _ fl_S_32) (fun _ h9 => h9) rfl d_S_write_18 ?_
  refine mu_V (n := 0) (As := []) (rest := []) ⟨hx, hb, hml, hown, hts⟩ (c_U_blown (D := D) (t := t) (z := z) (sa := sa) (ws := u2)  hI ) ml_S_233 im_U_blown se_U_blown in_U cd_U_blown (by decide +kernel) ⟨Nat.le_of_ble_eq_true rfl, Nat.le_of_ble_eq_true rfl⟩ (va_recv hK hP (ci := 2) rfl hI.u8) (Pz_at hP hK hD hz hM hS) rfl hl.1 rfl (Nat.le_of_ble_eq_true rfl) d_S_write_21 ⟨by show 2 * (nul ws - nul u2) + (2 * nul u2 + 1) ≤ 2 * nul ws + 1; omega, by show 257 * (nul ws - nul u2) + (257 * nul u2 + 6) ≤ 257 * nul ws + 6; omega⟩ hS (fun _ _ _ _ _ _ h => h.elim) (fun r9 u3 H locs hp hP hD hS => ?_)
  obtain ⟨hr9, hw9⟩ := hp
  rw [hw9] at hP hD
  subst hr9
  refine W.widen (k := Kc ws u2) (n := Ks ws u2) (by rw [hw9]; show 2 * (nul ws - nul u2) + 2 * (nul u2 - nul u2) ≤ 2 * (nul ws - nul u2); omega) (by rw [hw9]; show 257 * (nul ws - nul u2) + 257 * (nul u2 - nul u2) ≤ 257 * (nul ws - nul u2); omega) ?_
  clear hw9
  refine W.eq (g2 := F0 m 24 ls [.int (vW 10)]) rfl ?_
  refine lv_if_ne (tgt := 31) hx hb d_S_write_24 rfl (fun q4 => ?_) (fun q4 => ?_)
  · skip
    refine lv_iconst (v := 0) hx hb d_S_write_31 (by decide) ?_
    refine mu_end (u := u2) (v := (some (.int 0))) ⟨_, _, hI, hF, hn, rfl, by decide, F8, m9, hF1, hm1, (nT 6 (by decide) (by decide)).symm.trans hF2, hF3⟩ (Nat.le_refl _) (Nat.le_refl _) ?_
    exact W.zret (v := 0) (ty := .boolean) hx hb hr rfl (fun t9 ht hW => ⟨rfl, ⟨by rw [ht]; exact hP, va_K.moved hW.alike hK, hD, by rw [ht]; exact Nat.le_trans hz hS.1⟩, hS.F ht⟩) hS.2.2 d_S_write_32
  · skip
    refine lv_iconst (v := 1) hx hb d_S_write_27 (by decide) ?_
    refine lv_goto (tgt := 32) hx hb d_S_write_28 rfl ?_
    refine mu_end (u := u2) (v := (some (.int 1))) ⟨_, _, hI, hF, hn, rfl, by decide, F8, m9, hF1, hm1, (nT 6 (by decide) (by decide)).symm.trans hF2, hF3⟩ (Nat.le_refl _) (Nat.le_refl _) ?_
    exact W.zret (v := 1) (ty := .boolean) hx hb hr rfl (fun t9 ht hW => ⟨rfl, ⟨by rw [ht]; exact hP, va_K.moved hW.alike hK, hD, by rw [ht]; exact Nat.le_trans hz hS.1⟩, hS.F ht⟩) hS.2.2 d_S_write_32
set_option maxHeartbeats 4000000 in
set_option maxRecDepth 100000 in
theorem c_S_write_n {l : Launch} {D : va_G} {t : Nat → ClassId} {z : Nat} {sa : Nat → Nat} {ws : va_W} {a : Nat → Nat} {k0 : Nat} {v : Nat → Int32} {x9 y9 w9 : Int32} {nn : Nat} {r0 : Nat → Int32} (hI : Iv a t k0 v ws) (hxA : x9 = nI 0) (hyN : y9 = nI 4) (hv6 : v 6 = 0) (hr0 : ws[9]? = some (a 9, .inl (t 0, 260, .inl r0))) (hrb : ∀ i, i < 4 → r0 i = byt nn i) (hnn : nn ≤ 768) : Mu l y_S_write (Cond.code y_S_write b_S_write 6 (some .boolean) :: WS) ({ frames := 4, cells := 2 * nul ws + 1, slots := 257 * nul ws + 6, locals := 78 }) D t z sa ws [.ref (a 0), .ref (a 4), .ref (a 9), .int x9, .int y9, .int w9] (fun r u => ∃ k1 v1 y, Iv a t k1 v1 u ∧ Fr t ws u ∧ nul u ≤ nul ws ∧ r = some (.int y) ∧ (y = 0 ∨ y = 1) ∧ (¬ y = 0 → v1 6 = nI 4)) Xno (Kc ws) (Ks ws) := by
  refine mu_ofW (cc := b_S_write) (maxL := 6) (ret := (some .boolean)) (by decide) rfl ?_
  intro p e s m args below meth c s₁ B hml hno hv
  obtain ⟨rfl, ⟨hP, hK, hD, hz⟩, hM⟩ := hv
  have hx := B.exec
  have hb := B.bytes
  have hr := B.returns
  have hts : ∀ w ∈ WS, w.before [.ref (a 0), .ref (a 4), .ref (a 9), .int x9, .int y9, .int w9].toArray s = true := fun w h => atoms_spec B.pre w (List.mem_cons_of_mem _ h)
  have hown : s.vm.findClass R_S = some m.cls := findClass_of_methodNamed B.named
  have hlocks := B.notSynchronized
  have hA : ∀ q, s.heap.size ≤ q → Az z q := fun q h => Nat.le_trans hz h
  have hS : va_S (Az z) s.heap s.heap [] := va_S.rf
  have hF : Fr t ws ws := Fr.rf
  have hn : nul ws ≤ nul ws := Nat.le_refl _
  have hl := lv_entry ([.ref (a 0), .ref (a 4), .ref (a 9), .int x9, .int y9, .int w9]) (n := 6) (Nat.le_of_ble_eq_true rfl)
  rw [lg_entry_eq]
  generalize (lg_sl ([.ref (a 0), .ref (a 4), .ref (a 9), .int x9, .int y9, .int w9]) ++ List.replicate (6 - (lg_sl ([.ref (a 0), .ref (a 4), .ref (a 9), .int x9, .int y9, .int w9])).length) Slot.unset).toArray = ls at hl ⊢
  have hl : lv_has ls 6 [(0, .ref (a 0)), (1, .ref (a 4)), (2, .ref (a 9)), (3, .int x9), (4, .int y9), (5, .int w9)] := hl
  refine W.widen (k := Kc ws ws) (n := Ks ws ws) (Nat.zero_le _) (Nat.zero_le _) ?_
  refine lv_aload_n hx hb d_S_write_0 rfl (lv_at hl 1 rfl) ?_
  refine lv_iload_n hx hb d_S_write_1 rfl (lv_at hl 3 rfl) ?_
  refine lv_aload_n hx hb d_S_write_2 rfl (lv_at hl 2 rfl) ?_
  refine lv_aload_n hx hb d_S_write_3 rfl (lv_at hl 0 rfl) ?_
  refine va_get (D := D) (ci := 5) (v := .ref (a 8)) (C := R_S) (T := F_S) (N := 10) hx hb hts ws_S hown hK hP 0 hI.x rfl 3 (by decide) (hts _ fl_S_32) (fun _ h9 => h9) rfl d_S_write_4 ?_
  refine lv_iload hx hb d_S_write_7 (lv_at hl 5 rfl) ?_
  refine lv_iload hx hb d_S_write_9 (lv_at hl 4 rfl) ?_
  refine mu_V (n := 2) (As := [.int w9, .int y9]) (rest := [.ref (a 9), .int x9, .ref (a 4)]) ⟨hx, hb, hml, hown, hts⟩ (c_U_through (D := D) (t := t) (z := z) (sa := sa) (ws := ws) (x9 := w9) (y9 := y9) (n := 4) hI hyN (by omega)) ml_S_227 im_U_bytesThrough se_U_bytesThrough in_U cd_U_bytesThrough (by decide +kernel) ⟨Nat.le_of_ble_eq_true rfl, Nat.le_of_ble_eq_true rfl⟩ (va_recv hK hP (ci := 2) rfl hI.u8) (Pz_at hP hK hD hz hM hS) rfl hl.1 rfl (Nat.le_of_ble_eq_true rfl) d_S_write_11 ⟨by show 2 * (nul ws - nul ws) + (2 * nul ws + 1) ≤ 2 * nul ws + 1; omega, by show 257 * (nul ws - nul ws) + (257 * nul ws + 6) ≤ 257 * nul ws + 6; omega⟩ hS (fun _ _ _ _ _ _ h => h.elim) (fun r9 u1 H locs hp hP hD hS => ?_)
  obtain ⟨vT, hI, hF9, hn9, ⟨m9, hm1, hr9, hm2⟩, nT, hoT⟩ := hp
  subst hr9
  have hF := hF.trans hF9
  have hr0 := (hoT 9 (by decide)).trans hr0
  have hn : nul u1 ≤ nul ws := by omega
  refine W.widen (k := Kc ws u1) (n := Ks ws u1) (by show 2 * (nul ws - nul ws) + 2 * (nul ws - nul u1) ≤ 2 * (nul ws - nul u1); omega) (by show 257 * (nul ws - nul ws) + 257 * (nul ws - nul u1) ≤ 257 * (nul ws - nul u1); omega) ?_
  refine W.eq (g2 := F0 m 14 ls [.int (nI m9), .ref (a 9), .int x9, .ref (a 4)]) rfl ?_
  refine mu_V (n := 3) (As := [.int x9, .ref (a 9), .int (nI m9)]) (rest := []) ⟨hx, hb, hml, hown, hts⟩ (c_Y_write_n (D := D) (t := t) (z := z) (sa := sa) (ws := u1) (N := m9) (nn := nn) hI hxA rfl hm1 (by rw [nT 6 (by decide) (by decide)]; exact hv6) hr0 hrb hnn) ml_S_231 im_Y_write se_Y_write in_Y cd_Y_write (by decide +kernel) ⟨Nat.le_of_ble_eq_true rfl, Nat.le_of_ble_eq_true rfl⟩ (va_recv hK hP (ci := 3) rfl hI.y4) (Pz_at hP hK hD hz hM hS) rfl hl.1 rfl (Nat.le_of_ble_eq_true rfl) d_S_write_14 ⟨by show 2 * (nul ws - nul u1) + (2 * nul u1 + 1) ≤ 2 * nul ws + 1; omega, by show 257 * (nul ws - nul u1) + (257 * nul u1 + 6) ≤ 257 * nul ws + 6; omega⟩ hS (fun _ _ _ _ _ _ h => h.elim) (fun r9 u2 H locs hp hP hD hS => ?_)
  obtain ⟨kW, vW, hI, hF9, hn9, hr9, nW, hW6⟩ := hp
  subst hr9
  have hF := hF.trans hF9
  have hn : nul u2 ≤ nul ws := by omega
  refine W.widen (k := Kc ws u2) (n := Ks ws u2) (by show 2 * (nul ws - nul u1) + 2 * (nul u1 - nul u2) ≤ 2 * (nul ws - nul u2); omega) (by show 257 * (nul ws - nul u1) + 257 * (nul u1 - nul u2) ≤ 257 * (nul ws - nul u2); omega) ?_
  refine W.eq (g2 := F0 m 17 ls []) rfl ?_
  refine lv_aload_n hx hb d_S_write_17 rfl (lv_at hl 0 rfl) ?_
  refine va_get (D := D) (ci := 5) (v := .ref (a 8)) (C := R_S) (T := F_S) (N := 10) hx hb hts ws_S hown hK hP 0 hI.x rfl 3 (by decide) (hts _ fl_S_32) (fun _ h9 => h9) rfl d_S_write_18 ?_
  refine mu_V (n := 0) (As := []) (rest := []) ⟨hx, hb, hml, hown, hts⟩ (c_U_blown (D := D) (t := t) (z := z) (sa := sa) (ws := u2)  hI ) ml_S_233 im_U_blown se_U_blown in_U cd_U_blown (by decide +kernel) ⟨Nat.le_of_ble_eq_true rfl, Nat.le_of_ble_eq_true rfl⟩ (va_recv hK hP (ci := 2) rfl hI.u8) (Pz_at hP hK hD hz hM hS) rfl hl.1 rfl (Nat.le_of_ble_eq_true rfl) d_S_write_21 ⟨by show 2 * (nul ws - nul u2) + (2 * nul u2 + 1) ≤ 2 * nul ws + 1; omega, by show 257 * (nul ws - nul u2) + (257 * nul u2 + 6) ≤ 257 * nul ws + 6; omega⟩ hS (fun _ _ _ _ _ _ h => h.elim) (fun r9 u3 H locs hp hP hD hS => ?_)
  obtain ⟨hr9, hw9⟩ := hp
  rw [hw9] at hP hD
  subst hr9
  refine W.widen (k := Kc ws u2) (n := Ks ws u2) (by rw [hw9]; show 2 * (nul ws - nul u2) + 2 * (nul u2 - nul u2) ≤ 2 * (nul ws - nul u2); omega) (by rw [hw9]; show 257 * (nul ws - nul u2) + 257 * (nul u2 - nul u2) ≤ 257 * (nul ws - nul u2); omega) ?_
  clear hw9
  refine W.eq (g2 := F0 m 24 ls [.int (vW 10)]) rfl ?_
  refine lv_if_ne (tgt := 31) hx hb d_S_write_24 rfl (fun q4 => ?_) (fun q4 => ?_)
  · skip
    refine lv_iconst (v := 0) hx hb d_S_write_31 (by decide) ?_
    refine mu_end (u := u2) (v := (some (.int 0))) ⟨_, _, _, hI, hF, hn, rfl, by decide, fun h => absurd rfl h⟩ (Nat.le_refl _) (Nat.le_refl _) ?_
    exact W.zret (v := 0) (ty := .boolean) hx hb hr rfl (fun t9 ht hW => ⟨rfl, ⟨by rw [ht]; exact hP, va_K.moved hW.alike hK, hD, by rw [ht]; exact Nat.le_trans hz hS.1⟩, hS.F ht⟩) hS.2.2 d_S_write_32
  · skip
    refine lv_iconst (v := 1) hx hb d_S_write_27 (by decide) ?_
    refine lv_goto (tgt := 32) hx hb d_S_write_28 rfl ?_
    refine mu_end (u := u2) (v := (some (.int 1))) ⟨_, _, _, hI, hF, hn, rfl, by decide, fun _ => by rw [hW6]; exact congrArg nI (hm2.elim id (fun h => absurd (by assumption : vW 10 = 0) (by rw [nW 10 (by decide), h]; decide)))⟩ (Nat.le_refl _) (Nat.le_refl _) ?_
    exact W.zret (v := 1) (ty := .boolean) hx hb hr rfl (fun t9 ht hW => ⟨rfl, ⟨by rw [ht]; exact hP, va_K.moved hW.alike hK, hD, by rw [ht]; exact Nat.le_trans hz hS.1⟩, hS.F ht⟩) hS.2.2 d_S_write_32
set_option maxHeartbeats 4000000 in
set_option maxRecDepth 100000 in
theorem c_S_writeJournal {l : Launch} {D : va_G} {t : Nat → ClassId} {z : Nat} {sa : Nat → Nat} {ws : va_W} {a : Nat → Nat} {k0 : Nat} {v : Nat → Int32}  (hI : Iv a t k0 v ws) (hv6 : v 6 = 0) : Mu l y_S_writeJournal (Cond.code y_S_writeJournal b_S_writeJournal 4 (some .boolean) :: WS) ({ frames := 5, cells := 2 * nul ws + 1, slots := 257 * nul ws + 6, locals := 103 }) D t z sa ws [.ref (a 0)] (fun r u => ∃ k1 v1 y, Iv a t k1 v1 u ∧ Fr t ws u ∧ nul u ≤ nul ws ∧ r = some (.int y) ∧ (y = 0 ∨ y = 1)) Xno (Kc ws) (Ks ws) := by
  refine mu_ofW (cc := b_S_writeJournal) (maxL := 4) (ret := (some .boolean)) (by decide) rfl ?_
  intro p e s m args below meth c s₁ B hml hno hv
  obtain ⟨rfl, ⟨hP, hK, hD, hz⟩, hM⟩ := hv
  have hx := B.exec
  have hb := B.bytes
  have hr := B.returns
  have hts : ∀ w ∈ WS, w.before [.ref (a 0)].toArray s = true := fun w h => atoms_spec B.pre w (List.mem_cons_of_mem _ h)
  have hown : s.vm.findClass R_S = some m.cls := findClass_of_methodNamed B.named
  have hlocks := B.notSynchronized
  have hA : ∀ q, s.heap.size ≤ q → Az z q := fun q h => Nat.le_trans hz h
  have hS : va_S (Az z) s.heap s.heap [] := va_S.rf
  have hF : Fr t ws ws := Fr.rf
  have hn : nul ws ≤ nul ws := Nat.le_refl _
  have hl := lv_entry ([.ref (a 0)]) (n := 4) (Nat.le_of_ble_eq_true rfl)
  rw [lg_entry_eq]
  generalize (lg_sl ([.ref (a 0)]) ++ List.replicate (4 - (lg_sl ([.ref (a 0)])).length) Slot.unset).toArray = ls at hl ⊢
  have hl : lv_has ls 4 [(0, .ref (a 0))] := hl
  refine W.widen (k := Kc ws ws) (n := Ks ws ws) (Nat.zero_le _) (Nat.zero_le _) ?_
  refine lv_aload_n hx hb d_S_writeJournal_0 rfl (lv_at hl 0 rfl) ?_
  refine va_get (D := D) (ci := 5) (v := .ref (a 7)) (C := R_S) (T := F_S) (N := 10) hx hb hts ws_S hown hK hP 0 hI.x rfl 2 (by decide) (hts _ fl_S_25) (fun _ h9 => h9) rfl d_S_writeJournal_1 ?_
  refine lv_iconst (v := 0) hx hb d_S_writeJournal_4 (by decide) ?_
  have h0 : 0 < 6 := by decide
  obtain ⟨gl, e7, g7⟩ := hI.l7
  refine va_aldq (D := D) hx hb hK hP 7 3 e7 rfl (i := 0) (by unfold vp_in; decide) d_S_writeJournal_5 ?_
  refine W.eq (g2 := F0 m 6 ls [.ref (a (10 + 4 * 0))]) (by rw [cl0, g7 0 h0]; rfl) ?_
  refine lv_aload_n hx hb d_S_writeJournal_6 rfl (lv_at hl 0 rfl) ?_
  refine va_get (D := D) (ci := 5) (v := .int (v 3)) (C := R_S) (T := F_S) (N := 10) hx hb hts ws_S hown hK hP 0 hI.x rfl 8 (by decide) (hts _ fl_S_51) (fun _ h9 => h9) rfl d_S_writeJournal_7 ?_
  obtain ⟨P9, hP8, hP9⟩ := hI.bd.2.1
  refine mu_V (n := 1) (As := [.int (v 3)]) (rest := []) ⟨hx, hb, hml, hown, hts⟩ (c_Z_holdsAny (D := D) (t := t) (z := z) (sa := sa) (ws := ws) (j := 0) (bl := v 3) (P9 := P9) hI h0 hP8 hP9) ml_S_209 im_Z_holdsAny se_Z_holdsAny in_Z cd_Z_holdsAny (by decide +kernel) ⟨Nat.le_of_ble_eq_true rfl, Nat.le_of_ble_eq_true rfl⟩ (va_recv hK hP (ci := 4) rfl (hI.z h0)) (Pz_at hP hK hD hz hM hS) rfl hl.1 rfl (Nat.le_of_ble_eq_true rfl) d_S_writeJournal_10 ⟨by show 2 * (nul ws - nul ws) + (2 * nul ws + 1) ≤ 2 * nul ws + 1; omega, by show 257 * (nul ws - nul ws) + (257 * nul ws + 6) ≤ 257 * nul ws + 6; omega⟩ hS (fun _ _ _ _ _ _ h => h.elim) (fun r9 u1 H locs hp hP hD hS => ?_)
  obtain ⟨ya, hr9, hw9, ha01⟩ := hp
  rw [hw9] at hP hD
  subst hr9
  refine W.widen (k := Kc ws ws) (n := Ks ws ws) (by rw [hw9]; show 2 * (nul ws - nul ws) + 2 * (nul ws - nul ws) ≤ 2 * (nul ws - nul ws); omega) (by rw [hw9]; show 257 * (nul ws - nul ws) + 257 * (nul ws - nul ws) ≤ 257 * (nul ws - nul ws); omega) ?_
  clear hw9
  refine W.eq (g2 := F0 m 13 ls [.int ya]) rfl ?_
  refine lv_if_ne (tgt := 18) hx hb d_S_writeJournal_13 rfl (fun q2 => ?_) (fun q2 => ?_)
  · skip
    refine lv_aload_n hx hb d_S_writeJournal_18 rfl (lv_at hl 0 rfl) ?_
    refine mu_V (n := 0) (As := []) (rest := []) ⟨hx, hb, hml, hown, hts⟩ (c_S_pagesInFile (D := D) (t := t) (z := z) (sa := sa) (ws := ws)  hI ) ml_S_195 im_S_pagesInFile se_S_pagesInFile in_S cd_S_pagesInFile (by decide +kernel) ⟨Nat.le_of_ble_eq_true rfl, Nat.le_of_ble_eq_true rfl⟩ (va_recv hK hP (ci := 5) rfl hI.x) (Pz_at hP hK hD hz hM hS) rfl hl.1 rfl (Nat.le_of_ble_eq_true rfl) d_S_writeJournal_19 ⟨by show 2 * (nul ws - nul ws) + (2 * nul ws + 1) ≤ 2 * nul ws + 1; omega, by show 257 * (nul ws - nul ws) + (257 * nul ws + 6) ≤ 257 * nul ws + 6; omega⟩ hS (fun _ _ _ _ _ _ h => h.elim) (fun r9 u3 H locs hp hP hD hS => ?_)
    obtain ⟨yc, hr9, hw9, C9, hC8, hC9⟩ := hp
    rw [hw9] at hP hD
    subst hr9
    refine W.widen (k := Kc ws ws) (n := Ks ws ws) (by rw [hw9]; show 2 * (nul ws - nul ws) + 2 * (nul ws - nul ws) ≤ 2 * (nul ws - nul ws); omega) (by rw [hw9]; show 257 * (nul ws - nul ws) + 257 * (nul ws - nul ws) ≤ 257 * (nul ws - nul ws); omega) ?_
    clear hw9
    refine W.eq (g2 := F0 m 22 ls [.int yc]) rfl ?_
    refine lv_istore_n (lv' := [(1, .int yc), (0, .ref (a 0))]) hx hb d_S_writeJournal_22 rfl hl (by decide) rfl (fun ls hl => ?_)
    refine lv_aload_n hx hb d_S_writeJournal_23 rfl (lv_at hl 1 rfl) ?_
    refine lv_iload_n hx hb d_S_writeJournal_24 rfl (lv_at hl 0 rfl) ?_
    refine mu_V (n := 1) (As := [.int yc]) (rest := []) ⟨hx, hb, hml, hown, hts⟩ (c_S_setNumber (D := D) (t := t) (z := z) (sa := sa) (ws := ws) (nn := C9) hI hC9) ml_S_212 im_S_setNumber se_S_setNumber in_S cd_S_setNumber (by decide +kernel) ⟨Nat.le_of_ble_eq_true rfl, Nat.le_of_ble_eq_true rfl⟩ (va_recv hK hP (ci := 5) rfl hI.x) (Pz_at hP hK hD hz hM hS) rfl hl.1 rfl (Nat.le_of_ble_eq_true rfl) d_S_writeJournal_25 ⟨by show 2 * (nul ws - nul ws) + (2 * nul ws + 1) ≤ 2 * nul ws + 1; omega, by show 257 * (nul ws - nul ws) + (257 * nul ws + 6) ≤ 257 * nul ws + 6; omega⟩ hS (fun _ _ _ _ _ _ h => h.elim) (fun r9 u4 H locs hp hP hD hS => ?_)
    obtain ⟨hI, hF9, hn9, hr9, r0, hr0, hrb⟩ := hp
    subst hr9
    have hF := hF.trans hF9
    have hn : nul u4 ≤ nul ws := by omega
    refine W.widen (k := Kc ws u4) (n := Ks ws u4) (by show 2 * (nul ws - nul ws) + 2 * (nul ws - nul u4) ≤ 2 * (nul ws - nul u4); omega) (by show 257 * (nul ws - nul ws) + 257 * (nul ws - nul u4) ≤ 257 * (nul ws - nul u4); omega) ?_
    refine W.eq (g2 := F0 m 28 ls []) rfl ?_
    refine lv_aload_n hx hb d_S_writeJournal_28 rfl (lv_at hl 1 rfl) ?_
    refine lv_aload_n hx hb d_S_writeJournal_29 rfl (lv_at hl 1 rfl) ?_
    refine va_get (D := D) (ci := 5) (v := .ref (a 4)) (C := R_S) (T := F_S) (N := 10) hx hb hts ws_S hown hK hP 0 hI.x rfl 1 (by decide) (hts _ fl_S_20) (fun _ h9 => h9) rfl d_S_writeJournal_30 ?_
    refine lv_aload_n hx hb d_S_writeJournal_33 rfl (lv_at hl 1 rfl) ?_
    refine va_get (D := D) (ci := 5) (v := .ref (a 9)) (C := R_S) (T := F_S) (N := 10) hx hb hts ws_S hown hK hP 0 hI.x rfl 4 (by decide) (hts _ fl_S_36) (fun _ h9 => h9) rfl d_S_writeJournal_34 ?_
    refine lv_iconst (v := 0) hx hb d_S_writeJournal_37 (by decide) ?_
    refine lv_iconst (v := 4) hx hb d_S_writeJournal_38 (by decide) ?_
    refine lv_iconst (v := 0) hx hb d_S_writeJournal_39 (by decide) ?_
    refine mu_V (n := 5) (As := [.ref (a 4), .ref (a 9), .int 0, .int 4, .int 0]) (rest := []) ⟨hx, hb, hml, hown, hts⟩ (c_S_write_n (D := D) (t := t) (z := z) (sa := sa) (ws := u4) (x9 := 0) (y9 := 4) (nn := C9) hI rfl rfl hv6 hr0 hrb hC8) ml_S_215 im_S_write se_S_write in_S cd_S_write (by decide +kernel) ⟨Nat.le_of_ble_eq_true rfl, Nat.le_of_ble_eq_true rfl⟩ (va_recv hK hP (ci := 5) rfl hI.x) (Pz_at hP hK hD hz hM hS) rfl hl.1 rfl (Nat.le_of_ble_eq_true rfl) d_S_writeJournal_40 ⟨by show 2 * (nul ws - nul u4) + (2 * nul u4 + 1) ≤ 2 * nul ws + 1; omega, by show 257 * (nul ws - nul u4) + (257 * nul u4 + 6) ≤ 257 * nul ws + 6; omega⟩ hS (fun _ _ _ _ _ _ h => h.elim) (fun r9 u5 H locs hp hP hD hS => ?_)
    obtain ⟨k1, v1, y1, hI, hF9, hn9, hr9, h01y, hJ1⟩ := hp
    subst hr9
    have hF := hF.trans hF9
    have hn : nul u5 ≤ nul ws := by omega
    refine W.widen (k := Kc ws u5) (n := Ks ws u5) (by show 2 * (nul ws - nul u4) + 2 * (nul u4 - nul u5) ≤ 2 * (nul ws - nul u5); omega) (by show 257 * (nul ws - nul u4) + 257 * (nul u4 - nul u5) ≤ 257 * (nul ws - nul u5); omega) ?_
    refine W.eq (g2 := F0 m 43 ls [.int y1]) rfl ?_
    refine lv_istore_n (lv' := [(2, .int y1), (1, .int yc), (0, .ref (a 0))]) hx hb d_S_writeJournal_43 rfl hl (by decide) rfl (fun ls hl => ?_)
    refine lv_iconst (v := 0) hx hb d_S_writeJournal_44 (by decide) ?_
    refine lv_istore_n (lv' := [(3, .int 0), (2, .int y1), (1, .int yc), (0, .ref (a 0))]) hx hb d_S_writeJournal_45 rfl hl (by decide) rfl (fun ls hl => ?_)
    have key : ∀ (n9 i k9 : Nat) (v9 : Nat → Int32) (y2 : Int32) (w9 : va_W) (H : Heap) (locs : List Loc) (ls : Array Slot), i + n9 = C9 → va_P D Cl w9 H → va_D (Az z) w9 → va_S (Az z) s.heap H locs → Iv a t k9 v9 w9 → Fr t ws w9 → nul w9 ≤ nul ws → (y2 = 0 ∨ y2 = 1) → (¬ y2 = 0 → ∃ J : Nat, v9 6 = nI J ∧ 4 ≤ J ∧ J ≤ 4 + 260 * i) → lv_has ls 4 [(3, .int (nI i)), (2, .int y2), (1, .int yc), (0, .ref (a 0))] → W p l e (headSpec (Cond.code y_S_writeJournal b_S_writeJournal 4 (some .boolean) :: WS) ({ frames := 5, cells := 2 * nul ws + 1, slots := 257 * nul ws + 6, locals := 103 })).room s m [.ref (a 0)].toArray below meth c H locs (Kc ws w9) (Ks ws w9) (mu_MQ below D t z (fun r u => ∃ k1 v1 y, Iv a t k1 v1 u ∧ Fr t ws u ∧ nul u ≤ nul ws ∧ r = some (.int y) ∧ (y = 0 ∨ y = 1)) Xno (Kc ws) (Ks ws) [.ref (a 0)].toArray s) (F0 m 46 ls []) := by
      intro n9
      induction n9 with
      | zero =>
        intro i k9 v9 y2 w9 H locs ls hi9 hP hD hS hI hF hn h01y hJ1 hl
        refine lv_iload_n hx hb d_S_writeJournal_46 rfl (lv_at hl 0 rfl) ?_
        refine lv_iload_n hx hb d_S_writeJournal_47 rfl (lv_at hl 2 rfl) ?_
        refine lv_icmp_ge (tgt := 123) hx hb d_S_writeJournal_48 rfl (fun _ => ?_) (fun h => absurd (by rw [hC9]; exact nI_le (by omega) (by omega)) h)
        refine lv_iload_n hx hb d_S_writeJournal_123 rfl (lv_at hl 1 rfl) ?_
        refine mu_end (u := w9) (v := (some (.int y2))) ⟨_, _, _, hI, hF, hn, rfl, h01y⟩ (Nat.le_refl _) (Nat.le_refl _) ?_
        exact W.zret (v := y2) (ty := .boolean) hx hb hr (nar01 h01y) (fun t9 ht hW => ⟨rfl, ⟨by rw [ht]; exact hP, va_K.moved hW.alike hK, hD, by rw [ht]; exact Nat.le_trans hz hS.1⟩, hS.F ht⟩) hS.2.2 d_S_writeJournal_124
      | succ n9 ih =>
        intro i k9 v9 y2 w9 H locs ls hi9 hP hD hS hI hF hn h01y hJ1 hl
        refine lv_iload_n hx hb d_S_writeJournal_46 rfl (lv_at hl 0 rfl) ?_
        refine lv_iload_n hx hb d_S_writeJournal_47 rfl (lv_at hl 2 rfl) ?_
        refine lv_icmp_ge (tgt := 123) hx hb d_S_writeJournal_48 rfl (fun h => absurd h (by rw [hC9]; exact nI_ge (by omega) (by omega))) (fun _ => ?_)
        refine lv_iload_n hx hb d_S_writeJournal_51 rfl (lv_at hl 1 rfl) ?_
        refine lv_if_eq (tgt := 123) hx hb d_S_writeJournal_52 rfl (fun _ => ?_) (fun hy20 => ?_)
        · skip
          refine lv_iload_n hx hb d_S_writeJournal_123 rfl (lv_at hl 1 rfl) ?_
          refine mu_end (u := w9) (v := (some (.int y2))) ⟨_, _, _, hI, hF, hn, rfl, h01y⟩ (Nat.le_refl _) (Nat.le_refl _) ?_
          exact W.zret (v := y2) (ty := .boolean) hx hb hr (nar01 h01y) (fun t9 ht hW => ⟨rfl, ⟨by rw [ht]; exact hP, va_K.moved hW.alike hK, hD, by rw [ht]; exact Nat.le_trans hz hS.1⟩, hS.F ht⟩) hS.2.2 d_S_writeJournal_124
        · obtain ⟨J, hJ2, hJ3, hJ5⟩ := hJ1 hy20
          have hi : i < 768 := by omega
          refine lv_aload_n hx hb d_S_writeJournal_55 rfl (lv_at hl 3 rfl) ?_
          refine va_get (D := D) (ci := 5) (v := .ref (a 7)) (C := R_S) (T := F_S) (N := 10) hx hb hts ws_S hown hK hP 0 hI.x rfl 2 (by decide) (hts _ fl_S_25) (fun _ h9 => h9) rfl d_S_writeJournal_56 ?_
          refine lv_iconst (v := 0) hx hb d_S_writeJournal_59 (by decide) ?_
          have h0 : 0 < 6 := by decide
          obtain ⟨gl, e7, g7⟩ := hI.l7
          refine va_aldq (D := D) hx hb hK hP 7 3 e7 rfl (i := 0) (by unfold vp_in; decide) d_S_writeJournal_60 ?_
          refine W.eq (g2 := F0 m 61 ls [.ref (a (10 + 4 * 0))]) (by rw [cl0, g7 0 h0]; rfl) ?_
          refine lv_iload_n hx hb d_S_writeJournal_61 rfl (lv_at hl 0 rfl) ?_
          refine mu_V (n := 1) (As := [.int (nI i)]) (rest := []) ⟨hx, hb, hml, hown, hts⟩ (c_Z_holds (D := D) (t := t) (z := z) (sa := sa) (ws := w9) (j := 0) (i := i) hI h0 hi rfl) ml_S_183 im_Z_holds se_Z_holds in_Z cd_Z_holds (by decide +kernel) ⟨Nat.le_of_ble_eq_true rfl, Nat.le_of_ble_eq_true rfl⟩ (va_recv hK hP (ci := 4) rfl (hI.z h0)) (Pz_at hP hK hD hz hM hS) rfl hl.1 rfl (Nat.le_of_ble_eq_true rfl) d_S_writeJournal_62 ⟨by show 2 * (nul ws - nul w9) + (2 * nul w9 + 1) ≤ 2 * nul ws + 1; omega, by show 257 * (nul ws - nul w9) + (257 * nul w9 + 6) ≤ 257 * nul ws + 6; omega⟩ hS (fun _ _ _ _ _ _ h => h.elim) (fun r9 u6 H locs hp hP hD hS => ?_)
          obtain ⟨yh, hr9, hw9, hb01⟩ := hp
          rw [hw9] at hP hD
          subst hr9
          refine W.widen (k := Kc ws w9) (n := Ks ws w9) (by rw [hw9]; show 2 * (nul ws - nul w9) + 2 * (nul w9 - nul w9) ≤ 2 * (nul ws - nul w9); omega) (by rw [hw9]; show 257 * (nul ws - nul w9) + 257 * (nul w9 - nul w9) ≤ 257 * (nul ws - nul w9); omega) ?_
          clear hw9
          refine W.eq (g2 := F0 m 65 ls [.int yh]) rfl ?_
          refine lv_if_eq (tgt := 117) hx hb d_S_writeJournal_65 rfl (fun q7 => ?_) (fun q7 => ?_)
          · skip
            refine lv_iinc (k := 0) (v := nI (i + 1)) (lv' := [(3, .int (nI (i + 1))), (2, .int y2), (1, .int yc), (0, .ref (a 0))]) hx hb d_S_writeJournal_117 hl rfl (nI_1 i) (by decide) rfl (fun ls hl => ?_)
            refine lv_goto (tgt := 46) hx hb d_S_writeJournal_120 rfl ?_
            exact ih (i + 1) _ _ _ w9 H locs ls (by omega) hP hD hS hI hF hn h01y (fun _ => ⟨J, hJ2, hJ3, by omega⟩) hl
          · skip
            refine lv_aload_n hx hb d_S_writeJournal_68 rfl (lv_at hl 3 rfl) ?_
            refine lv_iload_n hx hb d_S_writeJournal_69 rfl (lv_at hl 0 rfl) ?_
            refine mu_V (n := 1) (As := [.int (nI i)]) (rest := []) ⟨hx, hb, hml, hown, hts⟩ (c_S_setNumber (D := D) (t := t) (z := z) (sa := sa) (ws := w9) (nn := i) hI rfl) ml_S_212 im_S_setNumber se_S_setNumber in_S cd_S_setNumber (by decide +kernel) ⟨Nat.le_of_ble_eq_true rfl, Nat.le_of_ble_eq_true rfl⟩ (va_recv hK hP (ci := 5) rfl hI.x) (Pz_at hP hK hD hz hM hS) rfl hl.1 rfl (Nat.le_of_ble_eq_true rfl) d_S_writeJournal_70 ⟨by show 2 * (nul ws - nul w9) + (2 * nul w9 + 1) ≤ 2 * nul ws + 1; omega, by show 257 * (nul ws - nul w9) + (257 * nul w9 + 6) ≤ 257 * nul ws + 6; omega⟩ hS (fun _ _ _ _ _ _ h => h.elim) (fun r9 u8 H locs hp hP hD hS => ?_)
            obtain ⟨hI, hF9, hn9, hr9, r0, hr0, hrb⟩ := hp
            subst hr9
            have hF := hF.trans hF9
            have hn : nul u8 ≤ nul ws := by omega
            refine W.widen (k := Kc ws u8) (n := Ks ws u8) (by show 2 * (nul ws - nul w9) + 2 * (nul w9 - nul u8) ≤ 2 * (nul ws - nul u8); omega) (by show 257 * (nul ws - nul w9) + 257 * (nul w9 - nul u8) ≤ 257 * (nul ws - nul u8); omega) ?_
            refine W.eq (g2 := F0 m 73 ls []) rfl ?_
            refine lv_aload_n hx hb d_S_writeJournal_73 rfl (lv_at hl 3 rfl) ?_
            refine va_get (D := D) (ci := 5) (v := .ref (a 1)) (C := R_S) (T := F_S) (N := 10) hx hb hts ws_S hown hK hP 0 hI.x rfl 0 (by decide) (hts _ fl_S_15) (fun _ h9 => h9) rfl d_S_writeJournal_74 ?_
            refine lv_iload_n hx hb d_S_writeJournal_77 rfl (lv_at hl 0 rfl) ?_
            refine mu_V (n := 1) (As := [.int (nI i)]) (rest := []) ⟨hx, hb, hml, hown, hts⟩ (c_Y_block_f (D := D) (t := t) (z := z) (sa := sa) (ws := u8) (i := i) hI (show i < Nn 3 from hi) rfl) ml_S_188 im_Y_block se_Y_block in_Y cd_Y_block (by decide +kernel) ⟨Nat.le_of_ble_eq_true rfl, Nat.le_of_ble_eq_true rfl⟩ (va_recv hK hP (ci := 3) rfl hI.y1) (Pz_at hP hK hD hz hM hS) rfl hl.1 rfl (Nat.le_of_ble_eq_true rfl) d_S_writeJournal_78 ⟨by show 2 * (nul ws - nul u8) + (2 * nul u8 + 1) ≤ 2 * nul ws + 1; omega, by show 257 * (nul ws - nul u8) + (257 * nul u8 + 6) ≤ 257 * nul ws + 6; omega⟩ hS (fun _ _ _ _ _ _ h => h.elim) (fun r9 u10 H locs hp hP hD hS => ?_)
            obtain ⟨c8, k8, kb, f8, hr9, h42, hcc, hsp, hI, hF9, hn9, hj9, -⟩ := hp
            have hkb := hj9 (Or.inr (fun h => absurd h.1 (by decide)))
            rw [hkb] at hI hsp
            subst hr9
            have hF := hF.trans hF9
            have hn : nul u10 ≤ nul ws := by omega
            refine W.widen (k := Kc ws u10) (n := Ks ws u10) (by show 2 * (nul ws - nul u8) + 2 * (nul u8 - nul u10) ≤ 2 * (nul ws - nul u10); omega) (by show 257 * (nul ws - nul u8) + 257 * (nul u8 - nul u10) ≤ 257 * (nul ws - nul u10); omega) ?_
            refine W.eq (g2 := F0 m 81 ls [.ref c8]) rfl ?_
            refine lv_iconst (v := 0) hx hb d_S_writeJournal_81 (by decide) ?_
            refine lv_aload_n hx hb d_S_writeJournal_82 rfl (lv_at hl 3 rfl) ?_
            refine va_get (D := D) (ci := 5) (v := .ref (a 9)) (C := R_S) (T := F_S) (N := 10) hx hb hts ws_S hown hK hP 0 hI.x rfl 4 (by decide) (hts _ fl_S_36) (fun _ h9 => h9) rfl d_S_writeJournal_83 ?_
            refine lv_iconst (v := 4) hx hb d_S_writeJournal_86 (by decide) ?_
            refine lv_sipush (v := 256) hx hb d_S_writeJournal_87 (by decide) ?_
            obtain ⟨r1, hr1⟩ := hI.r9
            refine va_copyi (D := D) hx hb (hml.trans hl.1.symm) hown (hts _ ml_S_97) (hts _ cp_im) (hts _ cp_st) (hts _ in_System) hK hP hD hS k8 9 0 0 (ty := .byte) hcc hr1 rfl rfl rfl (sp := 0) (dp := 4) (n := 256) (by decide) (by decide) (by decide) (by decide) (by decide) (fun i9 _ => hI.bf k8 _ _ _ (Or.inr h42) hcc _) (Nat.le_of_ble_eq_true rfl) (Nat.le_of_ble_eq_true rfl) d_S_writeJournal_90 (fun H locs hP hD hS => ?_)
            have hfn := sb_fitC (sp := (0 : Int32).toNatClampNeg) (dp := (4 : Int32).toNatClampNeg) (n := (256 : Int32).toNatClampNeg) (hI.bf k8 _ _ _ (Or.inr h42) hcc) (hI.bf 9 _ _ _ (Or.inl rfl) hr1)
            obtain ⟨fn, hfn9⟩ : ∃ q, q = va_cpy f8 r1 (0 : Int32).toNatClampNeg (4 : Int32).toNatClampNeg (256 : Int32).toNatClampNeg := ⟨_, rfl⟩
            rw [← hfn9] at hP hD hfn
            obtain ⟨w11, hw⟩ : ∃ q, q = u10.set 9 (a 9, .inl (t 0, 260, .inl fn)) := ⟨_, rfl⟩
            have hP : va_P D Cl (u10.set 9 (a 9, .inl (t 0, 260, .inl fn))) H := hP
            have hD : va_D (Az z) (u10.set 9 (a 9, .inl (t 0, 260, .inl fn))) := hD
            have hF : Fr t ws (u10.set 9 (a 9, .inl (t 0, 260, .inl fn))) := hF.setA hr1 (Or.inl (by decide))
            have hI := hI.setR (r9 := fn) hfn
            have hq9 : nul (u10.set 9 (a 9, .inl (t 0, 260, .inl fn))) = nul u10 := nul_set (by decide)
            rw [← hw] at hP hD hF hI hq9
            clear hw
            have hn : nul w11 ≤ nul ws := by omega
            refine W.widen (k := Kc ws w11) (n := Ks ws w11) (by show 2 * (nul ws - nul u10) ≤ 2 * (nul ws - nul w11); omega) (by show 257 * (nul ws - nul u10) ≤ 257 * (nul ws - nul w11); omega) ?_
            refine lv_aload_n hx hb d_S_writeJournal_93 rfl (lv_at hl 3 rfl) ?_
            refine lv_aload_n hx hb d_S_writeJournal_94 rfl (lv_at hl 3 rfl) ?_
            refine va_get (D := D) (ci := 5) (v := .ref (a 4)) (C := R_S) (T := F_S) (N := 10) hx hb hts ws_S hown hK hP 0 hI.x rfl 1 (by decide) (hts _ fl_S_20) (fun _ h9 => h9) rfl d_S_writeJournal_95 ?_
            refine lv_aload_n hx hb d_S_writeJournal_98 rfl (lv_at hl 3 rfl) ?_
            refine va_get (D := D) (ci := 5) (v := .ref (a 9)) (C := R_S) (T := F_S) (N := 10) hx hb hts ws_S hown hK hP 0 hI.x rfl 4 (by decide) (hts _ fl_S_36) (fun _ h9 => h9) rfl d_S_writeJournal_99 ?_
            refine lv_aload_n hx hb d_S_writeJournal_102 rfl (lv_at hl 3 rfl) ?_
            refine va_get (D := D) (ci := 5) (v := .ref (a 4)) (C := R_S) (T := F_S) (N := 10) hx hb hts ws_S hown hK hP 0 hI.x rfl 1 (by decide) (hts _ fl_S_20) (fun _ h9 => h9) rfl d_S_writeJournal_103 ?_
            refine mu_V (n := 0) (As := []) (rest := [.ref (a 9), .ref (a 4), .ref (a 0)]) ⟨hx, hb, hml, hown, hts⟩ (c_Y_length_j (D := D) (t := t) (z := z) (sa := sa) (ws := w11)  hI ) ml_S_206 im_Y_length se_Y_length in_Y cd_Y_length (by decide +kernel) ⟨Nat.le_of_ble_eq_true rfl, Nat.le_of_ble_eq_true rfl⟩ (va_recv hK hP (ci := 3) rfl hI.y4) (Pz_at hP hK hD hz hM hS) rfl hl.1 rfl (Nat.le_of_ble_eq_true rfl) d_S_writeJournal_106 ⟨by show 2 * (nul ws - nul w11) + (2 * nul w11 + 1) ≤ 2 * nul ws + 1; omega, by show 257 * (nul ws - nul w11) + (257 * nul w11 + 6) ≤ 257 * nul ws + 6; omega⟩ hS (fun _ _ _ _ _ _ h => h.elim) (fun r9 u12 H locs hp hP hD hS => ?_)
            obtain ⟨hr9, hw9⟩ := hp
            rw [hw9] at hP hD
            subst hr9
            refine W.widen (k := Kc ws w11) (n := Ks ws w11) (by rw [hw9]; show 2 * (nul ws - nul w11) + 2 * (nul w11 - nul w11) ≤ 2 * (nul ws - nul w11); omega) (by rw [hw9]; show 257 * (nul ws - nul w11) + 257 * (nul w11 - nul w11) ≤ 257 * (nul ws - nul w11); omega) ?_
            clear hw9
            refine W.eq (g2 := F0 m 109 ls [.int (v9 6), .ref (a 9), .ref (a 4), .ref (a 0)]) rfl ?_
            refine lv_sipush (v := 260) hx hb d_S_writeJournal_109 (by decide) ?_
            refine lv_iconst (v := 0) hx hb d_S_writeJournal_112 (by decide) ?_
            obtain ⟨r2, hr2⟩ := hI.r9
            refine mu_V (n := 5) (As := [.ref (a 4), .ref (a 9), .int (v9 6), .int 260, .int 0]) (rest := []) ⟨hx, hb, hml, hown, hts⟩ (c_S_write_j (D := D) (t := t) (z := z) (sa := sa) (ws := w11) (x9 := v9 6) (y9 := 260) (A := J) (N := 260) (L := 260) hI hJ2 rfl (by omega) ⟨9, r2, Or.inl rfl, hr2⟩ (by omega) (by omega) hJ3 (by rw [hJ2]; exact nI_le (a := 4) hJ3 (by omega))) ml_S_215 im_S_write se_S_write in_S cd_S_write (by decide +kernel) ⟨Nat.le_of_ble_eq_true rfl, Nat.le_of_ble_eq_true rfl⟩ (va_recv hK hP (ci := 5) rfl hI.x) (Pz_at hP hK hD hz hM hS) rfl hl.1 rfl (Nat.le_of_ble_eq_true rfl) d_S_writeJournal_113 ⟨by show 2 * (nul ws - nul w11) + (2 * nul w11 + 1) ≤ 2 * nul ws + 1; omega, by show 257 * (nul ws - nul w11) + (257 * nul w11 + 6) ≤ 257 * nul ws + 6; omega⟩ hS (fun _ _ _ _ _ _ h => h.elim) (fun r9 u13 H locs hp hP hD hS => ?_)
            obtain ⟨v8, y8, hI, hF9, hn9, hr9, h01y, F8, m8, hF1, hm1, hF2, hF3⟩ := hp
            subst hr9
            have hF := hF.trans hF9
            have hFJ : F8 = J := (nI_eq (by omega) (by omega)).mp (hF2.symm.trans hJ2)
            have hn : nul u13 ≤ nul ws := by omega
            refine W.widen (k := Kc ws u13) (n := Ks ws u13) (by show 2 * (nul ws - nul w11) + 2 * (nul w11 - nul u13) ≤ 2 * (nul ws - nul u13); omega) (by show 257 * (nul ws - nul w11) + 257 * (nul w11 - nul u13) ≤ 257 * (nul ws - nul u13); omega) ?_
            refine W.eq (g2 := F0 m 116 ls [.int y8]) rfl ?_
            refine lv_istore_n (lv' := [(2, .int y8), (3, .int (nI i)), (1, .int yc), (0, .ref (a 0))]) hx hb d_S_writeJournal_116 rfl hl (by decide) rfl (fun ls hl => ?_)
            refine lv_iinc (k := 1) (v := nI (i + 1)) (lv' := [(3, .int (nI (i + 1))), (2, .int y8), (1, .int yc), (0, .ref (a 0))]) hx hb d_S_writeJournal_117 hl rfl (nI_1 i) (by decide) rfl (fun ls hl => ?_)
            refine lv_goto (tgt := 46) hx hb d_S_writeJournal_120 rfl ?_
            exact ih (i + 1) _ _ _ u13 H locs ls (by omega) hP hD hS hI hF hn h01y (fun _ => ⟨max F8 (J + m8), hF3, by omega, by omega⟩) hl
    exact key C9 0 k1 v1 y1 _ _ _ _ (Nat.zero_add _) hP hD hS hI hF hn h01y (fun h => ⟨4, hJ1 h, by omega, by omega⟩) hl
  · skip
    refine lv_iconst (v := 1) hx hb d_S_writeJournal_16 (by decide) ?_
    refine mu_end (u := ws) (v := (some (.int 1))) ⟨_, _, _, hI, hF, hn, rfl, by decide⟩ (Nat.le_refl _) (Nat.le_refl _) ?_
    exact W.zret (v := 1) (ty := .boolean) hx hb hr rfl (fun t9 ht hW => ⟨rfl, ⟨by rw [ht]; exact hP, va_K.moved hW.alike hK, hD, by rw [ht]; exact Nat.le_trans hz hS.1⟩, hS.F ht⟩) hS.2.2 d_S_writeJournal_17
set_option maxHeartbeats 4000000 in
set_option maxRecDepth 100000 in
theorem c_S_writeFile {l : Launch} {D : va_G} {t : Nat → ClassId} {z : Nat} {sa : Nat → Nat} {ws : va_W} {a : Nat → Nat} {k0 : Nat} {v : Nat → Int32}  (hI : Iv a t k0 v ws)  : Mu l y_S_writeFile (Cond.code y_S_writeFile b_S_writeFile 3 (some .boolean) :: WS) ({ frames := 5, cells := 2 * nul ws + 1, slots := 257 * nul ws + 6, locals := 103 }) D t z sa ws [.ref (a 0)] (fun r u => ∃ k1 v1 y, Iv a t k1 v1 u ∧ Fr t ws u ∧ nul u ≤ nul ws ∧ r = some (.int y) ∧ (y = 0 ∨ y = 1)) Xno (Kc ws) (Ks ws) := by
  refine mu_ofW (cc := b_S_writeFile) (maxL := 3) (ret := (some .boolean)) (by decide) rfl ?_
  intro p e s m args below meth c s₁ B hml hno hv
  obtain ⟨rfl, ⟨hP, hK, hD, hz⟩, hM⟩ := hv
  have hx := B.exec
  have hb := B.bytes
  have hr := B.returns
  have hts : ∀ w ∈ WS, w.before [.ref (a 0)].toArray s = true := fun w h => atoms_spec B.pre w (List.mem_cons_of_mem _ h)
  have hown : s.vm.findClass R_S = some m.cls := findClass_of_methodNamed B.named
  have hlocks := B.notSynchronized
  have hA : ∀ q, s.heap.size ≤ q → Az z q := fun q h => Nat.le_trans hz h
  have hS : va_S (Az z) s.heap s.heap [] := va_S.rf
  have hF : Fr t ws ws := Fr.rf
  have hn : nul ws ≤ nul ws := Nat.le_refl _
  have hl := lv_entry ([.ref (a 0)]) (n := 3) (Nat.le_of_ble_eq_true rfl)
  rw [lg_entry_eq]
  generalize (lg_sl ([.ref (a 0)]) ++ List.replicate (3 - (lg_sl ([.ref (a 0)])).length) Slot.unset).toArray = ls at hl ⊢
  have hl : lv_has ls 3 [(0, .ref (a 0))] := hl
  refine W.widen (k := Kc ws ws) (n := Ks ws ws) (Nat.zero_le _) (Nat.zero_le _) ?_
  refine lv_iconst (v := 1) hx hb d_S_writeFile_0 (by decide) ?_
  refine lv_istore_n (lv' := [(1, .int 1), (0, .ref (a 0))]) hx hb d_S_writeFile_1 rfl hl (by decide) rfl (fun ls hl => ?_)
  refine lv_iconst (v := 0) hx hb d_S_writeFile_2 (by decide) ?_
  refine lv_istore_n (lv' := [(2, .int 0), (1, .int 1), (0, .ref (a 0))]) hx hb d_S_writeFile_3 rfl hl (by decide) rfl (fun ls hl => ?_)
  have key : ∀ (n9 i : Nat) (v9 : Nat → Int32) (y2 : Int32) (w9 : va_W) (H : Heap) (locs : List Loc) (ls : Array Slot), i + n9 = 768 → va_P D Cl w9 H → va_D (Az z) w9 → va_S (Az z) s.heap H locs → Iv a t k0 v9 w9 → Fr t ws w9 → nul w9 ≤ nul ws → (y2 = 0 ∨ y2 = 1) → lv_has ls 3 [(2, .int (nI i)), (1, .int y2), (0, .ref (a 0))] → W p l e (headSpec (Cond.code y_S_writeFile b_S_writeFile 3 (some .boolean) :: WS) ({ frames := 5, cells := 2 * nul ws + 1, slots := 257 * nul ws + 6, locals := 103 })).room s m [.ref (a 0)].toArray below meth c H locs (Kc ws w9) (Ks ws w9) (mu_MQ below D t z (fun r u => ∃ k1 v1 y, Iv a t k1 v1 u ∧ Fr t ws u ∧ nul u ≤ nul ws ∧ r = some (.int y) ∧ (y = 0 ∨ y = 1)) Xno (Kc ws) (Ks ws) [.ref (a 0)].toArray s) (F0 m 4 ls []) := by
    intro n9
    induction n9 with
    | zero =>
      intro i v9 y2 w9 H locs ls hi9 hP hD hS hI hF hn h01y hl
      obtain ⟨C9, hC8, hC9⟩ := hI.bd.2.1
      refine lv_iload_n hx hb d_S_writeFile_4 rfl (lv_at hl 0 rfl) ?_
      refine lv_aload_n hx hb d_S_writeFile_5 rfl (lv_at hl 2 rfl) ?_
      refine va_get (D := D) (ci := 5) (v := .int (v9 3)) (C := R_S) (T := F_S) (N := 10) hx hb hts ws_S hown hK hP 0 hI.x rfl 8 (by decide) (hts _ fl_S_51) (fun _ h9 => h9) rfl d_S_writeFile_6 ?_
      refine lv_icmp_ge (tgt := 63) hx hb d_S_writeFile_9 rfl (fun _ => ?_) (fun q9 => ?_)
      · skip
        refine lv_iload_n hx hb d_S_writeFile_63 rfl (lv_at hl 1 rfl) ?_
        refine mu_end (u := w9) (v := (some (.int y2))) ⟨_, _, _, hI, hF, hn, rfl, h01y⟩ (Nat.le_refl _) (Nat.le_refl _) ?_
        exact W.zret (v := y2) (ty := .boolean) hx hb hr (nar01 h01y) (fun t9 ht hW => ⟨rfl, ⟨by rw [ht]; exact hP, va_K.moved hW.alike hK, hD, by rw [ht]; exact Nat.le_trans hz hS.1⟩, hS.F ht⟩) hS.2.2 d_S_writeFile_64
      · have hiC : i < C9 := Nat.not_le.mp (fun h => q9 (by rw [hC9]; exact nI_le h (by omega)))
        omega
    | succ n9 ih =>
      intro i v9 y2 w9 H locs ls hi9 hP hD hS hI hF hn h01y hl
      obtain ⟨C9, hC8, hC9⟩ := hI.bd.2.1
      refine lv_iload_n hx hb d_S_writeFile_4 rfl (lv_at hl 0 rfl) ?_
      refine lv_aload_n hx hb d_S_writeFile_5 rfl (lv_at hl 2 rfl) ?_
      refine va_get (D := D) (ci := 5) (v := .int (v9 3)) (C := R_S) (T := F_S) (N := 10) hx hb hts ws_S hown hK hP 0 hI.x rfl 8 (by decide) (hts _ fl_S_51) (fun _ h9 => h9) rfl d_S_writeFile_6 ?_
      refine lv_icmp_ge (tgt := 63) hx hb d_S_writeFile_9 rfl (fun _ => ?_) (fun q9 => ?_)
      · skip
        refine lv_iload_n hx hb d_S_writeFile_63 rfl (lv_at hl 1 rfl) ?_
        refine mu_end (u := w9) (v := (some (.int y2))) ⟨_, _, _, hI, hF, hn, rfl, h01y⟩ (Nat.le_refl _) (Nat.le_refl _) ?_
        exact W.zret (v := y2) (ty := .boolean) hx hb hr (nar01 h01y) (fun t9 ht hW => ⟨rfl, ⟨by rw [ht]; exact hP, va_K.moved hW.alike hK, hD, by rw [ht]; exact Nat.le_trans hz hS.1⟩, hS.F ht⟩) hS.2.2 d_S_writeFile_64
      · have hiC : i < C9 := Nat.not_le.mp (fun h => q9 (by rw [hC9]; exact nI_le h (by omega)))
        have hi : i < 768 := by omega
        refine lv_iload_n hx hb d_S_writeFile_12 rfl (lv_at hl 1 rfl) ?_
        refine lv_if_eq (tgt := 63) hx hb d_S_writeFile_13 rfl (fun _ => ?_) (fun hy20 => ?_)
        · skip
          refine lv_iload_n hx hb d_S_writeFile_63 rfl (lv_at hl 1 rfl) ?_
          refine mu_end (u := w9) (v := (some (.int y2))) ⟨_, _, _, hI, hF, hn, rfl, h01y⟩ (Nat.le_refl _) (Nat.le_refl _) ?_
          exact W.zret (v := y2) (ty := .boolean) hx hb hr (nar01 h01y) (fun t9 ht hW => ⟨rfl, ⟨by rw [ht]; exact hP, va_K.moved hW.alike hK, hD, by rw [ht]; exact Nat.le_trans hz hS.1⟩, hS.F ht⟩) hS.2.2 d_S_writeFile_64
        · skip
          refine lv_aload_n hx hb d_S_writeFile_16 rfl (lv_at hl 2 rfl) ?_
          refine va_get (D := D) (ci := 5) (v := .ref (a 7)) (C := R_S) (T := F_S) (N := 10) hx hb hts ws_S hown hK hP 0 hI.x rfl 2 (by decide) (hts _ fl_S_25) (fun _ h9 => h9) rfl d_S_writeFile_17 ?_
          refine lv_iconst (v := 0) hx hb d_S_writeFile_20 (by decide) ?_
          have h0 : 0 < 6 := by decide
          obtain ⟨gl, e7, g7⟩ := hI.l7
          refine va_aldq (D := D) hx hb hK hP 7 3 e7 rfl (i := 0) (by unfold vp_in; decide) d_S_writeFile_21 ?_
          refine W.eq (g2 := F0 m 22 ls [.ref (a (10 + 4 * 0))]) (by rw [cl0, g7 0 h0]; rfl) ?_
          refine lv_iload_n hx hb d_S_writeFile_22 rfl (lv_at hl 0 rfl) ?_
          refine mu_V (n := 1) (As := [.int (nI i)]) (rest := []) ⟨hx, hb, hml, hown, hts⟩ (c_Z_holds (D := D) (t := t) (z := z) (sa := sa) (ws := w9) (j := 0) (i := i) hI h0 hi rfl) ml_S_183 im_Z_holds se_Z_holds in_Z cd_Z_holds (by decide +kernel) ⟨Nat.le_of_ble_eq_true rfl, Nat.le_of_ble_eq_true rfl⟩ (va_recv hK hP (ci := 4) rfl (hI.z h0)) (Pz_at hP hK hD hz hM hS) rfl hl.1 rfl (Nat.le_of_ble_eq_true rfl) d_S_writeFile_23 ⟨by show 2 * (nul ws - nul w9) + (2 * nul w9 + 1) ≤ 2 * nul ws + 1; omega, by show 257 * (nul ws - nul w9) + (257 * nul w9 + 6) ≤ 257 * nul ws + 6; omega⟩ hS (fun _ _ _ _ _ _ h => h.elim) (fun r9 u1 H locs hp hP hD hS => ?_)
          obtain ⟨yh, hr9, hw9, hb01⟩ := hp
          rw [hw9] at hP hD
          subst hr9
          refine W.widen (k := Kc ws w9) (n := Ks ws w9) (by rw [hw9]; show 2 * (nul ws - nul w9) + 2 * (nul w9 - nul w9) ≤ 2 * (nul ws - nul w9); omega) (by rw [hw9]; show 257 * (nul ws - nul w9) + 257 * (nul w9 - nul w9) ≤ 257 * (nul ws - nul w9); omega) ?_
          clear hw9
          refine W.eq (g2 := F0 m 26 ls [.int yh]) rfl ?_
          refine lv_if_eq (tgt := 57) hx hb d_S_writeFile_26 rfl (fun q2 => ?_) (fun q2 => ?_)
          · skip
            refine lv_iinc (k := 0) (v := nI (i + 1)) (lv' := [(2, .int (nI (i + 1))), (1, .int y2), (0, .ref (a 0))]) hx hb d_S_writeFile_57 hl rfl (nI_1 i) (by decide) rfl (fun ls hl => ?_)
            refine lv_goto (tgt := 4) hx hb d_S_writeFile_60 rfl ?_
            exact ih (i + 1) _ _ w9 H locs ls (by omega) hP hD hS hI hF hn h01y hl
          · skip
            refine lv_aload_n hx hb d_S_writeFile_29 rfl (lv_at hl 2 rfl) ?_
            refine lv_aload_n hx hb d_S_writeFile_30 rfl (lv_at hl 2 rfl) ?_
            refine va_get (D := D) (ci := 5) (v := .ref (a 1)) (C := R_S) (T := F_S) (N := 10) hx hb hts ws_S hown hK hP 0 hI.x rfl 0 (by decide) (hts _ fl_S_15) (fun _ h9 => h9) rfl d_S_writeFile_31 ?_
            refine lv_aload_n hx hb d_S_writeFile_34 rfl (lv_at hl 2 rfl) ?_
            refine va_get (D := D) (ci := 5) (v := .ref (a 7)) (C := R_S) (T := F_S) (N := 10) hx hb hts ws_S hown hK hP 0 hI.x rfl 2 (by decide) (hts _ fl_S_25) (fun _ h9 => h9) rfl d_S_writeFile_35 ?_
            refine lv_iconst (v := 0) hx hb d_S_writeFile_38 (by decide) ?_
            have h0 : 0 < 6 := by decide
            obtain ⟨gl, e7, g7⟩ := hI.l7
            refine va_aldq (D := D) hx hb hK hP 7 3 e7 rfl (i := 0) (by unfold vp_in; decide) d_S_writeFile_39 ?_
            refine W.eq (g2 := F0 m 40 ls [.ref (a (10 + 4 * 0)), .ref (a 1), .ref (a 0)]) (by rw [cl0, g7 0 h0]; rfl) ?_
            refine lv_iload_n hx hb d_S_writeFile_40 rfl (lv_at hl 0 rfl) ?_
            refine mu_V (n := 1) (As := [.int (nI i)]) (rest := [.ref (a 1), .ref (a 0)]) ⟨hx, hb, hml, hown, hts⟩ (c_Z_bytesOf (D := D) (t := t) (z := z) (sa := sa) (ws := w9) (j := 0) (i := i) hI h0 (show i < Nn (12 + 4 * 0) from hi) rfl) ml_S_187 im_Z_bytesOf se_Z_bytesOf in_Z cd_Z_bytesOf (by decide +kernel) ⟨Nat.le_of_ble_eq_true rfl, Nat.le_of_ble_eq_true rfl⟩ (va_recv hK hP (ci := 4) rfl (hI.z h0)) (Pz_at hP hK hD hz hM hS) rfl hl.1 rfl (Nat.le_of_ble_eq_true rfl) d_S_writeFile_41 ⟨by show 2 * (nul ws - nul w9) + (2 * nul w9 + 1) ≤ 2 * nul ws + 1; omega, by show 257 * (nul ws - nul w9) + (257 * nul w9 + 6) ≤ 257 * nul ws + 6; omega⟩ hS (fun _ _ _ _ _ _ h => h.elim) (fun r9 u3 H locs hp hP hD hS => ?_)
            obtain ⟨c8, k8, kb, f8, hr9, h42, hcc, hsp, hI, hF9, hn9, hj9, -⟩ := hp
            have hkb := hj9 (Or.inr (fun h => absurd h.1 (by decide)))
            rw [hkb] at hI hsp
            subst hr9
            have hF := hF.trans hF9
            have hn : nul u3 ≤ nul ws := by omega
            refine W.widen (k := Kc ws u3) (n := Ks ws u3) (by show 2 * (nul ws - nul w9) + 2 * (nul w9 - nul u3) ≤ 2 * (nul ws - nul u3); omega) (by show 257 * (nul ws - nul w9) + 257 * (nul w9 - nul u3) ≤ 257 * (nul ws - nul u3); omega) ?_
            refine W.eq (g2 := F0 m 44 ls [.ref c8, .ref (a 1), .ref (a 0)]) rfl ?_
            refine lv_iload_n hx hb d_S_writeFile_44 rfl (lv_at hl 0 rfl) ?_
            refine lv_sipush (v := 256) hx hb d_S_writeFile_45 (by decide) ?_
            refine lv_imul hx hb d_S_writeFile_48 ?_
            refine lv_topi (fun y4 hy4 => ?_)
            have hy4 : y4 = nI (i * 256) := by rw [hy4]; exact pk_mul i 256
            refine lv_sipush (v := 256) hx hb d_S_writeFile_49 (by decide) ?_
            refine lv_iconst (v := 1) hx hb d_S_writeFile_52 (by decide) ?_
            refine mu_V (n := 5) (As := [.ref (a 1), .ref c8, .int y4, .int 256, .int 1]) (rest := []) ⟨hx, hb, hml, hown, hts⟩ (c_S_write_f (D := D) (t := t) (z := z) (sa := sa) (ws := u3) (A := i * 256) (N := 256) (L := 256) hI hy4 rfl (by omega) ⟨k8, f8, Or.inr h42, hcc⟩ (by omega) (by omega)) ml_S_215 im_S_write se_S_write in_S cd_S_write (by decide +kernel) ⟨Nat.le_of_ble_eq_true rfl, Nat.le_of_ble_eq_true rfl⟩ (va_recv hK hP (ci := 5) rfl hI.x) (Pz_at hP hK hD hz hM hS) rfl hl.1 rfl (Nat.le_of_ble_eq_true rfl) d_S_writeFile_53 ⟨by show 2 * (nul ws - nul u3) + (2 * nul u3 + 1) ≤ 2 * nul ws + 1; omega, by show 257 * (nul ws - nul u3) + (257 * nul u3 + 6) ≤ 257 * nul ws + 6; omega⟩ hS (fun _ _ _ _ _ _ h => h.elim) (fun r9 u5 H locs hp hP hD hS => ?_)
            obtain ⟨v8, y8, hI, hF9, hn9, hr9, h01y, n8⟩ := hp
            subst hr9
            have hF := hF.trans hF9
            have hn : nul u5 ≤ nul ws := by omega
            refine W.widen (k := Kc ws u5) (n := Ks ws u5) (by show 2 * (nul ws - nul u3) + 2 * (nul u3 - nul u5) ≤ 2 * (nul ws - nul u5); omega) (by show 257 * (nul ws - nul u3) + 257 * (nul u3 - nul u5) ≤ 257 * (nul ws - nul u5); omega) ?_
            refine W.eq (g2 := F0 m 56 ls [.int y8]) rfl ?_
            refine lv_istore_n (lv' := [(1, .int y8), (2, .int (nI i)), (0, .ref (a 0))]) hx hb d_S_writeFile_56 rfl hl (by decide) rfl (fun ls hl => ?_)
            refine lv_iinc (k := 1) (v := nI (i + 1)) (lv' := [(2, .int (nI (i + 1))), (1, .int y8), (0, .ref (a 0))]) hx hb d_S_writeFile_57 hl rfl (nI_1 i) (by decide) rfl (fun ls hl => ?_)
            refine lv_goto (tgt := 4) hx hb d_S_writeFile_60 rfl ?_
            exact ih (i + 1) _ _ u5 H locs ls (by omega) hP hD hS hI hF hn h01y hl
  exact key 768 0 v 1 ws _ _ _ rfl hP hD hS hI hF hn (Or.inr rfl) hl
end
