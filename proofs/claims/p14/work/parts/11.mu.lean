/-! contracts whose cost hangs on the world behind them: they return, or throw -/
def mu_Q (D : va_G) (t : Nat → ClassId) (z : Nat) (post : Option Value → va_W → Prop) (xp : String → va_W → Prop) (kc ks : va_W → Nat) : Array Value → State → Outcome → State → Prop := fun _ st o T =>
  (∃ (v : Option Value) (u : va_W) (L : List Loc), o = .returned v ∧ post v u ∧ Wd D t z u T ∧ va_F (Az z) st T ∧ FrameEnd st o T L (kc u) (ks u) ∧ ∀ q ∈ L, Az z q.base) ∨
  (∃ (q : Addr) (E : String) (ce : Cell) (u : va_W) (L : List Loc), o = .threw q ∧ xp E u ∧ Wd D t z u T ∧ va_F (Az z) st T ∧ T.heap[q]? = some ce ∧ ce.vm = .none ∧ st.vm.findClass E = some ce.cls ∧ st.WarmedH T.vm ∧ st.sameButNew ({ T with vm := st.vm } : State) L (kc u + 1) (ks u + 6) ∧ ∀ q ∈ L, Az z q.base)
def Mu (l : Launch) (y : MethodName) (wd : List Cond) (rm : Room) (D : va_G) (t : Nat → ClassId) (z : Nat) (sa : Nat → Nat) (ws : va_W) (av : List Value) (post : Option Value → va_W → Prop) (xp : String → va_W → Prop) (kc ks : va_W → Nat) : Prop :=
  MetFree l y (headSpec wd rm) (Pz D t z sa ws av) (fun _ _ _ _ _ => True) (mu_Q D t z post xp kc ks)
def mu_Pre (R rm : Room) (D : va_G) (t : Nat → ClassId) (z : Nat) (sa : Nat → Nat) (ws : va_W) (av : List Value) : Pt → Array Value → Prop := fun A a => A.cells + rm.cells ≤ R.cells ∧ A.slots + rm.slots ≤ R.slots ∧ Pz D t z sa ws av a A.U
def mu_Post (D : va_G) (t : Nat → ClassId) (z : Nat) (post : Option Value → va_W → Prop) (kc ks : va_W → Nat) : Pt → Array Value → Option Value → Pt → Prop := fun A _ v B =>
  ∃ (st T : State) (L : List Loc) (u : va_W), st.heap = A.U.heap ∧ B.U.heap = T.heap ∧ B.U.vm = T.vm ∧ post v u ∧ Wd D t z u T ∧ va_F (Az z) st T ∧ B.locs = A.locs ++ L ∧ (∀ q ∈ L, Az z q.base) ∧ B.cells = A.cells + kc u ∧ B.slots = A.slots + ks u
def mu_PostX (D : va_G) (t : Nat → ClassId) (z : Nat) (xp : String → va_W → Prop) (kc ks : va_W → Nat) : Pt → Array Value → Addr → Pt → Prop := fun A _ q B =>
  ∃ (st T : State) (L : List Loc) (E : String) (ce : Cell) (u : va_W), st.heap = A.U.heap ∧ B.U.heap = T.heap ∧ B.U.vm = T.vm ∧ xp E u ∧ Wd D t z u T ∧ va_F (Az z) st T ∧ T.heap[q]? = some ce ∧ ce.vm = .none ∧ A.U.vm.findClass E = some ce.cls ∧ B.locs = A.locs ++ L ∧ (∀ q ∈ L, Az z q.base) ∧ B.cells = A.cells + (kc u + 1) ∧ B.slots = A.slots + (ks u + 6)
section MU1
variable {l : Launch} {R : Room} {p : Program} {e : Env} {below : List Frame} {s : State} {sargs : Array Value} {y : MethodName} {len W9 : Nat} {D : va_G} {t : Nat → ClassId} {z : Nat} {sa : Nat → Nat} {ws : va_W} {av : List Value} {post : Option Value → va_W → Prop} {xp : String → va_W → Prop} {kc ks : va_W → Nat}
theorem mu_back {wd : List Cond} {rm : Room} {maxL : Nat} (hM : Mu l y wd rm D t z sa ws av post xp kc ks)
    (hframes : rm.frames + 1 ≤ R.frames) (hlocals : W9 + (maxL + 11) + rm.locals ≤ R.locals)
    (hws : ∀ w ∈ wd, ∀ a' U, s.WarmedH U.vm → w.before a' U = true) (hinit : ∀ a' U, s.WarmedH U.vm → (Cond.initialized y.cls).before a' U = true)
    (hY : ∀ (a' : Array Value) (U : State) (mk : MethodId), s.WarmedH U.vm → U.methodNamed? y = some mk → ∃ methY cY, U.vm.method? mk = some methY ∧ methY.code = some cY ∧ cY.maxLocals = maxL) :
    vx_Back l R p e below s sargs y len W9 (mu_Pre R rm D t z sa ws av) (mu_Post D t z post kc ks) (mu_PostX D t z xp kc ks) := by
  intro m meth c A g ig mk a X hg hsize hdg hW hn hp
  have h1 : (headSpec wd rm).pre.before a A.U = true := atoms_intro fun w hw => hws w hw _ _ X.warmed
  have h3 : (Cond.initialized y.cls).before a A.U = true := hinit _ _ X.warmed
  have h4 : A.cells + (headSpec wd rm).room.cells ≤ R.cells := hp.1
  have h5 : A.slots + (headSpec wd rm).room.slots ≤ R.slots := hp.2.1
  have hPc : Pz D t z sa ws av a (A.U.calling g mk a) := Pz_blind _ _ _ _ hp.2.2
  obtain ⟨methY, cY, hmY, hcY, hlY⟩ := hY a A.U mk X.warmed hn
  obtain ⟨U, Ls, c0, s0⟩ := A
  dsimp only [Pt.U, Pt.locs, Pt.cells, Pt.slots] at h1 h3 h4 h5 X hn hPc hmY ⊢
  obtain ⟨kY, hkY, -⟩ := className_of_methodNamed hn
  have hinitY : kY.init = .initialized := Cond.initialized_spec (findClass_of_methodNamed hn) hkY h3
  have h : At U g.method c below := by rw [hg]; exact X.here
  have hlocals9 : W9 + (maxL + 11) + (headSpec wd rm).room.locals ≤ R.locals := hlocals
  have happ : (headSpec wd rm).appliesLoose y e.platform (U.calling g mk a) = true :=
    Spec.appliesLoose_calling (g := g) h hdg hn hkY hinitY
      (X.room_calling (g := g) (R' := (headSpec wd rm).room) hsize hmY hcY hframes (by rw [hlY]; omega) h4 h5) h1
  obtain ⟨mid, hmid⟩ := h.above
  have hfr : (U.setTop g).frames = (.java g :: mid) ++ below := by rw [State.frames_setTop' g h.top, hmid]; rfl
  obtain ⟨o, s₂, hsteps, -, hend, hq⟩ := Steps.callFree hM p X.admits X.cas X.clock (acts := []) hfr happ hPc trivial
  have hq' : mu_Q D t z post xp kc ks a (U.calling g mk a) o s₂ := hq
  rw [State.frames_setTop' g h.top] at hend
  obtain ⟨g₀, hg0⟩ := Option.isSome_iff_exists.mp h.top
  obtain ⟨r, hr⟩ := State.topJava?_eq_some.mp hg0
  have hr' : (({ U with heap := s₂.heap, slotsUsed := s₂.slotsUsed } : State).setVm s₂.vm).frames = .java g₀ :: r := hr
  rcases hq' with ⟨v, u, L, rfl, hpo, hWd, hF, hfe, hL⟩ | ⟨q, E, ce, u, L, rfl, hxp, hWd, hF, hce, hcv, hcl, hW₂, hsm, hL⟩
  · obtain ⟨-, hW₂, e2, q2, q3, q4, q5, q6⟩ := id hfe
    have e3 : s₂ = ({ (U.calling g mk a).setFrames s₂.frames with heap := s₂.heap, slotsUsed := s₂.slotsUsed } : State).setVm s₂.vm := by
      have : s₂ = ({ s₂ with vm := (U.calling g mk a).vm } : State).setVm s₂.vm := rfl
      rw [e2] at this
      exact this
    obtain ⟨c₂, i₂, len₂, hc₂, hd₂, hf₂⟩ := hend
    have hW' : U.WarmedH s₂.vm := hW₂
    have hcc : c₂ = c := by
      have h1 : s₂.code? g.method = U.code? g.method := by
        rw [State.code?_eq, State.code?_eq, hW'.alike.method?]
      exact Option.some.inj (hc₂.symm.trans (h1.trans h.code))
    subst hcc
    have hlen : len₂ = len := by rw [hdg] at hd₂; cases hd₂; rfl
    subst hlen
    have hs₂ : s₂ = (({ U with heap := s₂.heap, slotsUsed := s₂.slotsUsed } : State).setVm s₂.vm).setTop { g with pc := g.pc + len₂, stack := v.toList ++ g.stack } := by
      refine e3.trans ?_
      rw [hf₂, State.calling_eq h.top, State.setFrames_setFrames, State.setTop_of_frames _ hr', hr]
      rfl
    have hsame : U.sameButNew ({ U with heap := s₂.heap, slotsUsed := s₂.slotsUsed } : State) L (kc u) (ks u) := by
      refine ⟨?_, q2, q3, q4, q5, q6⟩
      obtain ⟨t9, ht9, -⟩ := State.frames_cons hr
      show ({ U with heap := s₂.heap, slotsUsed := s₂.slotsUsed } : State) = { U.setFrames U.frames with heap := s₂.heap, slotsUsed := s₂.slotsUsed }
      rw [State.setFrames_self ht9]
    subst hg
    refine Or.inl ⟨v, ⟨(({ U with heap := s₂.heap, slotsUsed := s₂.slotsUsed } : State).setVm s₂.vm), Ls ++ L, c0 + kc u, s0 + ks u⟩,
      ⟨X.admits, X.cas, X.clock, X.frames, X.room, X.hears, X.method, X.code, (X.here.setHeapUsed s₂.heap s₂.slotsUsed).setVm hW'.alike, X.tail, State.WarmedH.trans X.warmed hW', X.limits, X.bytes, X.same.trans (hsame.setVm s.vm)⟩,
      ⟨U.calling g mk a, s₂, L, u, rfl, rfl, rfl, hpo, hWd, hF, rfl, hL, rfl, rfl⟩, ?_⟩
    show Steps p.tables e below _ ((({ U with heap := s₂.heap, slotsUsed := s₂.slotsUsed } : State).setVm s₂.vm).setTop { g with pc := g.pc + len₂, stack := v.toList ++ g.stack })
    rw [← hs₂]
    exact hsteps
  · obtain ⟨e2, q2, q3, q4, q5, q6⟩ := id hsm
    have e3 : s₂ = ({ (U.calling g mk a).setFrames s₂.frames with heap := s₂.heap, slotsUsed := s₂.slotsUsed } : State).setVm s₂.vm := by
      have : s₂ = ({ s₂ with vm := (U.calling g mk a).vm } : State).setVm s₂.vm := rfl
      rw [e2] at this
      exact this
    have hf₂ : s₂.frames = .throwing q :: .java g :: U.frames.tail := hend
    have hW' : U.WarmedH s₂.vm := hW₂
    have hs₂ : s₂ = ((({ U with heap := s₂.heap, slotsUsed := s₂.slotsUsed } : State).setVm s₂.vm).setTop g).pushFrame (.throwing q) := by
      refine e3.trans ?_
      rw [hf₂, State.calling_eq h.top, State.setFrames_setFrames, State.pushFrame, State.frames_setTop _ hr', State.setTop_of_frames _ hr', State.setFrames_setFrames, hr]
      rfl
    have hsame : U.sameButNew ({ U with heap := s₂.heap, slotsUsed := s₂.slotsUsed } : State) L (kc u + 1) (ks u + 6) := by
      refine ⟨?_, q2, q3, q4, q5, q6⟩
      obtain ⟨t9, ht9, -⟩ := State.frames_cons hr
      show ({ U with heap := s₂.heap, slotsUsed := s₂.slotsUsed } : State) = { U.setFrames U.frames with heap := s₂.heap, slotsUsed := s₂.slotsUsed }
      rw [State.setFrames_self ht9]
    subst hg
    refine Or.inr ⟨q, ⟨(({ U with heap := s₂.heap, slotsUsed := s₂.slotsUsed } : State).setVm s₂.vm), Ls ++ L, c0 + (kc u + 1), s0 + (ks u + 6)⟩,
      ⟨X.admits, X.cas, X.clock, X.frames, X.room, X.hears, X.method, X.code, (X.here.setHeapUsed s₂.heap s₂.slotsUsed).setVm hW'.alike, X.tail, State.WarmedH.trans X.warmed hW', X.limits, X.bytes, X.same.trans (hsame.setVm s.vm)⟩,
      ⟨U.calling g mk a, s₂, L, E, ce, u, rfl, rfl, rfl, hxp, hWd, hF, hce, hcv, hcl, rfl, hL, rfl, rfl⟩, ?_⟩
    show Steps p.tables e below _ (((({ U with heap := s₂.heap, slotsUsed := s₂.slotsUsed } : State).setVm s₂.vm).setTop g).pushFrame (.throwing q))
    rw [← hs₂]
    exact hsteps
end MU1
