/-! THE CLAIM OUT OF ONE WALK OF THE LAW'S BODY. Your part is whole_start (and what it stands on); all else here is the same for every law, but numbers. -/
def R_law : String := "PageStoreLaw"
def lw_P (b : Addr) (xs : List Int32) (args : Array Value) (s : State) : Prop := args = #[.ref b] ∧ s.IntsAt b xs ∧ xs.length ≤ 3072 ∧ (Jvm.Cond.and given_1 narrow_1).before args s = true
def lw_Q (_ : Array Value) (s : State) (o : Outcome) (t : State) : Prop := o = .returned (some (.int 1)) ∧ Framed s o t [] 601024 7293034
def lw_Z (below : List Frame) (a : Array Value) (s : State) : State → Prop := fun t => ∃ o, t.status = .running ∧ Ended t below o ∧ lw_Q a s o t
/-- the law's own end, with 1 on the stack, nothing written that was there before, its room as the claim has it -/
theorem lw_ret {p : Program} {l : Launch} {e : Env} {s : State} {m : MethodId} {below : List Frame} {meth : Method} {c : Code} {b : Nat} (hx : p.tables.exec = Jvm.exec) (hb : c.code = code) (hr : meth.sig.returnType = ret) (hlocks : meth.locks = false) {pc : Nat} {H : Heap} {ls : Array Slot} (hdg : decode code pc = .ok (.ireturn, 1)) : W p l e room_1 s m #[Value.ref b] below meth c H [] 601024 7293034 (lw_Z below #[Value.ref b] s) (F0 m pc ls [.int 1]) := by
  intro T hT X
  obtain ⟨fs, hret, hrun, hended, hW, hframe⟩ := X.leave (v := some (.int 1)) (hlocks := hlocks) (fun h => by rw [hr] at h; cases h)
  have hmeth' : T.vm.method? m = some meth := X.method'
  refine ⟨T.setFrames fs, ?_, .returned (some (.int 1)), hrun, hended, rfl, ⟨_, rfl⟩, hW, hframe⟩
  jvm_step X.here [X.here.top, hx, hb, hdg, hmeth', hr, ret, narrow_b1]
  (try refine ⟨rfl, ?_⟩); (try refine ⟨rfl, ?_⟩)
  first | (intro acts; rw [hret _ acts rfl rfl rfl]) | rw [hret _ _ rfl rfl rfl]
  exact Steps.refl _
/-- what holds at the law's entry: the machine, the code, the tables' words (any of lw_tbl by 'hts w (by decide +kernel)'), the script of L ints xs at the cell b, what the Statement gives of the start (any of its parts by flat_of_before) -/
def lw_At (p : Program) (s : State) (m : MethodId) (meth : Method) (c : Code) (b L : Nat) (xs : Nat → Int32) : Prop :=
  p.tables.exec = Jvm.exec ∧ c.code = code ∧ meth.sig.returnType = ret ∧ c.maxLocals = 8 ∧ s.vm.findClass R_law = some m.cls ∧ (∀ w ∈ lw_tbl, w.before #[Value.ref b] s = true) ∧ va_X b L xs s s.heap ∧ b < s.heap.size ∧ meth.locks = false ∧ (Jvm.Cond.and given_1 narrow_1).before #[Value.ref b] s = true

theorem st_arr {args : Array Value} {s : State} {ty : FieldType} (h : (Cond.arrayClass ty).before args s = true) : ∃ c : ClassId, ArrOfT s c ty ∧ s.vm.findClass ("[" ++ ty.toString) = some c := by
  obtain ⟨c, k, comp, h1, h2, h3⟩ := Cond.arrayClass_spec h
  exact ⟨c, fun n z => ⟨fun k h => (by cases h), k, h2, comp, h3⟩, h1⟩
theorem st_obj {args : Array Value} {s : State} {C : String} (h : (Cond.arrayOver (.object C)).before args s = true) : ∃ c : ClassId, ArrOfT s c (.object C) ∧ va_RA s c (.object C) := by
  obtain ⟨comp, c, k, h1, -, h2, h3, h4⟩ := Cond.arrayOver_spec h
  exact ⟨c, fun n z => ⟨fun k h => (by cases h), k, h2, comp, h3⟩, k, comp, h2, h3, h1, h4⟩
theorem st_K {args : Array Value} {s : State} (h : ∀ w ∈ lw_tbl, w.before args s = true) : ∃ (D : va_G) (t : Nat → ClassId), va_K D Cl (Ty t) s := by
  have hts : ∀ w ∈ WS, w.before args s = true := fun w hw => h w (WS_tbl hw)
  obtain ⟨c0, i0, k0⟩ := u_known (C := R_B) (T := F_B) (N := 1) (n := 1) hts ws_B (hts _ ib_B)
  obtain ⟨c1, i1, k1⟩ := u_known (C := R_K) (T := F_K) (N := 1) (n := 1) hts ws_K (hts _ ib_K)
  obtain ⟨c2, i2, k2⟩ := u_known (C := R_U) (T := F_U) (N := 4) (n := 4) hts ws_U (hts _ ib_U)
  obtain ⟨c3, i3, k3⟩ := u_known (C := R_Y) (T := F_Y) (N := 2) (n := 2) hts ws_Y (hts _ ib_Y)
  obtain ⟨c4, i4, k4⟩ := u_known (C := R_Z) (T := F_Z) (N := 3) (n := 3) hts ws_Z (hts _ ib_Z)
  obtain ⟨c5, i5, k5⟩ := u_known (C := R_S) (T := F_S) (N := 10) (n := 10) hts ws_S (hts _ ib_S)
  obtain ⟨c6, i6, k6⟩ := u_known (C := R_M) (T := F_M) (N := 17) (n := 17) hts ws_M (hts _ ib_M)
  obtain ⟨t0, a0, b0⟩ := st_arr (hts _ ac_byte)
  obtain ⟨t1, a1, b1⟩ := st_arr (hts _ ac_boolean)
  obtain ⟨t2, a2, b2⟩ := st_obj (C := "PageStore$Block") (h _ (by decide +kernel))
  obtain ⟨t3, a3, b3⟩ := st_obj (C := "PageStore$Layer") (h _ (by decide +kernel))
  obtain ⟨t4, a4, b4⟩ := st_arr (hts _ ac_int)
  obtain ⟨t5, a5, b5⟩ := st_arr (hts _ ac_long)
  refine ⟨(fun k => [c0, c1, c2, c3, c4, c5, c6].getD k 0, fun k => [i0, i1, i2, i3, i4, i5, i6].getD k (fun _ => 0)), fun k => [t0, t1, t2, t3, t4, t5].getD k 0, fun c q hq => ?_, fun k q hq => ?_⟩
  · have hl : c < 7 := (List.getElem?_eq_some_iff.mp hq).1
    rcases (show c = 0 ∨ c = 1 ∨ c = 2 ∨ c = 3 ∨ c = 4 ∨ c = 5 ∨ c = 6 by omega) with rfl | rfl | rfl | rfl | rfl | rfl | rfl <;> cases hq
    · exact k0
    · exact k1
    · exact k2
    · exact k3
    · exact k4
    · exact k5
    · exact k6
  · have hl : k < 6 := (List.getElem?_eq_some_iff.mp hq).1
    rcases (show k = 0 ∨ k = 1 ∨ k = 2 ∨ k = 3 ∨ k = 4 ∨ k = 5 by omega) with rfl | rfl | rfl | rfl | rfl | rfl <;> cases hq
    · exact ⟨a0, b0⟩
    · exact ⟨a1, b1⟩
    · exact ⟨a2, b2⟩
    · exact ⟨a3, b3⟩
    · exact ⟨a4, b4⟩
    · exact ⟨a5, b5⟩
def saOf (s : State) (k : Nat) : Nat := match (Term.string R_S k).eval #[] s none [] s with
  | some (.ref a) => a
  | _ => 0
theorem st_txt {args : Array Value} {s : State} {k : Nat} {tx : String} (h1 : (Cond.stringRef R_S k tx).before args s = true) (h2 : (Cond.exactly (.string R_S k) "java/lang/String").before args s = true) : vk_R R_S k tx (saOf s k) s := by
  obtain ⟨a, _, _, _, h3, -⟩ := Cond.exactly_spec h2
  have h3 : (Term.string R_S k).eval #[] s none [] s = some (.ref a) := h3
  have h4 : saOf s k = a := by unfold saOf; rw [h3]
  rw [h4]
  exact vk_R.of (A := args) h1 h3
theorem st_ex : ∀ q ∈ Txt, Cond.stringRef R_S q.1 q.2 ∈ lw_tbl ∧ Cond.exactly (.string R_S q.1) "java/lang/String" ∈ flatC (Jvm.Cond.and given_1 narrow_1) := by decide +kernel
theorem st_nc : ∀ q ∈ Ncs, Cond.not (.castable q.1 q.2) ∈ flatC (Jvm.Cond.and given_1 narrow_1) := by decide +kernel
theorem st_Am {args : Array Value} {s : State} (h : ∀ w ∈ lw_tbl, w.before args s = true) (hg : (Jvm.Cond.and given_1 narrow_1).before args s = true) : Am s.heap.size (saOf s) s := by
  have hs := flat_of_before _ hg
  refine ⟨va_Nw.of rfl (h _ (by decide +kernel)), va_Nw.of rfl (h _ (by decide +kernel)), va_Nw.of rfl (h _ (by decide +kernel)), va_Nw.of rfl (h _ (by decide +kernel)), va_AO.of (h _ (by decide +kernel)), va_AO.of (h _ (by decide +kernel)),
    fun w hw => nw_of (List.mem_filter.mp hw).2 (h w (List.mem_filter.mp hw).1), fun q hq => va_Nc.of (hs _ (st_nc q hq)), fun q hq => st_txt (h _ (st_ex q hq).1) (hs _ (st_ex q hq).2), ?_, ?_⟩
  · exact vx_Zqof (h _ (by decide +kernel)) (h _ (by decide +kernel)) (hs _ (by decide +kernel)) (fun a ha hn => absurd ha (Nat.not_lt.mpr hn))
  · exact vx_Zqof (h _ (by decide +kernel)) (h _ (by decide +kernel)) (hs _ (by decide +kernel)) (fun a ha hn => absurd ha (Nat.not_lt.mpr hn))
theorem lw_exit {p : Program} {l : Launch} {e : Env} {s : State} {m : MethodId} {below : List Frame} {meth : Method} {c : Code} {b L : Nat} {xs : Nat → Int32} (hx : p.tables.exec = Jvm.exec) (hb : c.code = code) (hr : meth.sig.returnType = ret) (hlocks : meth.locks = false) (hX : va_X b L xs s s.heap) (hbl : b < s.heap.size)
    {H : Heap} {locs : List Loc} {cells slots : Nat} {ls : Array Slot} {lv : List (Nat × Value)} {v : Int32} (hS : va_S (Az s.heap.size) s.heap H locs) (hl : lv_has ls 8 lv) (k0 k1 : Nat) (h4 : lv[k0]? = some (4, .int v)) (h0 : lv[k1]? = some (0, .ref b)) (hlt : Int32.ofNat L - 6 < v) (hc : cells ≤ 601024) (hs : slots ≤ 7293034) :
    W p l e room_1 s m #[Value.ref b] below meth c H locs cells slots (lw_Z below #[Value.ref b] s) (F0 m 23 ls []) := by
  refine lv_iload hx hb d_law_23 (lv_at hl k0 h4) ?_
  refine lv_aload_n hx hb d_law_25 rfl (lv_at hl k1 h0) ?_
  refine va_slen hx hb hX hbl (fun h => absurd hbl (Nat.not_lt.mpr h)) hS d_law_26 ?_
  refine lv_bipush (v := 6) hx hb d_law_27 (by decide) ?_
  refine lv_isub hx hb d_law_29 ?_
  refine lv_icmp_gt (tgt := 556) hx hb d_law_30 rfl (fun _ => ?_) (fun h => absurd hlt h)
  refine lv_iconst (v := 1) hx hb d_law_556 (by decide) ?_
  refine va_forget hS.2.2 ?_
  refine W.widen hc hs ?_
  exact lw_ret hx hb hr hlocks d_law_557
theorem sc_in {L n : Nat} (hL : L ≤ 3072) (h : 6 * n + 6 ≤ L) : ¬ Int32.ofNat L - 6 < nI (6 * n) := by
  have e : Int32.ofNat L - 6 = nI (L - 6) := by
    show nI L - nI 6 = nI (L - 6)
    exact pk_sub (by omega)
  rw [e]
  exact Int32.not_lt.mpr (nI_le (by omega) (by omega))
theorem sc_out {L n : Nat} (hL : L ≤ 3072) (hn : 6 * n ≤ L) (h : L < 6 * n + 6) : Int32.ofNat L - 6 < nI (6 * n) := by
  by_cases h6 : 6 ≤ L
  · have e : Int32.ofNat L - 6 = nI (L - 6) := by
      show nI L - nI 6 = nI (L - 6)
      exact pk_sub (by omega)
    rw [e, Int32.lt_iff_toInt_lt, nI_toInt (by omega), nI_toInt (by omega)]
    omega
  · have hn0 : n = 0 := by omega
    subst hn0
    rcases (show L = 0 ∨ L = 1 ∨ L = 2 ∨ L = 3 ∨ L = 4 ∨ L = 5 by omega) with rfl | rfl | rfl | rfl | rfl | rfl <;> decide
/-- what the law has spent behind n calls, in the world w -/
def LcC (n : Nat) (w : va_W) : Nat := 42 + 2 * (6157 - nul w) + n
def LcS (n : Nat) (w : va_W) : Nat := 1071195 + 257 * (6157 - nul w) + 6 * n
/-- what holds behind n calls -/
def LI (a : Nat → Nat) (t : Nat → ClassId) (n : Nat) (w : va_W) : Prop := ∃ (k : Nat) (v vm : Nat → Int32), Iv a t k v w ∧ C1 v ∧ Mi a t (n + 1) vm w ∧ Ou a t w ∧ nul w ≤ 6157
