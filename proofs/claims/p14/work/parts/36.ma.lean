/-! the model: its cells stand at 34 to 40 -/
abbrev cMo (a : Nat → Nat) (v : Nat → Int32) : Nat × va_E := (a 34, .inr (6, [.ref (a 35), .ref (a 36), .int (v 0), .int (v 1), .ref (a 37), .ref (a 38), .ref (a 39), .ref (a 40), .int (v 2), .int (v 3), .int (v 4), .int (v 5), .int (v 6), .int (v 7), .int (v 8), .int (v 9), .int (v 10)]))
def Mb (NV : Nat) (v : Nat → Int32) : Prop := (∃ n : Nat, n ≤ NV ∧ v 0 = nI n) ∧ (∃ n : Nat, n ≤ 768 ∧ v 2 = nI n) ∧ (∃ n : Nat, n ≤ 768 ∧ v 3 = nI n) ∧ (∃ n : Nat, n ≤ 5 ∧ v 4 = nI n)
def Lo (NV : Nat) (f : Nat → Int32) : Prop := ∀ i, ∃ V : Nat, V < NV ∧ f i = nI V
abbrev cI (a : Nat → Nat) (t : Nat → ClassId) (p n : Nat) (f : Nat → Int32) : Nat × va_E := (a p, .inl (t 4, n, .inl f))
def Mi (a : Nat → Nat) (t : Nat → ClassId) (NV : Nat) (v : Nat → Int32) (ws : va_W) : Prop :=
  ws[34]? = some (cMo a v) ∧ Mb NV v ∧ (∃ f, ws[35]? = some (a 35, .inl (t 0, 1048832, .inl f))) ∧ (∃ f, ws[36]? = some (cI a t 36 4097 f)) ∧ (∃ f, ws[37]? = some (cI a t 37 1024 f) ∧ Lo NV f) ∧ (∃ f, ws[38]? = some (cI a t 38 1024 f) ∧ Lo NV f) ∧ (∃ f, ws[39]? = some (cI a t 39 5120 f) ∧ Lo NV f) ∧ (∃ f, ws[40]? = some (cI a t 40 5 f) ∧ Lo 769 f)
def Mk (ws u : va_W) : Prop := u.length = ws.length ∧ ∀ p, p < 34 ∨ 41 ≤ p → u[p]? = ws[p]?
theorem Mk.rf {ws : va_W} : Mk ws ws := ⟨rfl, fun _ _ => rfl⟩
theorem Mk.trans {ws u w : va_W} (h : Mk ws u) (h2 : Mk u w) : Mk ws w := ⟨h2.1.trans h.1, fun p hp => (h2.2 p hp).trans (h.2 p hp)⟩
theorem Mk.set {ws u : va_W} {p : Nat} {c : Nat × va_E} (h : Mk ws u) (h1 : 34 ≤ p) (h2 : p < 41) : Mk ws (u.set p c) := ⟨by rw [List.length_set]; exact h.1, fun q hq => by rw [List.getElem?_set_ne (by omega)]; exact h.2 q hq⟩
theorem Lo.mono {N N' : Nat} {f : Nat → Int32} (h : Lo N f) (hN : N ≤ N') : Lo N' f := fun i => by
  obtain ⟨V, h1, h2⟩ := h i
  exact ⟨V, by omega, h2⟩
theorem Lo.upd {N k V : Nat} {f : Nat → Int32} (h : Lo N f) (hV : V < N) : Lo N (upd f k (nI V)) := fun i => by
  by_cases e : i = k
  · subst e; exact ⟨V, hV, pk_us⟩
  · rw [pk_un e]; exact h i
theorem Mb.mono {N N' : Nat} {v : Nat → Int32} (h : Mb N v) (hN : N ≤ N') : Mb N' v := by
  obtain ⟨⟨n, h1, h2⟩, h3⟩ := h
  exact ⟨⟨n, by omega, h2⟩, h3⟩
section MI
variable {a : Nat → Nat} {t : Nat → ClassId} {NV NV' : Nat} {v v' : Nat → Int32} {ws : va_W} {f9 : Nat → Int32}
theorem Mi.mono (h : Mi a t NV v ws) (hN : NV ≤ NV') : Mi a t NV' v ws := by
  obtain ⟨h1, h2, h3, h4, ⟨f5, h5, l5⟩, ⟨f6, h6, l6⟩, ⟨f7, h7, l7⟩, h8⟩ := h
  exact ⟨h1, h2.mono hN, h3, h4, ⟨f5, h5, l5.mono hN⟩, ⟨f6, h6, l6.mono hN⟩, ⟨f7, h7, l7.mono hN⟩, h8⟩
theorem Mi.setO (h : Mi a t NV v ws) (hb : Mb NV v') : Mi a t NV v' (ws.set 34 (cMo a v')) := by
  obtain ⟨h1, h2, ⟨f3, h3⟩, ⟨f4, h4⟩, ⟨f5, h5, l5⟩, ⟨f6, h6, l6⟩, ⟨f7, h7, l7⟩, ⟨f8, h8, l8⟩⟩ := h
  exact ⟨lk_set h1, hb, ⟨f3, lk_ne h3 (by decide)⟩, ⟨f4, lk_ne h4 (by decide)⟩, ⟨f5, lk_ne h5 (by decide), l5⟩, ⟨f6, lk_ne h6 (by decide), l6⟩, ⟨f7, lk_ne h7 (by decide), l7⟩, ⟨f8, lk_ne h8 (by decide), l8⟩⟩
theorem Mi.s35 (h : Mi a t NV v ws) : Mi a t NV v (ws.set 35 (a 35, .inl (t 0, 1048832, .inl f9))) := by
  obtain ⟨h1, h2, ⟨f3, h3⟩, ⟨f4, h4⟩, ⟨f5, h5, l5⟩, ⟨f6, h6, l6⟩, ⟨f7, h7, l7⟩, ⟨f8, h8, l8⟩⟩ := h
  exact ⟨lk_ne h1 (by decide), h2, ⟨f9, lk_set h3⟩, ⟨f4, lk_ne h4 (by decide)⟩, ⟨f5, lk_ne h5 (by decide), l5⟩, ⟨f6, lk_ne h6 (by decide), l6⟩, ⟨f7, lk_ne h7 (by decide), l7⟩, ⟨f8, lk_ne h8 (by decide), l8⟩⟩
theorem Mi.s36 (h : Mi a t NV v ws) : Mi a t NV v (ws.set 36 (cI a t 36 4097 f9)) := by
  obtain ⟨h1, h2, ⟨f3, h3⟩, ⟨f4, h4⟩, ⟨f5, h5, l5⟩, ⟨f6, h6, l6⟩, ⟨f7, h7, l7⟩, ⟨f8, h8, l8⟩⟩ := h
  exact ⟨lk_ne h1 (by decide), h2, ⟨f3, lk_ne h3 (by decide)⟩, ⟨f9, lk_set h4⟩, ⟨f5, lk_ne h5 (by decide), l5⟩, ⟨f6, lk_ne h6 (by decide), l6⟩, ⟨f7, lk_ne h7 (by decide), l7⟩, ⟨f8, lk_ne h8 (by decide), l8⟩⟩
theorem Mi.s37 (h : Mi a t NV v ws) (l : Lo NV f9) : Mi a t NV v (ws.set 37 (cI a t 37 1024 f9)) := by
  obtain ⟨h1, h2, ⟨f3, h3⟩, ⟨f4, h4⟩, ⟨f5, h5, l5⟩, ⟨f6, h6, l6⟩, ⟨f7, h7, l7⟩, ⟨f8, h8, l8⟩⟩ := h
  exact ⟨lk_ne h1 (by decide), h2, ⟨f3, lk_ne h3 (by decide)⟩, ⟨f4, lk_ne h4 (by decide)⟩, ⟨f9, lk_set h5, l⟩, ⟨f6, lk_ne h6 (by decide), l6⟩, ⟨f7, lk_ne h7 (by decide), l7⟩, ⟨f8, lk_ne h8 (by decide), l8⟩⟩
theorem Mi.s38 (h : Mi a t NV v ws) (l : Lo NV f9) : Mi a t NV v (ws.set 38 (cI a t 38 1024 f9)) := by
  obtain ⟨h1, h2, ⟨f3, h3⟩, ⟨f4, h4⟩, ⟨f5, h5, l5⟩, ⟨f6, h6, l6⟩, ⟨f7, h7, l7⟩, ⟨f8, h8, l8⟩⟩ := h
  exact ⟨lk_ne h1 (by decide), h2, ⟨f3, lk_ne h3 (by decide)⟩, ⟨f4, lk_ne h4 (by decide)⟩, ⟨f5, lk_ne h5 (by decide), l5⟩, ⟨f9, lk_set h6, l⟩, ⟨f7, lk_ne h7 (by decide), l7⟩, ⟨f8, lk_ne h8 (by decide), l8⟩⟩
theorem Mi.s39 (h : Mi a t NV v ws) (l : Lo NV f9) : Mi a t NV v (ws.set 39 (cI a t 39 5120 f9)) := by
  obtain ⟨h1, h2, ⟨f3, h3⟩, ⟨f4, h4⟩, ⟨f5, h5, l5⟩, ⟨f6, h6, l6⟩, ⟨f7, h7, l7⟩, ⟨f8, h8, l8⟩⟩ := h
  exact ⟨lk_ne h1 (by decide), h2, ⟨f3, lk_ne h3 (by decide)⟩, ⟨f4, lk_ne h4 (by decide)⟩, ⟨f5, lk_ne h5 (by decide), l5⟩, ⟨f6, lk_ne h6 (by decide), l6⟩, ⟨f9, lk_set h7, l⟩, ⟨f8, lk_ne h8 (by decide), l8⟩⟩
theorem Mi.s40 (h : Mi a t NV v ws) (l : Lo 769 f9) : Mi a t NV v (ws.set 40 (cI a t 40 5 f9)) := by
  obtain ⟨h1, h2, ⟨f3, h3⟩, ⟨f4, h4⟩, ⟨f5, h5, l5⟩, ⟨f6, h6, l6⟩, ⟨f7, h7, l7⟩, ⟨f8, h8, l8⟩⟩ := h
  exact ⟨lk_ne h1 (by decide), h2, ⟨f3, lk_ne h3 (by decide)⟩, ⟨f4, lk_ne h4 (by decide)⟩, ⟨f5, lk_ne h5 (by decide), l5⟩, ⟨f6, lk_ne h6 (by decide), l6⟩, ⟨f7, lk_ne h7 (by decide), l7⟩, ⟨f9, lk_set h8, l⟩⟩
theorem Mi.a35 (h : Mi a t NV v ws) : ∃ f, ws[35]? = some (a 35, .inl (t 0, 1048832, .inl f)) := h.2.2.1
theorem Mi.a36 (h : Mi a t NV v ws) : ∃ f, ws[36]? = some (cI a t 36 4097 f) := h.2.2.2.1
theorem Mi.a37 (h : Mi a t NV v ws) : ∃ f, ws[37]? = some (cI a t 37 1024 f) ∧ Lo NV f := h.2.2.2.2.1
theorem Mi.a38 (h : Mi a t NV v ws) : ∃ f, ws[38]? = some (cI a t 38 1024 f) ∧ Lo NV f := h.2.2.2.2.2.1
theorem Mi.a39 (h : Mi a t NV v ws) : ∃ f, ws[39]? = some (cI a t 39 5120 f) ∧ Lo NV f := h.2.2.2.2.2.2.1
theorem Mi.a40 (h : Mi a t NV v ws) : ∃ f, ws[40]? = some (cI a t 40 5 f) ∧ Lo 769 f := h.2.2.2.2.2.2.2
end MI
theorem m_sub1 (x : Int32) : x - 1 = x + (-1) := by rw [Int32.sub_eq_add_neg]
theorem m_pg {x : Int32} {v : Nat → Int32} {NV : Nat} (hb : Mb NV v) (h1 : ¬ x < 0) (h2 : ¬ v 2 ≤ x) : ∃ i : Nat, i < 768 ∧ x = nI i := by
  obtain ⟨C, hC, e⟩ := hb.2.1
  obtain ⟨i, hi, rfl⟩ := nI_of h1
  refine ⟨i, ?_, rfl⟩
  rw [e] at h2
  have := Nat.not_le.mp (fun h => h2 ((nI_leI (by omega) hi).mpr h))
  omega
theorem m_part {x y : Int32} (h1 : ¬ x < 0) (h2 : ¬ y < 0) (h3 : ¬ 256 < x) (h4 : ¬ 256 - x < y) : ∃ i n : Nat, x = nI i ∧ y = nI n ∧ i + n ≤ 256 := by
  obtain ⟨i, hi, rfl⟩ := nI_of h1
  obtain ⟨n, hn, rfl⟩ := nI_of h2
  refine ⟨i, n, rfl, rfl, ?_⟩
  have hi2 : i ≤ 256 := Nat.not_lt.mp (fun h => h3 ((nI_ltI (a := 256) (by decide) hi).mpr h))
  rw [show (256 : Int32) = nI 256 from rfl, pk_sub hi2] at h4
  have := Nat.not_lt.mp (fun h => h4 ((nI_ltI (by omega) hn).mpr h))
  omega
set_option maxHeartbeats 4000000 in
set_option maxRecDepth 100000 in
theorem c_M_thrown {l : Launch} {D : va_G} {t : Nat → ClassId} {z : Nat} {sa : Nat → Nat} {ws : va_W} {a : Nat → Nat} {NV : Nat} {v : Nat → Int32}  (hI : Mi a t NV v ws)  : Met l y_M_thrown (Cond.code y_M_thrown b_M_thrown 1 (some .int) :: WS) ({ frames := 0, cells := 0, slots := 0, locals := 0 }) (Pz D t z sa ws [.ref (a 34)]) (va_Qi (fun (r : Int32) (u : va_W) => r = v 10 ∧ u = ws) (fun u U => Wd D t z u U) (Az z)) 0 0 (Az z) := by
  refine Met.ofW (cc := b_M_thrown) (maxL := 1) (ret := (some .int)) (by decide) rfl ?_
  intro p e s m args below meth c s₁ B hml hv
  obtain ⟨rfl, ⟨hP, hK, hD, hz⟩, hM⟩ := hv
  have hx := B.exec
  have hb := B.bytes
  have hr := B.returns
  have hts : ∀ w ∈ WS, w.before [.ref (a 34)].toArray s = true := fun w h => atoms_spec B.pre w (List.mem_cons_of_mem _ h)
  have hown : s.vm.findClass R_M = some m.cls := findClass_of_methodNamed B.named
  have hlocks := B.notSynchronized
  have hA : ∀ q, s.heap.size ≤ q → Az z q := fun q h => Nat.le_trans hz h
  have hS : va_S (Az z) s.heap s.heap [] := va_S.rf
  have hC : Mk ws ws := Mk.rf
  have hl := lv_entry ([.ref (a 34)]) (n := 1) (Nat.le_of_ble_eq_true rfl)
  rw [lg_entry_eq]
  generalize (lg_sl ([.ref (a 34)]) ++ List.replicate (1 - (lg_sl ([.ref (a 34)])).length) Slot.unset).toArray = ls at hl ⊢
  have hl : lv_has ls 1 [(0, .ref (a 34))] := hl
  refine lv_aload_n hx hb d_M_thrown_0 rfl (lv_at hl 0 rfl) ?_
  refine va_get (D := D) (ci := 6) (v := .int (v 10)) (C := R_M) (T := F_M) (N := 17) hx hb hts ws_M hown hK hP 34 hI.1 rfl 16 (by decide) (hts _ fl_M_40) (fun _ h9 => h9) rfl d_M_thrown_1 ?_
  exact W.iret (v := (v 10)) hx hb hr (fun t9 ht hW => ⟨⟨(v 10), ws, rfl, ⟨rfl, rfl⟩, ⟨by rw [ht]; exact hP, va_K.moved hW.alike hK, hD, by rw [ht]; exact Nat.le_trans hz hS.1⟩⟩, hS.F ht⟩) hS.2.2 d_M_thrown_4
set_option maxHeartbeats 4000000 in
set_option maxRecDepth 100000 in
theorem c_M_fails {l : Launch} {D : va_G} {t : Nat → ClassId} {z : Nat} {sa : Nat → Nat} {ws : va_W} {a : Nat → Nat} {NV : Nat} {v : Nat → Int32} {x9 y9 : Int32} (hI : Mi a t NV v ws)  : Met l y_M_fails (Cond.code y_M_fails b_M_fails 3 (some .boolean) :: WS) ({ frames := 0, cells := 0, slots := 0, locals := 0 }) (Pz D t z sa ws [.ref (a 34), .int x9, .int y9]) (va_Qi (fun (r : Int32) (u : va_W) => ∃ v1, Mi a t NV v1 u ∧ Mk ws u ∧ (∀ i, i ≠ 10 → v1 i = v i) ∧ (r = 1 ∨ (r = 0 ∧ x9 = 0 ∧ y9 = 0))) (fun u U => Wd D t z u U) (Az z)) 0 0 (Az z) := by
  refine Met.ofW (cc := b_M_fails) (maxL := 3) (ret := (some .boolean)) (by decide) rfl ?_
  intro p e s m args below meth c s₁ B hml hv
  obtain ⟨rfl, ⟨hP, hK, hD, hz⟩, hM⟩ := hv
  have hx := B.exec
  have hb := B.bytes
  have hr := B.returns
  have hts : ∀ w ∈ WS, w.before [.ref (a 34), .int x9, .int y9].toArray s = true := fun w h => atoms_spec B.pre w (List.mem_cons_of_mem _ h)
  have hown : s.vm.findClass R_M = some m.cls := findClass_of_methodNamed B.named
  have hlocks := B.notSynchronized
  have hA : ∀ q, s.heap.size ≤ q → Az z q := fun q h => Nat.le_trans hz h
  have hS : va_S (Az z) s.heap s.heap [] := va_S.rf
  have hC : Mk ws ws := Mk.rf
  have hl := lv_entry ([.ref (a 34), .int x9, .int y9]) (n := 3) (Nat.le_of_ble_eq_true rfl)
  rw [lg_entry_eq]
  generalize (lg_sl ([.ref (a 34), .int x9, .int y9]) ++ List.replicate (3 - (lg_sl ([.ref (a 34), .int x9, .int y9])).length) Slot.unset).toArray = ls at hl ⊢
  have hl : lv_has ls 3 [(0, .ref (a 34)), (1, .int x9), (2, .int y9)] := hl
  refine lv_aload_n hx hb d_M_fails_0 rfl (lv_at hl 0 rfl) ?_
  refine lv_iload_n hx hb d_M_fails_1 rfl (lv_at hl 1 rfl) ?_
  refine lv_if_eq (tgt := 9) hx hb d_M_fails_2 rfl (fun q1 => ?_) (fun q1 => ?_)
  · skip
    refine lv_iload_n hx hb d_M_fails_9 rfl (lv_at hl 2 rfl) ?_
    refine lv_if_eq (tgt := 17) hx hb d_M_fails_10 rfl (fun q2 => ?_) (fun q2 => ?_)
    · skip
      refine lv_iconst (v := 0) hx hb d_M_fails_17 (by decide) ?_
      refine va_put (D := D) (ci := 6) (v := .int 0) (ty := .int) (C := R_M) (T := F_M) (N := 17) hx hb hts ws_M t_M ok_M n_M hown hK hP hD hS 34 hI.1 rfl 16 (by decide) (hts _ fl_M_40) (fun _ h9 => h9) rfl (by decide +kernel) rfl rfl (Nat.le_of_ble_eq_true rfl) d_M_fails_18 (fun H locs hP hD hS => ?_)
      obtain ⟨v3, hv3⟩ : ∃ q : Nat → Int32, q = upd v 10 0 := ⟨_, rfl⟩
      have gv3 : v3 10 = 0 := by rw [hv3]; exact pk_us
      have nv3 : ∀ i, i ≠ 10 → v3 i = v i := fun i hi => by rw [hv3]; exact pk_un hi
      have hP : va_P D Cl (ws.set 34 (cMo a v3)) H := by rw [hv3]; exact hP
      have hD : va_D (Az z) (ws.set 34 (cMo a v3)) := by rw [hv3]; exact hD
      obtain ⟨w4, hw⟩ : ∃ q, q = ws.set 34 (cMo a v3) := ⟨_, rfl⟩
      have hP : va_P D Cl (ws.set 34 (cMo a v3)) H := hP
      have hD : va_D (Az z) (ws.set 34 (cMo a v3)) := hD
      have hC := hC.set (p := 34) (c := (cMo a v3)) (by decide) (by decide)
      have hI := hI.setO (v' := v3) ⟨by rw [nv3 0 (by decide)]; exact hI.2.1.1, by rw [nv3 2 (by decide)]; exact hI.2.1.2.1, by rw [nv3 3 (by decide)]; exact hI.2.1.2.2.1, by rw [nv3 4 (by decide)]; exact hI.2.1.2.2.2⟩
      rw [← hw] at hP hD hC hI
      clear hw
      refine lv_aload_n hx hb d_M_fails_21 rfl (lv_at hl 0 rfl) ?_
      refine va_get (D := D) (ci := 6) (v := .int (v3 10)) (C := R_M) (T := F_M) (N := 17) hx hb hts ws_M hown hK hP 34 hI.1 rfl 16 (by decide) (hts _ fl_M_40) (fun _ h9 => h9) rfl d_M_fails_22 ?_
      refine W.eq (g2 := F0 m 25 ls [.int 0]) (by rw [gv3]) ?_
      refine lv_if_le (tgt := 32) hx hb d_M_fails_25 rfl (fun _ => ?_) (fun h => absurd h (by decide))
      refine lv_iconst (v := 0) hx hb d_M_fails_32 (by decide) ?_
      exact W.zret (v := 0) (ty := .boolean) hx hb hr rfl (fun t9 ht hW => ⟨⟨0, w4, rfl, ⟨_, hI, hC, nv3, Or.inr ⟨rfl, by assumption, by assumption⟩⟩, ⟨by rw [ht]; exact hP, va_K.moved hW.alike hK, hD, by rw [ht]; exact Nat.le_trans hz hS.1⟩⟩, hS.F ht⟩) hS.2.2 d_M_fails_33
    · skip
      refine lv_iconst (v := 2) hx hb d_M_fails_13 (by decide) ?_
      refine lv_goto (tgt := 18) hx hb d_M_fails_14 rfl ?_
      refine va_put (D := D) (ci := 6) (v := .int 2) (ty := .int) (C := R_M) (T := F_M) (N := 17) hx hb hts ws_M t_M ok_M n_M hown hK hP hD hS 34 hI.1 rfl 16 (by decide) (hts _ fl_M_40) (fun _ h9 => h9) rfl (by decide +kernel) rfl rfl (Nat.le_of_ble_eq_true rfl) d_M_fails_18 (fun H locs hP hD hS => ?_)
      obtain ⟨v5, hv5⟩ : ∃ q : Nat → Int32, q = upd v 10 2 := ⟨_, rfl⟩
      have gv5 : v5 10 = 2 := by rw [hv5]; exact pk_us
      have nv5 : ∀ i, i ≠ 10 → v5 i = v i := fun i hi => by rw [hv5]; exact pk_un hi
      have hP : va_P D Cl (ws.set 34 (cMo a v5)) H := by rw [hv5]; exact hP
      have hD : va_D (Az z) (ws.set 34 (cMo a v5)) := by rw [hv5]; exact hD
      obtain ⟨w6, hw⟩ : ∃ q, q = ws.set 34 (cMo a v5) := ⟨_, rfl⟩
      have hP : va_P D Cl (ws.set 34 (cMo a v5)) H := hP
      have hD : va_D (Az z) (ws.set 34 (cMo a v5)) := hD
      have hC := hC.set (p := 34) (c := (cMo a v5)) (by decide) (by decide)
      have hI := hI.setO (v' := v5) ⟨by rw [nv5 0 (by decide)]; exact hI.2.1.1, by rw [nv5 2 (by decide)]; exact hI.2.1.2.1, by rw [nv5 3 (by decide)]; exact hI.2.1.2.2.1, by rw [nv5 4 (by decide)]; exact hI.2.1.2.2.2⟩
      rw [← hw] at hP hD hC hI
      clear hw
      refine lv_aload_n hx hb d_M_fails_21 rfl (lv_at hl 0 rfl) ?_
      refine va_get (D := D) (ci := 6) (v := .int (v5 10)) (C := R_M) (T := F_M) (N := 17) hx hb hts ws_M hown hK hP 34 hI.1 rfl 16 (by decide) (hts _ fl_M_40) (fun _ h9 => h9) rfl d_M_fails_22 ?_
      refine W.eq (g2 := F0 m 25 ls [.int 2]) (by rw [gv5]) ?_
      refine lv_if_le (tgt := 32) hx hb d_M_fails_25 rfl (fun h => absurd h (by decide)) (fun _ => ?_)
      refine lv_iconst (v := 1) hx hb d_M_fails_28 (by decide) ?_
      refine lv_goto (tgt := 33) hx hb d_M_fails_29 rfl ?_
      exact W.zret (v := 1) (ty := .boolean) hx hb hr rfl (fun t9 ht hW => ⟨⟨1, w6, rfl, ⟨_, hI, hC, nv5, Or.inl rfl⟩, ⟨by rw [ht]; exact hP, va_K.moved hW.alike hK, hD, by rw [ht]; exact Nat.le_trans hz hS.1⟩⟩, hS.F ht⟩) hS.2.2 d_M_fails_33
  · skip
    refine lv_iconst (v := 1) hx hb d_M_fails_5 (by decide) ?_
    refine lv_goto (tgt := 18) hx hb d_M_fails_6 rfl ?_
    refine va_put (D := D) (ci := 6) (v := .int 1) (ty := .int) (C := R_M) (T := F_M) (N := 17) hx hb hts ws_M t_M ok_M n_M hown hK hP hD hS 34 hI.1 rfl 16 (by decide) (hts _ fl_M_40) (fun _ h9 => h9) rfl (by decide +kernel) rfl rfl (Nat.le_of_ble_eq_true rfl) d_M_fails_18 (fun H locs hP hD hS => ?_)
    obtain ⟨v7, hv7⟩ : ∃ q : Nat → Int32, q = upd v 10 1 := ⟨_, rfl⟩
    have gv7 : v7 10 = 1 := by rw [hv7]; exact pk_us
    have nv7 : ∀ i, i ≠ 10 → v7 i = v i := fun i hi => by rw [hv7]; exact pk_un hi
    have hP : va_P D Cl (ws.set 34 (cMo a v7)) H := by rw [hv7]; exact hP
    have hD : va_D (Az z) (ws.set 34 (cMo a v7)) := by rw [hv7]; exact hD
    obtain ⟨w8, hw⟩ : ∃ q, q = ws.set 34 (cMo a v7) := ⟨_, rfl⟩
    have hP : va_P D Cl (ws.set 34 (cMo a v7)) H := hP
    have hD : va_D (Az z) (ws.set 34 (cMo a v7)) := hD
    have hC := hC.set (p := 34) (c := (cMo a v7)) (by decide) (by decide)
    have hI := hI.setO (v' := v7) ⟨by rw [nv7 0 (by decide)]; exact hI.2.1.1, by rw [nv7 2 (by decide)]; exact hI.2.1.2.1, by rw [nv7 3 (by decide)]; exact hI.2.1.2.2.1, by rw [nv7 4 (by decide)]; exact hI.2.1.2.2.2⟩
    rw [← hw] at hP hD hC hI
    clear hw
    refine lv_aload_n hx hb d_M_fails_21 rfl (lv_at hl 0 rfl) ?_
    refine va_get (D := D) (ci := 6) (v := .int (v7 10)) (C := R_M) (T := F_M) (N := 17) hx hb hts ws_M hown hK hP 34 hI.1 rfl 16 (by decide) (hts _ fl_M_40) (fun _ h9 => h9) rfl d_M_fails_22 ?_
    refine W.eq (g2 := F0 m 25 ls [.int 1]) (by rw [gv7]) ?_
    refine lv_if_le (tgt := 32) hx hb d_M_fails_25 rfl (fun h => absurd h (by decide)) (fun _ => ?_)
    refine lv_iconst (v := 1) hx hb d_M_fails_28 (by decide) ?_
    refine lv_goto (tgt := 33) hx hb d_M_fails_29 rfl ?_
    exact W.zret (v := 1) (ty := .boolean) hx hb hr rfl (fun t9 ht hW => ⟨⟨1, w8, rfl, ⟨_, hI, hC, nv7, Or.inl rfl⟩, ⟨by rw [ht]; exact hP, va_K.moved hW.alike hK, hD, by rw [ht]; exact Nat.le_trans hz hS.1⟩⟩, hS.F ht⟩) hS.2.2 d_M_fails_33
set_option maxHeartbeats 4000000 in
set_option maxRecDepth 100000 in
theorem c_M_isPage {l : Launch} {D : va_G} {t : Nat → ClassId} {z : Nat} {sa : Nat → Nat} {ws : va_W} {a : Nat → Nat} {NV : Nat} {v : Nat → Int32} {x9 : Int32} (hI : Mi a t NV v ws)  : Met l y_M_isPage (Cond.code y_M_isPage b_M_isPage 2 (some .boolean) :: WS) ({ frames := 0, cells := 0, slots := 0, locals := 0 }) (Pz D t z sa ws [.ref (a 34), .int x9]) (va_Qi (fun (r : Int32) (u : va_W) => u = ws ∧ (r = 0 ∨ (r = 1 ∧ ∃ i : Nat, i < 768 ∧ x9 = nI i))) (fun u U => Wd D t z u U) (Az z)) 0 0 (Az z) := by
  refine Met.ofW (cc := b_M_isPage) (maxL := 2) (ret := (some .boolean)) (by decide) rfl ?_
  intro p e s m args below meth c s₁ B hml hv
  obtain ⟨rfl, ⟨hP, hK, hD, hz⟩, hM⟩ := hv
  have hx := B.exec
  have hb := B.bytes
  have hr := B.returns
  have hts : ∀ w ∈ WS, w.before [.ref (a 34), .int x9].toArray s = true := fun w h => atoms_spec B.pre w (List.mem_cons_of_mem _ h)
  have hown : s.vm.findClass R_M = some m.cls := findClass_of_methodNamed B.named
  have hlocks := B.notSynchronized
  have hA : ∀ q, s.heap.size ≤ q → Az z q := fun q h => Nat.le_trans hz h
  have hS : va_S (Az z) s.heap s.heap [] := va_S.rf
  have hC : Mk ws ws := Mk.rf
  have hl := lv_entry ([.ref (a 34), .int x9]) (n := 2) (Nat.le_of_ble_eq_true rfl)
  rw [lg_entry_eq]
  generalize (lg_sl ([.ref (a 34), .int x9]) ++ List.replicate (2 - (lg_sl ([.ref (a 34), .int x9])).length) Slot.unset).toArray = ls at hl ⊢
  have hl : lv_has ls 2 [(0, .ref (a 34)), (1, .int x9)] := hl
  refine lv_iload_n hx hb d_M_isPage_0 rfl (lv_at hl 1 rfl) ?_
  refine lv_if_lt (tgt := 16) hx hb d_M_isPage_1 rfl (fun q1 => ?_) (fun q1 => ?_)
  · skip
    refine lv_iconst (v := 0) hx hb d_M_isPage_16 (by decide) ?_
    exact W.zret (v := 0) (ty := .boolean) hx hb hr rfl (fun t9 ht hW => ⟨⟨0, ws, rfl, ⟨rfl, Or.inl rfl⟩, ⟨by rw [ht]; exact hP, va_K.moved hW.alike hK, hD, by rw [ht]; exact Nat.le_trans hz hS.1⟩⟩, hS.F ht⟩) hS.2.2 d_M_isPage_17
  · skip
    refine lv_iload_n hx hb d_M_isPage_4 rfl (lv_at hl 1 rfl) ?_
    refine lv_aload_n hx hb d_M_isPage_5 rfl (lv_at hl 0 rfl) ?_
    refine va_get (D := D) (ci := 6) (v := .int (v 2)) (C := R_M) (T := F_M) (N := 17) hx hb hts ws_M hown hK hP 34 hI.1 rfl 8 (by decide) (hts _ fl_M_43) (fun _ h9 => h9) rfl d_M_isPage_6 ?_
    refine lv_icmp_ge (tgt := 16) hx hb d_M_isPage_9 rfl (fun q2 => ?_) (fun q2 => ?_)
    · skip
      refine lv_iconst (v := 0) hx hb d_M_isPage_16 (by decide) ?_
      exact W.zret (v := 0) (ty := .boolean) hx hb hr rfl (fun t9 ht hW => ⟨⟨0, ws, rfl, ⟨rfl, Or.inl rfl⟩, ⟨by rw [ht]; exact hP, va_K.moved hW.alike hK, hD, by rw [ht]; exact Nat.le_trans hz hS.1⟩⟩, hS.F ht⟩) hS.2.2 d_M_isPage_17
    · skip
      refine lv_iconst (v := 1) hx hb d_M_isPage_12 (by decide) ?_
      refine lv_goto (tgt := 17) hx hb d_M_isPage_13 rfl ?_
      exact W.zret (v := 1) (ty := .boolean) hx hb hr rfl (fun t9 ht hW => ⟨⟨1, ws, rfl, ⟨rfl, Or.inr ⟨rfl, m_pg hI.2.1 (by assumption) (by assumption)⟩⟩, ⟨by rw [ht]; exact hP, va_K.moved hW.alike hK, hD, by rw [ht]; exact Nat.le_trans hz hS.1⟩⟩, hS.F ht⟩) hS.2.2 d_M_isPage_17
set_option maxHeartbeats 4000000 in
set_option maxRecDepth 100000 in
theorem c_M_isPart {l : Launch} {D : va_G} {t : Nat → ClassId} {z : Nat} {sa : Nat → Nat} {ws : va_W} {a : Nat → Nat} {NV : Nat} {v : Nat → Int32} {x9 y9 : Int32} (hI : Mi a t NV v ws)  : Met l y_M_isPart (Cond.code y_M_isPart b_M_isPart 2 (some .boolean) :: WS) ({ frames := 0, cells := 0, slots := 0, locals := 0 }) (Pz D t z sa ws [.int x9, .int y9]) (va_Qi (fun (r : Int32) (u : va_W) => u = ws ∧ (r = 0 ∨ (r = 1 ∧ ∃ i n : Nat, x9 = nI i ∧ y9 = nI n ∧ i + n ≤ 256))) (fun u U => Wd D t z u U) (Az z)) 0 0 (Az z) := by
  refine Met.ofW (cc := b_M_isPart) (maxL := 2) (ret := (some .boolean)) (by decide) rfl ?_
  intro p e s m args below meth c s₁ B hml hv
  obtain ⟨rfl, ⟨hP, hK, hD, hz⟩, hM⟩ := hv
  have hx := B.exec
  have hb := B.bytes
  have hr := B.returns
  have hts : ∀ w ∈ WS, w.before [.int x9, .int y9].toArray s = true := fun w h => atoms_spec B.pre w (List.mem_cons_of_mem _ h)
  have hown : s.vm.findClass R_M = some m.cls := findClass_of_methodNamed B.named
  have hlocks := B.notSynchronized
  have hA : ∀ q, s.heap.size ≤ q → Az z q := fun q h => Nat.le_trans hz h
  have hS : va_S (Az z) s.heap s.heap [] := va_S.rf
  have hC : Mk ws ws := Mk.rf
  have hl := lv_entry ([.int x9, .int y9]) (n := 2) (Nat.le_of_ble_eq_true rfl)
  rw [lg_entry_eq]
  generalize (lg_sl ([.int x9, .int y9]) ++ List.replicate (2 - (lg_sl ([.int x9, .int y9])).length) Slot.unset).toArray = ls at hl ⊢
  have hl : lv_has ls 2 [(0, .int x9), (1, .int y9)] := hl
  refine lv_iload_n hx hb d_M_isPart_0 rfl (lv_at hl 0 rfl) ?_
  refine lv_if_lt (tgt := 28) hx hb d_M_isPart_1 rfl (fun q1 => ?_) (fun q1 => ?_)
  · skip
    refine lv_iconst (v := 0) hx hb d_M_isPart_28 (by decide) ?_
    exact W.zret (v := 0) (ty := .boolean) hx hb hr rfl (fun t9 ht hW => ⟨⟨0, ws, rfl, ⟨rfl, Or.inl rfl⟩, ⟨by rw [ht]; exact hP, va_K.moved hW.alike hK, hD, by rw [ht]; exact Nat.le_trans hz hS.1⟩⟩, hS.F ht⟩) hS.2.2 d_M_isPart_29
  · skip
    refine lv_iload_n hx hb d_M_isPart_4 rfl (lv_at hl 1 rfl) ?_
    refine lv_if_lt (tgt := 28) hx hb d_M_isPart_5 rfl (fun q2 => ?_) (fun q2 => ?_)
    · skip
      refine lv_iconst (v := 0) hx hb d_M_isPart_28 (by decide) ?_
      exact W.zret (v := 0) (ty := .boolean) hx hb hr rfl (fun t9 ht hW => ⟨⟨0, ws, rfl, ⟨rfl, Or.inl rfl⟩, ⟨by rw [ht]; exact hP, va_K.moved hW.alike hK, hD, by rw [ht]; exact Nat.le_trans hz hS.1⟩⟩, hS.F ht⟩) hS.2.2 d_M_isPart_29
    · skip
      refine lv_iload_n hx hb d_M_isPart_8 rfl (lv_at hl 0 rfl) ?_
      refine lv_sipush (v := 256) hx hb d_M_isPart_9 (by decide) ?_
      refine lv_icmp_gt (tgt := 28) hx hb d_M_isPart_12 rfl (fun q3 => ?_) (fun q3 => ?_)
      · skip
        refine lv_iconst (v := 0) hx hb d_M_isPart_28 (by decide) ?_
        exact W.zret (v := 0) (ty := .boolean) hx hb hr rfl (fun t9 ht hW => ⟨⟨0, ws, rfl, ⟨rfl, Or.inl rfl⟩, ⟨by rw [ht]; exact hP, va_K.moved hW.alike hK, hD, by rw [ht]; exact Nat.le_trans hz hS.1⟩⟩, hS.F ht⟩) hS.2.2 d_M_isPart_29
      · skip
        refine lv_iload_n hx hb d_M_isPart_15 rfl (lv_at hl 1 rfl) ?_
        refine lv_sipush (v := 256) hx hb d_M_isPart_16 (by decide) ?_
        refine lv_iload_n hx hb d_M_isPart_19 rfl (lv_at hl 0 rfl) ?_
        refine lv_isub hx hb d_M_isPart_20 ?_
        refine lv_icmp_gt (tgt := 28) hx hb d_M_isPart_21 rfl (fun q4 => ?_) (fun q4 => ?_)
        · skip
          refine lv_iconst (v := 0) hx hb d_M_isPart_28 (by decide) ?_
          exact W.zret (v := 0) (ty := .boolean) hx hb hr rfl (fun t9 ht hW => ⟨⟨0, ws, rfl, ⟨rfl, Or.inl rfl⟩, ⟨by rw [ht]; exact hP, va_K.moved hW.alike hK, hD, by rw [ht]; exact Nat.le_trans hz hS.1⟩⟩, hS.F ht⟩) hS.2.2 d_M_isPart_29
        · skip
          refine lv_iconst (v := 1) hx hb d_M_isPart_24 (by decide) ?_
          refine lv_goto (tgt := 29) hx hb d_M_isPart_25 rfl ?_
          exact W.zret (v := 1) (ty := .boolean) hx hb hr rfl (fun t9 ht hW => ⟨⟨1, ws, rfl, ⟨rfl, Or.inr ⟨rfl, m_part (by assumption) (by assumption) (by assumption) (by assumption)⟩⟩, ⟨by rw [ht]; exact hP, va_K.moved hW.alike hK, hD, by rw [ht]; exact Nat.le_trans hz hS.1⟩⟩, hS.F ht⟩) hS.2.2 d_M_isPart_29
set_option maxHeartbeats 4000000 in
set_option maxRecDepth 100000 in
theorem c_M_at {l : Launch} {D : va_G} {t : Nat → ClassId} {z : Nat} {sa : Nat → Nat} {ws : va_W} {a : Nat → Nat} {NV : Nat} {v : Nat → Int32} {x9 y9 : Int32} {ip iy : Nat} (hI : Mi a t NV v ws) (hip : ip < 768) (hxp : x9 = nI ip) (hiy : iy < 256) (hyy : y9 = nI iy) (hNV : NV ≤ 4000) : Met l y_M_at (Cond.code y_M_at b_M_at 3 (some .int) :: WS) ({ frames := 0, cells := 0, slots := 0, locals := 0 }) (Pz D t z sa ws [.ref (a 34), .int x9, .int y9]) (va_Qi (fun (r : Int32) (u : va_W) => u = ws) (fun u U => Wd D t z u U) (Az z)) 0 0 (Az z) := by
  refine Met.ofW (cc := b_M_at) (maxL := 3) (ret := (some .int)) (by decide) rfl ?_
  intro p e s m args below meth c s₁ B hml hv
  obtain ⟨rfl, ⟨hP, hK, hD, hz⟩, hM⟩ := hv
  have hx := B.exec
  have hb := B.bytes
  have hr := B.returns
  have hts : ∀ w ∈ WS, w.before [.ref (a 34), .int x9, .int y9].toArray s = true := fun w h => atoms_spec B.pre w (List.mem_cons_of_mem _ h)
  have hown : s.vm.findClass R_M = some m.cls := findClass_of_methodNamed B.named
  have hlocks := B.notSynchronized
  have hA : ∀ q, s.heap.size ≤ q → Az z q := fun q h => Nat.le_trans hz h
  have hS : va_S (Az z) s.heap s.heap [] := va_S.rf
  have hC : Mk ws ws := Mk.rf
  have hl := lv_entry ([.ref (a 34), .int x9, .int y9]) (n := 3) (Nat.le_of_ble_eq_true rfl)
  rw [lg_entry_eq]
  generalize (lg_sl ([.ref (a 34), .int x9, .int y9]) ++ List.replicate (3 - (lg_sl ([.ref (a 34), .int x9, .int y9])).length) Slot.unset).toArray = ls at hl ⊢
  have hl : lv_has ls 3 [(0, .ref (a 34)), (1, .int x9), (2, .int y9)] := hl
  refine lv_aload_n hx hb d_M_at_0 rfl (lv_at hl 0 rfl) ?_
  refine va_get (D := D) (ci := 6) (v := .ref (a 35)) (C := R_M) (T := F_M) (N := 17) hx hb hts ws_M hown hK hP 34 hI.1 rfl 0 (by decide) (hts _ fl_M_8) (fun _ h9 => h9) rfl d_M_at_1 ?_
  refine lv_sipush (v := 256) hx hb d_M_at_4 (by decide) ?_
  refine lv_aload_n hx hb d_M_at_7 rfl (lv_at hl 0 rfl) ?_
  refine va_get (D := D) (ci := 6) (v := .ref (a 37)) (C := R_M) (T := F_M) (N := 17) hx hb hts ws_M hown hK hP 34 hI.1 rfl 4 (by decide) (hts _ fl_M_25) (fun _ h9 => h9) rfl d_M_at_8 ?_
  refine lv_iload_n hx hb d_M_at_11 rfl (lv_at hl 1 rfl) ?_
  obtain ⟨fA1, eA1, lA1⟩ := hI.a37
  refine va_iald (D := D) hx hb hK hP 37 4 eA1 rfl (i := x9) (by rw [hxp]; exact vp_in_nI (by omega) (by decide)) d_M_at_12 ?_
  obtain ⟨VA1, hVA1, eVA1⟩ := lA1 (x9 : Int32).toNatClampNeg
  refine W.eq (g2 := F0 m 13 ls [.int (nI VA1), .int 256, .ref (a 35)]) (by rw [eVA1]) ?_
  refine lv_imul hx hb d_M_at_13 ?_
  refine lv_topi (fun y2 hy2 => ?_)
  have hy2 : y2 = nI (256 * VA1) := by rw [hy2]; exact pk_mul 256 VA1
  refine lv_iload_n hx hb d_M_at_14 rfl (lv_at hl 2 rfl) ?_
  refine lv_iadd hx hb d_M_at_15 ?_
  refine lv_topi (fun y3 hy3 => ?_)
  have hy3 : y3 = nI ((256 * VA1) + iy) := by rw [hy3, hy2, hyy]; exact nI_add (256 * VA1) iy
  obtain ⟨fA4, eA4⟩ := hI.a35
  refine va_bald (D := D) hx hb hK hP 35 0 eA4 rfl (i := y3) (by rw [hy3]; exact vp_in_nI (by omega) (by decide)) d_M_at_16 ?_
  generalize fA4 (y3 : Int32).toNatClampNeg = y5
  refine lv_sipush (v := 255) hx hb d_M_at_17 (by decide) ?_
  refine lv_iand hx hb d_M_at_20 ?_
  refine lv_topi (fun v6 hv6 => ?_)
  exact W.iret (v := v6) hx hb hr (fun t9 ht hW => ⟨⟨v6, ws, rfl, rfl, ⟨by rw [ht]; exact hP, va_K.moved hW.alike hK, hD, by rw [ht]; exact Nat.le_trans hz hS.1⟩⟩, hS.F ht⟩) hS.2.2 d_M_at_21
