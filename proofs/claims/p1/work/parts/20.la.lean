section CT
variable {p : Program} {l : Launch} {e : Env} {R : Room} {s : State} {m : MethodId} {args : Array Value} {below : List Frame} {meth : Method} {c : Code} {H : Heap} {locs : List Loc} {cells slots : Nat} {Q : State → Prop} {pc : Nat} {ls : Array Slot} {st0 : List Value} {D : va_G} {t : Nat → ClassId} {z : Nat} {ws : va_W}
/-- a call that only throws cls, to be caught here -/
theorem catE {cls : String} {mc1 ms1 : Nat} {g : JFrame} {Qa : State → Outcome → State → Prop} (hr : vx_Run p l e R s m args below meth c H locs cells slots mc1 ms1 (F0 m pc ls st0) g.stack Qa (Xw D t z cls ws) (Az z)) (hq : ∀ a b d, ¬ Qa a b d) (hS : va_S (Az z) s.heap H locs)
    (kx : ∀ (ce : Cell) (q9 : Addr) (H1 : Heap) (locs1 : List Loc), va_P D Cl ws H1 → va_S (Az z) s.heap H1 locs1 → H1[q9]? = some ce → ce.vm = .none → s.vm.findClass cls = some ce.cls → vx_W p l e R s m args below meth c H1 locs1 (cells + mc1) (slots + ms1) Q (F0 m pc ls g.stack) q9) :
    W p l e R s m args below meth c H locs cells slots Q (F0 m pc ls st0) := by
  intro T hT X
  rcases hr T hT X with ⟨v, st₀, t', T', L, h0, X', hL, e1, e2, hq1, st⟩ | ⟨q, st₀, t', T', L, E, ce, h0, X', hL, e1, e2, ⟨u, hp, hb, hF⟩, hce, hcv, hcl, st⟩
  · exact (hq _ _ _ hq1).elim
  · obtain ⟨k1, k2, k3⟩ := vx_keep h0 e1 hS (A1 := Az z) (fun _ _ h => h) (fun _ h => h) hL hF
    obtain ⟨rfl, hb⟩ := hb
    subst hp
    obtain ⟨t2, a1, b1⟩ := kx ce q T'.heap (locs ++ L) (by rw [e1]; exact hb.1) k3 (by rw [e1]; exact hce) hcv hcl T' rfl X'
    exact ⟨t2, st.trans a1, b1⟩
end CT
set_option maxHeartbeats 4000000 in
set_option maxRecDepth 100000 in
theorem c_L_pages {l : Launch} {D : va_G} {t : Nat → ClassId} {z : Nat} {sa : Nat → Nat} {ws : va_W} {x xf xj xl fu xr oo : Nat} {f0 : Nat → Int64} (e0 : ws[0]? = some (x, .inr (5, [.ref xf, .ref xj, .ref xl, .ref fu, .ref xr, .int 1, .int 0, .int 0, .int 0, .int 0]))) (e41 : ws[41]? = some (oo, .inl (t 5, 1, .inr (.inl f0))))  : Met l y_L_pages (Cond.codeWith y_L_pages b_L_pages 3 (some .int) [(0, 8, 11, 13)] :: WS) ({ frames := 2, cells := 0, slots := 0, locals := 40 }) (Pz D t z sa ws [.ref x, .ref oo]) (va_Qi (fun (r : Int32) (u : va_W) => r = 0 ∧ Ch ws u [41] ∧ u[41]? = some (oo, .inl (t 5, 1, .inr (.inl (vp_updL f0 0 0))))) (fun u U => Wd D t z u U) (Az z)) 0 0 (Az z) := by
  refine va_MetW (cc := b_L_pages) (maxL := 3) (ret := (some .int)) (by decide) rfl ?_
  intro p e s m args below meth c s₁ B hml hv
  obtain ⟨rfl, ⟨hP, hK, hD, hz⟩, hM⟩ := hv
  have hx := B.exec
  have hb := B.bytes
  have hr := B.returns
  have hts : ∀ w ∈ WS, w.before [.ref x, .ref oo].toArray s = true := fun w h => atoms_spec B.pre w (List.mem_cons_of_mem _ h)
  have hown : s.vm.findClass R_L = some m.cls := findClass_of_methodNamed B.named
  have hlocks := B.notSynchronized
  have htab := vx_table (x := y_L_pages) B (atoms_spec B.pre _ List.mem_cons_self)
  have hA : ∀ q, s.heap.size ≤ q → Az z q := fun q h => Nat.le_trans hz h
  have hS : va_S (Az z) s.heap s.heap [] := va_S.rf
  have hC : Ch ws ws [] := Ch.rf
  have hl := lv_entry ([.ref x, .ref oo]) (n := 3) (Nat.le_of_ble_eq_true rfl)
  rw [lg_entry_eq]
  generalize (lg_sl ([.ref x, .ref oo]) ++ List.replicate (3 - (lg_sl ([.ref x, .ref oo])).length) Slot.unset).toArray = ls at hl ⊢
  have hl : lv_has ls 3 [(0, .ref x), (1, .ref oo)] := hl
  refine lv_aload_n hx hb d_L_pages_0 rfl (lv_at hl 1 rfl) ?_
  refine lv_iconst (v := 0) hx hb d_L_pages_1 (by decide) ?_
  refine lv_aload_n hx hb d_L_pages_2 rfl (lv_at hl 0 rfl) ?_
  refine va_calli (va_runV (As := []) (rest := [.int 0, .ref oo]) ⟨hx, hb, hml, hown, hts⟩ (c_S_pages (D := D) (t := t) (z := z) (sa := sa) (ws := ws)  e0) (cwV 0 hts (gd_V ml_L_7 im_S_pages se_S_pages in_S cd_S_pages) rfl rfl rfl (by decide +kernel) ⟨Nat.le_of_ble_eq_true rfl, Nat.le_of_ble_eq_true rfl⟩) ⟨Pz_blind, va_recv hK hP (ci := 5) rfl e0, Pz_at hP hK hD hz hM hS⟩ rfl rfl hl.1 rfl (lv_room (Nat.le_of_ble_eq_true rfl)) d_L_pages_3 ⟨Nat.le_of_ble_eq_true rfl, Nat.le_of_ble_eq_true rfl⟩) hS (fun q _ h => h) (fun q h => h) (fun r2 w1 t9 H locs ht hvm hp hB hz1 hk1 hS => ?_)
  obtain ⟨hP, hK9, hD, -⟩ := hB
  rw [ht] at hP
  clear hK9
  obtain ⟨hr9, hw9⟩ := hp
  rw [hw9] at hP hD
  clear hw9
  subst hr9
  refine lv_i2l (v := 0) hx hb d_L_pages_6 (by decide) ?_
  refine va_last (D := D) hx hb hK hP hD hS 41 5 e41 rfl (i := 0) (x := 0) (by unfold vp_in; decide) d_L_pages_7 (fun H locs hP hD hS => ?_)
  obtain ⟨w3, hw⟩ : ∃ q, q = ws.set 41 (oo, .inl (t 5, 1, .inr (.inl (vp_updL f0 0 0)))) := ⟨_, rfl⟩
  have hP : va_P D Cl (ws.set 41 (oo, .inl (t 5, 1, .inr (.inl (vp_updL f0 0 0))))) H := hP
  have hD : va_D (Az z) (ws.set 41 (oo, .inl (t 5, 1, .inr (.inl (vp_updL f0 0 0))))) := hD
  rw [← hw] at hP hD
  have hC := hC.put (p := 41) (c := (oo, .inl (t 5, 1, .inr (.inl (vp_updL f0 0 0)))))
  rw [← hw] at hC
  have e0 : w3[0]? = some (x, .inr (5, [.ref xf, .ref xj, .ref xl, .ref fu, .ref xr, .int 1, .int 0, .int 0, .int 0, .int 0])) := by rw [hw]; exact lk_ne e0 (by decide)
  have e41 : w3[41]? = some (oo, .inl (t 5, 1, .inr (.inl (vp_updL f0 0 0)))) := by rw [hw]; exact lk_set e41
  clear hw
  refine lv_goto (tgt := 14) hx hb d_L_pages_8 rfl ?_
  refine lv_iconst (v := 0) hx hb d_L_pages_14 (by decide) ?_
  exact W.iret (v := 0) hx hb hr (fun t9 ht hW => ⟨⟨0, w3, rfl, ⟨rfl, hC.sub (by decide), e41⟩, ⟨by rw [ht]; exact hP, va_K.moved hW.alike hK, hD, by rw [ht]; exact Nat.le_trans hz hS.1⟩⟩, hS.F ht⟩) hS.2.2 d_L_pages_15
set_option maxHeartbeats 4000000 in
set_option maxRecDepth 100000 in
theorem c_L_add {l : Launch} {D : va_G} {t : Nat → ClassId} {z : Nat} {sa : Nat → Nat} {ws : va_W} {x xf xj xl fu xr oo : Nat} {f0 : Nat → Int64} (hl0 : l.stackTraces = false) (e0 : ws[0]? = some (x, .inr (5, [.ref xf, .ref xj, .ref xl, .ref fu, .ref xr, .int 1, .int 0, .int 0, .int 0, .int 0]))) (e41 : ws[41]? = some (oo, .inl (t 5, 1, .inr (.inl f0))))  : Met l y_L_add (Cond.codeWith y_L_add b_L_add 3 (some .int) [(0, 8, 11, 13)] :: WS) ({ frames := 8, cells := 1, slots := 6, locals := 122 }) (Pz D t z sa ws [.ref x, .ref oo]) (va_Qi (fun (r : Int32) (u : va_W) => r = 1 ∧ Ch ws u []) (fun u U => Wd D t z u U) (Az z)) 1 6 (Az z) := by
  refine va_MetW (cc := b_L_add) (maxL := 3) (ret := (some .int)) (by decide) rfl ?_
  intro p e s m args below meth c s₁ B hml hv
  obtain ⟨rfl, ⟨hP, hK, hD, hz⟩, hM⟩ := hv
  have hx := B.exec
  have hb := B.bytes
  have hr := B.returns
  have hts : ∀ w ∈ WS, w.before [.ref x, .ref oo].toArray s = true := fun w h => atoms_spec B.pre w (List.mem_cons_of_mem _ h)
  have hown : s.vm.findClass R_L = some m.cls := findClass_of_methodNamed B.named
  have hlocks := B.notSynchronized
  have htab := vx_table (x := y_L_add) B (atoms_spec B.pre _ List.mem_cons_self)
  have hA : ∀ q, s.heap.size ≤ q → Az z q := fun q h => Nat.le_trans hz h
  have hS : va_S (Az z) s.heap s.heap [] := va_S.rf
  have hC : Ch ws ws [] := Ch.rf
  have hl := lv_entry ([.ref x, .ref oo]) (n := 3) (Nat.le_of_ble_eq_true rfl)
  rw [lg_entry_eq]
  generalize (lg_sl ([.ref x, .ref oo]) ++ List.replicate (3 - (lg_sl ([.ref x, .ref oo])).length) Slot.unset).toArray = ls at hl ⊢
  have hl : lv_has ls 3 [(0, .ref x), (1, .ref oo)] := hl
  refine lv_aload_n hx hb d_L_add_0 rfl (lv_at hl 1 rfl) ?_
  refine lv_iconst (v := 0) hx hb d_L_add_1 (by decide) ?_
  refine lv_aload_n hx hb d_L_add_2 rfl (lv_at hl 0 rfl) ?_
  refine catE (g := F0 m 3 ls [.int 0, .ref oo]) (vx_runV (As := []) (rest := [.int 0, .ref oo]) ⟨hx, hb, hml, hown, hts⟩ (c_S_add_t (D := D) (t := t) (z := z) (sa := sa) (ws := ws)  hl0 e0) (cwV 0 hts (gd_V ml_L_15 im_S_add se_S_add in_S cd_S_add) rfl rfl rfl (by decide +kernel) ⟨Nat.le_of_ble_eq_true rfl, Nat.le_of_ble_eq_true rfl⟩) ⟨Pz_blind, va_recv hK hP (ci := 5) rfl e0, Pz_at hP hK hD hz hM hS⟩ rfl rfl hl.1 rfl (lv_room (Nat.le_of_ble_eq_true rfl)) d_L_add_3 ⟨Nat.le_of_ble_eq_true rfl, Nat.le_of_ble_eq_true rfl⟩) (fun _ _ _ h => h) hS (fun ce q9 H locs hP hS hce hcv hcl => ?_)
  refine vx_catch (name := xISE) hown [] ⟨0, 8, 11, 13⟩ [] (htab.trans rfl) (fun z hz => nomatch hz) (by decide) (by decide) (hts _ cl_L_13) (nw_use rfl (hM.2.2.2.2.2.2.1 (.castable xISE xISE) (by decide +kernel))) hce hcv hcl ?_
  refine lv_astore_n (lv' := [(2, .ref q9), (0, .ref x), (1, .ref oo)]) hx hb d_L_add_11 rfl hl (by decide) rfl (fun ls hl => ?_)
  refine lv_iconst (v := 1) hx hb d_L_add_12 (by decide) ?_
  exact W.iret (v := 1) hx hb hr (fun t9 ht hW => ⟨⟨1, ws, rfl, ⟨rfl, hC.sub (by decide)⟩, ⟨by rw [ht]; exact hP, va_K.moved hW.alike hK, hD, by rw [ht]; exact Nat.le_trans hz hS.1⟩⟩, hS.F ht⟩) hS.2.2 d_L_add_13
set_option maxHeartbeats 4000000 in
set_option maxRecDepth 100000 in
theorem c_L_get {l : Launch} {D : va_G} {t : Nat → ClassId} {z : Nat} {sa : Nat → Nat} {ws : va_W} {x xf xj xl fu xr oo : Nat} {f0 : Nat → Int64} {a0 a1 : Int32} (hl0 : l.stackTraces = false) (e0 : ws[0]? = some (x, .inr (5, [.ref xf, .ref xj, .ref xl, .ref fu, .ref xr, .int 1, .int 0, .int 0, .int 0, .int 0]))) (e41 : ws[41]? = some (oo, .inl (t 5, 1, .inr (.inl f0))))  : Met l y_L_get (Cond.codeWith y_L_get b_L_get 5 (some .int) [(0, 10, 13, 13), (0, 10, 17, 22)] :: WS) ({ frames := 9, cells := 1, slots := 6, locals := 147 }) (Pz D t z sa ws [.ref x, .int a0, .int a1, .ref oo]) (va_Qi (fun (r : Int32) (u : va_W) => r = 2 ∧ Ch ws u []) (fun u U => Wd D t z u U) (Az z)) 1 6 (Az z) := by
  refine va_MetW (cc := b_L_get) (maxL := 5) (ret := (some .int)) (by decide) rfl ?_
  intro p e s m args below meth c s₁ B hml hv
  obtain ⟨rfl, ⟨hP, hK, hD, hz⟩, hM⟩ := hv
  have hx := B.exec
  have hb := B.bytes
  have hr := B.returns
  have hts : ∀ w ∈ WS, w.before [.ref x, .int a0, .int a1, .ref oo].toArray s = true := fun w h => atoms_spec B.pre w (List.mem_cons_of_mem _ h)
  have hown : s.vm.findClass R_L = some m.cls := findClass_of_methodNamed B.named
  have hlocks := B.notSynchronized
  have htab := vx_table (x := y_L_get) B (atoms_spec B.pre _ List.mem_cons_self)
  have hA : ∀ q, s.heap.size ≤ q → Az z q := fun q h => Nat.le_trans hz h
  have hS : va_S (Az z) s.heap s.heap [] := va_S.rf
  have hC : Ch ws ws [] := Ch.rf
  have hl := lv_entry ([.ref x, .int a0, .int a1, .ref oo]) (n := 5) (Nat.le_of_ble_eq_true rfl)
  rw [lg_entry_eq]
  generalize (lg_sl ([.ref x, .int a0, .int a1, .ref oo]) ++ List.replicate (5 - (lg_sl ([.ref x, .int a0, .int a1, .ref oo])).length) Slot.unset).toArray = ls at hl ⊢
  have hl : lv_has ls 5 [(0, .ref x), (1, .int a0), (2, .int a1), (3, .ref oo)] := hl
  refine lv_aload_n hx hb d_L_get_0 rfl (lv_at hl 3 rfl) ?_
  refine lv_iconst (v := 0) hx hb d_L_get_1 (by decide) ?_
  refine lv_aload_n hx hb d_L_get_2 rfl (lv_at hl 0 rfl) ?_
  refine lv_iload_n hx hb d_L_get_3 rfl (lv_at hl 1 rfl) ?_
  refine lv_iload_n hx hb d_L_get_4 rfl (lv_at hl 2 rfl) ?_
  refine catE (g := F0 m 5 ls [.int 0, .ref oo]) (vx_runV (As := [.int a0, .int a1]) (rest := [.int 0, .ref oo]) ⟨hx, hb, hml, hown, hts⟩ (c_S_get_t (D := D) (t := t) (z := z) (sa := sa) (ws := ws) (a0 := a0) (a1 := a1) hl0 e0) (cwV 2 hts (gd_V ml_L_18 im_S_get se_S_get in_S cd_S_get) rfl rfl rfl (by decide +kernel) ⟨Nat.le_of_ble_eq_true rfl, Nat.le_of_ble_eq_true rfl⟩) ⟨Pz_blind, va_recv hK hP (ci := 5) rfl e0, Pz_at hP hK hD hz hM hS⟩ rfl rfl hl.1 rfl (lv_room (Nat.le_of_ble_eq_true rfl)) d_L_get_5 ⟨Nat.le_of_ble_eq_true rfl, Nat.le_of_ble_eq_true rfl⟩) (fun _ _ _ h => h) hS (fun ce q9 H locs hP hS hce hcv hcl => ?_)
  refine vx_catch (name := xIOB) hown [⟨0, 10, 13, 13⟩] ⟨0, 10, 17, 22⟩ [] (htab.trans rfl) (fun z9 hz9 => by rcases List.mem_singleton.mp hz9 with rfl; exact Or.inr ⟨by decide, xISE, hts _ cl_L_13, hM.2.2.2.2.2.2.2.1 (xIOB, xISE) (by decide +kernel)⟩) (by decide) (by decide) (hts _ cl_L_22) (nw_use rfl (hM.2.2.2.2.2.2.1 (.castable xIOB xIOB) (by decide +kernel))) hce hcv hcl ?_
  refine lv_astore (lv' := [(4, .ref q9), (0, .ref x), (1, .int a0), (2, .int a1), (3, .ref oo)]) hx hb d_L_get_17 hl (by decide) rfl (fun ls hl => ?_)
  refine lv_iconst (v := 2) hx hb d_L_get_19 (by decide) ?_
  exact W.iret (v := 2) hx hb hr (fun t9 ht hW => ⟨⟨2, ws, rfl, ⟨rfl, hC.sub (by decide)⟩, ⟨by rw [ht]; exact hP, va_K.moved hW.alike hK, hD, by rw [ht]; exact Nat.le_trans hz hS.1⟩⟩, hS.F ht⟩) hS.2.2 d_L_get_20
set_option maxHeartbeats 4000000 in
set_option maxRecDepth 100000 in
theorem c_L_put {l : Launch} {D : va_G} {t : Nat → ClassId} {z : Nat} {sa : Nat → Nat} {ws : va_W} {x xf xj xl fu xr oo : Nat} {f0 : Nat → Int64} {a0 a1 a2 : Int32} (hl0 : l.stackTraces = false) (e0 : ws[0]? = some (x, .inr (5, [.ref xf, .ref xj, .ref xl, .ref fu, .ref xr, .int 1, .int 0, .int 0, .int 0, .int 0]))) (e41 : ws[41]? = some (oo, .inl (t 5, 1, .inr (.inl f0))))  : Met l y_L_put (Cond.codeWith y_L_put b_L_put 6 (some .int) [(0, 12, 15, 13), (0, 12, 19, 22)] :: WS) ({ frames := 8, cells := 1, slots := 6, locals := 127 }) (Pz D t z sa ws [.ref x, .int a0, .int a1, .int a2, .ref oo]) (va_Qi (fun (r : Int32) (u : va_W) => r = 1 ∧ Ch ws u []) (fun u U => Wd D t z u U) (Az z)) 1 6 (Az z) := by
  refine va_MetW (cc := b_L_put) (maxL := 6) (ret := (some .int)) (by decide) rfl ?_
  intro p e s m args below meth c s₁ B hml hv
  obtain ⟨rfl, ⟨hP, hK, hD, hz⟩, hM⟩ := hv
  have hx := B.exec
  have hb := B.bytes
  have hr := B.returns
  have hts : ∀ w ∈ WS, w.before [.ref x, .int a0, .int a1, .int a2, .ref oo].toArray s = true := fun w h => atoms_spec B.pre w (List.mem_cons_of_mem _ h)
  have hown : s.vm.findClass R_L = some m.cls := findClass_of_methodNamed B.named
  have hlocks := B.notSynchronized
  have htab := vx_table (x := y_L_put) B (atoms_spec B.pre _ List.mem_cons_self)
  have hA : ∀ q, s.heap.size ≤ q → Az z q := fun q h => Nat.le_trans hz h
  have hS : va_S (Az z) s.heap s.heap [] := va_S.rf
  have hC : Ch ws ws [] := Ch.rf
  have hl := lv_entry ([.ref x, .int a0, .int a1, .int a2, .ref oo]) (n := 6) (Nat.le_of_ble_eq_true rfl)
  rw [lg_entry_eq]
  generalize (lg_sl ([.ref x, .int a0, .int a1, .int a2, .ref oo]) ++ List.replicate (6 - (lg_sl ([.ref x, .int a0, .int a1, .int a2, .ref oo])).length) Slot.unset).toArray = ls at hl ⊢
  have hl : lv_has ls 6 [(0, .ref x), (1, .int a0), (2, .int a1), (3, .int a2), (4, .ref oo)] := hl
  refine lv_aload hx hb d_L_put_0 (lv_at hl 4 rfl) ?_
  refine lv_iconst (v := 0) hx hb d_L_put_2 (by decide) ?_
  refine lv_aload_n hx hb d_L_put_3 rfl (lv_at hl 0 rfl) ?_
  refine lv_iload_n hx hb d_L_put_4 rfl (lv_at hl 1 rfl) ?_
  refine lv_iload_n hx hb d_L_put_5 rfl (lv_at hl 2 rfl) ?_
  refine lv_iload_n hx hb d_L_put_6 rfl (lv_at hl 3 rfl) ?_
  refine catE (g := F0 m 7 ls [.int 0, .ref oo]) (vx_runV (As := [.int a0, .int a1, .int a2]) (rest := [.int 0, .ref oo]) ⟨hx, hb, hml, hown, hts⟩ (c_S_put_t (D := D) (t := t) (z := z) (sa := sa) (ws := ws) (a0 := a0) (a1 := a1) (a2 := a2) hl0 e0) (cwV 3 hts (gd_V ml_L_24 im_S_put se_S_put in_S cd_S_put) rfl rfl rfl (by decide +kernel) ⟨Nat.le_of_ble_eq_true rfl, Nat.le_of_ble_eq_true rfl⟩) ⟨Pz_blind, va_recv hK hP (ci := 5) rfl e0, Pz_at hP hK hD hz hM hS⟩ rfl rfl hl.1 rfl (lv_room (Nat.le_of_ble_eq_true rfl)) d_L_put_7 ⟨Nat.le_of_ble_eq_true rfl, Nat.le_of_ble_eq_true rfl⟩) (fun _ _ _ h => h) hS (fun ce q9 H locs hP hS hce hcv hcl => ?_)
  refine vx_catch (name := xISE) hown [] ⟨0, 12, 15, 13⟩ [⟨0, 12, 19, 22⟩] (htab.trans rfl) (fun z hz => nomatch hz) (by decide) (by decide) (hts _ cl_L_13) (nw_use rfl (hM.2.2.2.2.2.2.1 (.castable xISE xISE) (by decide +kernel))) hce hcv hcl ?_
  refine lv_astore (lv' := [(5, .ref q9), (0, .ref x), (1, .int a0), (2, .int a1), (3, .int a2), (4, .ref oo)]) hx hb d_L_put_15 hl (by decide) rfl (fun ls hl => ?_)
  refine lv_iconst (v := 1) hx hb d_L_put_17 (by decide) ?_
  exact W.iret (v := 1) hx hb hr (fun t9 ht hW => ⟨⟨1, ws, rfl, ⟨rfl, hC.sub (by decide)⟩, ⟨by rw [ht]; exact hP, va_K.moved hW.alike hK, hD, by rw [ht]; exact Nat.le_trans hz hS.1⟩⟩, hS.F ht⟩) hS.2.2 d_L_put_18
set_option maxHeartbeats 4000000 in
set_option maxRecDepth 100000 in
theorem c_L_move {l : Launch} {D : va_G} {t : Nat → ClassId} {z : Nat} {sa : Nat → Nat} {ws : va_W} {x xf xj xl fu xr : Nat} {a0 a1 a2 a3 a4 : Int32} (hl0 : l.stackTraces = false) (e0 : ws[0]? = some (x, .inr (5, [.ref xf, .ref xj, .ref xl, .ref fu, .ref xr, .int 1, .int 0, .int 0, .int 0, .int 0])))  : Met l y_L_move (Cond.codeWith y_L_move b_L_move 7 (some .int) [(0, 11, 14, 13), (0, 11, 18, 22)] :: WS) ({ frames := 8, cells := 1, slots := 6, locals := 128 }) (Pz D t z sa ws [.ref x, .int a0, .int a1, .int a2, .int a3, .int a4]) (va_Qi (fun (r : Int32) (u : va_W) => r = 1 ∧ Ch ws u []) (fun u U => Wd D t z u U) (Az z)) 1 6 (Az z) := by
  refine va_MetW (cc := b_L_move) (maxL := 7) (ret := (some .int)) (by decide) rfl ?_
  intro p e s m args below meth c s₁ B hml hv
  obtain ⟨rfl, ⟨hP, hK, hD, hz⟩, hM⟩ := hv
  have hx := B.exec
  have hb := B.bytes
  have hr := B.returns
  have hts : ∀ w ∈ WS, w.before [.ref x, .int a0, .int a1, .int a2, .int a3, .int a4].toArray s = true := fun w h => atoms_spec B.pre w (List.mem_cons_of_mem _ h)
  have hown : s.vm.findClass R_L = some m.cls := findClass_of_methodNamed B.named
  have hlocks := B.notSynchronized
  have htab := vx_table (x := y_L_move) B (atoms_spec B.pre _ List.mem_cons_self)
  have hA : ∀ q, s.heap.size ≤ q → Az z q := fun q h => Nat.le_trans hz h
  have hS : va_S (Az z) s.heap s.heap [] := va_S.rf
  have hC : Ch ws ws [] := Ch.rf
  have hl := lv_entry ([.ref x, .int a0, .int a1, .int a2, .int a3, .int a4]) (n := 7) (Nat.le_of_ble_eq_true rfl)
  rw [lg_entry_eq]
  generalize (lg_sl ([.ref x, .int a0, .int a1, .int a2, .int a3, .int a4]) ++ List.replicate (7 - (lg_sl ([.ref x, .int a0, .int a1, .int a2, .int a3, .int a4])).length) Slot.unset).toArray = ls at hl ⊢
  have hl : lv_has ls 7 [(0, .ref x), (1, .int a0), (2, .int a1), (3, .int a2), (4, .int a3), (5, .int a4)] := hl
  refine lv_aload_n hx hb d_L_move_0 rfl (lv_at hl 0 rfl) ?_
  refine lv_iload_n hx hb d_L_move_1 rfl (lv_at hl 1 rfl) ?_
  refine lv_iload_n hx hb d_L_move_2 rfl (lv_at hl 2 rfl) ?_
  refine lv_iload_n hx hb d_L_move_3 rfl (lv_at hl 3 rfl) ?_
  refine lv_iload hx hb d_L_move_4 (lv_at hl 4 rfl) ?_
  refine lv_iload hx hb d_L_move_6 (lv_at hl 5 rfl) ?_
  refine catE (g := F0 m 8 ls []) (vx_runV (As := [.int a0, .int a1, .int a2, .int a3, .int a4]) (rest := []) ⟨hx, hb, hml, hown, hts⟩ (c_S_move_t (D := D) (t := t) (z := z) (sa := sa) (ws := ws) (a0 := a0) (a1 := a1) (a2 := a2) (a3 := a3) (a4 := a4) hl0 e0) (cwV 5 hts (gd_V ml_L_28 im_S_move se_S_move in_S cd_S_move) rfl rfl rfl (by decide +kernel) ⟨Nat.le_of_ble_eq_true rfl, Nat.le_of_ble_eq_true rfl⟩) ⟨Pz_blind, va_recv hK hP (ci := 5) rfl e0, Pz_at hP hK hD hz hM hS⟩ rfl rfl hl.1 rfl (lv_room (Nat.le_of_ble_eq_true rfl)) d_L_move_8 ⟨Nat.le_of_ble_eq_true rfl, Nat.le_of_ble_eq_true rfl⟩) (fun _ _ _ h => h) hS (fun ce q9 H locs hP hS hce hcv hcl => ?_)
  refine vx_catch (name := xISE) hown [] ⟨0, 11, 14, 13⟩ [⟨0, 11, 18, 22⟩] (htab.trans rfl) (fun z hz => nomatch hz) (by decide) (by decide) (hts _ cl_L_13) (nw_use rfl (hM.2.2.2.2.2.2.1 (.castable xISE xISE) (by decide +kernel))) hce hcv hcl ?_
  refine lv_astore (lv' := [(6, .ref q9), (0, .ref x), (1, .int a0), (2, .int a1), (3, .int a2), (4, .int a3), (5, .int a4)]) hx hb d_L_move_14 hl (by decide) rfl (fun ls hl => ?_)
  refine lv_iconst (v := 1) hx hb d_L_move_16 (by decide) ?_
  exact W.iret (v := 1) hx hb hr (fun t9 ht hW => ⟨⟨1, ws, rfl, ⟨rfl, hC.sub (by decide)⟩, ⟨by rw [ht]; exact hP, va_K.moved hW.alike hK, hD, by rw [ht]; exact Nat.le_trans hz hS.1⟩⟩, hS.F ht⟩) hS.2.2 d_L_move_17
set_option maxHeartbeats 4000000 in
set_option maxRecDepth 100000 in
theorem c_L_sum {l : Launch} {D : va_G} {t : Nat → ClassId} {z : Nat} {sa : Nat → Nat} {ws : va_W} {x xf xj xl fu xr oo : Nat} {f0 : Nat → Int64} {a0 : Int32} (hl0 : l.stackTraces = false) (e0 : ws[0]? = some (x, .inr (5, [.ref xf, .ref xj, .ref xl, .ref fu, .ref xr, .int 1, .int 0, .int 0, .int 0, .int 0]))) (e41 : ws[41]? = some (oo, .inl (t 5, 1, .inr (.inl f0))))  : Met l y_L_sum (Cond.codeWith y_L_sum b_L_sum 4 (some .int) [(0, 8, 11, 13), (0, 8, 14, 22)] :: WS) ({ frames := 8, cells := 1, slots := 6, locals := 128 }) (Pz D t z sa ws [.ref x, .int a0, .ref oo]) (va_Qi (fun (r : Int32) (u : va_W) => r = 2 ∧ Ch ws u []) (fun u U => Wd D t z u U) (Az z)) 1 6 (Az z) := by
  refine va_MetW (cc := b_L_sum) (maxL := 4) (ret := (some .int)) (by decide) rfl ?_
  intro p e s m args below meth c s₁ B hml hv
  obtain ⟨rfl, ⟨hP, hK, hD, hz⟩, hM⟩ := hv
  have hx := B.exec
  have hb := B.bytes
  have hr := B.returns
  have hts : ∀ w ∈ WS, w.before [.ref x, .int a0, .ref oo].toArray s = true := fun w h => atoms_spec B.pre w (List.mem_cons_of_mem _ h)
  have hown : s.vm.findClass R_L = some m.cls := findClass_of_methodNamed B.named
  have hlocks := B.notSynchronized
  have htab := vx_table (x := y_L_sum) B (atoms_spec B.pre _ List.mem_cons_self)
  have hA : ∀ q, s.heap.size ≤ q → Az z q := fun q h => Nat.le_trans hz h
  have hS : va_S (Az z) s.heap s.heap [] := va_S.rf
  have hC : Ch ws ws [] := Ch.rf
  have hl := lv_entry ([.ref x, .int a0, .ref oo]) (n := 4) (Nat.le_of_ble_eq_true rfl)
  rw [lg_entry_eq]
  generalize (lg_sl ([.ref x, .int a0, .ref oo]) ++ List.replicate (4 - (lg_sl ([.ref x, .int a0, .ref oo])).length) Slot.unset).toArray = ls at hl ⊢
  have hl : lv_has ls 4 [(0, .ref x), (1, .int a0), (2, .ref oo)] := hl
  refine lv_aload_n hx hb d_L_sum_0 rfl (lv_at hl 2 rfl) ?_
  refine lv_iconst (v := 0) hx hb d_L_sum_1 (by decide) ?_
  refine lv_aload_n hx hb d_L_sum_2 rfl (lv_at hl 0 rfl) ?_
  refine lv_iload_n hx hb d_L_sum_3 rfl (lv_at hl 1 rfl) ?_
  refine catE (g := F0 m 4 ls [.int 0, .ref oo]) (vx_runV (As := [.int a0]) (rest := [.int 0, .ref oo]) ⟨hx, hb, hml, hown, hts⟩ (c_S_sum_t (D := D) (t := t) (z := z) (sa := sa) (ws := ws) (a0 := a0) hl0 e0) (cwV 1 hts (gd_V ml_L_32 im_S_sum se_S_sum in_S cd_S_sum) rfl rfl rfl (by decide +kernel) ⟨Nat.le_of_ble_eq_true rfl, Nat.le_of_ble_eq_true rfl⟩) ⟨Pz_blind, va_recv hK hP (ci := 5) rfl e0, Pz_at hP hK hD hz hM hS⟩ rfl rfl hl.1 rfl (lv_room (Nat.le_of_ble_eq_true rfl)) d_L_sum_4 ⟨Nat.le_of_ble_eq_true rfl, Nat.le_of_ble_eq_true rfl⟩) (fun _ _ _ h => h) hS (fun ce q9 H locs hP hS hce hcv hcl => ?_)
  refine vx_catch (name := xIOB) hown [⟨0, 8, 11, 13⟩] ⟨0, 8, 14, 22⟩ [] (htab.trans rfl) (fun z9 hz9 => by rcases List.mem_singleton.mp hz9 with rfl; exact Or.inr ⟨by decide, xISE, hts _ cl_L_13, hM.2.2.2.2.2.2.2.1 (xIOB, xISE) (by decide +kernel)⟩) (by decide) (by decide) (hts _ cl_L_22) (nw_use rfl (hM.2.2.2.2.2.2.1 (.castable xIOB xIOB) (by decide +kernel))) hce hcv hcl ?_
  refine lv_astore_n (lv' := [(3, .ref q9), (0, .ref x), (1, .int a0), (2, .ref oo)]) hx hb d_L_sum_14 rfl hl (by decide) rfl (fun ls hl => ?_)
  refine lv_iconst (v := 2) hx hb d_L_sum_15 (by decide) ?_
  exact W.iret (v := 2) hx hb hr (fun t9 ht hW => ⟨⟨2, ws, rfl, ⟨rfl, hC.sub (by decide)⟩, ⟨by rw [ht]; exact hP, va_K.moved hW.alike hK, hD, by rw [ht]; exact Nat.le_trans hz hS.1⟩⟩, hS.F ht⟩) hS.2.2 d_L_sum_16
set_option maxHeartbeats 4000000 in
set_option maxRecDepth 100000 in
theorem c_L_begin {l : Launch} {D : va_G} {t : Nat → ClassId} {z : Nat} {sa : Nat → Nat} {ws : va_W} {x xf xj xl fu xr : Nat} (e0 : ws[0]? = some (x, .inr (5, [.ref xf, .ref xj, .ref xl, .ref fu, .ref xr, .int 1, .int 0, .int 0, .int 0, .int 0])))  : Met l y_L_begin (Cond.codeWith y_L_begin b_L_begin 2 (some .int) [(0, 4, 7, 13)] :: WS) ({ frames := 2, cells := 0, slots := 0, locals := 40 }) (Pz D t z sa ws [.ref x]) (va_Qi (fun (r : Int32) (u : va_W) => r = 0 ∧ Ch ws u [0]) (fun u U => Wd D t z u U) (Az z)) 0 0 (Az z) := by
  refine va_MetW (cc := b_L_begin) (maxL := 2) (ret := (some .int)) (by decide) rfl ?_
  intro p e s m args below meth c s₁ B hml hv
  obtain ⟨rfl, ⟨hP, hK, hD, hz⟩, hM⟩ := hv
  have hx := B.exec
  have hb := B.bytes
  have hr := B.returns
  have hts : ∀ w ∈ WS, w.before [.ref x].toArray s = true := fun w h => atoms_spec B.pre w (List.mem_cons_of_mem _ h)
  have hown : s.vm.findClass R_L = some m.cls := findClass_of_methodNamed B.named
  have hlocks := B.notSynchronized
  have htab := vx_table (x := y_L_begin) B (atoms_spec B.pre _ List.mem_cons_self)
  have hA : ∀ q, s.heap.size ≤ q → Az z q := fun q h => Nat.le_trans hz h
  have hS : va_S (Az z) s.heap s.heap [] := va_S.rf
  have hC : Ch ws ws [] := Ch.rf
  have hl := lv_entry ([.ref x]) (n := 2) (Nat.le_of_ble_eq_true rfl)
  rw [lg_entry_eq]
  generalize (lg_sl ([.ref x]) ++ List.replicate (2 - (lg_sl ([.ref x])).length) Slot.unset).toArray = ls at hl ⊢
  have hl : lv_has ls 2 [(0, .ref x)] := hl
  refine lv_aload_n hx hb d_L_begin_0 rfl (lv_at hl 0 rfl) ?_
  refine va_callv (va_runV (As := []) (rest := []) ⟨hx, hb, hml, hown, hts⟩ (c_S_begin (D := D) (t := t) (z := z) (sa := sa) (ws := ws)  e0) (cwV 0 hts (gd_V ml_L_36 im_S_begin se_S_begin in_S cd_S_begin) rfl rfl rfl (by decide +kernel) ⟨Nat.le_of_ble_eq_true rfl, Nat.le_of_ble_eq_true rfl⟩) ⟨Pz_blind, va_recv hK hP (ci := 5) rfl e0, Pz_at hP hK hD hz hM hS⟩ rfl rfl hl.1 rfl (lv_room (Nat.le_of_ble_eq_true rfl)) d_L_begin_1 ⟨Nat.le_of_ble_eq_true rfl, Nat.le_of_ble_eq_true rfl⟩) hS (fun q _ h => h) (fun q h => h) (fun w1 t9 H locs ht hvm hp hB hz1 hk1 hS => ?_)
  obtain ⟨hP, hK9, hD, -⟩ := hB
  rw [ht] at hP
  clear hK9
  obtain ⟨hC9, kf0⟩ := hp
  have e0 : w1[0]? = some (x, .inr (5, [.ref xf, .ref xj, .ref xl, .ref fu, .ref xr, .int 1, .int 1, .int 0, .int 0, .int 0])) := kf0
  have hC := hC.trans hC9
  refine lv_goto (tgt := 10) hx hb d_L_begin_4 rfl ?_
  refine lv_iconst (v := 0) hx hb d_L_begin_10 (by decide) ?_
  exact W.iret (v := 0) hx hb hr (fun t9 ht hW => ⟨⟨0, w1, rfl, ⟨rfl, hC.sub (by decide)⟩, ⟨by rw [ht]; exact hP, va_K.moved hW.alike hK, hD, by rw [ht]; exact Nat.le_trans hz hS.1⟩⟩, hS.F ht⟩) hS.2.2 d_L_begin_11
set_option maxHeartbeats 4000000 in
set_option maxRecDepth 100000 in
theorem c_L_commit {l : Launch} {D : va_G} {t : Nat → ClassId} {z : Nat} {sa : Nat → Nat} {ws : va_W} {x xf xj xl fu xr : Nat} (hl0 : l.stackTraces = false) (e0 : ws[0]? = some (x, .inr (5, [.ref xf, .ref xj, .ref xl, .ref fu, .ref xr, .int 1, .int 0, .int 0, .int 0, .int 0])))  : Met l y_L_commit (Cond.codeWith y_L_commit b_L_commit 2 (some .int) [(0, 4, 7, 13), (0, 4, 10, 42)] :: WS) ({ frames := 8, cells := 1, slots := 6, locals := 123 }) (Pz D t z sa ws [.ref x]) (va_Qi (fun (r : Int32) (u : va_W) => r = 1 ∧ Ch ws u []) (fun u U => Wd D t z u U) (Az z)) 1 6 (Az z) := by
  refine va_MetW (cc := b_L_commit) (maxL := 2) (ret := (some .int)) (by decide) rfl ?_
  intro p e s m args below meth c s₁ B hml hv
  obtain ⟨rfl, ⟨hP, hK, hD, hz⟩, hM⟩ := hv
  have hx := B.exec
  have hb := B.bytes
  have hr := B.returns
  have hts : ∀ w ∈ WS, w.before [.ref x].toArray s = true := fun w h => atoms_spec B.pre w (List.mem_cons_of_mem _ h)
  have hown : s.vm.findClass R_L = some m.cls := findClass_of_methodNamed B.named
  have hlocks := B.notSynchronized
  have htab := vx_table (x := y_L_commit) B (atoms_spec B.pre _ List.mem_cons_self)
  have hA : ∀ q, s.heap.size ≤ q → Az z q := fun q h => Nat.le_trans hz h
  have hS : va_S (Az z) s.heap s.heap [] := va_S.rf
  have hC : Ch ws ws [] := Ch.rf
  have hl := lv_entry ([.ref x]) (n := 2) (Nat.le_of_ble_eq_true rfl)
  rw [lg_entry_eq]
  generalize (lg_sl ([.ref x]) ++ List.replicate (2 - (lg_sl ([.ref x])).length) Slot.unset).toArray = ls at hl ⊢
  have hl : lv_has ls 2 [(0, .ref x)] := hl
  refine lv_aload_n hx hb d_L_commit_0 rfl (lv_at hl 0 rfl) ?_
  refine catE (g := F0 m 1 ls []) (vx_runV (As := []) (rest := []) ⟨hx, hb, hml, hown, hts⟩ (c_S_commit_t (D := D) (t := t) (z := z) (sa := sa) (ws := ws)  hl0 e0) (cwV 0 hts (gd_V ml_L_39 im_S_commit se_S_commit in_S cd_S_commit) rfl rfl rfl (by decide +kernel) ⟨Nat.le_of_ble_eq_true rfl, Nat.le_of_ble_eq_true rfl⟩) ⟨Pz_blind, va_recv hK hP (ci := 5) rfl e0, Pz_at hP hK hD hz hM hS⟩ rfl rfl hl.1 rfl (lv_room (Nat.le_of_ble_eq_true rfl)) d_L_commit_1 ⟨Nat.le_of_ble_eq_true rfl, Nat.le_of_ble_eq_true rfl⟩) (fun _ _ _ h => h) hS (fun ce q9 H locs hP hS hce hcv hcl => ?_)
  refine vx_catch (name := xISE) hown [] ⟨0, 4, 7, 13⟩ [⟨0, 4, 10, 42⟩] (htab.trans rfl) (fun z hz => nomatch hz) (by decide) (by decide) (hts _ cl_L_13) (nw_use rfl (hM.2.2.2.2.2.2.1 (.castable xISE xISE) (by decide +kernel))) hce hcv hcl ?_
  refine lv_astore_n (lv' := [(1, .ref q9), (0, .ref x)]) hx hb d_L_commit_7 rfl hl (by decide) rfl (fun ls hl => ?_)
  refine lv_iconst (v := 1) hx hb d_L_commit_8 (by decide) ?_
  exact W.iret (v := 1) hx hb hr (fun t9 ht hW => ⟨⟨1, ws, rfl, ⟨rfl, hC.sub (by decide)⟩, ⟨by rw [ht]; exact hP, va_K.moved hW.alike hK, hD, by rw [ht]; exact Nat.le_trans hz hS.1⟩⟩, hS.F ht⟩) hS.2.2 d_L_commit_9
set_option maxHeartbeats 4000000 in
set_option maxRecDepth 100000 in
theorem c_L_rollback {l : Launch} {D : va_G} {t : Nat → ClassId} {z : Nat} {sa : Nat → Nat} {ws : va_W} {x xf xj xl fu xr : Nat} (hl0 : l.stackTraces = false) (e0 : ws[0]? = some (x, .inr (5, [.ref xf, .ref xj, .ref xl, .ref fu, .ref xr, .int 1, .int 0, .int 0, .int 0, .int 0])))  : Met l y_L_rollback (Cond.codeWith y_L_rollback b_L_rollback 2 (some .int) [(0, 4, 7, 13)] :: WS) ({ frames := 8, cells := 1, slots := 6, locals := 122 }) (Pz D t z sa ws [.ref x]) (va_Qi (fun (r : Int32) (u : va_W) => r = 1 ∧ Ch ws u []) (fun u U => Wd D t z u U) (Az z)) 1 6 (Az z) := by
  refine va_MetW (cc := b_L_rollback) (maxL := 2) (ret := (some .int)) (by decide) rfl ?_
  intro p e s m args below meth c s₁ B hml hv
  obtain ⟨rfl, ⟨hP, hK, hD, hz⟩, hM⟩ := hv
  have hx := B.exec
  have hb := B.bytes
  have hr := B.returns
  have hts : ∀ w ∈ WS, w.before [.ref x].toArray s = true := fun w h => atoms_spec B.pre w (List.mem_cons_of_mem _ h)
  have hown : s.vm.findClass R_L = some m.cls := findClass_of_methodNamed B.named
  have hlocks := B.notSynchronized
  have htab := vx_table (x := y_L_rollback) B (atoms_spec B.pre _ List.mem_cons_self)
  have hA : ∀ q, s.heap.size ≤ q → Az z q := fun q h => Nat.le_trans hz h
  have hS : va_S (Az z) s.heap s.heap [] := va_S.rf
  have hC : Ch ws ws [] := Ch.rf
  have hl := lv_entry ([.ref x]) (n := 2) (Nat.le_of_ble_eq_true rfl)
  rw [lg_entry_eq]
  generalize (lg_sl ([.ref x]) ++ List.replicate (2 - (lg_sl ([.ref x])).length) Slot.unset).toArray = ls at hl ⊢
  have hl : lv_has ls 2 [(0, .ref x)] := hl
  refine lv_aload_n hx hb d_L_rollback_0 rfl (lv_at hl 0 rfl) ?_
  refine catE (g := F0 m 1 ls []) (vx_runV (As := []) (rest := []) ⟨hx, hb, hml, hown, hts⟩ (c_S_rollback_t (D := D) (t := t) (z := z) (sa := sa) (ws := ws)  hl0 e0) (cwV 0 hts (gd_V ml_L_44 im_S_rollback se_S_rollback in_S cd_S_rollback) rfl rfl rfl (by decide +kernel) ⟨Nat.le_of_ble_eq_true rfl, Nat.le_of_ble_eq_true rfl⟩) ⟨Pz_blind, va_recv hK hP (ci := 5) rfl e0, Pz_at hP hK hD hz hM hS⟩ rfl rfl hl.1 rfl (lv_room (Nat.le_of_ble_eq_true rfl)) d_L_rollback_1 ⟨Nat.le_of_ble_eq_true rfl, Nat.le_of_ble_eq_true rfl⟩) (fun _ _ _ h => h) hS (fun ce q9 H locs hP hS hce hcv hcl => ?_)
  refine vx_catch (name := xISE) hown [] ⟨0, 4, 7, 13⟩ [] (htab.trans rfl) (fun z hz => nomatch hz) (by decide) (by decide) (hts _ cl_L_13) (nw_use rfl (hM.2.2.2.2.2.2.1 (.castable xISE xISE) (by decide +kernel))) hce hcv hcl ?_
  refine lv_astore_n (lv' := [(1, .ref q9), (0, .ref x)]) hx hb d_L_rollback_7 rfl hl (by decide) rfl (fun ls hl => ?_)
  refine lv_iconst (v := 1) hx hb d_L_rollback_8 (by decide) ?_
  exact W.iret (v := 1) hx hb hr (fun t9 ht hW => ⟨⟨1, ws, rfl, ⟨rfl, hC.sub (by decide)⟩, ⟨by rw [ht]; exact hP, va_K.moved hW.alike hK, hD, by rw [ht]; exact Nat.le_trans hz hS.1⟩⟩, hS.F ht⟩) hS.2.2 d_L_rollback_9
set_option maxHeartbeats 4000000 in
set_option maxRecDepth 100000 in
theorem c_L_mark {l : Launch} {D : va_G} {t : Nat → ClassId} {z : Nat} {sa : Nat → Nat} {ws : va_W} {x xf xj xl fu xr oo : Nat} {f0 : Nat → Int64} (hl0 : l.stackTraces = false) (e0 : ws[0]? = some (x, .inr (5, [.ref xf, .ref xj, .ref xl, .ref fu, .ref xr, .int 1, .int 0, .int 0, .int 0, .int 0]))) (e41 : ws[41]? = some (oo, .inl (t 5, 1, .inr (.inl f0))))  : Met l y_L_mark (Cond.codeWith y_L_mark b_L_mark 3 (some .int) [(0, 8, 11, 13)] :: WS) ({ frames := 8, cells := 1, slots := 6, locals := 122 }) (Pz D t z sa ws [.ref x, .ref oo]) (va_Qi (fun (r : Int32) (u : va_W) => r = 1 ∧ Ch ws u []) (fun u U => Wd D t z u U) (Az z)) 1 6 (Az z) := by
  refine va_MetW (cc := b_L_mark) (maxL := 3) (ret := (some .int)) (by decide) rfl ?_
  intro p e s m args below meth c s₁ B hml hv
  obtain ⟨rfl, ⟨hP, hK, hD, hz⟩, hM⟩ := hv
  have hx := B.exec
  have hb := B.bytes
  have hr := B.returns
  have hts : ∀ w ∈ WS, w.before [.ref x, .ref oo].toArray s = true := fun w h => atoms_spec B.pre w (List.mem_cons_of_mem _ h)
  have hown : s.vm.findClass R_L = some m.cls := findClass_of_methodNamed B.named
  have hlocks := B.notSynchronized
  have htab := vx_table (x := y_L_mark) B (atoms_spec B.pre _ List.mem_cons_self)
  have hA : ∀ q, s.heap.size ≤ q → Az z q := fun q h => Nat.le_trans hz h
  have hS : va_S (Az z) s.heap s.heap [] := va_S.rf
  have hC : Ch ws ws [] := Ch.rf
  have hl := lv_entry ([.ref x, .ref oo]) (n := 3) (Nat.le_of_ble_eq_true rfl)
  rw [lg_entry_eq]
  generalize (lg_sl ([.ref x, .ref oo]) ++ List.replicate (3 - (lg_sl ([.ref x, .ref oo])).length) Slot.unset).toArray = ls at hl ⊢
  have hl : lv_has ls 3 [(0, .ref x), (1, .ref oo)] := hl
  refine lv_aload_n hx hb d_L_mark_0 rfl (lv_at hl 1 rfl) ?_
  refine lv_iconst (v := 0) hx hb d_L_mark_1 (by decide) ?_
  refine lv_aload_n hx hb d_L_mark_2 rfl (lv_at hl 0 rfl) ?_
  refine catE (g := F0 m 3 ls [.int 0, .ref oo]) (vx_runV (As := []) (rest := [.int 0, .ref oo]) ⟨hx, hb, hml, hown, hts⟩ (c_S_mark_t (D := D) (t := t) (z := z) (sa := sa) (ws := ws)  hl0 e0) (cwV 0 hts (gd_V ml_L_47 im_S_mark se_S_mark in_S cd_S_mark) rfl rfl rfl (by decide +kernel) ⟨Nat.le_of_ble_eq_true rfl, Nat.le_of_ble_eq_true rfl⟩) ⟨Pz_blind, va_recv hK hP (ci := 5) rfl e0, Pz_at hP hK hD hz hM hS⟩ rfl rfl hl.1 rfl (lv_room (Nat.le_of_ble_eq_true rfl)) d_L_mark_3 ⟨Nat.le_of_ble_eq_true rfl, Nat.le_of_ble_eq_true rfl⟩) (fun _ _ _ h => h) hS (fun ce q9 H locs hP hS hce hcv hcl => ?_)
  refine vx_catch (name := xISE) hown [] ⟨0, 8, 11, 13⟩ [] (htab.trans rfl) (fun z hz => nomatch hz) (by decide) (by decide) (hts _ cl_L_13) (nw_use rfl (hM.2.2.2.2.2.2.1 (.castable xISE xISE) (by decide +kernel))) hce hcv hcl ?_
  refine lv_astore_n (lv' := [(2, .ref q9), (0, .ref x), (1, .ref oo)]) hx hb d_L_mark_11 rfl hl (by decide) rfl (fun ls hl => ?_)
  refine lv_iconst (v := 1) hx hb d_L_mark_12 (by decide) ?_
  exact W.iret (v := 1) hx hb hr (fun t9 ht hW => ⟨⟨1, ws, rfl, ⟨rfl, hC.sub (by decide)⟩, ⟨by rw [ht]; exact hP, va_K.moved hW.alike hK, hD, by rw [ht]; exact Nat.le_trans hz hS.1⟩⟩, hS.F ht⟩) hS.2.2 d_L_mark_13
set_option maxHeartbeats 4000000 in
set_option maxRecDepth 100000 in
theorem c_L_back {l : Launch} {D : va_G} {t : Nat → ClassId} {z : Nat} {sa : Nat → Nat} {ws : va_W} {x xf xj xl fu xr : Nat} {a0 : Int32} (hl0 : l.stackTraces = false) (e0 : ws[0]? = some (x, .inr (5, [.ref xf, .ref xj, .ref xl, .ref fu, .ref xr, .int 1, .int 0, .int 0, .int 0, .int 0])))  : Met l y_L_back (Cond.codeWith y_L_back b_L_back 3 (some .int) [(0, 5, 8, 13), (0, 5, 11, 22)] :: WS) ({ frames := 8, cells := 1, slots := 6, locals := 123 }) (Pz D t z sa ws [.ref x, .int a0]) (va_Qi (fun (r : Int32) (u : va_W) => r = 1 ∧ Ch ws u []) (fun u U => Wd D t z u U) (Az z)) 1 6 (Az z) := by
  refine va_MetW (cc := b_L_back) (maxL := 3) (ret := (some .int)) (by decide) rfl ?_
  intro p e s m args below meth c s₁ B hml hv
  obtain ⟨rfl, ⟨hP, hK, hD, hz⟩, hM⟩ := hv
  have hx := B.exec
  have hb := B.bytes
  have hr := B.returns
  have hts : ∀ w ∈ WS, w.before [.ref x, .int a0].toArray s = true := fun w h => atoms_spec B.pre w (List.mem_cons_of_mem _ h)
  have hown : s.vm.findClass R_L = some m.cls := findClass_of_methodNamed B.named
  have hlocks := B.notSynchronized
  have htab := vx_table (x := y_L_back) B (atoms_spec B.pre _ List.mem_cons_self)
  have hA : ∀ q, s.heap.size ≤ q → Az z q := fun q h => Nat.le_trans hz h
  have hS : va_S (Az z) s.heap s.heap [] := va_S.rf
  have hC : Ch ws ws [] := Ch.rf
  have hl := lv_entry ([.ref x, .int a0]) (n := 3) (Nat.le_of_ble_eq_true rfl)
  rw [lg_entry_eq]
  generalize (lg_sl ([.ref x, .int a0]) ++ List.replicate (3 - (lg_sl ([.ref x, .int a0])).length) Slot.unset).toArray = ls at hl ⊢
  have hl : lv_has ls 3 [(0, .ref x), (1, .int a0)] := hl
  refine lv_aload_n hx hb d_L_back_0 rfl (lv_at hl 0 rfl) ?_
  refine lv_iload_n hx hb d_L_back_1 rfl (lv_at hl 1 rfl) ?_
  refine catE (g := F0 m 2 ls []) (vx_runV (As := [.int a0]) (rest := []) ⟨hx, hb, hml, hown, hts⟩ (c_S_back_t (D := D) (t := t) (z := z) (sa := sa) (ws := ws) (a0 := a0) hl0 e0) (cwV 1 hts (gd_V ml_L_50 im_S_back se_S_back in_S cd_S_back) rfl rfl rfl (by decide +kernel) ⟨Nat.le_of_ble_eq_true rfl, Nat.le_of_ble_eq_true rfl⟩) ⟨Pz_blind, va_recv hK hP (ci := 5) rfl e0, Pz_at hP hK hD hz hM hS⟩ rfl rfl hl.1 rfl (lv_room (Nat.le_of_ble_eq_true rfl)) d_L_back_2 ⟨Nat.le_of_ble_eq_true rfl, Nat.le_of_ble_eq_true rfl⟩) (fun _ _ _ h => h) hS (fun ce q9 H locs hP hS hce hcv hcl => ?_)
  refine vx_catch (name := xISE) hown [] ⟨0, 5, 8, 13⟩ [⟨0, 5, 11, 22⟩] (htab.trans rfl) (fun z hz => nomatch hz) (by decide) (by decide) (hts _ cl_L_13) (nw_use rfl (hM.2.2.2.2.2.2.1 (.castable xISE xISE) (by decide +kernel))) hce hcv hcl ?_
  refine lv_astore_n (lv' := [(2, .ref q9), (0, .ref x), (1, .int a0)]) hx hb d_L_back_8 rfl hl (by decide) rfl (fun ls hl => ?_)
  refine lv_iconst (v := 1) hx hb d_L_back_9 (by decide) ?_
  exact W.iret (v := 1) hx hb hr (fun t9 ht hW => ⟨⟨1, ws, rfl, ⟨rfl, hC.sub (by decide)⟩, ⟨by rw [ht]; exact hP, va_K.moved hW.alike hK, hD, by rw [ht]; exact Nat.le_trans hz hS.1⟩⟩, hS.F ht⟩) hS.2.2 d_L_back_10
set_option maxHeartbeats 4000000 in
set_option maxRecDepth 100000 in
theorem c_L_keep {l : Launch} {D : va_G} {t : Nat → ClassId} {z : Nat} {sa : Nat → Nat} {ws : va_W} {x xf xj xl fu xr : Nat} {a0 : Int32} (hl0 : l.stackTraces = false) (e0 : ws[0]? = some (x, .inr (5, [.ref xf, .ref xj, .ref xl, .ref fu, .ref xr, .int 1, .int 0, .int 0, .int 0, .int 0])))  : Met l y_L_keep (Cond.codeWith y_L_keep b_L_keep 3 (some .int) [(0, 5, 8, 13), (0, 5, 11, 22)] :: WS) ({ frames := 8, cells := 1, slots := 6, locals := 123 }) (Pz D t z sa ws [.ref x, .int a0]) (va_Qi (fun (r : Int32) (u : va_W) => r = 1 ∧ Ch ws u []) (fun u U => Wd D t z u U) (Az z)) 1 6 (Az z) := by
  refine va_MetW (cc := b_L_keep) (maxL := 3) (ret := (some .int)) (by decide) rfl ?_
  intro p e s m args below meth c s₁ B hml hv
  obtain ⟨rfl, ⟨hP, hK, hD, hz⟩, hM⟩ := hv
  have hx := B.exec
  have hb := B.bytes
  have hr := B.returns
  have hts : ∀ w ∈ WS, w.before [.ref x, .int a0].toArray s = true := fun w h => atoms_spec B.pre w (List.mem_cons_of_mem _ h)
  have hown : s.vm.findClass R_L = some m.cls := findClass_of_methodNamed B.named
  have hlocks := B.notSynchronized
  have htab := vx_table (x := y_L_keep) B (atoms_spec B.pre _ List.mem_cons_self)
  have hA : ∀ q, s.heap.size ≤ q → Az z q := fun q h => Nat.le_trans hz h
  have hS : va_S (Az z) s.heap s.heap [] := va_S.rf
  have hC : Ch ws ws [] := Ch.rf
  have hl := lv_entry ([.ref x, .int a0]) (n := 3) (Nat.le_of_ble_eq_true rfl)
  rw [lg_entry_eq]
  generalize (lg_sl ([.ref x, .int a0]) ++ List.replicate (3 - (lg_sl ([.ref x, .int a0])).length) Slot.unset).toArray = ls at hl ⊢
  have hl : lv_has ls 3 [(0, .ref x), (1, .int a0)] := hl
  refine lv_aload_n hx hb d_L_keep_0 rfl (lv_at hl 0 rfl) ?_
  refine lv_iload_n hx hb d_L_keep_1 rfl (lv_at hl 1 rfl) ?_
  refine catE (g := F0 m 2 ls []) (vx_runV (As := [.int a0]) (rest := []) ⟨hx, hb, hml, hown, hts⟩ (c_S_keep_t (D := D) (t := t) (z := z) (sa := sa) (ws := ws) (a0 := a0) hl0 e0) (cwV 1 hts (gd_V ml_L_54 im_S_keep se_S_keep in_S cd_S_keep) rfl rfl rfl (by decide +kernel) ⟨Nat.le_of_ble_eq_true rfl, Nat.le_of_ble_eq_true rfl⟩) ⟨Pz_blind, va_recv hK hP (ci := 5) rfl e0, Pz_at hP hK hD hz hM hS⟩ rfl rfl hl.1 rfl (lv_room (Nat.le_of_ble_eq_true rfl)) d_L_keep_2 ⟨Nat.le_of_ble_eq_true rfl, Nat.le_of_ble_eq_true rfl⟩) (fun _ _ _ h => h) hS (fun ce q9 H locs hP hS hce hcv hcl => ?_)
  refine vx_catch (name := xISE) hown [] ⟨0, 5, 8, 13⟩ [⟨0, 5, 11, 22⟩] (htab.trans rfl) (fun z hz => nomatch hz) (by decide) (by decide) (hts _ cl_L_13) (nw_use rfl (hM.2.2.2.2.2.2.1 (.castable xISE xISE) (by decide +kernel))) hce hcv hcl ?_
  refine lv_astore_n (lv' := [(2, .ref q9), (0, .ref x), (1, .int a0)]) hx hb d_L_keep_8 rfl hl (by decide) rfl (fun ls hl => ?_)
  refine lv_iconst (v := 1) hx hb d_L_keep_9 (by decide) ?_
  exact W.iret (v := 1) hx hb hr (fun t9 ht hW => ⟨⟨1, ws, rfl, ⟨rfl, hC.sub (by decide)⟩, ⟨by rw [ht]; exact hP, va_K.moved hW.alike hK, hD, by rw [ht]; exact Nat.le_trans hz hS.1⟩⟩, hS.F ht⟩) hS.2.2 d_L_keep_10
set_option maxHeartbeats 4000000 in
set_option maxRecDepth 100000 in
theorem c_L_power {l : Launch} {D : va_G} {t : Nat → ClassId} {z : Nat} {sa : Nat → Nat} {ws : va_W} {x xf xj xl fu xr : Nat} {a0 a1 a2 : Int32} (e0 : ws[0]? = some (x, .inr (5, [.ref xf, .ref xj, .ref xl, .ref fu, .ref xr, .int 1, .int 0, .int 0, .int 0, .int 0]))) (e8 : ws[8]? = some (fu, .inr (2, [.int 4, .int 0, .int 0, .int 0]))) (g0 : ¬ a0 < 0) (g1 : a0 ≤ 4) (g2 : ¬ a1 < 0) (g3 : a1 ≤ 1000) (g4 : ¬ a2 < 0) (g5 : a2 ≤ 300) : Met l y_L_power (Cond.codeWith y_L_power b_L_power 5 (some .int) [(0, 7, 10, 61)] :: WS) ({ frames := 2, cells := 0, slots := 0, locals := 46 }) (Pz D t z sa ws [.ref x, .int a0, .int a1, .int a2]) (va_Qi (fun (r : Int32) (u : va_W) => r = 0 ∧ Ch ws u [8]) (fun u U => Wd D t z u U) (Az z)) 0 0 (Az z) := by
  refine va_MetW (cc := b_L_power) (maxL := 5) (ret := (some .int)) (by decide) rfl ?_
  intro p e s m args below meth c s₁ B hml hv
  obtain ⟨rfl, ⟨hP, hK, hD, hz⟩, hM⟩ := hv
  have hx := B.exec
  have hb := B.bytes
  have hr := B.returns
  have hts : ∀ w ∈ WS, w.before [.ref x, .int a0, .int a1, .int a2].toArray s = true := fun w h => atoms_spec B.pre w (List.mem_cons_of_mem _ h)
  have hown : s.vm.findClass R_L = some m.cls := findClass_of_methodNamed B.named
  have hlocks := B.notSynchronized
  have htab := vx_table (x := y_L_power) B (atoms_spec B.pre _ List.mem_cons_self)
  have hA : ∀ q, s.heap.size ≤ q → Az z q := fun q h => Nat.le_trans hz h
  have hS : va_S (Az z) s.heap s.heap [] := va_S.rf
  have hC : Ch ws ws [] := Ch.rf
  have hl := lv_entry ([.ref x, .int a0, .int a1, .int a2]) (n := 5) (Nat.le_of_ble_eq_true rfl)
  rw [lg_entry_eq]
  generalize (lg_sl ([.ref x, .int a0, .int a1, .int a2]) ++ List.replicate (5 - (lg_sl ([.ref x, .int a0, .int a1, .int a2])).length) Slot.unset).toArray = ls at hl ⊢
  have hl : lv_has ls 5 [(0, .ref x), (1, .int a0), (2, .int a1), (3, .int a2)] := hl
  refine lv_aload_n hx hb d_L_power_0 rfl (lv_at hl 0 rfl) ?_
  refine lv_iload_n hx hb d_L_power_1 rfl (lv_at hl 1 rfl) ?_
  refine lv_iload_n hx hb d_L_power_2 rfl (lv_at hl 2 rfl) ?_
  refine lv_iload_n hx hb d_L_power_3 rfl (lv_at hl 3 rfl) ?_
  refine va_callv (va_runV (As := [.int a0, .int a1, .int a2]) (rest := []) ⟨hx, hb, hml, hown, hts⟩ (c_S_power (D := D) (t := t) (z := z) (sa := sa) (ws := ws) (a0 := a0) (a1 := a1) (a2 := a2) e0 e8 g0 g1 g2 g3 g4 g5) (cwV 3 hts (gd_V ml_L_57 im_S_power se_S_power in_S cd_S_power) rfl rfl rfl (by decide +kernel) ⟨Nat.le_of_ble_eq_true rfl, Nat.le_of_ble_eq_true rfl⟩) ⟨Pz_blind, va_recv hK hP (ci := 5) rfl e0, Pz_at hP hK hD hz hM hS⟩ rfl rfl hl.1 rfl (lv_room (Nat.le_of_ble_eq_true rfl)) d_L_power_4 ⟨Nat.le_of_ble_eq_true rfl, Nat.le_of_ble_eq_true rfl⟩) hS (fun q _ h => h) (fun q h => h) (fun w1 t9 H locs ht hvm hp hB hz1 hk1 hS => ?_)
  obtain ⟨hP, hK9, hD, -⟩ := hB
  rw [ht] at hP
  clear hK9
  obtain ⟨hC9, kf8⟩ := hp
  have e0 : w1[0]? = some (x, .inr (5, [.ref xf, .ref xj, .ref xl, .ref fu, .ref xr, .int 1, .int 0, .int 0, .int 0, .int 0])) := hC9.keep e0 (by decide)
  have e8 : w1[8]? = some (fu, .inr (2, [.int a0, .int a1, .int a2, .int 0])) := kf8
  have hC := hC.trans hC9
  refine lv_goto (tgt := 14) hx hb d_L_power_7 rfl ?_
  refine lv_iconst (v := 0) hx hb d_L_power_14 (by decide) ?_
  exact W.iret (v := 0) hx hb hr (fun t9 ht hW => ⟨⟨0, w1, rfl, ⟨rfl, hC.sub (by decide)⟩, ⟨by rw [ht]; exact hP, va_K.moved hW.alike hK, hD, by rw [ht]; exact Nat.le_trans hz hS.1⟩⟩, hS.F ht⟩) hS.2.2 d_L_power_15
set_option maxHeartbeats 4000000 in
set_option maxRecDepth 100000 in
theorem c_L_power_b {l : Launch} {D : va_G} {t : Nat → ClassId} {z : Nat} {sa : Nat → Nat} {ws : va_W} {x xf xj xl fu xr : Nat} {a0 a1 a2 : Int32} (hl0 : l.stackTraces = false) (e0 : ws[0]? = some (x, .inr (5, [.ref xf, .ref xj, .ref xl, .ref fu, .ref xr, .int 1, .int 0, .int 0, .int 0, .int 0]))) (g : ¬ (¬ a0 < 0 ∧ a0 ≤ 4 ∧ ¬ a1 < 0 ∧ a1 ≤ 1000 ∧ ¬ a2 < 0 ∧ a2 ≤ 300)) : Met l y_L_power (Cond.codeWith y_L_power b_L_power 5 (some .int) [(0, 7, 10, 61)] :: WS) ({ frames := 7, cells := 1, slots := 6, locals := 105 }) (Pz D t z sa ws [.ref x, .int a0, .int a1, .int a2]) (va_Qi (fun (r : Int32) (u : va_W) => r = 1 ∧ Ch ws u []) (fun u U => Wd D t z u U) (Az z)) 1 6 (Az z) := by
  refine va_MetW (cc := b_L_power) (maxL := 5) (ret := (some .int)) (by decide) rfl ?_
  intro p e s m args below meth c s₁ B hml hv
  obtain ⟨rfl, ⟨hP, hK, hD, hz⟩, hM⟩ := hv
  have hx := B.exec
  have hb := B.bytes
  have hr := B.returns
  have hts : ∀ w ∈ WS, w.before [.ref x, .int a0, .int a1, .int a2].toArray s = true := fun w h => atoms_spec B.pre w (List.mem_cons_of_mem _ h)
  have hown : s.vm.findClass R_L = some m.cls := findClass_of_methodNamed B.named
  have hlocks := B.notSynchronized
  have htab := vx_table (x := y_L_power) B (atoms_spec B.pre _ List.mem_cons_self)
  have hA : ∀ q, s.heap.size ≤ q → Az z q := fun q h => Nat.le_trans hz h
  have hS : va_S (Az z) s.heap s.heap [] := va_S.rf
  have hC : Ch ws ws [] := Ch.rf
  have hl := lv_entry ([.ref x, .int a0, .int a1, .int a2]) (n := 5) (Nat.le_of_ble_eq_true rfl)
  rw [lg_entry_eq]
  generalize (lg_sl ([.ref x, .int a0, .int a1, .int a2]) ++ List.replicate (5 - (lg_sl ([.ref x, .int a0, .int a1, .int a2])).length) Slot.unset).toArray = ls at hl ⊢
  have hl : lv_has ls 5 [(0, .ref x), (1, .int a0), (2, .int a1), (3, .int a2)] := hl
  refine lv_aload_n hx hb d_L_power_0 rfl (lv_at hl 0 rfl) ?_
  refine lv_iload_n hx hb d_L_power_1 rfl (lv_at hl 1 rfl) ?_
  refine lv_iload_n hx hb d_L_power_2 rfl (lv_at hl 2 rfl) ?_
  refine lv_iload_n hx hb d_L_power_3 rfl (lv_at hl 3 rfl) ?_
  refine catE (g := F0 m 4 ls []) (vx_runV (As := [.int a0, .int a1, .int a2]) (rest := []) ⟨hx, hb, hml, hown, hts⟩ (c_S_power_t (D := D) (t := t) (z := z) (sa := sa) (ws := ws) (a0 := a0) (a1 := a1) (a2 := a2) hl0 e0 g) (cwV 3 hts (gd_V ml_L_57 im_S_power se_S_power in_S cd_S_power) rfl rfl rfl (by decide +kernel) ⟨Nat.le_of_ble_eq_true rfl, Nat.le_of_ble_eq_true rfl⟩) ⟨Pz_blind, va_recv hK hP (ci := 5) rfl e0, Pz_at hP hK hD hz hM hS⟩ rfl rfl hl.1 rfl (lv_room (Nat.le_of_ble_eq_true rfl)) d_L_power_4 ⟨Nat.le_of_ble_eq_true rfl, Nat.le_of_ble_eq_true rfl⟩) (fun _ _ _ h => h) hS (fun ce q9 H locs hP hS hce hcv hcl => ?_)
  refine vx_catch (name := xIAE) hown [] ⟨0, 7, 10, 61⟩ [] (htab.trans rfl) (fun z hz => nomatch hz) (by decide) (by decide) (hts _ cl_L_61) (nw_use rfl (hM.2.2.2.2.2.2.1 (.castable xIAE xIAE) (by decide +kernel))) hce hcv hcl ?_
  refine lv_astore (lv' := [(4, .ref q9), (0, .ref x), (1, .int a0), (2, .int a1), (3, .int a2)]) hx hb d_L_power_10 hl (by decide) rfl (fun ls hl => ?_)
  refine lv_iconst (v := 1) hx hb d_L_power_12 (by decide) ?_
  exact W.iret (v := 1) hx hb hr (fun t9 ht hW => ⟨⟨1, ws, rfl, ⟨rfl, hC.sub (by decide)⟩, ⟨by rw [ht]; exact hP, va_K.moved hW.alike hK, hD, by rw [ht]; exact Nat.le_trans hz hS.1⟩⟩, hS.F ht⟩) hS.2.2 d_L_power_13
set_option maxHeartbeats 4000000 in
set_option maxRecDepth 100000 in
theorem c_L_reopen {l : Launch} {D : va_G} {t : Nat → ClassId} {z : Nat} {sa : Nat → Nat} {ws : va_W} {x xf xj xl fu xr oo : Nat} {f0 : Nat → Int64} {fb jb l0 lb he : Nat} {gl : Nat → Option Nat} (e0 : ws[0]? = some (x, .inr (5, [.ref xf, .ref xj, .ref xl, .ref fu, .ref xr, .int 1, .int 0, .int 0, .int 0, .int 0]))) (e1 : ws[1]? = some (xf, .inr (3, [.ref fb, .int 0]))) (e4 : ws[4]? = some (xj, .inr (3, [.ref jb, .int 0]))) (e7 : ws[7]? = some (xl, .inl (t 3, 6, .inr (.inr (.inr (.inr gl)))))) (e8 : ws[8]? = some (fu, .inr (2, [.int 4, .int 0, .int 0, .int 0]))) (e10 : ws[10]? = some (l0, .inr (4, [.ref lb, .ref he, .int 0]))) (e13 : ws[13]? = some (he, .inl (t 1, 768, .inl (fun _ => 0)))) (e41 : ws[41]? = some (oo, .inl (t 5, 1, .inr (.inl f0)))) (hg0 : gl 0 = some l0) : Met l y_L_reopen (Cond.codeWith y_L_reopen b_L_reopen 3 (some .int) [(0, 8, 11, 42)] :: WS) ({ frames := 5, cells := 0, slots := 0, locals := 102 }) (Pz D t z sa ws [.ref x, .ref oo]) (va_Qi (fun (r : Int32) (u : va_W) => r = 0 ∧ Ch ws u [0, 4, 8, 10, 13, 41] ∧ u[41]? = some (oo, .inl (t 5, 1, .inr (.inl (vp_updL f0 0 0))))) (fun u U => Wd D t z u U) (Az z)) 0 0 (Az z) := by
  refine va_MetW (cc := b_L_reopen) (maxL := 3) (ret := (some .int)) (by decide) rfl ?_
  intro p e s m args below meth c s₁ B hml hv
  obtain ⟨rfl, ⟨hP, hK, hD, hz⟩, hM⟩ := hv
  have hx := B.exec
  have hb := B.bytes
  have hr := B.returns
  have hts : ∀ w ∈ WS, w.before [.ref x, .ref oo].toArray s = true := fun w h => atoms_spec B.pre w (List.mem_cons_of_mem _ h)
  have hown : s.vm.findClass R_L = some m.cls := findClass_of_methodNamed B.named
  have hlocks := B.notSynchronized
  have htab := vx_table (x := y_L_reopen) B (atoms_spec B.pre _ List.mem_cons_self)
  have hA : ∀ q, s.heap.size ≤ q → Az z q := fun q h => Nat.le_trans hz h
  have hS : va_S (Az z) s.heap s.heap [] := va_S.rf
  have hC : Ch ws ws [] := Ch.rf
  have hl := lv_entry ([.ref x, .ref oo]) (n := 3) (Nat.le_of_ble_eq_true rfl)
  rw [lg_entry_eq]
  generalize (lg_sl ([.ref x, .ref oo]) ++ List.replicate (3 - (lg_sl ([.ref x, .ref oo])).length) Slot.unset).toArray = ls at hl ⊢
  have hl : lv_has ls 3 [(0, .ref x), (1, .ref oo)] := hl
  refine lv_aload_n hx hb d_L_reopen_0 rfl (lv_at hl 1 rfl) ?_
  refine lv_iconst (v := 0) hx hb d_L_reopen_1 (by decide) ?_
  refine lv_aload_n hx hb d_L_reopen_2 rfl (lv_at hl 0 rfl) ?_
  refine va_calli (va_runV (As := []) (rest := [.int 0, .ref oo]) ⟨hx, hb, hml, hown, hts⟩ (c_S_reopen (D := D) (t := t) (z := z) (sa := sa) (ws := ws)  e0 e1 e4 e7 e8 e10 e13 hg0) (cwV 0 hts (gd_V ml_L_63 im_S_reopen se_S_reopen in_S cd_S_reopen) rfl rfl rfl (by decide +kernel) ⟨Nat.le_of_ble_eq_true rfl, Nat.le_of_ble_eq_true rfl⟩) ⟨Pz_blind, va_recv hK hP (ci := 5) rfl e0, Pz_at hP hK hD hz hM hS⟩ rfl rfl hl.1 rfl (lv_room (Nat.le_of_ble_eq_true rfl)) d_L_reopen_3 ⟨Nat.le_of_ble_eq_true rfl, Nat.le_of_ble_eq_true rfl⟩) hS (fun q _ h => h) (fun q h => h) (fun r2 w1 t9 H locs ht hvm hp hB hz1 hk1 hS => ?_)
  obtain ⟨hP, hK9, hD, -⟩ := hB
  rw [ht] at hP
  clear hK9
  obtain ⟨hr9, hC9, kf0⟩ := hp
  subst hr9
  have e0 : w1[0]? = some (x, .inr (5, [.ref xf, .ref xj, .ref xl, .ref fu, .ref xr, .int 1, .int 0, .int 0, .int 0, .int 0])) := kf0
  have e1 : w1[1]? = some (xf, .inr (3, [.ref fb, .int 0])) := hC9.keep e1 (by decide)
  have e7 : w1[7]? = some (xl, .inl (t 3, 6, .inr (.inr (.inr (.inr gl))))) := hC9.keep e7 (by decide)
  have e41 : w1[41]? = some (oo, .inl (t 5, 1, .inr (.inl f0))) := hC9.keep e41 (by decide)
  have hC := hC.trans hC9
  refine lv_i2l (v := 0) hx hb d_L_reopen_6 (by decide) ?_
  refine va_last (D := D) hx hb hK hP hD hS 41 5 e41 rfl (i := 0) (x := 0) (by unfold vp_in; decide) d_L_reopen_7 (fun H locs hP hD hS => ?_)
  obtain ⟨w3, hw⟩ : ∃ q, q = w1.set 41 (oo, .inl (t 5, 1, .inr (.inl (vp_updL f0 0 0)))) := ⟨_, rfl⟩
  have hP : va_P D Cl (w1.set 41 (oo, .inl (t 5, 1, .inr (.inl (vp_updL f0 0 0))))) H := hP
  have hD : va_D (Az z) (w1.set 41 (oo, .inl (t 5, 1, .inr (.inl (vp_updL f0 0 0))))) := hD
  rw [← hw] at hP hD
  have hC := hC.put (p := 41) (c := (oo, .inl (t 5, 1, .inr (.inl (vp_updL f0 0 0)))))
  rw [← hw] at hC
  have e0 : w3[0]? = some (x, .inr (5, [.ref xf, .ref xj, .ref xl, .ref fu, .ref xr, .int 1, .int 0, .int 0, .int 0, .int 0])) := by rw [hw]; exact lk_ne e0 (by decide)
  have e1 : w3[1]? = some (xf, .inr (3, [.ref fb, .int 0])) := by rw [hw]; exact lk_ne e1 (by decide)
  have e7 : w3[7]? = some (xl, .inl (t 3, 6, .inr (.inr (.inr (.inr gl))))) := by rw [hw]; exact lk_ne e7 (by decide)
  have e41 : w3[41]? = some (oo, .inl (t 5, 1, .inr (.inl (vp_updL f0 0 0)))) := by rw [hw]; exact lk_set e41
  clear hw
  refine lv_goto (tgt := 14) hx hb d_L_reopen_8 rfl ?_
  refine lv_iconst (v := 0) hx hb d_L_reopen_14 (by decide) ?_
  exact W.iret (v := 0) hx hb hr (fun t9 ht hW => ⟨⟨0, w3, rfl, ⟨rfl, hC.sub (by decide), e41⟩, ⟨by rw [ht]; exact hP, va_K.moved hW.alike hK, hD, by rw [ht]; exact Nat.le_trans hz hS.1⟩⟩, hS.F ht⟩) hS.2.2 d_L_reopen_15
set_option maxHeartbeats 4000000 in
set_option maxRecDepth 100000 in
theorem c_L_told0 {l : Launch} {D : va_G} {t : Nat → ClassId} {z : Nat} {sa : Nat → Nat} {ws : va_W} {x xf xj xl fu xr oo : Nat} {f0 : Nat → Int64} (e0 : ws[0]? = some (x, .inr (5, [.ref xf, .ref xj, .ref xl, .ref fu, .ref xr, .int 1, .int 0, .int 0, .int 0, .int 0]))) (e41 : ws[41]? = some (oo, .inl (t 5, 1, .inr (.inl f0))))  : Met l y_L_told (Cond.codeWith y_L_told b_L_told 4 (some .int) [(0, 9, 12, 61)] :: WS) ({ frames := 1, cells := 0, slots := 0, locals := 21 }) (Pz D t z sa ws [.ref x, .int 0, .ref oo]) (va_Qi (fun (r : Int32) (u : va_W) => r = 0 ∧ Ch ws u [41] ∧ u[41]? = some (oo, .inl (t 5, 1, .inr (.inl (vp_updL f0 0 1))))) (fun u U => Wd D t z u U) (Az z)) 0 0 (Az z) := by
  refine va_MetW (cc := b_L_told) (maxL := 4) (ret := (some .int)) (by decide) rfl ?_
  intro p e s m args below meth c s₁ B hml hv
  obtain ⟨rfl, ⟨hP, hK, hD, hz⟩, hM⟩ := hv
  have hx := B.exec
  have hb := B.bytes
  have hr := B.returns
  have hts : ∀ w ∈ WS, w.before [.ref x, .int 0, .ref oo].toArray s = true := fun w h => atoms_spec B.pre w (List.mem_cons_of_mem _ h)
  have hown : s.vm.findClass R_L = some m.cls := findClass_of_methodNamed B.named
  have hlocks := B.notSynchronized
  have htab := vx_table (x := y_L_told) B (atoms_spec B.pre _ List.mem_cons_self)
  have hA : ∀ q, s.heap.size ≤ q → Az z q := fun q h => Nat.le_trans hz h
  have hS : va_S (Az z) s.heap s.heap [] := va_S.rf
  have hC : Ch ws ws [] := Ch.rf
  have hl := lv_entry ([.ref x, .int 0, .ref oo]) (n := 4) (Nat.le_of_ble_eq_true rfl)
  rw [lg_entry_eq]
  generalize (lg_sl ([.ref x, .int 0, .ref oo]) ++ List.replicate (4 - (lg_sl ([.ref x, .int 0, .ref oo])).length) Slot.unset).toArray = ls at hl ⊢
  have hl : lv_has ls 4 [(0, .ref x), (1, .int 0), (2, .ref oo)] := hl
  refine lv_aload_n hx hb d_L_told_0 rfl (lv_at hl 2 rfl) ?_
  refine lv_iconst (v := 0) hx hb d_L_told_1 (by decide) ?_
  refine lv_aload_n hx hb d_L_told_2 rfl (lv_at hl 0 rfl) ?_
  refine lv_iload_n hx hb d_L_told_3 rfl (lv_at hl 1 rfl) ?_
  refine va_calli (va_runV (As := [.int 0]) (rest := [.int 0, .ref oo]) ⟨hx, hb, hml, hown, hts⟩ (c_S_told0 (D := D) (t := t) (z := z) (sa := sa) (ws := ws)  e0) (cwV 1 hts (gd_V ml_L_66 im_S_told se_S_told in_S cd_S_told) rfl rfl rfl (by decide +kernel) ⟨Nat.le_of_ble_eq_true rfl, Nat.le_of_ble_eq_true rfl⟩) ⟨Pz_blind, va_recv hK hP (ci := 5) rfl e0, Pz_at hP hK hD hz hM hS⟩ rfl rfl hl.1 rfl (lv_room (Nat.le_of_ble_eq_true rfl)) d_L_told_4 ⟨Nat.le_of_ble_eq_true rfl, Nat.le_of_ble_eq_true rfl⟩) hS (fun q _ h => h) (fun q h => h) (fun r2 w1 t9 H locs ht hvm hp hB hz1 hk1 hS => ?_)
  obtain ⟨hP, hK9, hD, -⟩ := hB
  rw [ht] at hP
  clear hK9
  obtain ⟨hr9, hw9⟩ := hp
  rw [hw9] at hP hD
  clear hw9
  subst hr9
  refine lv_i2l (v := 1) hx hb d_L_told_7 (by decide) ?_
  refine va_last (D := D) hx hb hK hP hD hS 41 5 e41 rfl (i := 0) (x := 1) (by unfold vp_in; decide) d_L_told_8 (fun H locs hP hD hS => ?_)
  obtain ⟨w3, hw⟩ : ∃ q, q = ws.set 41 (oo, .inl (t 5, 1, .inr (.inl (vp_updL f0 0 1)))) := ⟨_, rfl⟩
  have hP : va_P D Cl (ws.set 41 (oo, .inl (t 5, 1, .inr (.inl (vp_updL f0 0 1))))) H := hP
  have hD : va_D (Az z) (ws.set 41 (oo, .inl (t 5, 1, .inr (.inl (vp_updL f0 0 1))))) := hD
  rw [← hw] at hP hD
  have hC := hC.put (p := 41) (c := (oo, .inl (t 5, 1, .inr (.inl (vp_updL f0 0 1)))))
  rw [← hw] at hC
  have e0 : w3[0]? = some (x, .inr (5, [.ref xf, .ref xj, .ref xl, .ref fu, .ref xr, .int 1, .int 0, .int 0, .int 0, .int 0])) := by rw [hw]; exact lk_ne e0 (by decide)
  have e41 : w3[41]? = some (oo, .inl (t 5, 1, .inr (.inl (vp_updL f0 0 1)))) := by rw [hw]; exact lk_set e41
  clear hw
  refine lv_goto (tgt := 15) hx hb d_L_told_9 rfl ?_
  refine lv_iconst (v := 0) hx hb d_L_told_15 (by decide) ?_
  exact W.iret (v := 0) hx hb hr (fun t9 ht hW => ⟨⟨0, w3, rfl, ⟨rfl, hC.sub (by decide), e41⟩, ⟨by rw [ht]; exact hP, va_K.moved hW.alike hK, hD, by rw [ht]; exact Nat.le_trans hz hS.1⟩⟩, hS.F ht⟩) hS.2.2 d_L_told_16
set_option maxHeartbeats 4000000 in
set_option maxRecDepth 100000 in
theorem c_L_told1 {l : Launch} {D : va_G} {t : Nat → ClassId} {z : Nat} {sa : Nat → Nat} {ws : va_W} {x xf xj xl fu xr oo : Nat} {f0 : Nat → Int64} (e0 : ws[0]? = some (x, .inr (5, [.ref xf, .ref xj, .ref xl, .ref fu, .ref xr, .int 1, .int 0, .int 0, .int 0, .int 0]))) (e41 : ws[41]? = some (oo, .inl (t 5, 1, .inr (.inl f0))))  : Met l y_L_told (Cond.codeWith y_L_told b_L_told 4 (some .int) [(0, 9, 12, 61)] :: WS) ({ frames := 1, cells := 0, slots := 0, locals := 21 }) (Pz D t z sa ws [.ref x, .int 1, .ref oo]) (va_Qi (fun (r : Int32) (u : va_W) => r = 0 ∧ Ch ws u [41] ∧ u[41]? = some (oo, .inl (t 5, 1, .inr (.inl (vp_updL f0 0 0))))) (fun u U => Wd D t z u U) (Az z)) 0 0 (Az z) := by
  refine va_MetW (cc := b_L_told) (maxL := 4) (ret := (some .int)) (by decide) rfl ?_
  intro p e s m args below meth c s₁ B hml hv
  obtain ⟨rfl, ⟨hP, hK, hD, hz⟩, hM⟩ := hv
  have hx := B.exec
  have hb := B.bytes
  have hr := B.returns
  have hts : ∀ w ∈ WS, w.before [.ref x, .int 1, .ref oo].toArray s = true := fun w h => atoms_spec B.pre w (List.mem_cons_of_mem _ h)
  have hown : s.vm.findClass R_L = some m.cls := findClass_of_methodNamed B.named
  have hlocks := B.notSynchronized
  have htab := vx_table (x := y_L_told) B (atoms_spec B.pre _ List.mem_cons_self)
  have hA : ∀ q, s.heap.size ≤ q → Az z q := fun q h => Nat.le_trans hz h
  have hS : va_S (Az z) s.heap s.heap [] := va_S.rf
  have hC : Ch ws ws [] := Ch.rf
  have hl := lv_entry ([.ref x, .int 1, .ref oo]) (n := 4) (Nat.le_of_ble_eq_true rfl)
  rw [lg_entry_eq]
  generalize (lg_sl ([.ref x, .int 1, .ref oo]) ++ List.replicate (4 - (lg_sl ([.ref x, .int 1, .ref oo])).length) Slot.unset).toArray = ls at hl ⊢
  have hl : lv_has ls 4 [(0, .ref x), (1, .int 1), (2, .ref oo)] := hl
  refine lv_aload_n hx hb d_L_told_0 rfl (lv_at hl 2 rfl) ?_
  refine lv_iconst (v := 0) hx hb d_L_told_1 (by decide) ?_
  refine lv_aload_n hx hb d_L_told_2 rfl (lv_at hl 0 rfl) ?_
  refine lv_iload_n hx hb d_L_told_3 rfl (lv_at hl 1 rfl) ?_
  refine va_calli (va_runV (As := [.int 1]) (rest := [.int 0, .ref oo]) ⟨hx, hb, hml, hown, hts⟩ (c_S_told1 (D := D) (t := t) (z := z) (sa := sa) (ws := ws)  e0) (cwV 1 hts (gd_V ml_L_66 im_S_told se_S_told in_S cd_S_told) rfl rfl rfl (by decide +kernel) ⟨Nat.le_of_ble_eq_true rfl, Nat.le_of_ble_eq_true rfl⟩) ⟨Pz_blind, va_recv hK hP (ci := 5) rfl e0, Pz_at hP hK hD hz hM hS⟩ rfl rfl hl.1 rfl (lv_room (Nat.le_of_ble_eq_true rfl)) d_L_told_4 ⟨Nat.le_of_ble_eq_true rfl, Nat.le_of_ble_eq_true rfl⟩) hS (fun q _ h => h) (fun q h => h) (fun r2 w1 t9 H locs ht hvm hp hB hz1 hk1 hS => ?_)
  obtain ⟨hP, hK9, hD, -⟩ := hB
  rw [ht] at hP
  clear hK9
  obtain ⟨hr9, hw9⟩ := hp
  rw [hw9] at hP hD
  clear hw9
  subst hr9
  refine lv_i2l (v := 0) hx hb d_L_told_7 (by decide) ?_
  refine va_last (D := D) hx hb hK hP hD hS 41 5 e41 rfl (i := 0) (x := 0) (by unfold vp_in; decide) d_L_told_8 (fun H locs hP hD hS => ?_)
  obtain ⟨w3, hw⟩ : ∃ q, q = ws.set 41 (oo, .inl (t 5, 1, .inr (.inl (vp_updL f0 0 0)))) := ⟨_, rfl⟩
  have hP : va_P D Cl (ws.set 41 (oo, .inl (t 5, 1, .inr (.inl (vp_updL f0 0 0))))) H := hP
  have hD : va_D (Az z) (ws.set 41 (oo, .inl (t 5, 1, .inr (.inl (vp_updL f0 0 0))))) := hD
  rw [← hw] at hP hD
  have hC := hC.put (p := 41) (c := (oo, .inl (t 5, 1, .inr (.inl (vp_updL f0 0 0)))))
  rw [← hw] at hC
  have e0 : w3[0]? = some (x, .inr (5, [.ref xf, .ref xj, .ref xl, .ref fu, .ref xr, .int 1, .int 0, .int 0, .int 0, .int 0])) := by rw [hw]; exact lk_ne e0 (by decide)
  have e41 : w3[41]? = some (oo, .inl (t 5, 1, .inr (.inl (vp_updL f0 0 0)))) := by rw [hw]; exact lk_set e41
  clear hw
  refine lv_goto (tgt := 15) hx hb d_L_told_9 rfl ?_
  refine lv_iconst (v := 0) hx hb d_L_told_15 (by decide) ?_
  exact W.iret (v := 0) hx hb hr (fun t9 ht hW => ⟨⟨0, w3, rfl, ⟨rfl, hC.sub (by decide), e41⟩, ⟨by rw [ht]; exact hP, va_K.moved hW.alike hK, hD, by rw [ht]; exact Nat.le_trans hz hS.1⟩⟩, hS.F ht⟩) hS.2.2 d_L_told_16
set_option maxHeartbeats 4000000 in
set_option maxRecDepth 100000 in
theorem c_L_told2 {l : Launch} {D : va_G} {t : Nat → ClassId} {z : Nat} {sa : Nat → Nat} {ws : va_W} {x xf xj xl fu xr oo : Nat} {f0 : Nat → Int64} (e0 : ws[0]? = some (x, .inr (5, [.ref xf, .ref xj, .ref xl, .ref fu, .ref xr, .int 1, .int 0, .int 0, .int 0, .int 0]))) (e41 : ws[41]? = some (oo, .inl (t 5, 1, .inr (.inl f0))))  : Met l y_L_told (Cond.codeWith y_L_told b_L_told 4 (some .int) [(0, 9, 12, 61)] :: WS) ({ frames := 1, cells := 0, slots := 0, locals := 21 }) (Pz D t z sa ws [.ref x, .int 2, .ref oo]) (va_Qi (fun (r : Int32) (u : va_W) => r = 0 ∧ Ch ws u [41] ∧ u[41]? = some (oo, .inl (t 5, 1, .inr (.inl (vp_updL f0 0 0))))) (fun u U => Wd D t z u U) (Az z)) 0 0 (Az z) := by
  refine va_MetW (cc := b_L_told) (maxL := 4) (ret := (some .int)) (by decide) rfl ?_
  intro p e s m args below meth c s₁ B hml hv
  obtain ⟨rfl, ⟨hP, hK, hD, hz⟩, hM⟩ := hv
  have hx := B.exec
  have hb := B.bytes
  have hr := B.returns
  have hts : ∀ w ∈ WS, w.before [.ref x, .int 2, .ref oo].toArray s = true := fun w h => atoms_spec B.pre w (List.mem_cons_of_mem _ h)
  have hown : s.vm.findClass R_L = some m.cls := findClass_of_methodNamed B.named
  have hlocks := B.notSynchronized
  have htab := vx_table (x := y_L_told) B (atoms_spec B.pre _ List.mem_cons_self)
  have hA : ∀ q, s.heap.size ≤ q → Az z q := fun q h => Nat.le_trans hz h
  have hS : va_S (Az z) s.heap s.heap [] := va_S.rf
  have hC : Ch ws ws [] := Ch.rf
  have hl := lv_entry ([.ref x, .int 2, .ref oo]) (n := 4) (Nat.le_of_ble_eq_true rfl)
  rw [lg_entry_eq]
  generalize (lg_sl ([.ref x, .int 2, .ref oo]) ++ List.replicate (4 - (lg_sl ([.ref x, .int 2, .ref oo])).length) Slot.unset).toArray = ls at hl ⊢
  have hl : lv_has ls 4 [(0, .ref x), (1, .int 2), (2, .ref oo)] := hl
  refine lv_aload_n hx hb d_L_told_0 rfl (lv_at hl 2 rfl) ?_
  refine lv_iconst (v := 0) hx hb d_L_told_1 (by decide) ?_
  refine lv_aload_n hx hb d_L_told_2 rfl (lv_at hl 0 rfl) ?_
  refine lv_iload_n hx hb d_L_told_3 rfl (lv_at hl 1 rfl) ?_
  refine va_calli (va_runV (As := [.int 2]) (rest := [.int 0, .ref oo]) ⟨hx, hb, hml, hown, hts⟩ (c_S_told2 (D := D) (t := t) (z := z) (sa := sa) (ws := ws)  e0) (cwV 1 hts (gd_V ml_L_66 im_S_told se_S_told in_S cd_S_told) rfl rfl rfl (by decide +kernel) ⟨Nat.le_of_ble_eq_true rfl, Nat.le_of_ble_eq_true rfl⟩) ⟨Pz_blind, va_recv hK hP (ci := 5) rfl e0, Pz_at hP hK hD hz hM hS⟩ rfl rfl hl.1 rfl (lv_room (Nat.le_of_ble_eq_true rfl)) d_L_told_4 ⟨Nat.le_of_ble_eq_true rfl, Nat.le_of_ble_eq_true rfl⟩) hS (fun q _ h => h) (fun q h => h) (fun r2 w1 t9 H locs ht hvm hp hB hz1 hk1 hS => ?_)
  obtain ⟨hP, hK9, hD, -⟩ := hB
  rw [ht] at hP
  clear hK9
  obtain ⟨hr9, hw9⟩ := hp
  rw [hw9] at hP hD
  clear hw9
  subst hr9
  refine lv_i2l (v := 0) hx hb d_L_told_7 (by decide) ?_
  refine va_last (D := D) hx hb hK hP hD hS 41 5 e41 rfl (i := 0) (x := 0) (by unfold vp_in; decide) d_L_told_8 (fun H locs hP hD hS => ?_)
  obtain ⟨w3, hw⟩ : ∃ q, q = ws.set 41 (oo, .inl (t 5, 1, .inr (.inl (vp_updL f0 0 0)))) := ⟨_, rfl⟩
  have hP : va_P D Cl (ws.set 41 (oo, .inl (t 5, 1, .inr (.inl (vp_updL f0 0 0))))) H := hP
  have hD : va_D (Az z) (ws.set 41 (oo, .inl (t 5, 1, .inr (.inl (vp_updL f0 0 0))))) := hD
  rw [← hw] at hP hD
  have hC := hC.put (p := 41) (c := (oo, .inl (t 5, 1, .inr (.inl (vp_updL f0 0 0)))))
  rw [← hw] at hC
  have e0 : w3[0]? = some (x, .inr (5, [.ref xf, .ref xj, .ref xl, .ref fu, .ref xr, .int 1, .int 0, .int 0, .int 0, .int 0])) := by rw [hw]; exact lk_ne e0 (by decide)
  have e41 : w3[41]? = some (oo, .inl (t 5, 1, .inr (.inl (vp_updL f0 0 0)))) := by rw [hw]; exact lk_set e41
  clear hw
  refine lv_goto (tgt := 15) hx hb d_L_told_9 rfl ?_
  refine lv_iconst (v := 0) hx hb d_L_told_15 (by decide) ?_
  exact W.iret (v := 0) hx hb hr (fun t9 ht hW => ⟨⟨0, w3, rfl, ⟨rfl, hC.sub (by decide), e41⟩, ⟨by rw [ht]; exact hP, va_K.moved hW.alike hK, hD, by rw [ht]; exact Nat.le_trans hz hS.1⟩⟩, hS.F ht⟩) hS.2.2 d_L_told_16
set_option maxHeartbeats 4000000 in
set_option maxRecDepth 100000 in
theorem c_L_told3 {l : Launch} {D : va_G} {t : Nat → ClassId} {z : Nat} {sa : Nat → Nat} {ws : va_W} {x xf xj xl fu xr oo : Nat} {f0 : Nat → Int64} (e0 : ws[0]? = some (x, .inr (5, [.ref xf, .ref xj, .ref xl, .ref fu, .ref xr, .int 1, .int 0, .int 0, .int 0, .int 0]))) (e41 : ws[41]? = some (oo, .inl (t 5, 1, .inr (.inl f0))))  : Met l y_L_told (Cond.codeWith y_L_told b_L_told 4 (some .int) [(0, 9, 12, 61)] :: WS) ({ frames := 1, cells := 0, slots := 0, locals := 21 }) (Pz D t z sa ws [.ref x, .int 3, .ref oo]) (va_Qi (fun (r : Int32) (u : va_W) => r = 0 ∧ Ch ws u [41] ∧ u[41]? = some (oo, .inl (t 5, 1, .inr (.inl (vp_updL f0 0 0))))) (fun u U => Wd D t z u U) (Az z)) 0 0 (Az z) := by
  refine va_MetW (cc := b_L_told) (maxL := 4) (ret := (some .int)) (by decide) rfl ?_
  intro p e s m args below meth c s₁ B hml hv
  obtain ⟨rfl, ⟨hP, hK, hD, hz⟩, hM⟩ := hv
  have hx := B.exec
  have hb := B.bytes
  have hr := B.returns
  have hts : ∀ w ∈ WS, w.before [.ref x, .int 3, .ref oo].toArray s = true := fun w h => atoms_spec B.pre w (List.mem_cons_of_mem _ h)
  have hown : s.vm.findClass R_L = some m.cls := findClass_of_methodNamed B.named
  have hlocks := B.notSynchronized
  have htab := vx_table (x := y_L_told) B (atoms_spec B.pre _ List.mem_cons_self)
  have hA : ∀ q, s.heap.size ≤ q → Az z q := fun q h => Nat.le_trans hz h
  have hS : va_S (Az z) s.heap s.heap [] := va_S.rf
  have hC : Ch ws ws [] := Ch.rf
  have hl := lv_entry ([.ref x, .int 3, .ref oo]) (n := 4) (Nat.le_of_ble_eq_true rfl)
  rw [lg_entry_eq]
  generalize (lg_sl ([.ref x, .int 3, .ref oo]) ++ List.replicate (4 - (lg_sl ([.ref x, .int 3, .ref oo])).length) Slot.unset).toArray = ls at hl ⊢
  have hl : lv_has ls 4 [(0, .ref x), (1, .int 3), (2, .ref oo)] := hl
  refine lv_aload_n hx hb d_L_told_0 rfl (lv_at hl 2 rfl) ?_
  refine lv_iconst (v := 0) hx hb d_L_told_1 (by decide) ?_
  refine lv_aload_n hx hb d_L_told_2 rfl (lv_at hl 0 rfl) ?_
  refine lv_iload_n hx hb d_L_told_3 rfl (lv_at hl 1 rfl) ?_
  refine va_calli (va_runV (As := [.int 3]) (rest := [.int 0, .ref oo]) ⟨hx, hb, hml, hown, hts⟩ (c_S_told3 (D := D) (t := t) (z := z) (sa := sa) (ws := ws)  e0) (cwV 1 hts (gd_V ml_L_66 im_S_told se_S_told in_S cd_S_told) rfl rfl rfl (by decide +kernel) ⟨Nat.le_of_ble_eq_true rfl, Nat.le_of_ble_eq_true rfl⟩) ⟨Pz_blind, va_recv hK hP (ci := 5) rfl e0, Pz_at hP hK hD hz hM hS⟩ rfl rfl hl.1 rfl (lv_room (Nat.le_of_ble_eq_true rfl)) d_L_told_4 ⟨Nat.le_of_ble_eq_true rfl, Nat.le_of_ble_eq_true rfl⟩) hS (fun q _ h => h) (fun q h => h) (fun r2 w1 t9 H locs ht hvm hp hB hz1 hk1 hS => ?_)
  obtain ⟨hP, hK9, hD, -⟩ := hB
  rw [ht] at hP
  clear hK9
  obtain ⟨hr9, hw9⟩ := hp
  rw [hw9] at hP hD
  clear hw9
  subst hr9
  refine lv_i2l (v := 0) hx hb d_L_told_7 (by decide) ?_
  refine va_last (D := D) hx hb hK hP hD hS 41 5 e41 rfl (i := 0) (x := 0) (by unfold vp_in; decide) d_L_told_8 (fun H locs hP hD hS => ?_)
  obtain ⟨w3, hw⟩ : ∃ q, q = ws.set 41 (oo, .inl (t 5, 1, .inr (.inl (vp_updL f0 0 0)))) := ⟨_, rfl⟩
  have hP : va_P D Cl (ws.set 41 (oo, .inl (t 5, 1, .inr (.inl (vp_updL f0 0 0))))) H := hP
  have hD : va_D (Az z) (ws.set 41 (oo, .inl (t 5, 1, .inr (.inl (vp_updL f0 0 0))))) := hD
  rw [← hw] at hP hD
  have hC := hC.put (p := 41) (c := (oo, .inl (t 5, 1, .inr (.inl (vp_updL f0 0 0)))))
  rw [← hw] at hC
  have e0 : w3[0]? = some (x, .inr (5, [.ref xf, .ref xj, .ref xl, .ref fu, .ref xr, .int 1, .int 0, .int 0, .int 0, .int 0])) := by rw [hw]; exact lk_ne e0 (by decide)
  have e41 : w3[41]? = some (oo, .inl (t 5, 1, .inr (.inl (vp_updL f0 0 0)))) := by rw [hw]; exact lk_set e41
  clear hw
  refine lv_goto (tgt := 15) hx hb d_L_told_9 rfl ?_
  refine lv_iconst (v := 0) hx hb d_L_told_15 (by decide) ?_
  exact W.iret (v := 0) hx hb hr (fun t9 ht hW => ⟨⟨0, w3, rfl, ⟨rfl, hC.sub (by decide), e41⟩, ⟨by rw [ht]; exact hP, va_K.moved hW.alike hK, hD, by rw [ht]; exact Nat.le_trans hz hS.1⟩⟩, hS.F ht⟩) hS.2.2 d_L_told_16
set_option maxHeartbeats 4000000 in
set_option maxRecDepth 100000 in
theorem c_L_told_b {l : Launch} {D : va_G} {t : Nat → ClassId} {z : Nat} {sa : Nat → Nat} {ws : va_W} {x xf xj xl fu xr oo : Nat} {f0 : Nat → Int64} {a0 : Int32} (hl0 : l.stackTraces = false) (e0 : ws[0]? = some (x, .inr (5, [.ref xf, .ref xj, .ref xl, .ref fu, .ref xr, .int 1, .int 0, .int 0, .int 0, .int 0]))) (e41 : ws[41]? = some (oo, .inl (t 5, 1, .inr (.inl f0)))) (g : a0.toInt < 0 ∨ 3 < a0.toInt) : Met l y_L_told (Cond.codeWith y_L_told b_L_told 4 (some .int) [(0, 9, 12, 61)] :: WS) ({ frames := 7, cells := 1, slots := 6, locals := 103 }) (Pz D t z sa ws [.ref x, .int a0, .ref oo]) (va_Qi (fun (r : Int32) (u : va_W) => r = 1 ∧ Ch ws u []) (fun u U => Wd D t z u U) (Az z)) 1 6 (Az z) := by
  refine va_MetW (cc := b_L_told) (maxL := 4) (ret := (some .int)) (by decide) rfl ?_
  intro p e s m args below meth c s₁ B hml hv
  obtain ⟨rfl, ⟨hP, hK, hD, hz⟩, hM⟩ := hv
  have hx := B.exec
  have hb := B.bytes
  have hr := B.returns
  have hts : ∀ w ∈ WS, w.before [.ref x, .int a0, .ref oo].toArray s = true := fun w h => atoms_spec B.pre w (List.mem_cons_of_mem _ h)
  have hown : s.vm.findClass R_L = some m.cls := findClass_of_methodNamed B.named
  have hlocks := B.notSynchronized
  have htab := vx_table (x := y_L_told) B (atoms_spec B.pre _ List.mem_cons_self)
  have hA : ∀ q, s.heap.size ≤ q → Az z q := fun q h => Nat.le_trans hz h
  have hS : va_S (Az z) s.heap s.heap [] := va_S.rf
  have hC : Ch ws ws [] := Ch.rf
  have hl := lv_entry ([.ref x, .int a0, .ref oo]) (n := 4) (Nat.le_of_ble_eq_true rfl)
  rw [lg_entry_eq]
  generalize (lg_sl ([.ref x, .int a0, .ref oo]) ++ List.replicate (4 - (lg_sl ([.ref x, .int a0, .ref oo])).length) Slot.unset).toArray = ls at hl ⊢
  have hl : lv_has ls 4 [(0, .ref x), (1, .int a0), (2, .ref oo)] := hl
  refine lv_aload_n hx hb d_L_told_0 rfl (lv_at hl 2 rfl) ?_
  refine lv_iconst (v := 0) hx hb d_L_told_1 (by decide) ?_
  refine lv_aload_n hx hb d_L_told_2 rfl (lv_at hl 0 rfl) ?_
  refine lv_iload_n hx hb d_L_told_3 rfl (lv_at hl 1 rfl) ?_
  refine catE (g := F0 m 4 ls [.int 0, .ref oo]) (vx_runV (As := [.int a0]) (rest := [.int 0, .ref oo]) ⟨hx, hb, hml, hown, hts⟩ (c_S_told_t (D := D) (t := t) (z := z) (sa := sa) (ws := ws) (a0 := a0) hl0 e0 g) (cwV 1 hts (gd_V ml_L_66 im_S_told se_S_told in_S cd_S_told) rfl rfl rfl (by decide +kernel) ⟨Nat.le_of_ble_eq_true rfl, Nat.le_of_ble_eq_true rfl⟩) ⟨Pz_blind, va_recv hK hP (ci := 5) rfl e0, Pz_at hP hK hD hz hM hS⟩ rfl rfl hl.1 rfl (lv_room (Nat.le_of_ble_eq_true rfl)) d_L_told_4 ⟨Nat.le_of_ble_eq_true rfl, Nat.le_of_ble_eq_true rfl⟩) (fun _ _ _ h => h) hS (fun ce q9 H locs hP hS hce hcv hcl => ?_)
  refine vx_catch (name := xIAE) hown [] ⟨0, 9, 12, 61⟩ [] (htab.trans rfl) (fun z hz => nomatch hz) (by decide) (by decide) (hts _ cl_L_61) (nw_use rfl (hM.2.2.2.2.2.2.1 (.castable xIAE xIAE) (by decide +kernel))) hce hcv hcl ?_
  refine lv_astore_n (lv' := [(3, .ref q9), (0, .ref x), (1, .int a0), (2, .ref oo)]) hx hb d_L_told_12 rfl hl (by decide) rfl (fun ls hl => ?_)
  refine lv_iconst (v := 1) hx hb d_L_told_13 (by decide) ?_
  exact W.iret (v := 1) hx hb hr (fun t9 ht hW => ⟨⟨1, ws, rfl, ⟨rfl, hC.sub (by decide)⟩, ⟨by rw [ht]; exact hP, va_K.moved hW.alike hK, hD, by rw [ht]; exact Nat.le_trans hz hS.1⟩⟩, hS.F ht⟩) hS.2.2 d_L_told_14
