set_option maxHeartbeats 4000000 in
set_option maxRecDepth 100000 in
theorem c_S_pages {l : Launch} {D : va_G} {t : Nat → ClassId} {z : Nat} {sa : Nat → Nat} {ws : va_W} {x xf xj xl xu xr : Nat} {op mk la : Int32} (e0 : ws[0]? = some (x, .inr (5, [.ref xf, .ref xj, .ref xl, .ref xu, .ref xr, .int 1, .int op, .int mk, .int 0, .int la])))  : Met l y_S_pages (Cond.code y_S_pages b_S_pages 1 (some .int) :: WS) ({ frames := 1, cells := 0, slots := 0, locals := 20 }) (Pz D t z sa ws [.ref x]) (va_Qi (fun (r : Int32) (u : va_W) => r = 0 ∧ u = ws) (fun u U => Wd D t z u U) (Az z)) 0 0 (Az z) := by
  refine Met.ofW (cc := b_S_pages) (maxL := 1) (ret := (some .int)) (by decide) rfl ?_
  intro p e s m args below meth c s₁ B hml hv
  obtain ⟨rfl, ⟨hP, hK, hD, hz⟩, hM⟩ := hv
  have hx := B.exec
  have hb := B.bytes
  have hr := B.returns
  have hts : ∀ w ∈ WS, w.before [.ref x].toArray s = true := fun w h => atoms_spec B.pre w (List.mem_cons_of_mem _ h)
  have hown : s.vm.findClass R_S = some m.cls := findClass_of_methodNamed B.named
  have hlocks := B.notSynchronized
  have hA : ∀ q, s.heap.size ≤ q → Az z q := fun q h => Nat.le_trans hz h
  have hS : va_S (Az z) s.heap s.heap [] := va_S.rf
  have hC : Ch ws ws [] := Ch.rf
  have hl := lv_entry ([.ref x]) (n := 1) (Nat.le_of_ble_eq_true rfl)
  rw [lg_entry_eq]
  generalize (lg_sl ([.ref x]) ++ List.replicate (1 - (lg_sl ([.ref x])).length) Slot.unset).toArray = ls at hl ⊢
  have hl : lv_has ls 1 [(0, .ref x)] := hl
  refine lv_aload_n hx hb d_S_pages_0 rfl (lv_at hl 0 rfl) ?_
  refine va_callv (va_runV (As := []) (rest := []) ⟨hx, hb, hml, hown, hts⟩ (c_S_requireOn (D := D) (t := t) (z := z) (sa := sa) (ws := ws)  e0) (cwV 0 hts (gd_V ml_S_58 im_S_requireOn se_S_requireOn in_S cd_S_requireOn) rfl rfl rfl (by decide +kernel) ⟨Nat.le_of_ble_eq_true rfl, Nat.le_of_ble_eq_true rfl⟩) ⟨Pz_blind, va_recv hK hP (ci := 5) rfl e0, Pz_at hP hK hD hz hM hS⟩ rfl rfl hl.1 rfl (lv_room (Nat.le_of_ble_eq_true rfl)) d_S_pages_1 ⟨Nat.le_of_ble_eq_true rfl, Nat.le_of_ble_eq_true rfl⟩) hS (fun q _ h => h) (fun q h => h) (fun w1 t9 H locs ht hvm hp hB hz1 hk1 hS => ?_)
  obtain ⟨hP, hK9, hD, -⟩ := hB
  rw [ht] at hP
  clear hK9
  have hw9 := hp
  rw [hw9] at hP hD
  clear hw9
  refine lv_aload_n hx hb d_S_pages_4 rfl (lv_at hl 0 rfl) ?_
  refine va_get (D := D) (ci := 5) (v := .int 0) (C := R_S) (T := F_S) (N := 10) hx hb hts ws_S hown hK hP 0 e0 rfl 8 (by decide) (hts _ fl_S_51) (fun _ h9 => h9) rfl d_S_pages_5 ?_
  exact W.iret (v := 0) hx hb hr (fun t9 ht hW => ⟨⟨0, ws, rfl, ⟨rfl, rfl⟩, ⟨by rw [ht]; exact hP, va_K.moved hW.alike hK, hD, by rw [ht]; exact Nat.le_trans hz hS.1⟩⟩, hS.F ht⟩) hS.2.2 d_S_pages_8
set_option maxHeartbeats 4000000 in
set_option maxRecDepth 100000 in
theorem c_S_add_t {l : Launch} {D : va_G} {t : Nat → ClassId} {z : Nat} {sa : Nat → Nat} {ws : va_W} {x xf xj xl xu xr : Nat} {mk ct la : Int32} (hl0 : l.stackTraces = false) (e0 : ws[0]? = some (x, .inr (5, [.ref xf, .ref xj, .ref xl, .ref xu, .ref xr, .int 1, .int 0, .int mk, .int ct, .int la])))  : vx_Met l y_S_add (Cond.code y_S_add b_S_add 1 (some .int) :: WS) ({ frames := 7, cells := 1, slots := 6, locals := 102 }) (Pz D t z sa ws [.ref x]) Qno (Xw D t z xISE ws) 1 6 (Az z) := by
  refine vx_ofW (cc := b_S_add) (maxL := 1) (ret := (some .int)) (by decide) rfl ?_
  intro p e s m args below meth c s₁ B hml hno hv
  obtain ⟨rfl, ⟨hP, hK, hD, hz⟩, hM⟩ := hv
  have hx := B.exec
  have hb := B.bytes
  have hr := B.returns
  have hts : ∀ w ∈ WS, w.before [.ref x].toArray s = true := fun w h => atoms_spec B.pre w (List.mem_cons_of_mem _ h)
  have hown : s.vm.findClass R_S = some m.cls := findClass_of_methodNamed B.named
  have hlocks := B.notSynchronized
  have hA : ∀ q, s.heap.size ≤ q → Az z q := fun q h => Nat.le_trans hz h
  have hS : va_S (Az z) s.heap s.heap [] := va_S.rf
  have hC : Ch ws ws [] := Ch.rf
  have hl := lv_entry ([.ref x]) (n := 1) (Nat.le_of_ble_eq_true rfl)
  rw [lg_entry_eq]
  generalize (lg_sl ([.ref x]) ++ List.replicate (1 - (lg_sl ([.ref x])).length) Slot.unset).toArray = ls at hl ⊢
  have hl : lv_has ls 1 [(0, .ref x)] := hl
  refine lv_aload_n hx hb d_S_add_0 rfl (lv_at hl 0 rfl) ?_
  exact thru (g := F0 m 1 ls []) (vx_runV (As := []) (rest := []) ⟨hx, hb, hml, hown, hts⟩ (c_S_requireOpen_t (D := D) (t := t) (z := z) (sa := sa) (ws := ws)  hl0 e0) (cwV 0 hts (gd_V ml_S_61 im_S_requireOpen se_S_requireOpen in_S cd_S_requireOpen) rfl rfl rfl (by decide +kernel) ⟨Nat.le_of_ble_eq_true rfl, Nat.le_of_ble_eq_true rfl⟩) ⟨Pz_blind, va_recv hK hP (ci := 5) rfl e0, Pz_at hP hK hD hz hM hS⟩ rfl rfl hl.1 rfl (lv_room (Nat.le_of_ble_eq_true rfl)) d_S_add_1 ⟨Nat.le_of_ble_eq_true rfl, Nat.le_of_ble_eq_true rfl⟩) hno (fun _ _ _ h => h) hlocks hS (Nat.le_of_ble_eq_true rfl) (Nat.le_of_ble_eq_true rfl)
set_option maxHeartbeats 4000000 in
set_option maxRecDepth 100000 in
theorem c_S_put_t {l : Launch} {D : va_G} {t : Nat → ClassId} {z : Nat} {sa : Nat → Nat} {ws : va_W} {x xf xj xl xu xr : Nat} {mk ct la : Int32} {a0 a1 a2 : Int32} (hl0 : l.stackTraces = false) (e0 : ws[0]? = some (x, .inr (5, [.ref xf, .ref xj, .ref xl, .ref xu, .ref xr, .int 1, .int 0, .int mk, .int ct, .int la])))  : vx_Met l y_S_put (Cond.code y_S_put b_S_put 6 (some .int) :: WS) ({ frames := 7, cells := 1, slots := 6, locals := 102 }) (Pz D t z sa ws [.ref x, .int a0, .int a1, .int a2]) Qno (Xw D t z xISE ws) 1 6 (Az z) := by
  refine vx_ofW (cc := b_S_put) (maxL := 6) (ret := (some .int)) (by decide) rfl ?_
  intro p e s m args below meth c s₁ B hml hno hv
  obtain ⟨rfl, ⟨hP, hK, hD, hz⟩, hM⟩ := hv
  have hx := B.exec
  have hb := B.bytes
  have hr := B.returns
  have hts : ∀ w ∈ WS, w.before [.ref x, .int a0, .int a1, .int a2].toArray s = true := fun w h => atoms_spec B.pre w (List.mem_cons_of_mem _ h)
  have hown : s.vm.findClass R_S = some m.cls := findClass_of_methodNamed B.named
  have hlocks := B.notSynchronized
  have hA : ∀ q, s.heap.size ≤ q → Az z q := fun q h => Nat.le_trans hz h
  have hS : va_S (Az z) s.heap s.heap [] := va_S.rf
  have hC : Ch ws ws [] := Ch.rf
  have hl := lv_entry ([.ref x, .int a0, .int a1, .int a2]) (n := 6) (Nat.le_of_ble_eq_true rfl)
  rw [lg_entry_eq]
  generalize (lg_sl ([.ref x, .int a0, .int a1, .int a2]) ++ List.replicate (6 - (lg_sl ([.ref x, .int a0, .int a1, .int a2])).length) Slot.unset).toArray = ls at hl ⊢
  have hl : lv_has ls 6 [(0, .ref x), (1, .int a0), (2, .int a1), (3, .int a2)] := hl
  refine lv_aload_n hx hb d_S_put_0 rfl (lv_at hl 0 rfl) ?_
  exact thru (g := F0 m 1 ls []) (vx_runV (As := []) (rest := []) ⟨hx, hb, hml, hown, hts⟩ (c_S_requireOpen_t (D := D) (t := t) (z := z) (sa := sa) (ws := ws)  hl0 e0) (cwV 0 hts (gd_V ml_S_61 im_S_requireOpen se_S_requireOpen in_S cd_S_requireOpen) rfl rfl rfl (by decide +kernel) ⟨Nat.le_of_ble_eq_true rfl, Nat.le_of_ble_eq_true rfl⟩) ⟨Pz_blind, va_recv hK hP (ci := 5) rfl e0, Pz_at hP hK hD hz hM hS⟩ rfl rfl hl.1 rfl (lv_room (Nat.le_of_ble_eq_true rfl)) d_S_put_1 ⟨Nat.le_of_ble_eq_true rfl, Nat.le_of_ble_eq_true rfl⟩) hno (fun _ _ _ h => h) hlocks hS (Nat.le_of_ble_eq_true rfl) (Nat.le_of_ble_eq_true rfl)
set_option maxHeartbeats 4000000 in
set_option maxRecDepth 100000 in
theorem c_S_move_t {l : Launch} {D : va_G} {t : Nat → ClassId} {z : Nat} {sa : Nat → Nat} {ws : va_W} {x xf xj xl xu xr : Nat} {mk ct la : Int32} {a0 a1 a2 a3 a4 : Int32} (hl0 : l.stackTraces = false) (e0 : ws[0]? = some (x, .inr (5, [.ref xf, .ref xj, .ref xl, .ref xu, .ref xr, .int 1, .int 0, .int mk, .int ct, .int la])))  : vx_Met l y_S_move (Cond.code y_S_move b_S_move 7 (.none : Option Jvm.ClassFile.FieldType) :: WS) ({ frames := 7, cells := 1, slots := 6, locals := 102 }) (Pz D t z sa ws [.ref x, .int a0, .int a1, .int a2, .int a3, .int a4]) Qno (Xw D t z xISE ws) 1 6 (Az z) := by
  refine vx_ofW (cc := b_S_move) (maxL := 7) (ret := (.none : Option Jvm.ClassFile.FieldType)) (by decide) rfl ?_
  intro p e s m args below meth c s₁ B hml hno hv
  obtain ⟨rfl, ⟨hP, hK, hD, hz⟩, hM⟩ := hv
  have hx := B.exec
  have hb := B.bytes
  have hr := B.returns
  have hts : ∀ w ∈ WS, w.before [.ref x, .int a0, .int a1, .int a2, .int a3, .int a4].toArray s = true := fun w h => atoms_spec B.pre w (List.mem_cons_of_mem _ h)
  have hown : s.vm.findClass R_S = some m.cls := findClass_of_methodNamed B.named
  have hlocks := B.notSynchronized
  have hA : ∀ q, s.heap.size ≤ q → Az z q := fun q h => Nat.le_trans hz h
  have hS : va_S (Az z) s.heap s.heap [] := va_S.rf
  have hC : Ch ws ws [] := Ch.rf
  have hl := lv_entry ([.ref x, .int a0, .int a1, .int a2, .int a3, .int a4]) (n := 7) (Nat.le_of_ble_eq_true rfl)
  rw [lg_entry_eq]
  generalize (lg_sl ([.ref x, .int a0, .int a1, .int a2, .int a3, .int a4]) ++ List.replicate (7 - (lg_sl ([.ref x, .int a0, .int a1, .int a2, .int a3, .int a4])).length) Slot.unset).toArray = ls at hl ⊢
  have hl : lv_has ls 7 [(0, .ref x), (1, .int a0), (2, .int a1), (3, .int a2), (4, .int a3), (5, .int a4)] := hl
  refine lv_aload_n hx hb d_S_move_0 rfl (lv_at hl 0 rfl) ?_
  exact thru (g := F0 m 1 ls []) (vx_runV (As := []) (rest := []) ⟨hx, hb, hml, hown, hts⟩ (c_S_requireOpen_t (D := D) (t := t) (z := z) (sa := sa) (ws := ws)  hl0 e0) (cwV 0 hts (gd_V ml_S_61 im_S_requireOpen se_S_requireOpen in_S cd_S_requireOpen) rfl rfl rfl (by decide +kernel) ⟨Nat.le_of_ble_eq_true rfl, Nat.le_of_ble_eq_true rfl⟩) ⟨Pz_blind, va_recv hK hP (ci := 5) rfl e0, Pz_at hP hK hD hz hM hS⟩ rfl rfl hl.1 rfl (lv_room (Nat.le_of_ble_eq_true rfl)) d_S_move_1 ⟨Nat.le_of_ble_eq_true rfl, Nat.le_of_ble_eq_true rfl⟩) hno (fun _ _ _ h => h) hlocks hS (Nat.le_of_ble_eq_true rfl) (Nat.le_of_ble_eq_true rfl)
set_option maxHeartbeats 4000000 in
set_option maxRecDepth 100000 in
theorem c_S_commit_t {l : Launch} {D : va_G} {t : Nat → ClassId} {z : Nat} {sa : Nat → Nat} {ws : va_W} {x xf xj xl xu xr : Nat} {mk ct la : Int32} (hl0 : l.stackTraces = false) (e0 : ws[0]? = some (x, .inr (5, [.ref xf, .ref xj, .ref xl, .ref xu, .ref xr, .int 1, .int 0, .int mk, .int ct, .int la])))  : vx_Met l y_S_commit (Cond.code y_S_commit b_S_commit 2 (.none : Option Jvm.ClassFile.FieldType) :: WS) ({ frames := 7, cells := 1, slots := 6, locals := 102 }) (Pz D t z sa ws [.ref x]) Qno (Xw D t z xISE ws) 1 6 (Az z) := by
  refine vx_ofW (cc := b_S_commit) (maxL := 2) (ret := (.none : Option Jvm.ClassFile.FieldType)) (by decide) rfl ?_
  intro p e s m args below meth c s₁ B hml hno hv
  obtain ⟨rfl, ⟨hP, hK, hD, hz⟩, hM⟩ := hv
  have hx := B.exec
  have hb := B.bytes
  have hr := B.returns
  have hts : ∀ w ∈ WS, w.before [.ref x].toArray s = true := fun w h => atoms_spec B.pre w (List.mem_cons_of_mem _ h)
  have hown : s.vm.findClass R_S = some m.cls := findClass_of_methodNamed B.named
  have hlocks := B.notSynchronized
  have hA : ∀ q, s.heap.size ≤ q → Az z q := fun q h => Nat.le_trans hz h
  have hS : va_S (Az z) s.heap s.heap [] := va_S.rf
  have hC : Ch ws ws [] := Ch.rf
  have hl := lv_entry ([.ref x]) (n := 2) (Nat.le_of_ble_eq_true rfl)
  rw [lg_entry_eq]
  generalize (lg_sl ([.ref x]) ++ List.replicate (2 - (lg_sl ([.ref x])).length) Slot.unset).toArray = ls at hl ⊢
  have hl : lv_has ls 2 [(0, .ref x)] := hl
  refine lv_aload_n hx hb d_S_commit_0 rfl (lv_at hl 0 rfl) ?_
  exact thru (g := F0 m 1 ls []) (vx_runV (As := []) (rest := []) ⟨hx, hb, hml, hown, hts⟩ (c_S_requireOpen_t (D := D) (t := t) (z := z) (sa := sa) (ws := ws)  hl0 e0) (cwV 0 hts (gd_V ml_S_61 im_S_requireOpen se_S_requireOpen in_S cd_S_requireOpen) rfl rfl rfl (by decide +kernel) ⟨Nat.le_of_ble_eq_true rfl, Nat.le_of_ble_eq_true rfl⟩) ⟨Pz_blind, va_recv hK hP (ci := 5) rfl e0, Pz_at hP hK hD hz hM hS⟩ rfl rfl hl.1 rfl (lv_room (Nat.le_of_ble_eq_true rfl)) d_S_commit_1 ⟨Nat.le_of_ble_eq_true rfl, Nat.le_of_ble_eq_true rfl⟩) hno (fun _ _ _ h => h) hlocks hS (Nat.le_of_ble_eq_true rfl) (Nat.le_of_ble_eq_true rfl)
set_option maxHeartbeats 4000000 in
set_option maxRecDepth 100000 in
theorem c_S_rollback_t {l : Launch} {D : va_G} {t : Nat → ClassId} {z : Nat} {sa : Nat → Nat} {ws : va_W} {x xf xj xl xu xr : Nat} {mk ct la : Int32} (hl0 : l.stackTraces = false) (e0 : ws[0]? = some (x, .inr (5, [.ref xf, .ref xj, .ref xl, .ref xu, .ref xr, .int 1, .int 0, .int mk, .int ct, .int la])))  : vx_Met l y_S_rollback (Cond.code y_S_rollback b_S_rollback 1 (.none : Option Jvm.ClassFile.FieldType) :: WS) ({ frames := 7, cells := 1, slots := 6, locals := 102 }) (Pz D t z sa ws [.ref x]) Qno (Xw D t z xISE ws) 1 6 (Az z) := by
  refine vx_ofW (cc := b_S_rollback) (maxL := 1) (ret := (.none : Option Jvm.ClassFile.FieldType)) (by decide) rfl ?_
  intro p e s m args below meth c s₁ B hml hno hv
  obtain ⟨rfl, ⟨hP, hK, hD, hz⟩, hM⟩ := hv
  have hx := B.exec
  have hb := B.bytes
  have hr := B.returns
  have hts : ∀ w ∈ WS, w.before [.ref x].toArray s = true := fun w h => atoms_spec B.pre w (List.mem_cons_of_mem _ h)
  have hown : s.vm.findClass R_S = some m.cls := findClass_of_methodNamed B.named
  have hlocks := B.notSynchronized
  have hA : ∀ q, s.heap.size ≤ q → Az z q := fun q h => Nat.le_trans hz h
  have hS : va_S (Az z) s.heap s.heap [] := va_S.rf
  have hC : Ch ws ws [] := Ch.rf
  have hl := lv_entry ([.ref x]) (n := 1) (Nat.le_of_ble_eq_true rfl)
  rw [lg_entry_eq]
  generalize (lg_sl ([.ref x]) ++ List.replicate (1 - (lg_sl ([.ref x])).length) Slot.unset).toArray = ls at hl ⊢
  have hl : lv_has ls 1 [(0, .ref x)] := hl
  refine lv_aload_n hx hb d_S_rollback_0 rfl (lv_at hl 0 rfl) ?_
  exact thru (g := F0 m 1 ls []) (vx_runV (As := []) (rest := []) ⟨hx, hb, hml, hown, hts⟩ (c_S_requireOpen_t (D := D) (t := t) (z := z) (sa := sa) (ws := ws)  hl0 e0) (cwV 0 hts (gd_V ml_S_61 im_S_requireOpen se_S_requireOpen in_S cd_S_requireOpen) rfl rfl rfl (by decide +kernel) ⟨Nat.le_of_ble_eq_true rfl, Nat.le_of_ble_eq_true rfl⟩) ⟨Pz_blind, va_recv hK hP (ci := 5) rfl e0, Pz_at hP hK hD hz hM hS⟩ rfl rfl hl.1 rfl (lv_room (Nat.le_of_ble_eq_true rfl)) d_S_rollback_1 ⟨Nat.le_of_ble_eq_true rfl, Nat.le_of_ble_eq_true rfl⟩) hno (fun _ _ _ h => h) hlocks hS (Nat.le_of_ble_eq_true rfl) (Nat.le_of_ble_eq_true rfl)
set_option maxHeartbeats 4000000 in
set_option maxRecDepth 100000 in
theorem c_S_mark_t {l : Launch} {D : va_G} {t : Nat → ClassId} {z : Nat} {sa : Nat → Nat} {ws : va_W} {x xf xj xl xu xr : Nat} {mk ct la : Int32} (hl0 : l.stackTraces = false) (e0 : ws[0]? = some (x, .inr (5, [.ref xf, .ref xj, .ref xl, .ref xu, .ref xr, .int 1, .int 0, .int mk, .int ct, .int la])))  : vx_Met l y_S_mark (Cond.code y_S_mark b_S_mark 1 (some .int) :: WS) ({ frames := 7, cells := 1, slots := 6, locals := 102 }) (Pz D t z sa ws [.ref x]) Qno (Xw D t z xISE ws) 1 6 (Az z) := by
  refine vx_ofW (cc := b_S_mark) (maxL := 1) (ret := (some .int)) (by decide) rfl ?_
  intro p e s m args below meth c s₁ B hml hno hv
  obtain ⟨rfl, ⟨hP, hK, hD, hz⟩, hM⟩ := hv
  have hx := B.exec
  have hb := B.bytes
  have hr := B.returns
  have hts : ∀ w ∈ WS, w.before [.ref x].toArray s = true := fun w h => atoms_spec B.pre w (List.mem_cons_of_mem _ h)
  have hown : s.vm.findClass R_S = some m.cls := findClass_of_methodNamed B.named
  have hlocks := B.notSynchronized
  have hA : ∀ q, s.heap.size ≤ q → Az z q := fun q h => Nat.le_trans hz h
  have hS : va_S (Az z) s.heap s.heap [] := va_S.rf
  have hC : Ch ws ws [] := Ch.rf
  have hl := lv_entry ([.ref x]) (n := 1) (Nat.le_of_ble_eq_true rfl)
  rw [lg_entry_eq]
  generalize (lg_sl ([.ref x]) ++ List.replicate (1 - (lg_sl ([.ref x])).length) Slot.unset).toArray = ls at hl ⊢
  have hl : lv_has ls 1 [(0, .ref x)] := hl
  refine lv_aload_n hx hb d_S_mark_0 rfl (lv_at hl 0 rfl) ?_
  exact thru (g := F0 m 1 ls []) (vx_runV (As := []) (rest := []) ⟨hx, hb, hml, hown, hts⟩ (c_S_requireOpen_t (D := D) (t := t) (z := z) (sa := sa) (ws := ws)  hl0 e0) (cwV 0 hts (gd_V ml_S_61 im_S_requireOpen se_S_requireOpen in_S cd_S_requireOpen) rfl rfl rfl (by decide +kernel) ⟨Nat.le_of_ble_eq_true rfl, Nat.le_of_ble_eq_true rfl⟩) ⟨Pz_blind, va_recv hK hP (ci := 5) rfl e0, Pz_at hP hK hD hz hM hS⟩ rfl rfl hl.1 rfl (lv_room (Nat.le_of_ble_eq_true rfl)) d_S_mark_1 ⟨Nat.le_of_ble_eq_true rfl, Nat.le_of_ble_eq_true rfl⟩) hno (fun _ _ _ h => h) hlocks hS (Nat.le_of_ble_eq_true rfl) (Nat.le_of_ble_eq_true rfl)
set_option maxHeartbeats 4000000 in
set_option maxRecDepth 100000 in
theorem c_S_back_t {l : Launch} {D : va_G} {t : Nat → ClassId} {z : Nat} {sa : Nat → Nat} {ws : va_W} {x xf xj xl xu xr : Nat} {mk ct la : Int32} {a0 : Int32} (hl0 : l.stackTraces = false) (e0 : ws[0]? = some (x, .inr (5, [.ref xf, .ref xj, .ref xl, .ref xu, .ref xr, .int 1, .int 0, .int mk, .int ct, .int la])))  : vx_Met l y_S_back (Cond.code y_S_back b_S_back 2 (.none : Option Jvm.ClassFile.FieldType) :: WS) ({ frames := 7, cells := 1, slots := 6, locals := 102 }) (Pz D t z sa ws [.ref x, .int a0]) Qno (Xw D t z xISE ws) 1 6 (Az z) := by
  refine vx_ofW (cc := b_S_back) (maxL := 2) (ret := (.none : Option Jvm.ClassFile.FieldType)) (by decide) rfl ?_
  intro p e s m args below meth c s₁ B hml hno hv
  obtain ⟨rfl, ⟨hP, hK, hD, hz⟩, hM⟩ := hv
  have hx := B.exec
  have hb := B.bytes
  have hr := B.returns
  have hts : ∀ w ∈ WS, w.before [.ref x, .int a0].toArray s = true := fun w h => atoms_spec B.pre w (List.mem_cons_of_mem _ h)
  have hown : s.vm.findClass R_S = some m.cls := findClass_of_methodNamed B.named
  have hlocks := B.notSynchronized
  have hA : ∀ q, s.heap.size ≤ q → Az z q := fun q h => Nat.le_trans hz h
  have hS : va_S (Az z) s.heap s.heap [] := va_S.rf
  have hC : Ch ws ws [] := Ch.rf
  have hl := lv_entry ([.ref x, .int a0]) (n := 2) (Nat.le_of_ble_eq_true rfl)
  rw [lg_entry_eq]
  generalize (lg_sl ([.ref x, .int a0]) ++ List.replicate (2 - (lg_sl ([.ref x, .int a0])).length) Slot.unset).toArray = ls at hl ⊢
  have hl : lv_has ls 2 [(0, .ref x), (1, .int a0)] := hl
  refine lv_aload_n hx hb d_S_back_0 rfl (lv_at hl 0 rfl) ?_
  exact thru (g := F0 m 1 ls []) (vx_runV (As := []) (rest := []) ⟨hx, hb, hml, hown, hts⟩ (c_S_requireOpen_t (D := D) (t := t) (z := z) (sa := sa) (ws := ws)  hl0 e0) (cwV 0 hts (gd_V ml_S_61 im_S_requireOpen se_S_requireOpen in_S cd_S_requireOpen) rfl rfl rfl (by decide +kernel) ⟨Nat.le_of_ble_eq_true rfl, Nat.le_of_ble_eq_true rfl⟩) ⟨Pz_blind, va_recv hK hP (ci := 5) rfl e0, Pz_at hP hK hD hz hM hS⟩ rfl rfl hl.1 rfl (lv_room (Nat.le_of_ble_eq_true rfl)) d_S_back_1 ⟨Nat.le_of_ble_eq_true rfl, Nat.le_of_ble_eq_true rfl⟩) hno (fun _ _ _ h => h) hlocks hS (Nat.le_of_ble_eq_true rfl) (Nat.le_of_ble_eq_true rfl)
set_option maxHeartbeats 4000000 in
set_option maxRecDepth 100000 in
theorem c_S_keep_t {l : Launch} {D : va_G} {t : Nat → ClassId} {z : Nat} {sa : Nat → Nat} {ws : va_W} {x xf xj xl xu xr : Nat} {mk ct la : Int32} {a0 : Int32} (hl0 : l.stackTraces = false) (e0 : ws[0]? = some (x, .inr (5, [.ref xf, .ref xj, .ref xl, .ref xu, .ref xr, .int 1, .int 0, .int mk, .int ct, .int la])))  : vx_Met l y_S_keep (Cond.code y_S_keep b_S_keep 2 (.none : Option Jvm.ClassFile.FieldType) :: WS) ({ frames := 7, cells := 1, slots := 6, locals := 102 }) (Pz D t z sa ws [.ref x, .int a0]) Qno (Xw D t z xISE ws) 1 6 (Az z) := by
  refine vx_ofW (cc := b_S_keep) (maxL := 2) (ret := (.none : Option Jvm.ClassFile.FieldType)) (by decide) rfl ?_
  intro p e s m args below meth c s₁ B hml hno hv
  obtain ⟨rfl, ⟨hP, hK, hD, hz⟩, hM⟩ := hv
  have hx := B.exec
  have hb := B.bytes
  have hr := B.returns
  have hts : ∀ w ∈ WS, w.before [.ref x, .int a0].toArray s = true := fun w h => atoms_spec B.pre w (List.mem_cons_of_mem _ h)
  have hown : s.vm.findClass R_S = some m.cls := findClass_of_methodNamed B.named
  have hlocks := B.notSynchronized
  have hA : ∀ q, s.heap.size ≤ q → Az z q := fun q h => Nat.le_trans hz h
  have hS : va_S (Az z) s.heap s.heap [] := va_S.rf
  have hC : Ch ws ws [] := Ch.rf
  have hl := lv_entry ([.ref x, .int a0]) (n := 2) (Nat.le_of_ble_eq_true rfl)
  rw [lg_entry_eq]
  generalize (lg_sl ([.ref x, .int a0]) ++ List.replicate (2 - (lg_sl ([.ref x, .int a0])).length) Slot.unset).toArray = ls at hl ⊢
  have hl : lv_has ls 2 [(0, .ref x), (1, .int a0)] := hl
  refine lv_aload_n hx hb d_S_keep_0 rfl (lv_at hl 0 rfl) ?_
  exact thru (g := F0 m 1 ls []) (vx_runV (As := []) (rest := []) ⟨hx, hb, hml, hown, hts⟩ (c_S_requireOpen_t (D := D) (t := t) (z := z) (sa := sa) (ws := ws)  hl0 e0) (cwV 0 hts (gd_V ml_S_61 im_S_requireOpen se_S_requireOpen in_S cd_S_requireOpen) rfl rfl rfl (by decide +kernel) ⟨Nat.le_of_ble_eq_true rfl, Nat.le_of_ble_eq_true rfl⟩) ⟨Pz_blind, va_recv hK hP (ci := 5) rfl e0, Pz_at hP hK hD hz hM hS⟩ rfl rfl hl.1 rfl (lv_room (Nat.le_of_ble_eq_true rfl)) d_S_keep_1 ⟨Nat.le_of_ble_eq_true rfl, Nat.le_of_ble_eq_true rfl⟩) hno (fun _ _ _ h => h) hlocks hS (Nat.le_of_ble_eq_true rfl) (Nat.le_of_ble_eq_true rfl)
set_option maxHeartbeats 4000000 in
set_option maxRecDepth 100000 in
theorem c_S_get_t {l : Launch} {D : va_G} {t : Nat → ClassId} {z : Nat} {sa : Nat → Nat} {ws : va_W} {x xf xj xl xu xr : Nat} {op mk la a0 a1 : Int32} (hl0 : l.stackTraces = false) (e0 : ws[0]? = some (x, .inr (5, [.ref xf, .ref xj, .ref xl, .ref xu, .ref xr, .int 1, .int op, .int mk, .int 0, .int la])))  : vx_Met l y_S_get (Cond.code y_S_get b_S_get 3 (some .int) :: WS) ({ frames := 8, cells := 1, slots := 6, locals := 125 }) (Pz D t z sa ws [.ref x, .int a0, .int a1]) Qno (Xw D t z xIOB ws) 1 6 (Az z) := by
  refine vx_ofW (cc := b_S_get) (maxL := 3) (ret := (some .int)) (by decide) rfl ?_
  intro p e s m args below meth c s₁ B hml hno hv
  obtain ⟨rfl, ⟨hP, hK, hD, hz⟩, hM⟩ := hv
  have hx := B.exec
  have hb := B.bytes
  have hr := B.returns
  have hts : ∀ w ∈ WS, w.before [.ref x, .int a0, .int a1].toArray s = true := fun w h => atoms_spec B.pre w (List.mem_cons_of_mem _ h)
  have hown : s.vm.findClass R_S = some m.cls := findClass_of_methodNamed B.named
  have hlocks := B.notSynchronized
  have hA : ∀ q, s.heap.size ≤ q → Az z q := fun q h => Nat.le_trans hz h
  have hS : va_S (Az z) s.heap s.heap [] := va_S.rf
  have hC : Ch ws ws [] := Ch.rf
  have hl := lv_entry ([.ref x, .int a0, .int a1]) (n := 3) (Nat.le_of_ble_eq_true rfl)
  rw [lg_entry_eq]
  generalize (lg_sl ([.ref x, .int a0, .int a1]) ++ List.replicate (3 - (lg_sl ([.ref x, .int a0, .int a1])).length) Slot.unset).toArray = ls at hl ⊢
  have hl : lv_has ls 3 [(0, .ref x), (1, .int a0), (2, .int a1)] := hl
  refine lv_aload_n hx hb d_S_get_0 rfl (lv_at hl 0 rfl) ?_
  refine va_callv (va_runV (As := []) (rest := []) ⟨hx, hb, hml, hown, hts⟩ (c_S_requireOn (D := D) (t := t) (z := z) (sa := sa) (ws := ws)  e0) (cwV 0 hts (gd_V ml_S_58 im_S_requireOn se_S_requireOn in_S cd_S_requireOn) rfl rfl rfl (by decide +kernel) ⟨Nat.le_of_ble_eq_true rfl, Nat.le_of_ble_eq_true rfl⟩) ⟨Pz_blind, va_recv hK hP (ci := 5) rfl e0, Pz_at hP hK hD hz hM hS⟩ rfl rfl hl.1 rfl (lv_room (Nat.le_of_ble_eq_true rfl)) d_S_get_1 ⟨Nat.le_of_ble_eq_true rfl, Nat.le_of_ble_eq_true rfl⟩) hS (fun q _ h => h) (fun q h => h) (fun w1 t9 H locs ht hvm hp hB hz1 hk1 hS => ?_)
  obtain ⟨hP, hK9, hD, -⟩ := hB
  rw [ht] at hP
  clear hK9
  have hw9 := hp
  rw [hw9] at hP hD
  clear hw9
  refine lv_aload_n hx hb d_S_get_4 rfl (lv_at hl 0 rfl) ?_
  refine lv_iload_n hx hb d_S_get_5 rfl (lv_at hl 1 rfl) ?_
  refine lv_iload_n hx hb d_S_get_6 rfl (lv_at hl 2 rfl) ?_
  exact thru (g := F0 m 7 ls []) (vx_runV (As := [.int a0, .int a1]) (rest := []) ⟨hx, hb, hml, hown, hts⟩ (c_S_requireByte_t (D := D) (t := t) (z := z) (sa := sa) (ws := ws) (pp := a0) (at9 := a1) hl0 e0) (cwV 2 hts (gd_V ml_S_81 im_S_requireByte se_S_requireByte in_S cd_S_requireByte) rfl rfl rfl (by decide +kernel) ⟨Nat.le_of_ble_eq_true rfl, Nat.le_of_ble_eq_true rfl⟩) ⟨Pz_blind, va_recv hK hP (ci := 5) rfl e0, Pz_at hP hK hD hz hM hS⟩ rfl rfl hl.1 rfl (lv_room (Nat.le_of_ble_eq_true rfl)) d_S_get_7 ⟨Nat.le_of_ble_eq_true rfl, Nat.le_of_ble_eq_true rfl⟩) hno (fun _ _ _ h => h) hlocks hS (Nat.le_of_ble_eq_true rfl) (Nat.le_of_ble_eq_true rfl)
set_option maxHeartbeats 4000000 in
set_option maxRecDepth 100000 in
theorem c_S_sum_t {l : Launch} {D : va_G} {t : Nat → ClassId} {z : Nat} {sa : Nat → Nat} {ws : va_W} {x xf xj xl xu xr : Nat} {op mk la a0 : Int32} (hl0 : l.stackTraces = false) (e0 : ws[0]? = some (x, .inr (5, [.ref xf, .ref xj, .ref xl, .ref xu, .ref xr, .int 1, .int op, .int mk, .int 0, .int la])))  : vx_Met l y_S_sum (Cond.code y_S_sum b_S_sum 6 (some .long) :: WS) ({ frames := 7, cells := 1, slots := 6, locals := 103 }) (Pz D t z sa ws [.ref x, .int a0]) Qno (Xw D t z xIOB ws) 1 6 (Az z) := by
  refine vx_ofW (cc := b_S_sum) (maxL := 6) (ret := (some .long)) (by decide) rfl ?_
  intro p e s m args below meth c s₁ B hml hno hv
  obtain ⟨rfl, ⟨hP, hK, hD, hz⟩, hM⟩ := hv
  have hx := B.exec
  have hb := B.bytes
  have hr := B.returns
  have hts : ∀ w ∈ WS, w.before [.ref x, .int a0].toArray s = true := fun w h => atoms_spec B.pre w (List.mem_cons_of_mem _ h)
  have hown : s.vm.findClass R_S = some m.cls := findClass_of_methodNamed B.named
  have hlocks := B.notSynchronized
  have hA : ∀ q, s.heap.size ≤ q → Az z q := fun q h => Nat.le_trans hz h
  have hS : va_S (Az z) s.heap s.heap [] := va_S.rf
  have hC : Ch ws ws [] := Ch.rf
  have hl := lv_entry ([.ref x, .int a0]) (n := 6) (Nat.le_of_ble_eq_true rfl)
  rw [lg_entry_eq]
  generalize (lg_sl ([.ref x, .int a0]) ++ List.replicate (6 - (lg_sl ([.ref x, .int a0])).length) Slot.unset).toArray = ls at hl ⊢
  have hl : lv_has ls 6 [(0, .ref x), (1, .int a0)] := hl
  refine lv_aload_n hx hb d_S_sum_0 rfl (lv_at hl 0 rfl) ?_
  refine va_callv (va_runV (As := []) (rest := []) ⟨hx, hb, hml, hown, hts⟩ (c_S_requireOn (D := D) (t := t) (z := z) (sa := sa) (ws := ws)  e0) (cwV 0 hts (gd_V ml_S_58 im_S_requireOn se_S_requireOn in_S cd_S_requireOn) rfl rfl rfl (by decide +kernel) ⟨Nat.le_of_ble_eq_true rfl, Nat.le_of_ble_eq_true rfl⟩) ⟨Pz_blind, va_recv hK hP (ci := 5) rfl e0, Pz_at hP hK hD hz hM hS⟩ rfl rfl hl.1 rfl (lv_room (Nat.le_of_ble_eq_true rfl)) d_S_sum_1 ⟨Nat.le_of_ble_eq_true rfl, Nat.le_of_ble_eq_true rfl⟩) hS (fun q _ h => h) (fun q h => h) (fun w1 t9 H locs ht hvm hp hB hz1 hk1 hS => ?_)
  obtain ⟨hP, hK9, hD, -⟩ := hB
  rw [ht] at hP
  clear hK9
  have hw9 := hp
  rw [hw9] at hP hD
  clear hw9
  refine lv_aload_n hx hb d_S_sum_4 rfl (lv_at hl 0 rfl) ?_
  refine lv_iload_n hx hb d_S_sum_5 rfl (lv_at hl 1 rfl) ?_
  exact thru (g := F0 m 6 ls []) (vx_runV (As := [.int a0]) (rest := []) ⟨hx, hb, hml, hown, hts⟩ (c_S_requirePage_t (D := D) (t := t) (z := z) (sa := sa) (ws := ws) (pp := a0) hl0 e0) (cwV 1 hts (gd_V ml_S_91 im_S_requirePage se_S_requirePage in_S cd_S_requirePage) rfl rfl rfl (by decide +kernel) ⟨Nat.le_of_ble_eq_true rfl, Nat.le_of_ble_eq_true rfl⟩) ⟨Pz_blind, va_recv hK hP (ci := 5) rfl e0, Pz_at hP hK hD hz hM hS⟩ rfl rfl hl.1 rfl (lv_room (Nat.le_of_ble_eq_true rfl)) d_S_sum_6 ⟨Nat.le_of_ble_eq_true rfl, Nat.le_of_ble_eq_true rfl⟩) hno (fun _ _ _ h => h) hlocks hS (Nat.le_of_ble_eq_true rfl) (Nat.le_of_ble_eq_true rfl)
set_option maxHeartbeats 4000000 in
set_option maxRecDepth 100000 in
theorem c_S_begin {l : Launch} {D : va_G} {t : Nat → ClassId} {z : Nat} {sa : Nat → Nat} {ws : va_W} {x xf xj xl xu xr : Nat} {mk ct la : Int32} (e0 : ws[0]? = some (x, .inr (5, [.ref xf, .ref xj, .ref xl, .ref xu, .ref xr, .int 1, .int 0, .int mk, .int ct, .int la])))  : Met l y_S_begin (Cond.code y_S_begin b_S_begin 1 (.none : Option Jvm.ClassFile.FieldType) :: WS) ({ frames := 1, cells := 0, slots := 0, locals := 20 }) (Pz D t z sa ws [.ref x]) (va_Qv (fun u : va_W => Ch ws u [0] ∧ u[0]? = some (x, .inr (5, [.ref xf, .ref xj, .ref xl, .ref xu, .ref xr, .int 1, .int 1, .int mk, .int ct, .int la]))) (fun u U => Wd D t z u U) (Az z)) 0 0 (Az z) := by
  refine Met.ofW (cc := b_S_begin) (maxL := 1) (ret := (.none : Option Jvm.ClassFile.FieldType)) (by decide) rfl ?_
  intro p e s m args below meth c s₁ B hml hv
  obtain ⟨rfl, ⟨hP, hK, hD, hz⟩, hM⟩ := hv
  have hx := B.exec
  have hb := B.bytes
  have hr := B.returns
  have hts : ∀ w ∈ WS, w.before [.ref x].toArray s = true := fun w h => atoms_spec B.pre w (List.mem_cons_of_mem _ h)
  have hown : s.vm.findClass R_S = some m.cls := findClass_of_methodNamed B.named
  have hlocks := B.notSynchronized
  have hA : ∀ q, s.heap.size ≤ q → Az z q := fun q h => Nat.le_trans hz h
  have hS : va_S (Az z) s.heap s.heap [] := va_S.rf
  have hC : Ch ws ws [] := Ch.rf
  have hl := lv_entry ([.ref x]) (n := 1) (Nat.le_of_ble_eq_true rfl)
  rw [lg_entry_eq]
  generalize (lg_sl ([.ref x]) ++ List.replicate (1 - (lg_sl ([.ref x])).length) Slot.unset).toArray = ls at hl ⊢
  have hl : lv_has ls 1 [(0, .ref x)] := hl
  refine lv_aload_n hx hb d_S_begin_0 rfl (lv_at hl 0 rfl) ?_
  refine va_callv (va_runV (As := []) (rest := []) ⟨hx, hb, hml, hown, hts⟩ (c_S_requireOn (D := D) (t := t) (z := z) (sa := sa) (ws := ws)  e0) (cwV 0 hts (gd_V ml_S_58 im_S_requireOn se_S_requireOn in_S cd_S_requireOn) rfl rfl rfl (by decide +kernel) ⟨Nat.le_of_ble_eq_true rfl, Nat.le_of_ble_eq_true rfl⟩) ⟨Pz_blind, va_recv hK hP (ci := 5) rfl e0, Pz_at hP hK hD hz hM hS⟩ rfl rfl hl.1 rfl (lv_room (Nat.le_of_ble_eq_true rfl)) d_S_begin_1 ⟨Nat.le_of_ble_eq_true rfl, Nat.le_of_ble_eq_true rfl⟩) hS (fun q _ h => h) (fun q h => h) (fun w1 t9 H locs ht hvm hp hB hz1 hk1 hS => ?_)
  obtain ⟨hP, hK9, hD, -⟩ := hB
  rw [ht] at hP
  clear hK9
  have hw9 := hp
  rw [hw9] at hP hD
  clear hw9
  refine lv_aload_n hx hb d_S_begin_4 rfl (lv_at hl 0 rfl) ?_
  refine va_get (D := D) (ci := 5) (v := .int 0) (C := R_S) (T := F_S) (N := 10) hx hb hts ws_S hown hK hP 0 e0 rfl 6 (by decide) (hts _ fl_S_44) (fun _ h9 => h9) rfl d_S_begin_5 ?_
  refine lv_if_eq (tgt := 21) hx hb d_S_begin_8 rfl (fun _ => ?_) (fun h => absurd h (by decide))
  refine lv_aload_n hx hb d_S_begin_21 rfl (lv_at hl 0 rfl) ?_
  refine lv_iconst (v := 1) hx hb d_S_begin_22 (by decide) ?_
  refine va_put (D := D) (ci := 5) (v := .int 1) (ty := .boolean) (C := R_S) (T := F_S) (N := 10) hx hb hts ws_S t_S ok_S n_S hown hK hP hD hS 0 e0 rfl 6 (by decide) (hts _ fl_S_44) (fun _ h9 => h9) rfl (by decide +kernel) rfl rfl (Nat.le_of_ble_eq_true rfl) d_S_begin_23 (fun H locs hP hD hS => ?_)
  obtain ⟨w3, hw⟩ : ∃ q, q = ws.set 0 (x, .inr (5, [.ref xf, .ref xj, .ref xl, .ref xu, .ref xr, .int 1, .int 1, .int mk, .int ct, .int la])) := ⟨_, rfl⟩
  have hP : va_P D Cl (ws.set 0 (x, .inr (5, [.ref xf, .ref xj, .ref xl, .ref xu, .ref xr, .int 1, .int 1, .int mk, .int ct, .int la]))) H := hP
  have hD : va_D (Az z) (ws.set 0 (x, .inr (5, [.ref xf, .ref xj, .ref xl, .ref xu, .ref xr, .int 1, .int 1, .int mk, .int ct, .int la]))) := hD
  rw [← hw] at hP hD
  have hC := hC.put (p := 0) (c := (x, .inr (5, [.ref xf, .ref xj, .ref xl, .ref xu, .ref xr, .int 1, .int 1, .int mk, .int ct, .int la])))
  rw [← hw] at hC
  have e0 : w3[0]? = some (x, .inr (5, [.ref xf, .ref xj, .ref xl, .ref xu, .ref xr, .int 1, .int 1, .int mk, .int ct, .int la])) := by rw [hw]; exact lk_set e0
  clear hw
  exact W.vret hx hb hr (fun t9 ht hW => ⟨⟨w3, rfl, ⟨hC.sub (by decide), e0⟩, ⟨by rw [ht]; exact hP, va_K.moved hW.alike hK, hD, by rw [ht]; exact Nat.le_trans hz hS.1⟩⟩, hS.F ht⟩) hS.2.2 d_S_begin_26
set_option maxHeartbeats 4000000 in
set_option maxRecDepth 100000 in
theorem c_U_set {l : Launch} {D : va_G} {t : Nat → ClassId} {z : Nat} {sa : Nat → Nat} {ws : va_W} {fu : Nat} {u0 u1 u2 u3 a0 a1 a2 : Int32} (e8 : ws[8]? = some (fu, .inr (2, [.int u0, .int u1, .int u2, .int u3])))  : Met l y_U_set (Cond.code y_U_set b_U_set 4 (.none : Option Jvm.ClassFile.FieldType) :: WS) ({ frames := 0, cells := 0, slots := 0, locals := 0 }) (Pz D t z sa ws [.ref fu, .int a0, .int a1, .int a2]) (va_Qv (fun u : va_W => Ch ws u [8] ∧ u[8]? = some (fu, .inr (2, [.int a0, .int a1, .int a2, .int 0]))) (fun u U => Wd D t z u U) (Az z)) 0 0 (Az z) := by
  refine Met.ofW (cc := b_U_set) (maxL := 4) (ret := (.none : Option Jvm.ClassFile.FieldType)) (by decide) rfl ?_
  intro p e s m args below meth c s₁ B hml hv
  obtain ⟨rfl, ⟨hP, hK, hD, hz⟩, hM⟩ := hv
  have hx := B.exec
  have hb := B.bytes
  have hr := B.returns
  have hts : ∀ w ∈ WS, w.before [.ref fu, .int a0, .int a1, .int a2].toArray s = true := fun w h => atoms_spec B.pre w (List.mem_cons_of_mem _ h)
  have hown : s.vm.findClass R_U = some m.cls := findClass_of_methodNamed B.named
  have hlocks := B.notSynchronized
  have hA : ∀ q, s.heap.size ≤ q → Az z q := fun q h => Nat.le_trans hz h
  have hS : va_S (Az z) s.heap s.heap [] := va_S.rf
  have hC : Ch ws ws [] := Ch.rf
  have hl := lv_entry ([.ref fu, .int a0, .int a1, .int a2]) (n := 4) (Nat.le_of_ble_eq_true rfl)
  rw [lg_entry_eq]
  generalize (lg_sl ([.ref fu, .int a0, .int a1, .int a2]) ++ List.replicate (4 - (lg_sl ([.ref fu, .int a0, .int a1, .int a2])).length) Slot.unset).toArray = ls at hl ⊢
  have hl : lv_has ls 4 [(0, .ref fu), (1, .int a0), (2, .int a1), (3, .int a2)] := hl
  refine lv_aload_n hx hb d_U_set_0 rfl (lv_at hl 0 rfl) ?_
  refine lv_iload_n hx hb d_U_set_1 rfl (lv_at hl 1 rfl) ?_
  refine va_put (D := D) (ci := 2) (v := .int a0) (ty := .int) (C := R_U) (T := F_U) (N := 4) hx hb hts ws_U t_U ok_U n_U hown hK hP hD hS 8 e8 rfl 0 (by decide) (hts _ fl_U_9) (fun _ h9 => h9) rfl (by decide +kernel) rfl rfl (Nat.le_of_ble_eq_true rfl) d_U_set_2 (fun H locs hP hD hS => ?_)
  obtain ⟨w1, hw⟩ : ∃ q, q = ws.set 8 (fu, .inr (2, [.int a0, .int u1, .int u2, .int u3])) := ⟨_, rfl⟩
  have hP : va_P D Cl (ws.set 8 (fu, .inr (2, [.int a0, .int u1, .int u2, .int u3]))) H := hP
  have hD : va_D (Az z) (ws.set 8 (fu, .inr (2, [.int a0, .int u1, .int u2, .int u3]))) := hD
  rw [← hw] at hP hD
  have hC := hC.put (p := 8) (c := (fu, .inr (2, [.int a0, .int u1, .int u2, .int u3])))
  rw [← hw] at hC
  have e8 : w1[8]? = some (fu, .inr (2, [.int a0, .int u1, .int u2, .int u3])) := by rw [hw]; exact lk_set e8
  clear hw
  refine lv_aload_n hx hb d_U_set_5 rfl (lv_at hl 0 rfl) ?_
  refine lv_iload_n hx hb d_U_set_6 rfl (lv_at hl 2 rfl) ?_
  refine va_put (D := D) (ci := 2) (v := .int a1) (ty := .int) (C := R_U) (T := F_U) (N := 4) hx hb hts ws_U t_U ok_U n_U hown hK hP hD hS 8 e8 rfl 1 (by decide) (hts _ fl_U_15) (fun _ h9 => h9) rfl (by decide +kernel) rfl rfl (Nat.le_of_ble_eq_true rfl) d_U_set_7 (fun H locs hP hD hS => ?_)
  obtain ⟨w2, hw⟩ : ∃ q, q = w1.set 8 (fu, .inr (2, [.int a0, .int a1, .int u2, .int u3])) := ⟨_, rfl⟩
  have hP : va_P D Cl (w1.set 8 (fu, .inr (2, [.int a0, .int a1, .int u2, .int u3]))) H := hP
  have hD : va_D (Az z) (w1.set 8 (fu, .inr (2, [.int a0, .int a1, .int u2, .int u3]))) := hD
  rw [← hw] at hP hD
  have hC := hC.put (p := 8) (c := (fu, .inr (2, [.int a0, .int a1, .int u2, .int u3])))
  rw [← hw] at hC
  have e8 : w2[8]? = some (fu, .inr (2, [.int a0, .int a1, .int u2, .int u3])) := by rw [hw]; exact lk_set e8
  clear hw
  refine lv_aload_n hx hb d_U_set_10 rfl (lv_at hl 0 rfl) ?_
  refine lv_iload_n hx hb d_U_set_11 rfl (lv_at hl 3 rfl) ?_
  refine va_put (D := D) (ci := 2) (v := .int a2) (ty := .int) (C := R_U) (T := F_U) (N := 4) hx hb hts ws_U t_U ok_U n_U hown hK hP hD hS 8 e8 rfl 2 (by decide) (hts _ fl_U_18) (fun _ h9 => h9) rfl (by decide +kernel) rfl rfl (Nat.le_of_ble_eq_true rfl) d_U_set_12 (fun H locs hP hD hS => ?_)
  obtain ⟨w3, hw⟩ : ∃ q, q = w2.set 8 (fu, .inr (2, [.int a0, .int a1, .int a2, .int u3])) := ⟨_, rfl⟩
  have hP : va_P D Cl (w2.set 8 (fu, .inr (2, [.int a0, .int a1, .int a2, .int u3]))) H := hP
  have hD : va_D (Az z) (w2.set 8 (fu, .inr (2, [.int a0, .int a1, .int a2, .int u3]))) := hD
  rw [← hw] at hP hD
  have hC := hC.put (p := 8) (c := (fu, .inr (2, [.int a0, .int a1, .int a2, .int u3])))
  rw [← hw] at hC
  have e8 : w3[8]? = some (fu, .inr (2, [.int a0, .int a1, .int a2, .int u3])) := by rw [hw]; exact lk_set e8
  clear hw
  refine lv_aload_n hx hb d_U_set_15 rfl (lv_at hl 0 rfl) ?_
  refine lv_iconst (v := 0) hx hb d_U_set_16 (by decide) ?_
  refine va_put (D := D) (ci := 2) (v := .int 0) (ty := .boolean) (C := R_U) (T := F_U) (N := 4) hx hb hts ws_U t_U ok_U n_U hown hK hP hD hS 8 e8 rfl 3 (by decide) (hts _ fl_U_21) (fun _ h9 => h9) rfl (by decide +kernel) rfl rfl (Nat.le_of_ble_eq_true rfl) d_U_set_17 (fun H locs hP hD hS => ?_)
  obtain ⟨w4, hw⟩ : ∃ q, q = w3.set 8 (fu, .inr (2, [.int a0, .int a1, .int a2, .int 0])) := ⟨_, rfl⟩
  have hP : va_P D Cl (w3.set 8 (fu, .inr (2, [.int a0, .int a1, .int a2, .int 0]))) H := hP
  have hD : va_D (Az z) (w3.set 8 (fu, .inr (2, [.int a0, .int a1, .int a2, .int 0]))) := hD
  rw [← hw] at hP hD
  have hC := hC.put (p := 8) (c := (fu, .inr (2, [.int a0, .int a1, .int a2, .int 0])))
  rw [← hw] at hC
  have e8 : w4[8]? = some (fu, .inr (2, [.int a0, .int a1, .int a2, .int 0])) := by rw [hw]; exact lk_set e8
  clear hw
  exact W.vret hx hb hr (fun t9 ht hW => ⟨⟨w4, rfl, ⟨hC.sub (by decide), e8⟩, ⟨by rw [ht]; exact hP, va_K.moved hW.alike hK, hD, by rw [ht]; exact Nat.le_trans hz hS.1⟩⟩, hS.F ht⟩) hS.2.2 d_U_set_20
set_option maxHeartbeats 4000000 in
set_option maxRecDepth 100000 in
theorem c_S_power {l : Launch} {D : va_G} {t : Nat → ClassId} {z : Nat} {sa : Nat → Nat} {ws : va_W} {x xf xj xl fu xr : Nat} {on op mk ct la u0 u1 u2 u3 a0 a1 a2 : Int32} (e0 : ws[0]? = some (x, .inr (5, [.ref xf, .ref xj, .ref xl, .ref fu, .ref xr, .int on, .int op, .int mk, .int ct, .int la]))) (e8 : ws[8]? = some (fu, .inr (2, [.int u0, .int u1, .int u2, .int u3]))) (g0 : ¬ a0 < 0) (g1 : a0 ≤ 4) (g2 : ¬ a1 < 0) (g3 : a1 ≤ 1000) (g4 : ¬ a2 < 0) (g5 : a2 ≤ 300) : Met l y_S_power (Cond.code y_S_power b_S_power 4 (.none : Option Jvm.ClassFile.FieldType) :: WS) ({ frames := 1, cells := 0, slots := 0, locals := 23 }) (Pz D t z sa ws [.ref x, .int a0, .int a1, .int a2]) (va_Qv (fun u : va_W => Ch ws u [8] ∧ u[8]? = some (fu, .inr (2, [.int a0, .int a1, .int a2, .int 0]))) (fun u U => Wd D t z u U) (Az z)) 0 0 (Az z) := by
  refine Met.ofW (cc := b_S_power) (maxL := 4) (ret := (.none : Option Jvm.ClassFile.FieldType)) (by decide) rfl ?_
  intro p e s m args below meth c s₁ B hml hv
  obtain ⟨rfl, ⟨hP, hK, hD, hz⟩, hM⟩ := hv
  have hx := B.exec
  have hb := B.bytes
  have hr := B.returns
  have hts : ∀ w ∈ WS, w.before [.ref x, .int a0, .int a1, .int a2].toArray s = true := fun w h => atoms_spec B.pre w (List.mem_cons_of_mem _ h)
  have hown : s.vm.findClass R_S = some m.cls := findClass_of_methodNamed B.named
  have hlocks := B.notSynchronized
  have hA : ∀ q, s.heap.size ≤ q → Az z q := fun q h => Nat.le_trans hz h
  have hS : va_S (Az z) s.heap s.heap [] := va_S.rf
  have hC : Ch ws ws [] := Ch.rf
  have hl := lv_entry ([.ref x, .int a0, .int a1, .int a2]) (n := 4) (Nat.le_of_ble_eq_true rfl)
  rw [lg_entry_eq]
  generalize (lg_sl ([.ref x, .int a0, .int a1, .int a2]) ++ List.replicate (4 - (lg_sl ([.ref x, .int a0, .int a1, .int a2])).length) Slot.unset).toArray = ls at hl ⊢
  have hl : lv_has ls 4 [(0, .ref x), (1, .int a0), (2, .int a1), (3, .int a2)] := hl
  refine lv_iload_n hx hb d_S_power_0 rfl (lv_at hl 1 rfl) ?_
  refine lv_if_lt (tgt := 9) hx hb d_S_power_1 rfl (fun h => absurd h g0) (fun _ => ?_)
  refine lv_iload_n hx hb d_S_power_4 rfl (lv_at hl 1 rfl) ?_
  refine lv_iconst (v := 4) hx hb d_S_power_5 (by decide) ?_
  refine lv_icmp_le (tgt := 19) hx hb d_S_power_6 rfl (fun _ => ?_) (fun h => absurd g1 h)
  refine lv_iload_n hx hb d_S_power_19 rfl (lv_at hl 2 rfl) ?_
  refine lv_if_lt (tgt := 30) hx hb d_S_power_20 rfl (fun h => absurd h g2) (fun _ => ?_)
  refine lv_iload_n hx hb d_S_power_23 rfl (lv_at hl 2 rfl) ?_
  refine lv_sipush (v := 1000) hx hb d_S_power_24 (by decide) ?_
  refine lv_icmp_le (tgt := 40) hx hb d_S_power_27 rfl (fun _ => ?_) (fun h => absurd g3 h)
  refine lv_iload_n hx hb d_S_power_40 rfl (lv_at hl 3 rfl) ?_
  refine lv_if_lt (tgt := 51) hx hb d_S_power_41 rfl (fun h => absurd h g4) (fun _ => ?_)
  refine lv_iload_n hx hb d_S_power_44 rfl (lv_at hl 3 rfl) ?_
  refine lv_sipush (v := 300) hx hb d_S_power_45 (by decide) ?_
  refine lv_icmp_le (tgt := 61) hx hb d_S_power_48 rfl (fun _ => ?_) (fun h => absurd g5 h)
  refine lv_aload_n hx hb d_S_power_61 rfl (lv_at hl 0 rfl) ?_
  refine va_get (D := D) (ci := 5) (v := .ref fu) (C := R_S) (T := F_S) (N := 10) hx hb hts ws_S hown hK hP 0 e0 rfl 3 (by decide) (hts _ fl_S_32) (fun _ h9 => h9) rfl d_S_power_62 ?_
  refine lv_iload_n hx hb d_S_power_65 rfl (lv_at hl 1 rfl) ?_
  refine lv_iload_n hx hb d_S_power_66 rfl (lv_at hl 2 rfl) ?_
  refine lv_iload_n hx hb d_S_power_67 rfl (lv_at hl 3 rfl) ?_
  refine va_callv (va_runV (As := [.int a0, .int a1, .int a2]) (rest := []) ⟨hx, hb, hml, hown, hts⟩ (c_U_set (D := D) (t := t) (z := z) (sa := sa) (ws := ws) (a0 := a0) (a1 := a1) (a2 := a2) e8) (cwV 3 hts (gd_V ml_S_156 im_U_set se_U_set in_U cd_U_set) rfl rfl rfl (by decide +kernel) ⟨Nat.le_of_ble_eq_true rfl, Nat.le_of_ble_eq_true rfl⟩) ⟨Pz_blind, va_recv hK hP (ci := 2) rfl e8, Pz_at hP hK hD hz hM hS⟩ rfl rfl hl.1 rfl (lv_room (Nat.le_of_ble_eq_true rfl)) d_S_power_68 ⟨Nat.le_of_ble_eq_true rfl, Nat.le_of_ble_eq_true rfl⟩) hS (fun q _ h => h) (fun q h => h) (fun w7 t9 H locs ht hvm hp hB hz1 hk1 hS => ?_)
  obtain ⟨hP, hK9, hD, -⟩ := hB
  rw [ht] at hP
  clear hK9
  obtain ⟨hC9, kf8⟩ := hp
  have e0 : w7[0]? = some (x, .inr (5, [.ref xf, .ref xj, .ref xl, .ref fu, .ref xr, .int on, .int op, .int mk, .int ct, .int la])) := hC9.keep e0 (by decide)
  have e8 : w7[8]? = some (fu, .inr (2, [.int a0, .int a1, .int a2, .int 0])) := kf8
  have hC := hC.trans hC9
  exact W.vret hx hb hr (fun t9 ht hW => ⟨⟨w7, rfl, ⟨hC.sub (by decide), e8⟩, ⟨by rw [ht]; exact hP, va_K.moved hW.alike hK, hD, by rw [ht]; exact Nat.le_trans hz hS.1⟩⟩, hS.F ht⟩) hS.2.2 d_S_power_71
set_option maxHeartbeats 4000000 in
set_option maxRecDepth 100000 in
theorem c_S_power_t {l : Launch} {D : va_G} {t : Nat → ClassId} {z : Nat} {sa : Nat → Nat} {ws : va_W} {x xf xj xl fu xr : Nat} {on op mk ct la a0 a1 a2 : Int32} (hl0 : l.stackTraces = false) (e0 : ws[0]? = some (x, .inr (5, [.ref xf, .ref xj, .ref xl, .ref fu, .ref xr, .int on, .int op, .int mk, .int ct, .int la]))) (g : ¬ (¬ a0 < 0 ∧ a0 ≤ 4 ∧ ¬ a1 < 0 ∧ a1 ≤ 1000 ∧ ¬ a2 < 0 ∧ a2 ≤ 300)) : vx_Met l y_S_power (Cond.code y_S_power b_S_power 4 (.none : Option Jvm.ClassFile.FieldType) :: WS) ({ frames := 6, cells := 1, slots := 6, locals := 82 }) (Pz D t z sa ws [.ref x, .int a0, .int a1, .int a2]) Qno (Xw D t z xIAE ws) 1 6 (Az z) := by
  refine vx_ofW (cc := b_S_power) (maxL := 4) (ret := (.none : Option Jvm.ClassFile.FieldType)) (by decide) rfl ?_
  intro p e s m args below meth c s₁ B hml hno hv
  obtain ⟨rfl, ⟨hP, hK, hD, hz⟩, hM⟩ := hv
  have hx := B.exec
  have hb := B.bytes
  have hr := B.returns
  have hts : ∀ w ∈ WS, w.before [.ref x, .int a0, .int a1, .int a2].toArray s = true := fun w h => atoms_spec B.pre w (List.mem_cons_of_mem _ h)
  have hown : s.vm.findClass R_S = some m.cls := findClass_of_methodNamed B.named
  have hlocks := B.notSynchronized
  have hA : ∀ q, s.heap.size ≤ q → Az z q := fun q h => Nat.le_trans hz h
  have hS : va_S (Az z) s.heap s.heap [] := va_S.rf
  have hC : Ch ws ws [] := Ch.rf
  have hl := lv_entry ([.ref x, .int a0, .int a1, .int a2]) (n := 4) (Nat.le_of_ble_eq_true rfl)
  rw [lg_entry_eq]
  generalize (lg_sl ([.ref x, .int a0, .int a1, .int a2]) ++ List.replicate (4 - (lg_sl ([.ref x, .int a0, .int a1, .int a2])).length) Slot.unset).toArray = ls at hl ⊢
  have hl : lv_has ls 4 [(0, .ref x), (1, .int a0), (2, .int a1), (3, .int a2)] := hl
  refine lv_iload_n hx hb d_S_power_0 rfl (lv_at hl 1 rfl) ?_
  refine lv_if_lt (tgt := 9) hx hb d_S_power_1 rfl (fun q1 => ?_) (fun q1 => ?_)
  · skip
    exact th_S hx hb hl0 hown hts hlocks hno hP hK hD hz hM hS (hl.1.trans hml.symm) (site_147_149_151) d_S_power_9 d_S_power_12 d_S_power_13 d_S_power_15 d_S_power_18 (Nat.le_of_ble_eq_true rfl) (Nat.le_of_ble_eq_true rfl) (Nat.le_of_ble_eq_true rfl) (Nat.le_of_ble_eq_true rfl) (Nat.le_of_ble_eq_true rfl) (Nat.le_of_ble_eq_true rfl)
  · skip
    refine lv_iload_n hx hb d_S_power_4 rfl (lv_at hl 1 rfl) ?_
    refine lv_iconst (v := 4) hx hb d_S_power_5 (by decide) ?_
    refine lv_icmp_le (tgt := 19) hx hb d_S_power_6 rfl (fun q2 => ?_) (fun q2 => ?_)
    · skip
      refine lv_iload_n hx hb d_S_power_19 rfl (lv_at hl 2 rfl) ?_
      refine lv_if_lt (tgt := 30) hx hb d_S_power_20 rfl (fun q3 => ?_) (fun q3 => ?_)
      · skip
        exact th_S hx hb hl0 hown hts hlocks hno hP hK hD hz hM hS (hl.1.trans hml.symm) (site_147_152_151) d_S_power_30 d_S_power_33 d_S_power_34 d_S_power_36 d_S_power_39 (Nat.le_of_ble_eq_true rfl) (Nat.le_of_ble_eq_true rfl) (Nat.le_of_ble_eq_true rfl) (Nat.le_of_ble_eq_true rfl) (Nat.le_of_ble_eq_true rfl) (Nat.le_of_ble_eq_true rfl)
      · skip
        refine lv_iload_n hx hb d_S_power_23 rfl (lv_at hl 2 rfl) ?_
        refine lv_sipush (v := 1000) hx hb d_S_power_24 (by decide) ?_
        refine lv_icmp_le (tgt := 40) hx hb d_S_power_27 rfl (fun q4 => ?_) (fun q4 => ?_)
        · skip
          refine lv_iload_n hx hb d_S_power_40 rfl (lv_at hl 3 rfl) ?_
          refine lv_if_lt (tgt := 51) hx hb d_S_power_41 rfl (fun q5 => ?_) (fun q5 => ?_)
          · skip
            exact th_S hx hb hl0 hown hts hlocks hno hP hK hD hz hM hS (hl.1.trans hml.symm) (site_147_154_151) d_S_power_51 d_S_power_54 d_S_power_55 d_S_power_57 d_S_power_60 (Nat.le_of_ble_eq_true rfl) (Nat.le_of_ble_eq_true rfl) (Nat.le_of_ble_eq_true rfl) (Nat.le_of_ble_eq_true rfl) (Nat.le_of_ble_eq_true rfl) (Nat.le_of_ble_eq_true rfl)
          · skip
            refine lv_iload_n hx hb d_S_power_44 rfl (lv_at hl 3 rfl) ?_
            refine lv_sipush (v := 300) hx hb d_S_power_45 (by decide) ?_
            refine lv_icmp_le (tgt := 61) hx hb d_S_power_48 rfl (fun q6 => ?_) (fun q6 => ?_)
            · skip
              exact (g ⟨by assumption, by assumption, by assumption, by assumption, by assumption, by assumption⟩).elim
            · skip
              exact th_S hx hb hl0 hown hts hlocks hno hP hK hD hz hM hS (hl.1.trans hml.symm) (site_147_154_151) d_S_power_51 d_S_power_54 d_S_power_55 d_S_power_57 d_S_power_60 (Nat.le_of_ble_eq_true rfl) (Nat.le_of_ble_eq_true rfl) (Nat.le_of_ble_eq_true rfl) (Nat.le_of_ble_eq_true rfl) (Nat.le_of_ble_eq_true rfl) (Nat.le_of_ble_eq_true rfl)
        · skip
          exact th_S hx hb hl0 hown hts hlocks hno hP hK hD hz hM hS (hl.1.trans hml.symm) (site_147_152_151) d_S_power_30 d_S_power_33 d_S_power_34 d_S_power_36 d_S_power_39 (Nat.le_of_ble_eq_true rfl) (Nat.le_of_ble_eq_true rfl) (Nat.le_of_ble_eq_true rfl) (Nat.le_of_ble_eq_true rfl) (Nat.le_of_ble_eq_true rfl) (Nat.le_of_ble_eq_true rfl)
    · skip
      exact th_S hx hb hl0 hown hts hlocks hno hP hK hD hz hM hS (hl.1.trans hml.symm) (site_147_149_151) d_S_power_9 d_S_power_12 d_S_power_13 d_S_power_15 d_S_power_18 (Nat.le_of_ble_eq_true rfl) (Nat.le_of_ble_eq_true rfl) (Nat.le_of_ble_eq_true rfl) (Nat.le_of_ble_eq_true rfl) (Nat.le_of_ble_eq_true rfl) (Nat.le_of_ble_eq_true rfl)
set_option maxHeartbeats 4000000 in
set_option maxRecDepth 100000 in
theorem c_S_told0 {l : Launch} {D : va_G} {t : Nat → ClassId} {z : Nat} {sa : Nat → Nat} {ws : va_W} {x xf xj xl xu xr : Nat} (e0 : ws[0]? = some (x, .inr (5, [.ref xf, .ref xj, .ref xl, .ref xu, .ref xr, .int 1, .int 0, .int 0, .int 0, .int 0])))  : Met l y_S_told (Cond.code y_S_told b_S_told 2 (some .int) :: WS) ({ frames := 0, cells := 0, slots := 0, locals := 0 }) (Pz D t z sa ws [.ref x, .int 0]) (va_Qi (fun (r : Int32) (u : va_W) => r = 1 ∧ u = ws) (fun u U => Wd D t z u U) (Az z)) 0 0 (Az z) := by
  refine Met.ofW (cc := b_S_told) (maxL := 2) (ret := (some .int)) (by decide) rfl ?_
  intro p e s m args below meth c s₁ B hml hv
  obtain ⟨rfl, ⟨hP, hK, hD, hz⟩, hM⟩ := hv
  have hx := B.exec
  have hb := B.bytes
  have hr := B.returns
  have hts : ∀ w ∈ WS, w.before [.ref x, .int 0].toArray s = true := fun w h => atoms_spec B.pre w (List.mem_cons_of_mem _ h)
  have hown : s.vm.findClass R_S = some m.cls := findClass_of_methodNamed B.named
  have hlocks := B.notSynchronized
  have hA : ∀ q, s.heap.size ≤ q → Az z q := fun q h => Nat.le_trans hz h
  have hS : va_S (Az z) s.heap s.heap [] := va_S.rf
  have hC : Ch ws ws [] := Ch.rf
  have hl := lv_entry ([.ref x, .int 0]) (n := 2) (Nat.le_of_ble_eq_true rfl)
  rw [lg_entry_eq]
  generalize (lg_sl ([.ref x, .int 0]) ++ List.replicate (2 - (lg_sl ([.ref x, .int 0])).length) Slot.unset).toArray = ls at hl ⊢
  have hl : lv_has ls 2 [(0, .ref x), (1, .int 0)] := hl
  refine lv_iload_n hx hb d_S_told_0 rfl (lv_at hl 1 rfl) ?_
  refine lv_tableIn (off := 31) (tgt := 32) hx hb d_S_told_1 (by decide) (by decide) (by decide) rfl ?_
  refine lv_aload_n hx hb d_S_told_32 rfl (lv_at hl 0 rfl) ?_
  refine va_get (D := D) (ci := 5) (v := .int 1) (C := R_S) (T := F_S) (N := 10) hx hb hts ws_S hown hK hP 0 e0 rfl 5 (by decide) (hts _ fl_S_40) (fun _ h9 => h9) rfl d_S_told_33 ?_
  refine lv_if_eq (tgt := 43) hx hb d_S_told_36 rfl (fun h => absurd h (by decide)) (fun _ => ?_)
  refine lv_iconst (v := 1) hx hb d_S_told_39 (by decide) ?_
  refine lv_goto (tgt := 44) hx hb d_S_told_40 rfl ?_
  exact W.iret (v := 1) hx hb hr (fun t9 ht hW => ⟨⟨1, ws, rfl, ⟨rfl, rfl⟩, ⟨by rw [ht]; exact hP, va_K.moved hW.alike hK, hD, by rw [ht]; exact Nat.le_trans hz hS.1⟩⟩, hS.F ht⟩) hS.2.2 d_S_told_44
set_option maxHeartbeats 4000000 in
set_option maxRecDepth 100000 in
theorem c_S_told1 {l : Launch} {D : va_G} {t : Nat → ClassId} {z : Nat} {sa : Nat → Nat} {ws : va_W} {x xf xj xl xu xr : Nat} (e0 : ws[0]? = some (x, .inr (5, [.ref xf, .ref xj, .ref xl, .ref xu, .ref xr, .int 1, .int 0, .int 0, .int 0, .int 0])))  : Met l y_S_told (Cond.code y_S_told b_S_told 2 (some .int) :: WS) ({ frames := 0, cells := 0, slots := 0, locals := 0 }) (Pz D t z sa ws [.ref x, .int 1]) (va_Qi (fun (r : Int32) (u : va_W) => r = 0 ∧ u = ws) (fun u U => Wd D t z u U) (Az z)) 0 0 (Az z) := by
  refine Met.ofW (cc := b_S_told) (maxL := 2) (ret := (some .int)) (by decide) rfl ?_
  intro p e s m args below meth c s₁ B hml hv
  obtain ⟨rfl, ⟨hP, hK, hD, hz⟩, hM⟩ := hv
  have hx := B.exec
  have hb := B.bytes
  have hr := B.returns
  have hts : ∀ w ∈ WS, w.before [.ref x, .int 1].toArray s = true := fun w h => atoms_spec B.pre w (List.mem_cons_of_mem _ h)
  have hown : s.vm.findClass R_S = some m.cls := findClass_of_methodNamed B.named
  have hlocks := B.notSynchronized
  have hA : ∀ q, s.heap.size ≤ q → Az z q := fun q h => Nat.le_trans hz h
  have hS : va_S (Az z) s.heap s.heap [] := va_S.rf
  have hC : Ch ws ws [] := Ch.rf
  have hl := lv_entry ([.ref x, .int 1]) (n := 2) (Nat.le_of_ble_eq_true rfl)
  rw [lg_entry_eq]
  generalize (lg_sl ([.ref x, .int 1]) ++ List.replicate (2 - (lg_sl ([.ref x, .int 1])).length) Slot.unset).toArray = ls at hl ⊢
  have hl : lv_has ls 2 [(0, .ref x), (1, .int 1)] := hl
  refine lv_iload_n hx hb d_S_told_0 rfl (lv_at hl 1 rfl) ?_
  refine lv_tableIn (off := 44) (tgt := 45) hx hb d_S_told_1 (by decide) (by decide) (by decide) rfl ?_
  refine lv_aload_n hx hb d_S_told_45 rfl (lv_at hl 0 rfl) ?_
  refine va_get (D := D) (ci := 5) (v := .int 0) (C := R_S) (T := F_S) (N := 10) hx hb hts ws_S hown hK hP 0 e0 rfl 6 (by decide) (hts _ fl_S_44) (fun _ h9 => h9) rfl d_S_told_46 ?_
  refine lv_if_eq (tgt := 56) hx hb d_S_told_49 rfl (fun _ => ?_) (fun h => absurd h (by decide))
  refine lv_iconst (v := 0) hx hb d_S_told_56 (by decide) ?_
  exact W.iret (v := 0) hx hb hr (fun t9 ht hW => ⟨⟨0, ws, rfl, ⟨rfl, rfl⟩, ⟨by rw [ht]; exact hP, va_K.moved hW.alike hK, hD, by rw [ht]; exact Nat.le_trans hz hS.1⟩⟩, hS.F ht⟩) hS.2.2 d_S_told_57
set_option maxHeartbeats 4000000 in
set_option maxRecDepth 100000 in
theorem c_S_told2 {l : Launch} {D : va_G} {t : Nat → ClassId} {z : Nat} {sa : Nat → Nat} {ws : va_W} {x xf xj xl xu xr : Nat} (e0 : ws[0]? = some (x, .inr (5, [.ref xf, .ref xj, .ref xl, .ref xu, .ref xr, .int 1, .int 0, .int 0, .int 0, .int 0])))  : Met l y_S_told (Cond.code y_S_told b_S_told 2 (some .int) :: WS) ({ frames := 0, cells := 0, slots := 0, locals := 0 }) (Pz D t z sa ws [.ref x, .int 2]) (va_Qi (fun (r : Int32) (u : va_W) => r = 0 ∧ u = ws) (fun u U => Wd D t z u U) (Az z)) 0 0 (Az z) := by
  refine Met.ofW (cc := b_S_told) (maxL := 2) (ret := (some .int)) (by decide) rfl ?_
  intro p e s m args below meth c s₁ B hml hv
  obtain ⟨rfl, ⟨hP, hK, hD, hz⟩, hM⟩ := hv
  have hx := B.exec
  have hb := B.bytes
  have hr := B.returns
  have hts : ∀ w ∈ WS, w.before [.ref x, .int 2].toArray s = true := fun w h => atoms_spec B.pre w (List.mem_cons_of_mem _ h)
  have hown : s.vm.findClass R_S = some m.cls := findClass_of_methodNamed B.named
  have hlocks := B.notSynchronized
  have hA : ∀ q, s.heap.size ≤ q → Az z q := fun q h => Nat.le_trans hz h
  have hS : va_S (Az z) s.heap s.heap [] := va_S.rf
  have hC : Ch ws ws [] := Ch.rf
  have hl := lv_entry ([.ref x, .int 2]) (n := 2) (Nat.le_of_ble_eq_true rfl)
  rw [lg_entry_eq]
  generalize (lg_sl ([.ref x, .int 2]) ++ List.replicate (2 - (lg_sl ([.ref x, .int 2])).length) Slot.unset).toArray = ls at hl ⊢
  have hl : lv_has ls 2 [(0, .ref x), (1, .int 2)] := hl
  refine lv_iload_n hx hb d_S_told_0 rfl (lv_at hl 1 rfl) ?_
  refine lv_tableIn (off := 57) (tgt := 58) hx hb d_S_told_1 (by decide) (by decide) (by decide) rfl ?_
  refine lv_aload_n hx hb d_S_told_58 rfl (lv_at hl 0 rfl) ?_
  refine va_get (D := D) (ci := 5) (v := .int 0) (C := R_S) (T := F_S) (N := 10) hx hb hts ws_S hown hK hP 0 e0 rfl 7 (by decide) (hts _ fl_S_47) (fun _ h9 => h9) rfl d_S_told_59 ?_
  exact W.iret (v := 0) hx hb hr (fun t9 ht hW => ⟨⟨0, ws, rfl, ⟨rfl, rfl⟩, ⟨by rw [ht]; exact hP, va_K.moved hW.alike hK, hD, by rw [ht]; exact Nat.le_trans hz hS.1⟩⟩, hS.F ht⟩) hS.2.2 d_S_told_62
set_option maxHeartbeats 4000000 in
set_option maxRecDepth 100000 in
theorem c_S_told3 {l : Launch} {D : va_G} {t : Nat → ClassId} {z : Nat} {sa : Nat → Nat} {ws : va_W} {x xf xj xl xu xr : Nat} (e0 : ws[0]? = some (x, .inr (5, [.ref xf, .ref xj, .ref xl, .ref xu, .ref xr, .int 1, .int 0, .int 0, .int 0, .int 0])))  : Met l y_S_told (Cond.code y_S_told b_S_told 2 (some .int) :: WS) ({ frames := 0, cells := 0, slots := 0, locals := 0 }) (Pz D t z sa ws [.ref x, .int 3]) (va_Qi (fun (r : Int32) (u : va_W) => r = 0 ∧ u = ws) (fun u U => Wd D t z u U) (Az z)) 0 0 (Az z) := by
  refine Met.ofW (cc := b_S_told) (maxL := 2) (ret := (some .int)) (by decide) rfl ?_
  intro p e s m args below meth c s₁ B hml hv
  obtain ⟨rfl, ⟨hP, hK, hD, hz⟩, hM⟩ := hv
  have hx := B.exec
  have hb := B.bytes
  have hr := B.returns
  have hts : ∀ w ∈ WS, w.before [.ref x, .int 3].toArray s = true := fun w h => atoms_spec B.pre w (List.mem_cons_of_mem _ h)
  have hown : s.vm.findClass R_S = some m.cls := findClass_of_methodNamed B.named
  have hlocks := B.notSynchronized
  have hA : ∀ q, s.heap.size ≤ q → Az z q := fun q h => Nat.le_trans hz h
  have hS : va_S (Az z) s.heap s.heap [] := va_S.rf
  have hC : Ch ws ws [] := Ch.rf
  have hl := lv_entry ([.ref x, .int 3]) (n := 2) (Nat.le_of_ble_eq_true rfl)
  rw [lg_entry_eq]
  generalize (lg_sl ([.ref x, .int 3]) ++ List.replicate (2 - (lg_sl ([.ref x, .int 3])).length) Slot.unset).toArray = ls at hl ⊢
  have hl : lv_has ls 2 [(0, .ref x), (1, .int 3)] := hl
  refine lv_iload_n hx hb d_S_told_0 rfl (lv_at hl 1 rfl) ?_
  refine lv_tableIn (off := 62) (tgt := 63) hx hb d_S_told_1 (by decide) (by decide) (by decide) rfl ?_
  refine lv_aload_n hx hb d_S_told_63 rfl (lv_at hl 0 rfl) ?_
  refine va_get (D := D) (ci := 5) (v := .int 0) (C := R_S) (T := F_S) (N := 10) hx hb hts ws_S hown hK hP 0 e0 rfl 9 (by decide) (hts _ fl_S_54) (fun _ h9 => h9) rfl d_S_told_64 ?_
  exact W.iret (v := 0) hx hb hr (fun t9 ht hW => ⟨⟨0, ws, rfl, ⟨rfl, rfl⟩, ⟨by rw [ht]; exact hP, va_K.moved hW.alike hK, hD, by rw [ht]; exact Nat.le_trans hz hS.1⟩⟩, hS.F ht⟩) hS.2.2 d_S_told_67
set_option maxHeartbeats 4000000 in
set_option maxRecDepth 100000 in
theorem c_S_told_t {l : Launch} {D : va_G} {t : Nat → ClassId} {z : Nat} {sa : Nat → Nat} {ws : va_W} {x xf xj xl xu xr : Nat} {a0 : Int32} (hl0 : l.stackTraces = false) (e0 : ws[0]? = some (x, .inr (5, [.ref xf, .ref xj, .ref xl, .ref xu, .ref xr, .int 1, .int 0, .int 0, .int 0, .int 0]))) (g : a0.toInt < 0 ∨ 3 < a0.toInt) : vx_Met l y_S_told (Cond.code y_S_told b_S_told 2 (some .int) :: WS) ({ frames := 6, cells := 1, slots := 6, locals := 82 }) (Pz D t z sa ws [.ref x, .int a0]) Qno (Xw D t z xIAE ws) 1 6 (Az z) := by
  refine vx_ofW (cc := b_S_told) (maxL := 2) (ret := (some .int)) (by decide) rfl ?_
  intro p e s m args below meth c s₁ B hml hno hv
  obtain ⟨rfl, ⟨hP, hK, hD, hz⟩, hM⟩ := hv
  have hx := B.exec
  have hb := B.bytes
  have hr := B.returns
  have hts : ∀ w ∈ WS, w.before [.ref x, .int a0].toArray s = true := fun w h => atoms_spec B.pre w (List.mem_cons_of_mem _ h)
  have hown : s.vm.findClass R_S = some m.cls := findClass_of_methodNamed B.named
  have hlocks := B.notSynchronized
  have hA : ∀ q, s.heap.size ≤ q → Az z q := fun q h => Nat.le_trans hz h
  have hS : va_S (Az z) s.heap s.heap [] := va_S.rf
  have hC : Ch ws ws [] := Ch.rf
  have hl := lv_entry ([.ref x, .int a0]) (n := 2) (Nat.le_of_ble_eq_true rfl)
  rw [lg_entry_eq]
  generalize (lg_sl ([.ref x, .int a0]) ++ List.replicate (2 - (lg_sl ([.ref x, .int a0])).length) Slot.unset).toArray = ls at hl ⊢
  have hl : lv_has ls 2 [(0, .ref x), (1, .int a0)] := hl
  refine lv_iload_n hx hb d_S_told_0 rfl (lv_at hl 1 rfl) ?_
  refine lv_tableOut (tgt := 68) hx hb d_S_told_1 g rfl ?_
  exact th_S hx hb hl0 hown hts hlocks hno hP hK hD hz hM hS (hl.1.trans hml.symm) (site_147_166_151) d_S_told_68 d_S_told_71 d_S_told_72 d_S_told_74 d_S_told_77 (Nat.le_of_ble_eq_true rfl) (Nat.le_of_ble_eq_true rfl) (Nat.le_of_ble_eq_true rfl) (Nat.le_of_ble_eq_true rfl) (Nat.le_of_ble_eq_true rfl) (Nat.le_of_ble_eq_true rfl)
