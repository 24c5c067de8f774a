set_option maxHeartbeats 4000000 in
set_option maxRecDepth 100000 in
theorem c_S_requireOn {l : Launch} {D : va_G} {t : Nat → ClassId} {z : Nat} {sa : Nat → Nat} {ws : va_W} {x xf xj xl xu xr : Nat} {op mk ct la : Int32} (e0 : ws[0]? = some (x, .inr (5, [.ref xf, .ref xj, .ref xl, .ref xu, .ref xr, .int 1, .int op, .int mk, .int ct, .int la])))  : Met l y_S_requireOn (Cond.code y_S_requireOn b_S_requireOn 1 (.none : Option Jvm.ClassFile.FieldType) :: WS) ({ frames := 0, cells := 0, slots := 0, locals := 0 }) (Pz D t z sa ws [.ref x]) (va_Qv (fun u : va_W => u = ws) (fun u U => Wd D t z u U) (Az z)) 0 0 (Az z) := by
  refine Met.ofW (cc := b_S_requireOn) (maxL := 1) (ret := (.none : Option Jvm.ClassFile.FieldType)) (by decide) rfl ?_
  intro p e s m args below meth c s₁ B hml hv
  obtain ⟨rfl, ⟨hP, hK, hD, hz⟩, hM⟩ := hv
  have hx := B.exec
  have hb := B.bytes
  have hr := B.returns
  have hts : ∀ w ∈ WS, w.before [.ref x].toArray s = true := fun w h => atoms_spec B.pre w (List.mem_cons_of_mem _ h)
  have hown : s.vm.findClass R_S = some m.cls := findClass_of_methodNamed B.named
  have hlocks := B.notSynchronized
  have hA : ∀ q, s.heap.size ≤ q → Az z q := fun q h => Nat.le_trans hz h
  have hS : va_S (Az z) s.heap s.heap [] := va_S.rf
  have hC : Ch ws ws [] := Ch.rf
  have hl := lv_entry ([.ref x]) (n := 1) (Nat.le_of_ble_eq_true rfl)
  rw [lg_entry_eq]
  generalize (lg_sl ([.ref x]) ++ List.replicate (1 - (lg_sl ([.ref x])).length) Slot.unset).toArray = ls at hl ⊢
  have hl : lv_has ls 1 [(0, .ref x)] := hl
  refine lv_aload_n hx hb d_S_requireOn_0 rfl (lv_at hl 0 rfl) ?_
  refine va_get (D := D) (ci := 5) (v := .int 1) (C := R_S) (T := F_S) (N := 10) hx hb hts ws_S hown hK hP 0 e0 rfl 5 (by decide) (hts _ fl_S_40) (fun _ h9 => h9) rfl d_S_requireOn_1 ?_
  refine lv_if_ne (tgt := 17) hx hb d_S_requireOn_4 rfl (fun _ => ?_) (fun h => absurd h (by decide))
  exact W.vret hx hb hr (fun t9 ht hW => ⟨⟨ws, rfl, rfl, ⟨by rw [ht]; exact hP, va_K.moved hW.alike hK, hD, by rw [ht]; exact Nat.le_trans hz hS.1⟩⟩, hS.F ht⟩) hS.2.2 d_S_requireOn_17
set_option maxHeartbeats 4000000 in
set_option maxRecDepth 100000 in
theorem c_S_requireOpen_t {l : Launch} {D : va_G} {t : Nat → ClassId} {z : Nat} {sa : Nat → Nat} {ws : va_W} {x xf xj xl xu xr : Nat} {mk ct la : Int32} (hl0 : l.stackTraces = false) (e0 : ws[0]? = some (x, .inr (5, [.ref xf, .ref xj, .ref xl, .ref xu, .ref xr, .int 1, .int 0, .int mk, .int ct, .int la])))  : vx_Met l y_S_requireOpen (Cond.code y_S_requireOpen b_S_requireOpen 1 (.none : Option Jvm.ClassFile.FieldType) :: WS) ({ frames := 6, cells := 1, slots := 6, locals := 82 }) (Pz D t z sa ws [.ref x]) Qno (Xw D t z xISE ws) 1 6 (Az z) := by
  refine vx_ofW (cc := b_S_requireOpen) (maxL := 1) (ret := (.none : Option Jvm.ClassFile.FieldType)) (by decide) rfl ?_
  intro p e s m args below meth c s₁ B hml hno hv
  obtain ⟨rfl, ⟨hP, hK, hD, hz⟩, hM⟩ := hv
  have hx := B.exec
  have hb := B.bytes
  have hr := B.returns
  have hts : ∀ w ∈ WS, w.before [.ref x].toArray s = true := fun w h => atoms_spec B.pre w (List.mem_cons_of_mem _ h)
  have hown : s.vm.findClass R_S = some m.cls := findClass_of_methodNamed B.named
  have hlocks := B.notSynchronized
  have hA : ∀ q, s.heap.size ≤ q → Az z q := fun q h => Nat.le_trans hz h
  have hS : va_S (Az z) s.heap s.heap [] := va_S.rf
  have hC : Ch ws ws [] := Ch.rf
  have hl := lv_entry ([.ref x]) (n := 1) (Nat.le_of_ble_eq_true rfl)
  rw [lg_entry_eq]
  generalize (lg_sl ([.ref x]) ++ List.replicate (1 - (lg_sl ([.ref x])).length) Slot.unset).toArray = ls at hl ⊢
  have hl : lv_has ls 1 [(0, .ref x)] := hl
  refine lv_aload_n hx hb d_S_requireOpen_0 rfl (lv_at hl 0 rfl) ?_
  refine va_callv (va_runV (As := []) (rest := []) ⟨hx, hb, hml, hown, hts⟩ (c_S_requireOn (D := D) (t := t) (z := z) (sa := sa) (ws := ws)  e0) (cwV 0 hts (gd_V ml_S_58 im_S_requireOn se_S_requireOn in_S cd_S_requireOn) rfl rfl rfl (by decide +kernel) ⟨Nat.le_of_ble_eq_true rfl, Nat.le_of_ble_eq_true rfl⟩) ⟨Pz_blind, va_recv hK hP (ci := 5) rfl e0, Pz_at hP hK hD hz hM hS⟩ rfl rfl hl.1 rfl (lv_room (Nat.le_of_ble_eq_true rfl)) d_S_requireOpen_1 ⟨Nat.le_of_ble_eq_true rfl, Nat.le_of_ble_eq_true rfl⟩) hS (fun q _ h => h) (fun q h => h) (fun w1 t9 H locs ht hvm hp hB hz1 hk1 hS => ?_)
  obtain ⟨hP, hK9, hD, -⟩ := hB
  rw [ht] at hP
  clear hK9
  have hw9 := hp
  rw [hw9] at hP hD
  clear hw9
  refine lv_aload_n hx hb d_S_requireOpen_4 rfl (lv_at hl 0 rfl) ?_
  refine va_get (D := D) (ci := 5) (v := .int 0) (C := R_S) (T := F_S) (N := 10) hx hb hts ws_S hown hK hP 0 e0 rfl 6 (by decide) (hts _ fl_S_44) (fun _ h9 => h9) rfl d_S_requireOpen_5 ?_
  refine lv_if_ne (tgt := 21) hx hb d_S_requireOpen_8 rfl (fun h => absurd h (by decide)) (fun _ => ?_)
  exact th_S hx hb hl0 hown hts hlocks hno hP hK hD hz hM hS (hl.1.trans hml.symm) (site_64_170_68) d_S_requireOpen_11 d_S_requireOpen_14 d_S_requireOpen_15 d_S_requireOpen_17 d_S_requireOpen_20 (Nat.le_of_ble_eq_true rfl) (Nat.le_of_ble_eq_true rfl) (Nat.le_of_ble_eq_true rfl) (Nat.le_of_ble_eq_true rfl) (Nat.le_of_ble_eq_true rfl) (Nat.le_of_ble_eq_true rfl)
set_option maxHeartbeats 4000000 in
set_option maxRecDepth 100000 in
theorem c_S_requirePage_t {l : Launch} {D : va_G} {t : Nat → ClassId} {z : Nat} {sa : Nat → Nat} {ws : va_W} {x xf xj xl xu xr : Nat} {op mk la pp : Int32} (hl0 : l.stackTraces = false) (e0 : ws[0]? = some (x, .inr (5, [.ref xf, .ref xj, .ref xl, .ref xu, .ref xr, .int 1, .int op, .int mk, .int 0, .int la])))  : vx_Met l y_S_requirePage (Cond.code y_S_requirePage b_S_requirePage 2 (.none : Option Jvm.ClassFile.FieldType) :: WS) ({ frames := 6, cells := 1, slots := 6, locals := 82 }) (Pz D t z sa ws [.ref x, .int pp]) Qno (Xw D t z xIOB ws) 1 6 (Az z) := by
  refine vx_ofW (cc := b_S_requirePage) (maxL := 2) (ret := (.none : Option Jvm.ClassFile.FieldType)) (by decide) rfl ?_
  intro p e s m args below meth c s₁ B hml hno hv
  obtain ⟨rfl, ⟨hP, hK, hD, hz⟩, hM⟩ := hv
  have hx := B.exec
  have hb := B.bytes
  have hr := B.returns
  have hts : ∀ w ∈ WS, w.before [.ref x, .int pp].toArray s = true := fun w h => atoms_spec B.pre w (List.mem_cons_of_mem _ h)
  have hown : s.vm.findClass R_S = some m.cls := findClass_of_methodNamed B.named
  have hlocks := B.notSynchronized
  have hA : ∀ q, s.heap.size ≤ q → Az z q := fun q h => Nat.le_trans hz h
  have hS : va_S (Az z) s.heap s.heap [] := va_S.rf
  have hC : Ch ws ws [] := Ch.rf
  have hl := lv_entry ([.ref x, .int pp]) (n := 2) (Nat.le_of_ble_eq_true rfl)
  rw [lg_entry_eq]
  generalize (lg_sl ([.ref x, .int pp]) ++ List.replicate (2 - (lg_sl ([.ref x, .int pp])).length) Slot.unset).toArray = ls at hl ⊢
  have hl : lv_has ls 2 [(0, .ref x), (1, .int pp)] := hl
  refine lv_iload_n hx hb d_S_requirePage_0 rfl (lv_at hl 1 rfl) ?_
  refine lv_if_lt (tgt := 12) hx hb d_S_requirePage_1 rfl (fun q1 => ?_) (fun q1 => ?_)
  · skip
    exact th_S hx hb hl0 hown hts hlocks hno hP hK hD hz hM hS (hl.1.trans hml.symm) (site_172_174_176) d_S_requirePage_12 d_S_requirePage_15 d_S_requirePage_16 d_S_requirePage_18 d_S_requirePage_21 (Nat.le_of_ble_eq_true rfl) (Nat.le_of_ble_eq_true rfl) (Nat.le_of_ble_eq_true rfl) (Nat.le_of_ble_eq_true rfl) (Nat.le_of_ble_eq_true rfl) (Nat.le_of_ble_eq_true rfl)
  · skip
    refine lv_iload_n hx hb d_S_requirePage_4 rfl (lv_at hl 1 rfl) ?_
    refine lv_aload_n hx hb d_S_requirePage_5 rfl (lv_at hl 0 rfl) ?_
    refine va_get (D := D) (ci := 5) (v := .int 0) (C := R_S) (T := F_S) (N := 10) hx hb hts ws_S hown hK hP 0 e0 rfl 8 (by decide) (hts _ fl_S_51) (fun _ h9 => h9) rfl d_S_requirePage_6 ?_
    refine lv_icmp_lt (tgt := 22) hx hb d_S_requirePage_9 rfl (fun h => absurd h (fun h8 => q1 h8)) (fun _ => ?_)
    exact th_S hx hb hl0 hown hts hlocks hno hP hK hD hz hM hS (hl.1.trans hml.symm) (site_172_174_176) d_S_requirePage_12 d_S_requirePage_15 d_S_requirePage_16 d_S_requirePage_18 d_S_requirePage_21 (Nat.le_of_ble_eq_true rfl) (Nat.le_of_ble_eq_true rfl) (Nat.le_of_ble_eq_true rfl) (Nat.le_of_ble_eq_true rfl) (Nat.le_of_ble_eq_true rfl) (Nat.le_of_ble_eq_true rfl)
set_option maxHeartbeats 4000000 in
set_option maxRecDepth 100000 in
theorem c_S_requireByte_t {l : Launch} {D : va_G} {t : Nat → ClassId} {z : Nat} {sa : Nat → Nat} {ws : va_W} {x xf xj xl xu xr : Nat} {op mk la pp at9 : Int32} (hl0 : l.stackTraces = false) (e0 : ws[0]? = some (x, .inr (5, [.ref xf, .ref xj, .ref xl, .ref xu, .ref xr, .int 1, .int op, .int mk, .int 0, .int la])))  : vx_Met l y_S_requireByte (Cond.code y_S_requireByte b_S_requireByte 3 (.none : Option Jvm.ClassFile.FieldType) :: WS) ({ frames := 7, cells := 1, slots := 6, locals := 103 }) (Pz D t z sa ws [.ref x, .int pp, .int at9]) Qno (Xw D t z xIOB ws) 1 6 (Az z) := by
  refine vx_ofW (cc := b_S_requireByte) (maxL := 3) (ret := (.none : Option Jvm.ClassFile.FieldType)) (by decide) rfl ?_
  intro p e s m args below meth c s₁ B hml hno hv
  obtain ⟨rfl, ⟨hP, hK, hD, hz⟩, hM⟩ := hv
  have hx := B.exec
  have hb := B.bytes
  have hr := B.returns
  have hts : ∀ w ∈ WS, w.before [.ref x, .int pp, .int at9].toArray s = true := fun w h => atoms_spec B.pre w (List.mem_cons_of_mem _ h)
  have hown : s.vm.findClass R_S = some m.cls := findClass_of_methodNamed B.named
  have hlocks := B.notSynchronized
  have hA : ∀ q, s.heap.size ≤ q → Az z q := fun q h => Nat.le_trans hz h
  have hS : va_S (Az z) s.heap s.heap [] := va_S.rf
  have hC : Ch ws ws [] := Ch.rf
  have hl := lv_entry ([.ref x, .int pp, .int at9]) (n := 3) (Nat.le_of_ble_eq_true rfl)
  rw [lg_entry_eq]
  generalize (lg_sl ([.ref x, .int pp, .int at9]) ++ List.replicate (3 - (lg_sl ([.ref x, .int pp, .int at9])).length) Slot.unset).toArray = ls at hl ⊢
  have hl : lv_has ls 3 [(0, .ref x), (1, .int pp), (2, .int at9)] := hl
  refine lv_aload_n hx hb d_S_requireByte_0 rfl (lv_at hl 0 rfl) ?_
  refine lv_iload_n hx hb d_S_requireByte_1 rfl (lv_at hl 1 rfl) ?_
  exact thru (g := F0 m 2 ls []) (vx_runV (As := [.int pp]) (rest := []) ⟨hx, hb, hml, hown, hts⟩ (c_S_requirePage_t (D := D) (t := t) (z := z) (sa := sa) (ws := ws) (pp := pp) hl0 e0) (cwV 1 hts (gd_V ml_S_91 im_S_requirePage se_S_requirePage in_S cd_S_requirePage) rfl rfl rfl (by decide +kernel) ⟨Nat.le_of_ble_eq_true rfl, Nat.le_of_ble_eq_true rfl⟩) ⟨Pz_blind, va_recv hK hP (ci := 5) rfl e0, Pz_at hP hK hD hz hM hS⟩ rfl rfl hl.1 rfl (lv_room (Nat.le_of_ble_eq_true rfl)) d_S_requireByte_2 ⟨Nat.le_of_ble_eq_true rfl, Nat.le_of_ble_eq_true rfl⟩) hno (fun _ _ _ h => h) hlocks hS (Nat.le_of_ble_eq_true rfl) (Nat.le_of_ble_eq_true rfl)
