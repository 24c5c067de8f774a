theorem ra_obj {s : State} {C : String} {c1 c2 : ClassId} (h1 : va_RA s c1 (.object C)) (h2 : va_RA s c2 (.object C)) : c1 = c2 := by
  obtain ⟨_, _, -, -, -, h1⟩ := h1
  obtain ⟨_, _, -, -, -, h2⟩ := h2
  exact Option.some.inj (h1.symm.trans h2)
set_option maxHeartbeats 4000000 in
set_option maxRecDepth 100000 in
theorem c_K_init_2 {l : Launch} {D : va_G} {t : Nat → ClassId} {z : Nat} {sa : Nat → Nat} {ws : va_W} {k : Nat} (hn : ws.length = 3) (e2 : ws[2]? = some (k, .inr (1, [.null])))  : Met l y_K_init (Cond.code y_K_init b_K_init 2 (.none : Option Jvm.ClassFile.FieldType) :: WS) ({ frames := 1, cells := 1, slots := 768, locals := 12 }) (Pz D t z sa ws [.ref k, .int 768]) (va_Qv (fun u : va_W => ∃ a9 : Nat, Ch ws u [2] ∧ u.length = 4 ∧ u[2]? = some (k, .inr (1, [.ref a9])) ∧ u[3]? = some (a9, .inl (t 2, 768, .inr (.inr (.inr (.inr (fun _ => none))))))) (fun u U => Wd D t z u U) (Az z)) 1 768 (Az z) := by
  refine Met.ofW (cc := b_K_init) (maxL := 2) (ret := (.none : Option Jvm.ClassFile.FieldType)) (by decide) rfl ?_
  intro p e s m args below meth c s₁ B hml hv
  obtain ⟨rfl, ⟨hP, hK, hD, hz⟩, hM⟩ := hv
  have hx := B.exec
  have hb := B.bytes
  have hr := B.returns
  have hts : ∀ w ∈ WS, w.before [.ref k, .int 768].toArray s = true := fun w h => atoms_spec B.pre w (List.mem_cons_of_mem _ h)
  have hown : s.vm.findClass R_K = some m.cls := findClass_of_methodNamed B.named
  have hlocks := B.notSynchronized
  have hin : meth.name = "<init>" := (name_of_methodNamed B.named B.method).1
  have hA : ∀ q, s.heap.size ≤ q → Az z q := fun q h => Nat.le_trans hz h
  have hS : va_S (Az z) s.heap s.heap [] := va_S.rf
  have hC : Ch ws ws [] := Ch.rf
  have hl := lv_entry ([.ref k, .int 768]) (n := 2) (Nat.le_of_ble_eq_true rfl)
  rw [lg_entry_eq]
  generalize (lg_sl ([.ref k, .int 768]) ++ List.replicate (2 - (lg_sl ([.ref k, .int 768])).length) Slot.unset).toArray = ls at hl ⊢
  have hl : lv_has ls 2 [(0, .ref k), (1, .int 768)] := hl
  refine lv_aload_n hx hb d_K_init_0 rfl (lv_at hl 0 rfl) ?_
  refine W.objInit hx hb hown (hts _ ml_K_1) (hts _ oi_im) (hts _ oi_cd) rfl (by rw [hml]; exact hl.1) rfl d_K_init_1 (Nat.le_of_ble_eq_true rfl) (Nat.le_of_ble_eq_true rfl) ?_
  refine W.eq (g2 := F0 m 4 ls []) rfl ?_
  refine lv_aload_n hx hb d_K_init_4 rfl (lv_at hl 0 rfl) ?_
  refine lv_iload_n hx hb d_K_init_5 rfl (lv_at hl 1 rfl) ?_
  refine va_newq (D := D) hx hb hown (hts _ cl_K_7) hM.2.2.2.2.1 hK hP hD hS hA (N' := 768) (by decide) (by decide) (by decide) (Nat.le_of_ble_eq_true rfl) (Nat.le_of_ble_eq_true rfl) d_K_init_6 (fun q1 cA H hK2 hP hD hS => ?_)
  have hcA : cA = t 2 := ra_obj (hK2.2 6 (cA, .object "PageStore$Block") rfl).2 (hK.2 2 (t 2, .object "PageStore$Block") rfl).2
  rw [hcA] at hP hD
  clear hK2 hcA
  obtain ⟨w2, hw⟩ : ∃ q, q = ws ++ [(q1, .inl (t 2, 768, .inr (.inr (.inr (.inr (fun _ => none))))))] := ⟨_, rfl⟩
  have hP : va_P D Cl (ws ++ [(q1, .inl (t 2, 768, .inr (.inr (.inr (.inr (fun _ => none))))))]) H := hP
  have hD : va_D (Az z) (ws ++ [(q1, .inl (t 2, 768, .inr (.inr (.inr (.inr (fun _ => none))))))]) := hD
  rw [← hw] at hP hD
  have hC := hC.push (c := [(q1, .inl (t 2, 768, .inr (.inr (.inr (.inr (fun _ => none))))))])
  rw [← hw] at hC
  have e2 : w2[2]? = some (k, .inr (1, [.null])) := by rw [hw]; exact lk_push e2
  have e3 : w2[3]? = some (q1, .inl (t 2, 768, .inr (.inr (.inr (.inr (fun _ => none)))))) := by rw [hw]; exact lk_new hn
  have hn : w2.length = 4 := by rw [hw, List.length_append, hn]; rfl
  clear hw
  refine va_putF (D := D) (ci := 1) (v := .ref q1) (ty := (.array (.object "PageStore$Block"))) (C := R_K) (T := F_K) (N := 1) hx hb hts ws_K t_K ok_K n_K hown hK hP hD hS 2 e2 rfl 0 (by decide) (hts _ fl_K_9) (fun _ h9 => h9) rfl hin rfl (by decide +kernel) rfl rfl (Nat.le_of_ble_eq_true rfl) d_K_init_9 (fun H locs hP hD hS => ?_)
  obtain ⟨w3, hw⟩ : ∃ q, q = w2.set 2 (k, .inr (1, [.ref q1])) := ⟨_, rfl⟩
  have hP : va_P D Cl (w2.set 2 (k, .inr (1, [.ref q1]))) H := hP
  have hD : va_D (Az z) (w2.set 2 (k, .inr (1, [.ref q1]))) := hD
  rw [← hw] at hP hD
  have hC := hC.put (p := 2) (c := (k, .inr (1, [.ref q1])))
  rw [← hw] at hC
  have e2 : w3[2]? = some (k, .inr (1, [.ref q1])) := by rw [hw]; exact lk_set e2
  have e3 : w3[3]? = some (q1, .inl (t 2, 768, .inr (.inr (.inr (.inr (fun _ => none)))))) := by rw [hw]; exact lk_ne e3 (by decide)
  have hn : w3.length = 4 := by rw [hw, List.length_set]; exact hn
  clear hw
  exact W.vret hx hb hr (fun t9 ht hW => ⟨⟨w3, rfl, ⟨q1, hC.sub (by decide), hn, e2, e3⟩, ⟨by rw [ht]; exact hP, va_K.moved hW.alike hK, hD, by rw [ht]; exact Nat.le_trans hz hS.1⟩⟩, hS.F ht⟩) hS.2.2 d_K_init_12
set_option maxHeartbeats 4000000 in
set_option maxRecDepth 100000 in
theorem c_K_init_5 {l : Launch} {D : va_G} {t : Nat → ClassId} {z : Nat} {sa : Nat → Nat} {ws : va_W} {k : Nat} (hn : ws.length = 6) (e5 : ws[5]? = some (k, .inr (1, [.null])))  : Met l y_K_init (Cond.code y_K_init b_K_init 2 (.none : Option Jvm.ClassFile.FieldType) :: WS) ({ frames := 1, cells := 1, slots := 781, locals := 12 }) (Pz D t z sa ws [.ref k, .int 781]) (va_Qv (fun u : va_W => ∃ a9 : Nat, Ch ws u [5] ∧ u.length = 7 ∧ u[5]? = some (k, .inr (1, [.ref a9])) ∧ u[6]? = some (a9, .inl (t 2, 781, .inr (.inr (.inr (.inr (fun _ => none))))))) (fun u U => Wd D t z u U) (Az z)) 1 781 (Az z) := by
  refine Met.ofW (cc := b_K_init) (maxL := 2) (ret := (.none : Option Jvm.ClassFile.FieldType)) (by decide) rfl ?_
  intro p e s m args below meth c s₁ B hml hv
  obtain ⟨rfl, ⟨hP, hK, hD, hz⟩, hM⟩ := hv
  have hx := B.exec
  have hb := B.bytes
  have hr := B.returns
  have hts : ∀ w ∈ WS, w.before [.ref k, .int 781].toArray s = true := fun w h => atoms_spec B.pre w (List.mem_cons_of_mem _ h)
  have hown : s.vm.findClass R_K = some m.cls := findClass_of_methodNamed B.named
  have hlocks := B.notSynchronized
  have hin : meth.name = "<init>" := (name_of_methodNamed B.named B.method).1
  have hA : ∀ q, s.heap.size ≤ q → Az z q := fun q h => Nat.le_trans hz h
  have hS : va_S (Az z) s.heap s.heap [] := va_S.rf
  have hC : Ch ws ws [] := Ch.rf
  have hl := lv_entry ([.ref k, .int 781]) (n := 2) (Nat.le_of_ble_eq_true rfl)
  rw [lg_entry_eq]
  generalize (lg_sl ([.ref k, .int 781]) ++ List.replicate (2 - (lg_sl ([.ref k, .int 781])).length) Slot.unset).toArray = ls at hl ⊢
  have hl : lv_has ls 2 [(0, .ref k), (1, .int 781)] := hl
  refine lv_aload_n hx hb d_K_init_0 rfl (lv_at hl 0 rfl) ?_
  refine W.objInit hx hb hown (hts _ ml_K_1) (hts _ oi_im) (hts _ oi_cd) rfl (by rw [hml]; exact hl.1) rfl d_K_init_1 (Nat.le_of_ble_eq_true rfl) (Nat.le_of_ble_eq_true rfl) ?_
  refine W.eq (g2 := F0 m 4 ls []) rfl ?_
  refine lv_aload_n hx hb d_K_init_4 rfl (lv_at hl 0 rfl) ?_
  refine lv_iload_n hx hb d_K_init_5 rfl (lv_at hl 1 rfl) ?_
  refine va_newq (D := D) hx hb hown (hts _ cl_K_7) hM.2.2.2.2.1 hK hP hD hS hA (N' := 781) (by decide) (by decide) (by decide) (Nat.le_of_ble_eq_true rfl) (Nat.le_of_ble_eq_true rfl) d_K_init_6 (fun q1 cA H hK2 hP hD hS => ?_)
  have hcA : cA = t 2 := ra_obj (hK2.2 6 (cA, .object "PageStore$Block") rfl).2 (hK.2 2 (t 2, .object "PageStore$Block") rfl).2
  rw [hcA] at hP hD
  clear hK2 hcA
  obtain ⟨w2, hw⟩ : ∃ q, q = ws ++ [(q1, .inl (t 2, 781, .inr (.inr (.inr (.inr (fun _ => none))))))] := ⟨_, rfl⟩
  have hP : va_P D Cl (ws ++ [(q1, .inl (t 2, 781, .inr (.inr (.inr (.inr (fun _ => none))))))]) H := hP
  have hD : va_D (Az z) (ws ++ [(q1, .inl (t 2, 781, .inr (.inr (.inr (.inr (fun _ => none))))))]) := hD
  rw [← hw] at hP hD
  have hC := hC.push (c := [(q1, .inl (t 2, 781, .inr (.inr (.inr (.inr (fun _ => none))))))])
  rw [← hw] at hC
  have e5 : w2[5]? = some (k, .inr (1, [.null])) := by rw [hw]; exact lk_push e5
  have e6 : w2[6]? = some (q1, .inl (t 2, 781, .inr (.inr (.inr (.inr (fun _ => none)))))) := by rw [hw]; exact lk_new hn
  have hn : w2.length = 7 := by rw [hw, List.length_append, hn]; rfl
  clear hw
  refine va_putF (D := D) (ci := 1) (v := .ref q1) (ty := (.array (.object "PageStore$Block"))) (C := R_K) (T := F_K) (N := 1) hx hb hts ws_K t_K ok_K n_K hown hK hP hD hS 5 e5 rfl 0 (by decide) (hts _ fl_K_9) (fun _ h9 => h9) rfl hin rfl (by decide +kernel) rfl rfl (Nat.le_of_ble_eq_true rfl) d_K_init_9 (fun H locs hP hD hS => ?_)
  obtain ⟨w3, hw⟩ : ∃ q, q = w2.set 5 (k, .inr (1, [.ref q1])) := ⟨_, rfl⟩
  have hP : va_P D Cl (w2.set 5 (k, .inr (1, [.ref q1]))) H := hP
  have hD : va_D (Az z) (w2.set 5 (k, .inr (1, [.ref q1]))) := hD
  rw [← hw] at hP hD
  have hC := hC.put (p := 5) (c := (k, .inr (1, [.ref q1])))
  rw [← hw] at hC
  have e5 : w3[5]? = some (k, .inr (1, [.ref q1])) := by rw [hw]; exact lk_set e5
  have e6 : w3[6]? = some (q1, .inl (t 2, 781, .inr (.inr (.inr (.inr (fun _ => none)))))) := by rw [hw]; exact lk_ne e6 (by decide)
  have hn : w3.length = 7 := by rw [hw, List.length_set]; exact hn
  clear hw
  exact W.vret hx hb hr (fun t9 ht hW => ⟨⟨w3, rfl, ⟨q1, hC.sub (by decide), hn, e5, e6⟩, ⟨by rw [ht]; exact hP, va_K.moved hW.alike hK, hD, by rw [ht]; exact Nat.le_trans hz hS.1⟩⟩, hS.F ht⟩) hS.2.2 d_K_init_12
set_option maxHeartbeats 4000000 in
set_option maxRecDepth 100000 in
theorem c_K_init_11 {l : Launch} {D : va_G} {t : Nat → ClassId} {z : Nat} {sa : Nat → Nat} {ws : va_W} {k : Nat} (hn : ws.length = 12) (e11 : ws[11]? = some (k, .inr (1, [.null])))  : Met l y_K_init (Cond.code y_K_init b_K_init 2 (.none : Option Jvm.ClassFile.FieldType) :: WS) ({ frames := 1, cells := 1, slots := 768, locals := 12 }) (Pz D t z sa ws [.ref k, .int 768]) (va_Qv (fun u : va_W => ∃ a9 : Nat, Ch ws u [11] ∧ u.length = 13 ∧ u[11]? = some (k, .inr (1, [.ref a9])) ∧ u[12]? = some (a9, .inl (t 2, 768, .inr (.inr (.inr (.inr (fun _ => none))))))) (fun u U => Wd D t z u U) (Az z)) 1 768 (Az z) := by
  refine Met.ofW (cc := b_K_init) (maxL := 2) (ret := (.none : Option Jvm.ClassFile.FieldType)) (by decide) rfl ?_
  intro p e s m args below meth c s₁ B hml hv
  obtain ⟨rfl, ⟨hP, hK, hD, hz⟩, hM⟩ := hv
  have hx := B.exec
  have hb := B.bytes
  have hr := B.returns
  have hts : ∀ w ∈ WS, w.before [.ref k, .int 768].toArray s = true := fun w h => atoms_spec B.pre w (List.mem_cons_of_mem _ h)
  have hown : s.vm.findClass R_K = some m.cls := findClass_of_methodNamed B.named
  have hlocks := B.notSynchronized
  have hin : meth.name = "<init>" := (name_of_methodNamed B.named B.method).1
  have hA : ∀ q, s.heap.size ≤ q → Az z q := fun q h => Nat.le_trans hz h
  have hS : va_S (Az z) s.heap s.heap [] := va_S.rf
  have hC : Ch ws ws [] := Ch.rf
  have hl := lv_entry ([.ref k, .int 768]) (n := 2) (Nat.le_of_ble_eq_true rfl)
  rw [lg_entry_eq]
  generalize (lg_sl ([.ref k, .int 768]) ++ List.replicate (2 - (lg_sl ([.ref k, .int 768])).length) Slot.unset).toArray = ls at hl ⊢
  have hl : lv_has ls 2 [(0, .ref k), (1, .int 768)] := hl
  refine lv_aload_n hx hb d_K_init_0 rfl (lv_at hl 0 rfl) ?_
  refine W.objInit hx hb hown (hts _ ml_K_1) (hts _ oi_im) (hts _ oi_cd) rfl (by rw [hml]; exact hl.1) rfl d_K_init_1 (Nat.le_of_ble_eq_true rfl) (Nat.le_of_ble_eq_true rfl) ?_
  refine W.eq (g2 := F0 m 4 ls []) rfl ?_
  refine lv_aload_n hx hb d_K_init_4 rfl (lv_at hl 0 rfl) ?_
  refine lv_iload_n hx hb d_K_init_5 rfl (lv_at hl 1 rfl) ?_
  refine va_newq (D := D) hx hb hown (hts _ cl_K_7) hM.2.2.2.2.1 hK hP hD hS hA (N' := 768) (by decide) (by decide) (by decide) (Nat.le_of_ble_eq_true rfl) (Nat.le_of_ble_eq_true rfl) d_K_init_6 (fun q1 cA H hK2 hP hD hS => ?_)
  have hcA : cA = t 2 := ra_obj (hK2.2 6 (cA, .object "PageStore$Block") rfl).2 (hK.2 2 (t 2, .object "PageStore$Block") rfl).2
  rw [hcA] at hP hD
  clear hK2 hcA
  obtain ⟨w2, hw⟩ : ∃ q, q = ws ++ [(q1, .inl (t 2, 768, .inr (.inr (.inr (.inr (fun _ => none))))))] := ⟨_, rfl⟩
  have hP : va_P D Cl (ws ++ [(q1, .inl (t 2, 768, .inr (.inr (.inr (.inr (fun _ => none))))))]) H := hP
  have hD : va_D (Az z) (ws ++ [(q1, .inl (t 2, 768, .inr (.inr (.inr (.inr (fun _ => none))))))]) := hD
  rw [← hw] at hP hD
  have hC := hC.push (c := [(q1, .inl (t 2, 768, .inr (.inr (.inr (.inr (fun _ => none))))))])
  rw [← hw] at hC
  have e11 : w2[11]? = some (k, .inr (1, [.null])) := by rw [hw]; exact lk_push e11
  have e12 : w2[12]? = some (q1, .inl (t 2, 768, .inr (.inr (.inr (.inr (fun _ => none)))))) := by rw [hw]; exact lk_new hn
  have hn : w2.length = 13 := by rw [hw, List.length_append, hn]; rfl
  clear hw
  refine va_putF (D := D) (ci := 1) (v := .ref q1) (ty := (.array (.object "PageStore$Block"))) (C := R_K) (T := F_K) (N := 1) hx hb hts ws_K t_K ok_K n_K hown hK hP hD hS 11 e11 rfl 0 (by decide) (hts _ fl_K_9) (fun _ h9 => h9) rfl hin rfl (by decide +kernel) rfl rfl (Nat.le_of_ble_eq_true rfl) d_K_init_9 (fun H locs hP hD hS => ?_)
  obtain ⟨w3, hw⟩ : ∃ q, q = w2.set 11 (k, .inr (1, [.ref q1])) := ⟨_, rfl⟩
  have hP : va_P D Cl (w2.set 11 (k, .inr (1, [.ref q1]))) H := hP
  have hD : va_D (Az z) (w2.set 11 (k, .inr (1, [.ref q1]))) := hD
  rw [← hw] at hP hD
  have hC := hC.put (p := 11) (c := (k, .inr (1, [.ref q1])))
  rw [← hw] at hC
  have e11 : w3[11]? = some (k, .inr (1, [.ref q1])) := by rw [hw]; exact lk_set e11
  have e12 : w3[12]? = some (q1, .inl (t 2, 768, .inr (.inr (.inr (.inr (fun _ => none)))))) := by rw [hw]; exact lk_ne e12 (by decide)
  have hn : w3.length = 13 := by rw [hw, List.length_set]; exact hn
  clear hw
  exact W.vret hx hb hr (fun t9 ht hW => ⟨⟨w3, rfl, ⟨q1, hC.sub (by decide), hn, e11, e12⟩, ⟨by rw [ht]; exact hP, va_K.moved hW.alike hK, hD, by rw [ht]; exact Nat.le_trans hz hS.1⟩⟩, hS.F ht⟩) hS.2.2 d_K_init_12
set_option maxHeartbeats 4000000 in
set_option maxRecDepth 100000 in
theorem c_K_init_15 {l : Launch} {D : va_G} {t : Nat → ClassId} {z : Nat} {sa : Nat → Nat} {ws : va_W} {k : Nat} (hn : ws.length = 16) (e15 : ws[15]? = some (k, .inr (1, [.null])))  : Met l y_K_init (Cond.code y_K_init b_K_init 2 (.none : Option Jvm.ClassFile.FieldType) :: WS) ({ frames := 1, cells := 1, slots := 768, locals := 12 }) (Pz D t z sa ws [.ref k, .int 768]) (va_Qv (fun u : va_W => ∃ a9 : Nat, Ch ws u [15] ∧ u.length = 17 ∧ u[15]? = some (k, .inr (1, [.ref a9])) ∧ u[16]? = some (a9, .inl (t 2, 768, .inr (.inr (.inr (.inr (fun _ => none))))))) (fun u U => Wd D t z u U) (Az z)) 1 768 (Az z) := by
  refine Met.ofW (cc := b_K_init) (maxL := 2) (ret := (.none : Option Jvm.ClassFile.FieldType)) (by decide) rfl ?_
  intro p e s m args below meth c s₁ B hml hv
  obtain ⟨rfl, ⟨hP, hK, hD, hz⟩, hM⟩ := hv
  have hx := B.exec
  have hb := B.bytes
  have hr := B.returns
  have hts : ∀ w ∈ WS, w.before [.ref k, .int 768].toArray s = true := fun w h => atoms_spec B.pre w (List.mem_cons_of_mem _ h)
  have hown : s.vm.findClass R_K = some m.cls := findClass_of_methodNamed B.named
  have hlocks := B.notSynchronized
  have hin : meth.name = "<init>" := (name_of_methodNamed B.named B.method).1
  have hA : ∀ q, s.heap.size ≤ q → Az z q := fun q h => Nat.le_trans hz h
  have hS : va_S (Az z) s.heap s.heap [] := va_S.rf
  have hC : Ch ws ws [] := Ch.rf
  have hl := lv_entry ([.ref k, .int 768]) (n := 2) (Nat.le_of_ble_eq_true rfl)
  rw [lg_entry_eq]
  generalize (lg_sl ([.ref k, .int 768]) ++ List.replicate (2 - (lg_sl ([.ref k, .int 768])).length) Slot.unset).toArray = ls at hl ⊢
  have hl : lv_has ls 2 [(0, .ref k), (1, .int 768)] := hl
  refine lv_aload_n hx hb d_K_init_0 rfl (lv_at hl 0 rfl) ?_
  refine W.objInit hx hb hown (hts _ ml_K_1) (hts _ oi_im) (hts _ oi_cd) rfl (by rw [hml]; exact hl.1) rfl d_K_init_1 (Nat.le_of_ble_eq_true rfl) (Nat.le_of_ble_eq_true rfl) ?_
  refine W.eq (g2 := F0 m 4 ls []) rfl ?_
  refine lv_aload_n hx hb d_K_init_4 rfl (lv_at hl 0 rfl) ?_
  refine lv_iload_n hx hb d_K_init_5 rfl (lv_at hl 1 rfl) ?_
  refine va_newq (D := D) hx hb hown (hts _ cl_K_7) hM.2.2.2.2.1 hK hP hD hS hA (N' := 768) (by decide) (by decide) (by decide) (Nat.le_of_ble_eq_true rfl) (Nat.le_of_ble_eq_true rfl) d_K_init_6 (fun q1 cA H hK2 hP hD hS => ?_)
  have hcA : cA = t 2 := ra_obj (hK2.2 6 (cA, .object "PageStore$Block") rfl).2 (hK.2 2 (t 2, .object "PageStore$Block") rfl).2
  rw [hcA] at hP hD
  clear hK2 hcA
  obtain ⟨w2, hw⟩ : ∃ q, q = ws ++ [(q1, .inl (t 2, 768, .inr (.inr (.inr (.inr (fun _ => none))))))] := ⟨_, rfl⟩
  have hP : va_P D Cl (ws ++ [(q1, .inl (t 2, 768, .inr (.inr (.inr (.inr (fun _ => none))))))]) H := hP
  have hD : va_D (Az z) (ws ++ [(q1, .inl (t 2, 768, .inr (.inr (.inr (.inr (fun _ => none))))))]) := hD
  rw [← hw] at hP hD
  have hC := hC.push (c := [(q1, .inl (t 2, 768, .inr (.inr (.inr (.inr (fun _ => none))))))])
  rw [← hw] at hC
  have e15 : w2[15]? = some (k, .inr (1, [.null])) := by rw [hw]; exact lk_push e15
  have e16 : w2[16]? = some (q1, .inl (t 2, 768, .inr (.inr (.inr (.inr (fun _ => none)))))) := by rw [hw]; exact lk_new hn
  have hn : w2.length = 17 := by rw [hw, List.length_append, hn]; rfl
  clear hw
  refine va_putF (D := D) (ci := 1) (v := .ref q1) (ty := (.array (.object "PageStore$Block"))) (C := R_K) (T := F_K) (N := 1) hx hb hts ws_K t_K ok_K n_K hown hK hP hD hS 15 e15 rfl 0 (by decide) (hts _ fl_K_9) (fun _ h9 => h9) rfl hin rfl (by decide +kernel) rfl rfl (Nat.le_of_ble_eq_true rfl) d_K_init_9 (fun H locs hP hD hS => ?_)
  obtain ⟨w3, hw⟩ : ∃ q, q = w2.set 15 (k, .inr (1, [.ref q1])) := ⟨_, rfl⟩
  have hP : va_P D Cl (w2.set 15 (k, .inr (1, [.ref q1]))) H := hP
  have hD : va_D (Az z) (w2.set 15 (k, .inr (1, [.ref q1]))) := hD
  rw [← hw] at hP hD
  have hC := hC.put (p := 15) (c := (k, .inr (1, [.ref q1])))
  rw [← hw] at hC
  have e15 : w3[15]? = some (k, .inr (1, [.ref q1])) := by rw [hw]; exact lk_set e15
  have e16 : w3[16]? = some (q1, .inl (t 2, 768, .inr (.inr (.inr (.inr (fun _ => none)))))) := by rw [hw]; exact lk_ne e16 (by decide)
  have hn : w3.length = 17 := by rw [hw, List.length_set]; exact hn
  clear hw
  exact W.vret hx hb hr (fun t9 ht hW => ⟨⟨w3, rfl, ⟨q1, hC.sub (by decide), hn, e15, e16⟩, ⟨by rw [ht]; exact hP, va_K.moved hW.alike hK, hD, by rw [ht]; exact Nat.le_trans hz hS.1⟩⟩, hS.F ht⟩) hS.2.2 d_K_init_12
set_option maxHeartbeats 4000000 in
set_option maxRecDepth 100000 in
theorem c_K_init_19 {l : Launch} {D : va_G} {t : Nat → ClassId} {z : Nat} {sa : Nat → Nat} {ws : va_W} {k : Nat} (hn : ws.length = 20) (e19 : ws[19]? = some (k, .inr (1, [.null])))  : Met l y_K_init (Cond.code y_K_init b_K_init 2 (.none : Option Jvm.ClassFile.FieldType) :: WS) ({ frames := 1, cells := 1, slots := 768, locals := 12 }) (Pz D t z sa ws [.ref k, .int 768]) (va_Qv (fun u : va_W => ∃ a9 : Nat, Ch ws u [19] ∧ u.length = 21 ∧ u[19]? = some (k, .inr (1, [.ref a9])) ∧ u[20]? = some (a9, .inl (t 2, 768, .inr (.inr (.inr (.inr (fun _ => none))))))) (fun u U => Wd D t z u U) (Az z)) 1 768 (Az z) := by
  refine Met.ofW (cc := b_K_init) (maxL := 2) (ret := (.none : Option Jvm.ClassFile.FieldType)) (by decide) rfl ?_
  intro p e s m args below meth c s₁ B hml hv
  obtain ⟨rfl, ⟨hP, hK, hD, hz⟩, hM⟩ := hv
  have hx := B.exec
  have hb := B.bytes
  have hr := B.returns
  have hts : ∀ w ∈ WS, w.before [.ref k, .int 768].toArray s = true := fun w h => atoms_spec B.pre w (List.mem_cons_of_mem _ h)
  have hown : s.vm.findClass R_K = some m.cls := findClass_of_methodNamed B.named
  have hlocks := B.notSynchronized
  have hin : meth.name = "<init>" := (name_of_methodNamed B.named B.method).1
  have hA : ∀ q, s.heap.size ≤ q → Az z q := fun q h => Nat.le_trans hz h
  have hS : va_S (Az z) s.heap s.heap [] := va_S.rf
  have hC : Ch ws ws [] := Ch.rf
  have hl := lv_entry ([.ref k, .int 768]) (n := 2) (Nat.le_of_ble_eq_true rfl)
  rw [lg_entry_eq]
  generalize (lg_sl ([.ref k, .int 768]) ++ List.replicate (2 - (lg_sl ([.ref k, .int 768])).length) Slot.unset).toArray = ls at hl ⊢
  have hl : lv_has ls 2 [(0, .ref k), (1, .int 768)] := hl
  refine lv_aload_n hx hb d_K_init_0 rfl (lv_at hl 0 rfl) ?_
  refine W.objInit hx hb hown (hts _ ml_K_1) (hts _ oi_im) (hts _ oi_cd) rfl (by rw [hml]; exact hl.1) rfl d_K_init_1 (Nat.le_of_ble_eq_true rfl) (Nat.le_of_ble_eq_true rfl) ?_
  refine W.eq (g2 := F0 m 4 ls []) rfl ?_
  refine lv_aload_n hx hb d_K_init_4 rfl (lv_at hl 0 rfl) ?_
  refine lv_iload_n hx hb d_K_init_5 rfl (lv_at hl 1 rfl) ?_
  refine va_newq (D := D) hx hb hown (hts _ cl_K_7) hM.2.2.2.2.1 hK hP hD hS hA (N' := 768) (by decide) (by decide) (by decide) (Nat.le_of_ble_eq_true rfl) (Nat.le_of_ble_eq_true rfl) d_K_init_6 (fun q1 cA H hK2 hP hD hS => ?_)
  have hcA : cA = t 2 := ra_obj (hK2.2 6 (cA, .object "PageStore$Block") rfl).2 (hK.2 2 (t 2, .object "PageStore$Block") rfl).2
  rw [hcA] at hP hD
  clear hK2 hcA
  obtain ⟨w2, hw⟩ : ∃ q, q = ws ++ [(q1, .inl (t 2, 768, .inr (.inr (.inr (.inr (fun _ => none))))))] := ⟨_, rfl⟩
  have hP : va_P D Cl (ws ++ [(q1, .inl (t 2, 768, .inr (.inr (.inr (.inr (fun _ => none))))))]) H := hP
  have hD : va_D (Az z) (ws ++ [(q1, .inl (t 2, 768, .inr (.inr (.inr (.inr (fun _ => none))))))]) := hD
  rw [← hw] at hP hD
  have hC := hC.push (c := [(q1, .inl (t 2, 768, .inr (.inr (.inr (.inr (fun _ => none))))))])
  rw [← hw] at hC
  have e19 : w2[19]? = some (k, .inr (1, [.null])) := by rw [hw]; exact lk_push e19
  have e20 : w2[20]? = some (q1, .inl (t 2, 768, .inr (.inr (.inr (.inr (fun _ => none)))))) := by rw [hw]; exact lk_new hn
  have hn : w2.length = 21 := by rw [hw, List.length_append, hn]; rfl
  clear hw
  refine va_putF (D := D) (ci := 1) (v := .ref q1) (ty := (.array (.object "PageStore$Block"))) (C := R_K) (T := F_K) (N := 1) hx hb hts ws_K t_K ok_K n_K hown hK hP hD hS 19 e19 rfl 0 (by decide) (hts _ fl_K_9) (fun _ h9 => h9) rfl hin rfl (by decide +kernel) rfl rfl (Nat.le_of_ble_eq_true rfl) d_K_init_9 (fun H locs hP hD hS => ?_)
  obtain ⟨w3, hw⟩ : ∃ q, q = w2.set 19 (k, .inr (1, [.ref q1])) := ⟨_, rfl⟩
  have hP : va_P D Cl (w2.set 19 (k, .inr (1, [.ref q1]))) H := hP
  have hD : va_D (Az z) (w2.set 19 (k, .inr (1, [.ref q1]))) := hD
  rw [← hw] at hP hD
  have hC := hC.put (p := 19) (c := (k, .inr (1, [.ref q1])))
  rw [← hw] at hC
  have e19 : w3[19]? = some (k, .inr (1, [.ref q1])) := by rw [hw]; exact lk_set e19
  have e20 : w3[20]? = some (q1, .inl (t 2, 768, .inr (.inr (.inr (.inr (fun _ => none)))))) := by rw [hw]; exact lk_ne e20 (by decide)
  have hn : w3.length = 21 := by rw [hw, List.length_set]; exact hn
  clear hw
  exact W.vret hx hb hr (fun t9 ht hW => ⟨⟨w3, rfl, ⟨q1, hC.sub (by decide), hn, e19, e20⟩, ⟨by rw [ht]; exact hP, va_K.moved hW.alike hK, hD, by rw [ht]; exact Nat.le_trans hz hS.1⟩⟩, hS.F ht⟩) hS.2.2 d_K_init_12
set_option maxHeartbeats 4000000 in
set_option maxRecDepth 100000 in
theorem c_K_init_23 {l : Launch} {D : va_G} {t : Nat → ClassId} {z : Nat} {sa : Nat → Nat} {ws : va_W} {k : Nat} (hn : ws.length = 24) (e23 : ws[23]? = some (k, .inr (1, [.null])))  : Met l y_K_init (Cond.code y_K_init b_K_init 2 (.none : Option Jvm.ClassFile.FieldType) :: WS) ({ frames := 1, cells := 1, slots := 768, locals := 12 }) (Pz D t z sa ws [.ref k, .int 768]) (va_Qv (fun u : va_W => ∃ a9 : Nat, Ch ws u [23] ∧ u.length = 25 ∧ u[23]? = some (k, .inr (1, [.ref a9])) ∧ u[24]? = some (a9, .inl (t 2, 768, .inr (.inr (.inr (.inr (fun _ => none))))))) (fun u U => Wd D t z u U) (Az z)) 1 768 (Az z) := by
  refine Met.ofW (cc := b_K_init) (maxL := 2) (ret := (.none : Option Jvm.ClassFile.FieldType)) (by decide) rfl ?_
  intro p e s m args below meth c s₁ B hml hv
  obtain ⟨rfl, ⟨hP, hK, hD, hz⟩, hM⟩ := hv
  have hx := B.exec
  have hb := B.bytes
  have hr := B.returns
  have hts : ∀ w ∈ WS, w.before [.ref k, .int 768].toArray s = true := fun w h => atoms_spec B.pre w (List.mem_cons_of_mem _ h)
  have hown : s.vm.findClass R_K = some m.cls := findClass_of_methodNamed B.named
  have hlocks := B.notSynchronized
  have hin : meth.name = "<init>" := (name_of_methodNamed B.named B.method).1
  have hA : ∀ q, s.heap.size ≤ q → Az z q := fun q h => Nat.le_trans hz h
  have hS : va_S (Az z) s.heap s.heap [] := va_S.rf
  have hC : Ch ws ws [] := Ch.rf
  have hl := lv_entry ([.ref k, .int 768]) (n := 2) (Nat.le_of_ble_eq_true rfl)
  rw [lg_entry_eq]
  generalize (lg_sl ([.ref k, .int 768]) ++ List.replicate (2 - (lg_sl ([.ref k, .int 768])).length) Slot.unset).toArray = ls at hl ⊢
  have hl : lv_has ls 2 [(0, .ref k), (1, .int 768)] := hl
  refine lv_aload_n hx hb d_K_init_0 rfl (lv_at hl 0 rfl) ?_
  refine W.objInit hx hb hown (hts _ ml_K_1) (hts _ oi_im) (hts _ oi_cd) rfl (by rw [hml]; exact hl.1) rfl d_K_init_1 (Nat.le_of_ble_eq_true rfl) (Nat.le_of_ble_eq_true rfl) ?_
  refine W.eq (g2 := F0 m 4 ls []) rfl ?_
  refine lv_aload_n hx hb d_K_init_4 rfl (lv_at hl 0 rfl) ?_
  refine lv_iload_n hx hb d_K_init_5 rfl (lv_at hl 1 rfl) ?_
  refine va_newq (D := D) hx hb hown (hts _ cl_K_7) hM.2.2.2.2.1 hK hP hD hS hA (N' := 768) (by decide) (by decide) (by decide) (Nat.le_of_ble_eq_true rfl) (Nat.le_of_ble_eq_true rfl) d_K_init_6 (fun q1 cA H hK2 hP hD hS => ?_)
  have hcA : cA = t 2 := ra_obj (hK2.2 6 (cA, .object "PageStore$Block") rfl).2 (hK.2 2 (t 2, .object "PageStore$Block") rfl).2
  rw [hcA] at hP hD
  clear hK2 hcA
  obtain ⟨w2, hw⟩ : ∃ q, q = ws ++ [(q1, .inl (t 2, 768, .inr (.inr (.inr (.inr (fun _ => none))))))] := ⟨_, rfl⟩
  have hP : va_P D Cl (ws ++ [(q1, .inl (t 2, 768, .inr (.inr (.inr (.inr (fun _ => none))))))]) H := hP
  have hD : va_D (Az z) (ws ++ [(q1, .inl (t 2, 768, .inr (.inr (.inr (.inr (fun _ => none))))))]) := hD
  rw [← hw] at hP hD
  have hC := hC.push (c := [(q1, .inl (t 2, 768, .inr (.inr (.inr (.inr (fun _ => none))))))])
  rw [← hw] at hC
  have e23 : w2[23]? = some (k, .inr (1, [.null])) := by rw [hw]; exact lk_push e23
  have e24 : w2[24]? = some (q1, .inl (t 2, 768, .inr (.inr (.inr (.inr (fun _ => none)))))) := by rw [hw]; exact lk_new hn
  have hn : w2.length = 25 := by rw [hw, List.length_append, hn]; rfl
  clear hw
  refine va_putF (D := D) (ci := 1) (v := .ref q1) (ty := (.array (.object "PageStore$Block"))) (C := R_K) (T := F_K) (N := 1) hx hb hts ws_K t_K ok_K n_K hown hK hP hD hS 23 e23 rfl 0 (by decide) (hts _ fl_K_9) (fun _ h9 => h9) rfl hin rfl (by decide +kernel) rfl rfl (Nat.le_of_ble_eq_true rfl) d_K_init_9 (fun H locs hP hD hS => ?_)
  obtain ⟨w3, hw⟩ : ∃ q, q = w2.set 23 (k, .inr (1, [.ref q1])) := ⟨_, rfl⟩
  have hP : va_P D Cl (w2.set 23 (k, .inr (1, [.ref q1]))) H := hP
  have hD : va_D (Az z) (w2.set 23 (k, .inr (1, [.ref q1]))) := hD
  rw [← hw] at hP hD
  have hC := hC.put (p := 23) (c := (k, .inr (1, [.ref q1])))
  rw [← hw] at hC
  have e23 : w3[23]? = some (k, .inr (1, [.ref q1])) := by rw [hw]; exact lk_set e23
  have e24 : w3[24]? = some (q1, .inl (t 2, 768, .inr (.inr (.inr (.inr (fun _ => none)))))) := by rw [hw]; exact lk_ne e24 (by decide)
  have hn : w3.length = 25 := by rw [hw, List.length_set]; exact hn
  clear hw
  exact W.vret hx hb hr (fun t9 ht hW => ⟨⟨w3, rfl, ⟨q1, hC.sub (by decide), hn, e23, e24⟩, ⟨by rw [ht]; exact hP, va_K.moved hW.alike hK, hD, by rw [ht]; exact Nat.le_trans hz hS.1⟩⟩, hS.F ht⟩) hS.2.2 d_K_init_12
set_option maxHeartbeats 4000000 in
set_option maxRecDepth 100000 in
theorem c_K_init_27 {l : Launch} {D : va_G} {t : Nat → ClassId} {z : Nat} {sa : Nat → Nat} {ws : va_W} {k : Nat} (hn : ws.length = 28) (e27 : ws[27]? = some (k, .inr (1, [.null])))  : Met l y_K_init (Cond.code y_K_init b_K_init 2 (.none : Option Jvm.ClassFile.FieldType) :: WS) ({ frames := 1, cells := 1, slots := 768, locals := 12 }) (Pz D t z sa ws [.ref k, .int 768]) (va_Qv (fun u : va_W => ∃ a9 : Nat, Ch ws u [27] ∧ u.length = 29 ∧ u[27]? = some (k, .inr (1, [.ref a9])) ∧ u[28]? = some (a9, .inl (t 2, 768, .inr (.inr (.inr (.inr (fun _ => none))))))) (fun u U => Wd D t z u U) (Az z)) 1 768 (Az z) := by
  refine Met.ofW (cc := b_K_init) (maxL := 2) (ret := (.none : Option Jvm.ClassFile.FieldType)) (by decide) rfl ?_
  intro p e s m args below meth c s₁ B hml hv
  obtain ⟨rfl, ⟨hP, hK, hD, hz⟩, hM⟩ := hv
  have hx := B.exec
  have hb := B.bytes
  have hr := B.returns
  have hts : ∀ w ∈ WS, w.before [.ref k, .int 768].toArray s = true := fun w h => atoms_spec B.pre w (List.mem_cons_of_mem _ h)
  have hown : s.vm.findClass R_K = some m.cls := findClass_of_methodNamed B.named
  have hlocks := B.notSynchronized
  have hin : meth.name = "<init>" := (name_of_methodNamed B.named B.method).1
  have hA : ∀ q, s.heap.size ≤ q → Az z q := fun q h => Nat.le_trans hz h
  have hS : va_S (Az z) s.heap s.heap [] := va_S.rf
  have hC : Ch ws ws [] := Ch.rf
  have hl := lv_entry ([.ref k, .int 768]) (n := 2) (Nat.le_of_ble_eq_true rfl)
  rw [lg_entry_eq]
  generalize (lg_sl ([.ref k, .int 768]) ++ List.replicate (2 - (lg_sl ([.ref k, .int 768])).length) Slot.unset).toArray = ls at hl ⊢
  have hl : lv_has ls 2 [(0, .ref k), (1, .int 768)] := hl
  refine lv_aload_n hx hb d_K_init_0 rfl (lv_at hl 0 rfl) ?_
  refine W.objInit hx hb hown (hts _ ml_K_1) (hts _ oi_im) (hts _ oi_cd) rfl (by rw [hml]; exact hl.1) rfl d_K_init_1 (Nat.le_of_ble_eq_true rfl) (Nat.le_of_ble_eq_true rfl) ?_
  refine W.eq (g2 := F0 m 4 ls []) rfl ?_
  refine lv_aload_n hx hb d_K_init_4 rfl (lv_at hl 0 rfl) ?_
  refine lv_iload_n hx hb d_K_init_5 rfl (lv_at hl 1 rfl) ?_
  refine va_newq (D := D) hx hb hown (hts _ cl_K_7) hM.2.2.2.2.1 hK hP hD hS hA (N' := 768) (by decide) (by decide) (by decide) (Nat.le_of_ble_eq_true rfl) (Nat.le_of_ble_eq_true rfl) d_K_init_6 (fun q1 cA H hK2 hP hD hS => ?_)
  have hcA : cA = t 2 := ra_obj (hK2.2 6 (cA, .object "PageStore$Block") rfl).2 (hK.2 2 (t 2, .object "PageStore$Block") rfl).2
  rw [hcA] at hP hD
  clear hK2 hcA
  obtain ⟨w2, hw⟩ : ∃ q, q = ws ++ [(q1, .inl (t 2, 768, .inr (.inr (.inr (.inr (fun _ => none))))))] := ⟨_, rfl⟩
  have hP : va_P D Cl (ws ++ [(q1, .inl (t 2, 768, .inr (.inr (.inr (.inr (fun _ => none))))))]) H := hP
  have hD : va_D (Az z) (ws ++ [(q1, .inl (t 2, 768, .inr (.inr (.inr (.inr (fun _ => none))))))]) := hD
  rw [← hw] at hP hD
  have hC := hC.push (c := [(q1, .inl (t 2, 768, .inr (.inr (.inr (.inr (fun _ => none))))))])
  rw [← hw] at hC
  have e27 : w2[27]? = some (k, .inr (1, [.null])) := by rw [hw]; exact lk_push e27
  have e28 : w2[28]? = some (q1, .inl (t 2, 768, .inr (.inr (.inr (.inr (fun _ => none)))))) := by rw [hw]; exact lk_new hn
  have hn : w2.length = 29 := by rw [hw, List.length_append, hn]; rfl
  clear hw
  refine va_putF (D := D) (ci := 1) (v := .ref q1) (ty := (.array (.object "PageStore$Block"))) (C := R_K) (T := F_K) (N := 1) hx hb hts ws_K t_K ok_K n_K hown hK hP hD hS 27 e27 rfl 0 (by decide) (hts _ fl_K_9) (fun _ h9 => h9) rfl hin rfl (by decide +kernel) rfl rfl (Nat.le_of_ble_eq_true rfl) d_K_init_9 (fun H locs hP hD hS => ?_)
  obtain ⟨w3, hw⟩ : ∃ q, q = w2.set 27 (k, .inr (1, [.ref q1])) := ⟨_, rfl⟩
  have hP : va_P D Cl (w2.set 27 (k, .inr (1, [.ref q1]))) H := hP
  have hD : va_D (Az z) (w2.set 27 (k, .inr (1, [.ref q1]))) := hD
  rw [← hw] at hP hD
  have hC := hC.put (p := 27) (c := (k, .inr (1, [.ref q1])))
  rw [← hw] at hC
  have e27 : w3[27]? = some (k, .inr (1, [.ref q1])) := by rw [hw]; exact lk_set e27
  have e28 : w3[28]? = some (q1, .inl (t 2, 768, .inr (.inr (.inr (.inr (fun _ => none)))))) := by rw [hw]; exact lk_ne e28 (by decide)
  have hn : w3.length = 29 := by rw [hw, List.length_set]; exact hn
  clear hw
  exact W.vret hx hb hr (fun t9 ht hW => ⟨⟨w3, rfl, ⟨q1, hC.sub (by decide), hn, e27, e28⟩, ⟨by rw [ht]; exact hP, va_K.moved hW.alike hK, hD, by rw [ht]; exact Nat.le_trans hz hS.1⟩⟩, hS.F ht⟩) hS.2.2 d_K_init_12
set_option maxHeartbeats 4000000 in
set_option maxRecDepth 100000 in
theorem c_K_init_31 {l : Launch} {D : va_G} {t : Nat → ClassId} {z : Nat} {sa : Nat → Nat} {ws : va_W} {k : Nat} (hn : ws.length = 32) (e31 : ws[31]? = some (k, .inr (1, [.null])))  : Met l y_K_init (Cond.code y_K_init b_K_init 2 (.none : Option Jvm.ClassFile.FieldType) :: WS) ({ frames := 1, cells := 1, slots := 768, locals := 12 }) (Pz D t z sa ws [.ref k, .int 768]) (va_Qv (fun u : va_W => ∃ a9 : Nat, Ch ws u [31] ∧ u.length = 33 ∧ u[31]? = some (k, .inr (1, [.ref a9])) ∧ u[32]? = some (a9, .inl (t 2, 768, .inr (.inr (.inr (.inr (fun _ => none))))))) (fun u U => Wd D t z u U) (Az z)) 1 768 (Az z) := by
  refine Met.ofW (cc := b_K_init) (maxL := 2) (ret := (.none : Option Jvm.ClassFile.FieldType)) (by decide) rfl ?_
  intro p e s m args below meth c s₁ B hml hv
  obtain ⟨rfl, ⟨hP, hK, hD, hz⟩, hM⟩ := hv
  have hx := B.exec
  have hb := B.bytes
  have hr := B.returns
  have hts : ∀ w ∈ WS, w.before [.ref k, .int 768].toArray s = true := fun w h => atoms_spec B.pre w (List.mem_cons_of_mem _ h)
  have hown : s.vm.findClass R_K = some m.cls := findClass_of_methodNamed B.named
  have hlocks := B.notSynchronized
  have hin : meth.name = "<init>" := (name_of_methodNamed B.named B.method).1
  have hA : ∀ q, s.heap.size ≤ q → Az z q := fun q h => Nat.le_trans hz h
  have hS : va_S (Az z) s.heap s.heap [] := va_S.rf
  have hC : Ch ws ws [] := Ch.rf
  have hl := lv_entry ([.ref k, .int 768]) (n := 2) (Nat.le_of_ble_eq_true rfl)
  rw [lg_entry_eq]
  generalize (lg_sl ([.ref k, .int 768]) ++ List.replicate (2 - (lg_sl ([.ref k, .int 768])).length) Slot.unset).toArray = ls at hl ⊢
  have hl : lv_has ls 2 [(0, .ref k), (1, .int 768)] := hl
  refine lv_aload_n hx hb d_K_init_0 rfl (lv_at hl 0 rfl) ?_
  refine W.objInit hx hb hown (hts _ ml_K_1) (hts _ oi_im) (hts _ oi_cd) rfl (by rw [hml]; exact hl.1) rfl d_K_init_1 (Nat.le_of_ble_eq_true rfl) (Nat.le_of_ble_eq_true rfl) ?_
  refine W.eq (g2 := F0 m 4 ls []) rfl ?_
  refine lv_aload_n hx hb d_K_init_4 rfl (lv_at hl 0 rfl) ?_
  refine lv_iload_n hx hb d_K_init_5 rfl (lv_at hl 1 rfl) ?_
  refine va_newq (D := D) hx hb hown (hts _ cl_K_7) hM.2.2.2.2.1 hK hP hD hS hA (N' := 768) (by decide) (by decide) (by decide) (Nat.le_of_ble_eq_true rfl) (Nat.le_of_ble_eq_true rfl) d_K_init_6 (fun q1 cA H hK2 hP hD hS => ?_)
  have hcA : cA = t 2 := ra_obj (hK2.2 6 (cA, .object "PageStore$Block") rfl).2 (hK.2 2 (t 2, .object "PageStore$Block") rfl).2
  rw [hcA] at hP hD
  clear hK2 hcA
  obtain ⟨w2, hw⟩ : ∃ q, q = ws ++ [(q1, .inl (t 2, 768, .inr (.inr (.inr (.inr (fun _ => none))))))] := ⟨_, rfl⟩
  have hP : va_P D Cl (ws ++ [(q1, .inl (t 2, 768, .inr (.inr (.inr (.inr (fun _ => none))))))]) H := hP
  have hD : va_D (Az z) (ws ++ [(q1, .inl (t 2, 768, .inr (.inr (.inr (.inr (fun _ => none))))))]) := hD
  rw [← hw] at hP hD
  have hC := hC.push (c := [(q1, .inl (t 2, 768, .inr (.inr (.inr (.inr (fun _ => none))))))])
  rw [← hw] at hC
  have e31 : w2[31]? = some (k, .inr (1, [.null])) := by rw [hw]; exact lk_push e31
  have e32 : w2[32]? = some (q1, .inl (t 2, 768, .inr (.inr (.inr (.inr (fun _ => none)))))) := by rw [hw]; exact lk_new hn
  have hn : w2.length = 33 := by rw [hw, List.length_append, hn]; rfl
  clear hw
  refine va_putF (D := D) (ci := 1) (v := .ref q1) (ty := (.array (.object "PageStore$Block"))) (C := R_K) (T := F_K) (N := 1) hx hb hts ws_K t_K ok_K n_K hown hK hP hD hS 31 e31 rfl 0 (by decide) (hts _ fl_K_9) (fun _ h9 => h9) rfl hin rfl (by decide +kernel) rfl rfl (Nat.le_of_ble_eq_true rfl) d_K_init_9 (fun H locs hP hD hS => ?_)
  obtain ⟨w3, hw⟩ : ∃ q, q = w2.set 31 (k, .inr (1, [.ref q1])) := ⟨_, rfl⟩
  have hP : va_P D Cl (w2.set 31 (k, .inr (1, [.ref q1]))) H := hP
  have hD : va_D (Az z) (w2.set 31 (k, .inr (1, [.ref q1]))) := hD
  rw [← hw] at hP hD
  have hC := hC.put (p := 31) (c := (k, .inr (1, [.ref q1])))
  rw [← hw] at hC
  have e31 : w3[31]? = some (k, .inr (1, [.ref q1])) := by rw [hw]; exact lk_set e31
  have e32 : w3[32]? = some (q1, .inl (t 2, 768, .inr (.inr (.inr (.inr (fun _ => none)))))) := by rw [hw]; exact lk_ne e32 (by decide)
  have hn : w3.length = 33 := by rw [hw, List.length_set]; exact hn
  clear hw
  exact W.vret hx hb hr (fun t9 ht hW => ⟨⟨w3, rfl, ⟨q1, hC.sub (by decide), hn, e31, e32⟩, ⟨by rw [ht]; exact hP, va_K.moved hW.alike hK, hD, by rw [ht]; exact Nat.le_trans hz hS.1⟩⟩, hS.F ht⟩) hS.2.2 d_K_init_12
set_option maxHeartbeats 4000000 in
set_option maxRecDepth 100000 in
theorem c_Y_init_f {l : Launch} {D : va_G} {t : Nat → ClassId} {z : Nat} {sa : Nat → Nat} {ws : va_W} {y : Nat} (hn : ws.length = 2) (e1 : ws[1]? = some (y, .inr (3, [.null, .int 0])))  : Met l y_Y_init (Cond.code y_Y_init b_Y_init 2 (.none : Option Jvm.ClassFile.FieldType) :: WS) ({ frames := 2, cells := 2, slots := 769, locals := 33 }) (Pz D t z sa ws [.ref y, .int 196608]) (va_Qv (fun u : va_W => ∃ b9 a9 : Nat, Ch ws u [1, 2] ∧ u.length = 4 ∧ u[1]? = some (y, .inr (3, [.ref b9, .int 0])) ∧ u[2]? = some (b9, .inr (1, [.ref a9])) ∧ u[3]? = some (a9, .inl (t 2, 768, .inr (.inr (.inr (.inr (fun _ => none))))))) (fun u U => Wd D t z u U) (Az z)) 2 769 (Az z) := by
  refine Met.ofW (cc := b_Y_init) (maxL := 2) (ret := (.none : Option Jvm.ClassFile.FieldType)) (by decide) rfl ?_
  intro p e s m args below meth c s₁ B hml hv
  obtain ⟨rfl, ⟨hP, hK, hD, hz⟩, hM⟩ := hv
  have hx := B.exec
  have hb := B.bytes
  have hr := B.returns
  have hts : ∀ w ∈ WS, w.before [.ref y, .int 196608].toArray s = true := fun w h => atoms_spec B.pre w (List.mem_cons_of_mem _ h)
  have hown : s.vm.findClass R_Y = some m.cls := findClass_of_methodNamed B.named
  have hlocks := B.notSynchronized
  have hin : meth.name = "<init>" := (name_of_methodNamed B.named B.method).1
  have hA : ∀ q, s.heap.size ≤ q → Az z q := fun q h => Nat.le_trans hz h
  have hS : va_S (Az z) s.heap s.heap [] := va_S.rf
  have hC : Ch ws ws [] := Ch.rf
  have hl := lv_entry ([.ref y, .int 196608]) (n := 2) (Nat.le_of_ble_eq_true rfl)
  rw [lg_entry_eq]
  generalize (lg_sl ([.ref y, .int 196608]) ++ List.replicate (2 - (lg_sl ([.ref y, .int 196608])).length) Slot.unset).toArray = ls at hl ⊢
  have hl : lv_has ls 2 [(0, .ref y), (1, .int 196608)] := hl
  refine lv_aload_n hx hb d_Y_init_0 rfl (lv_at hl 0 rfl) ?_
  refine W.objInit hx hb hown (hts _ ml_Y_3) (hts _ oi_im) (hts _ oi_cd) rfl (by rw [hml]; exact hl.1) rfl d_Y_init_1 (Nat.le_of_ble_eq_true rfl) (Nat.le_of_ble_eq_true rfl) ?_
  refine W.eq (g2 := F0 m 4 ls []) rfl ?_
  refine lv_aload_n hx hb d_Y_init_4 rfl (lv_at hl 0 rfl) ?_
  refine lv_iconst (v := 0) hx hb d_Y_init_5 (by decide) ?_
  refine va_put (D := D) (ci := 3) (v := .int 0) (ty := .int) (C := R_Y) (T := F_Y) (N := 2) hx hb hts ws_Y t_Y ok_Y n_Y hown hK hP hD hS 1 e1 rfl 1 (by decide) (hts _ fl_Y_9) (fun _ h9 => h9) rfl (by decide +kernel) rfl rfl (Nat.le_of_ble_eq_true rfl) d_Y_init_6 (fun H locs hP hD hS => ?_)
  obtain ⟨w1, hw⟩ : ∃ q, q = ws.set 1 (y, .inr (3, [.null, .int 0])) := ⟨_, rfl⟩
  have hP : va_P D Cl (ws.set 1 (y, .inr (3, [.null, .int 0]))) H := hP
  have hD : va_D (Az z) (ws.set 1 (y, .inr (3, [.null, .int 0]))) := hD
  rw [← hw] at hP hD
  have hC := hC.put (p := 1) (c := (y, .inr (3, [.null, .int 0])))
  rw [← hw] at hC
  have e1 : w1[1]? = some (y, .inr (3, [.null, .int 0])) := by rw [hw]; exact lk_set e1
  have hn : w1.length = 2 := by rw [hw, List.length_set]; exact hn
  clear hw
  refine lv_aload_n hx hb d_Y_init_9 rfl (lv_at hl 0 rfl) ?_
  refine va_new (ci := 1) (fs := [.null]) (C := R_K) (T := F_K) (N := 1) hx hb hts ws_K t_K ok_K hown (hts _ cl_Y_15) (hts _ ib_K) (hts _ in_K) hK hP hD hS hA rfl (fun j hj => by rcases (show j = 0 by omega) with rfl <;> rfl) (Nat.le_of_ble_eq_true rfl) (Nat.le_of_ble_eq_true rfl) d_Y_init_10 (fun q2 H hP hD hS => ?_)
  obtain ⟨w3, hw⟩ : ∃ q, q = w1 ++ [(q2, .inr (1, [.null]))] := ⟨_, rfl⟩
  have hP : va_P D Cl (w1 ++ [(q2, .inr (1, [.null]))]) H := hP
  have hD : va_D (Az z) (w1 ++ [(q2, .inr (1, [.null]))]) := hD
  rw [← hw] at hP hD
  have hC := hC.push (c := [(q2, .inr (1, [.null]))])
  rw [← hw] at hC
  have e1 : w3[1]? = some (y, .inr (3, [.null, .int 0])) := by rw [hw]; exact lk_push e1
  have e2 : w3[2]? = some (q2, .inr (1, [.null])) := by rw [hw]; exact lk_new hn
  have hn : w3.length = 3 := by rw [hw, List.length_append, hn]; rfl
  clear hw
  refine lv_dup hx hb d_Y_init_13 rfl ?_
  refine lv_iload_n hx hb d_Y_init_14 rfl (lv_at hl 1 rfl) ?_
  refine lv_sipush (v := 256) hx hb d_Y_init_15 (by decide) ?_
  refine lv_iadd hx hb d_Y_init_18 ?_
  refine lv_topi (fun v4 hv4 => ?_)
  have hv4 : v4 = 196864 := hv4.trans (by decide)
  subst hv4
  refine lv_iconst (v := 1) hx hb d_Y_init_19 (by decide) ?_
  refine lv_isub hx hb d_Y_init_20 ?_
  refine lv_topi (fun v5 hv5 => ?_)
  have hv5 : v5 = 196863 := hv5.trans (by decide)
  subst hv5
  refine lv_sipush (v := 256) hx hb d_Y_init_21 (by decide) ?_
  refine lv_idiv hx hb d_Y_init_24 (by decide) ?_
  refine lv_topi (fun v6 hv6 => ?_)
  have hv6 : v6 = 768 := hv6.trans (by decide)
  subst hv6
  refine va_callv (va_runI (As := [.int 768]) (rest := [.ref q2, .ref y]) ⟨hx, hb, hml, hown, hts⟩ (c_K_init_2 (D := D) (t := t) (z := z) (sa := sa) (ws := w3)  hn e2) (cwI 1 hts (gd_I cd_K_init) rfl rfl rfl (hts _ in_K) (hts _ ml_Y_17) (hts _ im_K_init) rfl (by decide +kernel) ⟨Nat.le_of_ble_eq_true rfl, Nat.le_of_ble_eq_true rfl⟩) ⟨Pz_blind, Pz_at hP hK hD hz hM hS⟩ rfl rfl hl.1 rfl (lv_room (Nat.le_of_ble_eq_true rfl)) d_Y_init_25 ⟨Nat.le_of_ble_eq_true rfl, Nat.le_of_ble_eq_true rfl⟩) hS (fun q _ h => h) (fun q h => h) (fun w7 t9 H locs ht hvm hp hB hz1 hk1 hS => ?_)
  obtain ⟨hP, hK9, hD, -⟩ := hB
  rw [ht] at hP
  clear hK9
  obtain ⟨a2, hC9, hn9, kf2, kf3⟩ := hp
  have e1 : w7[1]? = some (y, .inr (3, [.null, .int 0])) := hC9.keep e1 (by decide)
  have e2 : w7[2]? = some (q2, .inr (1, [.ref a2])) := kf2
  have e3 : w7[3]? = some (a2, .inl (t 2, 768, .inr (.inr (.inr (.inr (fun _ => none)))))) := kf3
  have hC := hC.trans hC9
  have hn : w7.length = 4 := hn9
  refine va_putF (D := D) (ci := 3) (v := .ref q2) (ty := (.object "PageStore$Blocks")) (C := R_Y) (T := F_Y) (N := 2) hx hb hts ws_Y t_Y ok_Y n_Y hown hK hP hD hS 1 e1 rfl 0 (by decide) (hts _ fl_Y_20) (fun _ h9 => h9) rfl hin rfl (by decide +kernel) rfl rfl (Nat.le_of_ble_eq_true rfl) d_Y_init_28 (fun H locs hP hD hS => ?_)
  obtain ⟨w9, hw⟩ : ∃ q, q = w7.set 1 (y, .inr (3, [.ref q2, .int 0])) := ⟨_, rfl⟩
  have hP : va_P D Cl (w7.set 1 (y, .inr (3, [.ref q2, .int 0]))) H := hP
  have hD : va_D (Az z) (w7.set 1 (y, .inr (3, [.ref q2, .int 0]))) := hD
  rw [← hw] at hP hD
  have hC := hC.put (p := 1) (c := (y, .inr (3, [.ref q2, .int 0])))
  rw [← hw] at hC
  have e1 : w9[1]? = some (y, .inr (3, [.ref q2, .int 0])) := by rw [hw]; exact lk_set e1
  have e2 : w9[2]? = some (q2, .inr (1, [.ref a2])) := by rw [hw]; exact lk_ne e2 (by decide)
  have e3 : w9[3]? = some (a2, .inl (t 2, 768, .inr (.inr (.inr (.inr (fun _ => none)))))) := by rw [hw]; exact lk_ne e3 (by decide)
  have hn : w9.length = 4 := by rw [hw, List.length_set]; exact hn
  clear hw
  exact W.vret hx hb hr (fun t9 ht hW => ⟨⟨w9, rfl, ⟨q2, a2, hC.sub (by decide), hn, e1, e2, e3⟩, ⟨by rw [ht]; exact hP, va_K.moved hW.alike hK, hD, by rw [ht]; exact Nat.le_trans hz hS.1⟩⟩, hS.F ht⟩) hS.2.2 d_Y_init_31
set_option maxHeartbeats 4000000 in
set_option maxRecDepth 100000 in
theorem c_Y_init_j {l : Launch} {D : va_G} {t : Nat → ClassId} {z : Nat} {sa : Nat → Nat} {ws : va_W} {y : Nat} (hn : ws.length = 5) (e4 : ws[4]? = some (y, .inr (3, [.null, .int 0])))  : Met l y_Y_init (Cond.code y_Y_init b_Y_init 2 (.none : Option Jvm.ClassFile.FieldType) :: WS) ({ frames := 2, cells := 2, slots := 782, locals := 33 }) (Pz D t z sa ws [.ref y, .int 199684]) (va_Qv (fun u : va_W => ∃ b9 a9 : Nat, Ch ws u [4, 5] ∧ u.length = 7 ∧ u[4]? = some (y, .inr (3, [.ref b9, .int 0])) ∧ u[5]? = some (b9, .inr (1, [.ref a9])) ∧ u[6]? = some (a9, .inl (t 2, 781, .inr (.inr (.inr (.inr (fun _ => none))))))) (fun u U => Wd D t z u U) (Az z)) 2 782 (Az z) := by
  refine Met.ofW (cc := b_Y_init) (maxL := 2) (ret := (.none : Option Jvm.ClassFile.FieldType)) (by decide) rfl ?_
  intro p e s m args below meth c s₁ B hml hv
  obtain ⟨rfl, ⟨hP, hK, hD, hz⟩, hM⟩ := hv
  have hx := B.exec
  have hb := B.bytes
  have hr := B.returns
  have hts : ∀ w ∈ WS, w.before [.ref y, .int 199684].toArray s = true := fun w h => atoms_spec B.pre w (List.mem_cons_of_mem _ h)
  have hown : s.vm.findClass R_Y = some m.cls := findClass_of_methodNamed B.named
  have hlocks := B.notSynchronized
  have hin : meth.name = "<init>" := (name_of_methodNamed B.named B.method).1
  have hA : ∀ q, s.heap.size ≤ q → Az z q := fun q h => Nat.le_trans hz h
  have hS : va_S (Az z) s.heap s.heap [] := va_S.rf
  have hC : Ch ws ws [] := Ch.rf
  have hl := lv_entry ([.ref y, .int 199684]) (n := 2) (Nat.le_of_ble_eq_true rfl)
  rw [lg_entry_eq]
  generalize (lg_sl ([.ref y, .int 199684]) ++ List.replicate (2 - (lg_sl ([.ref y, .int 199684])).length) Slot.unset).toArray = ls at hl ⊢
  have hl : lv_has ls 2 [(0, .ref y), (1, .int 199684)] := hl
  refine lv_aload_n hx hb d_Y_init_0 rfl (lv_at hl 0 rfl) ?_
  refine W.objInit hx hb hown (hts _ ml_Y_3) (hts _ oi_im) (hts _ oi_cd) rfl (by rw [hml]; exact hl.1) rfl d_Y_init_1 (Nat.le_of_ble_eq_true rfl) (Nat.le_of_ble_eq_true rfl) ?_
  refine W.eq (g2 := F0 m 4 ls []) rfl ?_
  refine lv_aload_n hx hb d_Y_init_4 rfl (lv_at hl 0 rfl) ?_
  refine lv_iconst (v := 0) hx hb d_Y_init_5 (by decide) ?_
  refine va_put (D := D) (ci := 3) (v := .int 0) (ty := .int) (C := R_Y) (T := F_Y) (N := 2) hx hb hts ws_Y t_Y ok_Y n_Y hown hK hP hD hS 4 e4 rfl 1 (by decide) (hts _ fl_Y_9) (fun _ h9 => h9) rfl (by decide +kernel) rfl rfl (Nat.le_of_ble_eq_true rfl) d_Y_init_6 (fun H locs hP hD hS => ?_)
  obtain ⟨w1, hw⟩ : ∃ q, q = ws.set 4 (y, .inr (3, [.null, .int 0])) := ⟨_, rfl⟩
  have hP : va_P D Cl (ws.set 4 (y, .inr (3, [.null, .int 0]))) H := hP
  have hD : va_D (Az z) (ws.set 4 (y, .inr (3, [.null, .int 0]))) := hD
  rw [← hw] at hP hD
  have hC := hC.put (p := 4) (c := (y, .inr (3, [.null, .int 0])))
  rw [← hw] at hC
  have e4 : w1[4]? = some (y, .inr (3, [.null, .int 0])) := by rw [hw]; exact lk_set e4
  have hn : w1.length = 5 := by rw [hw, List.length_set]; exact hn
  clear hw
  refine lv_aload_n hx hb d_Y_init_9 rfl (lv_at hl 0 rfl) ?_
  refine va_new (ci := 1) (fs := [.null]) (C := R_K) (T := F_K) (N := 1) hx hb hts ws_K t_K ok_K hown (hts _ cl_Y_15) (hts _ ib_K) (hts _ in_K) hK hP hD hS hA rfl (fun j hj => by rcases (show j = 0 by omega) with rfl <;> rfl) (Nat.le_of_ble_eq_true rfl) (Nat.le_of_ble_eq_true rfl) d_Y_init_10 (fun q2 H hP hD hS => ?_)
  obtain ⟨w3, hw⟩ : ∃ q, q = w1 ++ [(q2, .inr (1, [.null]))] := ⟨_, rfl⟩
  have hP : va_P D Cl (w1 ++ [(q2, .inr (1, [.null]))]) H := hP
  have hD : va_D (Az z) (w1 ++ [(q2, .inr (1, [.null]))]) := hD
  rw [← hw] at hP hD
  have hC := hC.push (c := [(q2, .inr (1, [.null]))])
  rw [← hw] at hC
  have e4 : w3[4]? = some (y, .inr (3, [.null, .int 0])) := by rw [hw]; exact lk_push e4
  have e5 : w3[5]? = some (q2, .inr (1, [.null])) := by rw [hw]; exact lk_new hn
  have hn : w3.length = 6 := by rw [hw, List.length_append, hn]; rfl
  clear hw
  refine lv_dup hx hb d_Y_init_13 rfl ?_
  refine lv_iload_n hx hb d_Y_init_14 rfl (lv_at hl 1 rfl) ?_
  refine lv_sipush (v := 256) hx hb d_Y_init_15 (by decide) ?_
  refine lv_iadd hx hb d_Y_init_18 ?_
  refine lv_topi (fun v4 hv4 => ?_)
  have hv4 : v4 = 199940 := hv4.trans (by decide)
  subst hv4
  refine lv_iconst (v := 1) hx hb d_Y_init_19 (by decide) ?_
  refine lv_isub hx hb d_Y_init_20 ?_
  refine lv_topi (fun v5 hv5 => ?_)
  have hv5 : v5 = 199939 := hv5.trans (by decide)
  subst hv5
  refine lv_sipush (v := 256) hx hb d_Y_init_21 (by decide) ?_
  refine lv_idiv hx hb d_Y_init_24 (by decide) ?_
  refine lv_topi (fun v6 hv6 => ?_)
  have hv6 : v6 = 781 := hv6.trans (by decide)
  subst hv6
  refine va_callv (va_runI (As := [.int 781]) (rest := [.ref q2, .ref y]) ⟨hx, hb, hml, hown, hts⟩ (c_K_init_5 (D := D) (t := t) (z := z) (sa := sa) (ws := w3)  hn e5) (cwI 1 hts (gd_I cd_K_init) rfl rfl rfl (hts _ in_K) (hts _ ml_Y_17) (hts _ im_K_init) rfl (by decide +kernel) ⟨Nat.le_of_ble_eq_true rfl, Nat.le_of_ble_eq_true rfl⟩) ⟨Pz_blind, Pz_at hP hK hD hz hM hS⟩ rfl rfl hl.1 rfl (lv_room (Nat.le_of_ble_eq_true rfl)) d_Y_init_25 ⟨Nat.le_of_ble_eq_true rfl, Nat.le_of_ble_eq_true rfl⟩) hS (fun q _ h => h) (fun q h => h) (fun w7 t9 H locs ht hvm hp hB hz1 hk1 hS => ?_)
  obtain ⟨hP, hK9, hD, -⟩ := hB
  rw [ht] at hP
  clear hK9
  obtain ⟨a5, hC9, hn9, kf5, kf6⟩ := hp
  have e4 : w7[4]? = some (y, .inr (3, [.null, .int 0])) := hC9.keep e4 (by decide)
  have e5 : w7[5]? = some (q2, .inr (1, [.ref a5])) := kf5
  have e6 : w7[6]? = some (a5, .inl (t 2, 781, .inr (.inr (.inr (.inr (fun _ => none)))))) := kf6
  have hC := hC.trans hC9
  have hn : w7.length = 7 := hn9
  refine va_putF (D := D) (ci := 3) (v := .ref q2) (ty := (.object "PageStore$Blocks")) (C := R_Y) (T := F_Y) (N := 2) hx hb hts ws_Y t_Y ok_Y n_Y hown hK hP hD hS 4 e4 rfl 0 (by decide) (hts _ fl_Y_20) (fun _ h9 => h9) rfl hin rfl (by decide +kernel) rfl rfl (Nat.le_of_ble_eq_true rfl) d_Y_init_28 (fun H locs hP hD hS => ?_)
  obtain ⟨w9, hw⟩ : ∃ q, q = w7.set 4 (y, .inr (3, [.ref q2, .int 0])) := ⟨_, rfl⟩
  have hP : va_P D Cl (w7.set 4 (y, .inr (3, [.ref q2, .int 0]))) H := hP
  have hD : va_D (Az z) (w7.set 4 (y, .inr (3, [.ref q2, .int 0]))) := hD
  rw [← hw] at hP hD
  have hC := hC.put (p := 4) (c := (y, .inr (3, [.ref q2, .int 0])))
  rw [← hw] at hC
  have e4 : w9[4]? = some (y, .inr (3, [.ref q2, .int 0])) := by rw [hw]; exact lk_set e4
  have e5 : w9[5]? = some (q2, .inr (1, [.ref a5])) := by rw [hw]; exact lk_ne e5 (by decide)
  have e6 : w9[6]? = some (a5, .inl (t 2, 781, .inr (.inr (.inr (.inr (fun _ => none)))))) := by rw [hw]; exact lk_ne e6 (by decide)
  have hn : w9.length = 7 := by rw [hw, List.length_set]; exact hn
  clear hw
  exact W.vret hx hb hr (fun t9 ht hW => ⟨⟨w9, rfl, ⟨q2, a5, hC.sub (by decide), hn, e4, e5, e6⟩, ⟨by rw [ht]; exact hP, va_K.moved hW.alike hK, hD, by rw [ht]; exact Nat.le_trans hz hS.1⟩⟩, hS.F ht⟩) hS.2.2 d_Y_init_31
set_option maxHeartbeats 4000000 in
set_option maxRecDepth 100000 in
theorem c_U_init {l : Launch} {D : va_G} {t : Nat → ClassId} {z : Nat} {sa : Nat → Nat} {ws : va_W} {fu : Nat} (hn : ws.length = 9) (e8 : ws[8]? = some (fu, .inr (2, [.int 0, .int 0, .int 0, .int 0])))  : Met l y_U_init (Cond.code y_U_init b_U_init 1 (.none : Option Jvm.ClassFile.FieldType) :: WS) ({ frames := 1, cells := 0, slots := 0, locals := 12 }) (Pz D t z sa ws [.ref fu]) (va_Qv (fun u : va_W => Ch ws u [8] ∧ u.length = 9 ∧ u[8]? = some (fu, .inr (2, [.int 4, .int 0, .int 0, .int 0]))) (fun u U => Wd D t z u U) (Az z)) 0 0 (Az z) := by
  refine Met.ofW (cc := b_U_init) (maxL := 1) (ret := (.none : Option Jvm.ClassFile.FieldType)) (by decide) rfl ?_
  intro p e s m args below meth c s₁ B hml hv
  obtain ⟨rfl, ⟨hP, hK, hD, hz⟩, hM⟩ := hv
  have hx := B.exec
  have hb := B.bytes
  have hr := B.returns
  have hts : ∀ w ∈ WS, w.before [.ref fu].toArray s = true := fun w h => atoms_spec B.pre w (List.mem_cons_of_mem _ h)
  have hown : s.vm.findClass R_U = some m.cls := findClass_of_methodNamed B.named
  have hlocks := B.notSynchronized
  have hin : meth.name = "<init>" := (name_of_methodNamed B.named B.method).1
  have hA : ∀ q, s.heap.size ≤ q → Az z q := fun q h => Nat.le_trans hz h
  have hS : va_S (Az z) s.heap s.heap [] := va_S.rf
  have hC : Ch ws ws [] := Ch.rf
  have hl := lv_entry ([.ref fu]) (n := 1) (Nat.le_of_ble_eq_true rfl)
  rw [lg_entry_eq]
  generalize (lg_sl ([.ref fu]) ++ List.replicate (1 - (lg_sl ([.ref fu])).length) Slot.unset).toArray = ls at hl ⊢
  have hl : lv_has ls 1 [(0, .ref fu)] := hl
  refine lv_aload_n hx hb d_U_init_0 rfl (lv_at hl 0 rfl) ?_
  refine W.objInit hx hb hown (hts _ ml_U_3) (hts _ oi_im) (hts _ oi_cd) rfl (by rw [hml]; exact hl.1) rfl d_U_init_1 (Nat.le_of_ble_eq_true rfl) (Nat.le_of_ble_eq_true rfl) ?_
  refine W.eq (g2 := F0 m 4 ls []) rfl ?_
  refine lv_aload_n hx hb d_U_init_4 rfl (lv_at hl 0 rfl) ?_
  refine lv_iconst (v := 4) hx hb d_U_init_5 (by decide) ?_
  refine va_put (D := D) (ci := 2) (v := .int 4) (ty := .int) (C := R_U) (T := F_U) (N := 4) hx hb hts ws_U t_U ok_U n_U hown hK hP hD hS 8 e8 rfl 0 (by decide) (hts _ fl_U_9) (fun _ h9 => h9) rfl (by decide +kernel) rfl rfl (Nat.le_of_ble_eq_true rfl) d_U_init_6 (fun H locs hP hD hS => ?_)
  obtain ⟨w1, hw⟩ : ∃ q, q = ws.set 8 (fu, .inr (2, [.int 4, .int 0, .int 0, .int 0])) := ⟨_, rfl⟩
  have hP : va_P D Cl (ws.set 8 (fu, .inr (2, [.int 4, .int 0, .int 0, .int 0]))) H := hP
  have hD : va_D (Az z) (ws.set 8 (fu, .inr (2, [.int 4, .int 0, .int 0, .int 0]))) := hD
  rw [← hw] at hP hD
  have hC := hC.put (p := 8) (c := (fu, .inr (2, [.int 4, .int 0, .int 0, .int 0])))
  rw [← hw] at hC
  have e8 : w1[8]? = some (fu, .inr (2, [.int 4, .int 0, .int 0, .int 0])) := by rw [hw]; exact lk_set e8
  have hn : w1.length = 9 := by rw [hw, List.length_set]; exact hn
  clear hw
  refine lv_aload_n hx hb d_U_init_9 rfl (lv_at hl 0 rfl) ?_
  refine lv_iconst (v := 0) hx hb d_U_init_10 (by decide) ?_
  refine va_put (D := D) (ci := 2) (v := .int 0) (ty := .int) (C := R_U) (T := F_U) (N := 4) hx hb hts ws_U t_U ok_U n_U hown hK hP hD hS 8 e8 rfl 1 (by decide) (hts _ fl_U_15) (fun _ h9 => h9) rfl (by decide +kernel) rfl rfl (Nat.le_of_ble_eq_true rfl) d_U_init_11 (fun H locs hP hD hS => ?_)
  obtain ⟨w2, hw⟩ : ∃ q, q = w1.set 8 (fu, .inr (2, [.int 4, .int 0, .int 0, .int 0])) := ⟨_, rfl⟩
  have hP : va_P D Cl (w1.set 8 (fu, .inr (2, [.int 4, .int 0, .int 0, .int 0]))) H := hP
  have hD : va_D (Az z) (w1.set 8 (fu, .inr (2, [.int 4, .int 0, .int 0, .int 0]))) := hD
  rw [← hw] at hP hD
  have hC := hC.put (p := 8) (c := (fu, .inr (2, [.int 4, .int 0, .int 0, .int 0])))
  rw [← hw] at hC
  have e8 : w2[8]? = some (fu, .inr (2, [.int 4, .int 0, .int 0, .int 0])) := by rw [hw]; exact lk_set e8
  have hn : w2.length = 9 := by rw [hw, List.length_set]; exact hn
  clear hw
  refine lv_aload_n hx hb d_U_init_14 rfl (lv_at hl 0 rfl) ?_
  refine lv_iconst (v := 0) hx hb d_U_init_15 (by decide) ?_
  refine va_put (D := D) (ci := 2) (v := .int 0) (ty := .int) (C := R_U) (T := F_U) (N := 4) hx hb hts ws_U t_U ok_U n_U hown hK hP hD hS 8 e8 rfl 2 (by decide) (hts _ fl_U_18) (fun _ h9 => h9) rfl (by decide +kernel) rfl rfl (Nat.le_of_ble_eq_true rfl) d_U_init_16 (fun H locs hP hD hS => ?_)
  obtain ⟨w3, hw⟩ : ∃ q, q = w2.set 8 (fu, .inr (2, [.int 4, .int 0, .int 0, .int 0])) := ⟨_, rfl⟩
  have hP : va_P D Cl (w2.set 8 (fu, .inr (2, [.int 4, .int 0, .int 0, .int 0]))) H := hP
  have hD : va_D (Az z) (w2.set 8 (fu, .inr (2, [.int 4, .int 0, .int 0, .int 0]))) := hD
  rw [← hw] at hP hD
  have hC := hC.put (p := 8) (c := (fu, .inr (2, [.int 4, .int 0, .int 0, .int 0])))
  rw [← hw] at hC
  have e8 : w3[8]? = some (fu, .inr (2, [.int 4, .int 0, .int 0, .int 0])) := by rw [hw]; exact lk_set e8
  have hn : w3.length = 9 := by rw [hw, List.length_set]; exact hn
  clear hw
  refine lv_aload_n hx hb d_U_init_19 rfl (lv_at hl 0 rfl) ?_
  refine lv_iconst (v := 0) hx hb d_U_init_20 (by decide) ?_
  refine va_put (D := D) (ci := 2) (v := .int 0) (ty := .boolean) (C := R_U) (T := F_U) (N := 4) hx hb hts ws_U t_U ok_U n_U hown hK hP hD hS 8 e8 rfl 3 (by decide) (hts _ fl_U_21) (fun _ h9 => h9) rfl (by decide +kernel) rfl rfl (Nat.le_of_ble_eq_true rfl) d_U_init_21 (fun H locs hP hD hS => ?_)
  obtain ⟨w4, hw⟩ : ∃ q, q = w3.set 8 (fu, .inr (2, [.int 4, .int 0, .int 0, .int 0])) := ⟨_, rfl⟩
  have hP : va_P D Cl (w3.set 8 (fu, .inr (2, [.int 4, .int 0, .int 0, .int 0]))) H := hP
  have hD : va_D (Az z) (w3.set 8 (fu, .inr (2, [.int 4, .int 0, .int 0, .int 0]))) := hD
  rw [← hw] at hP hD
  have hC := hC.put (p := 8) (c := (fu, .inr (2, [.int 4, .int 0, .int 0, .int 0])))
  rw [← hw] at hC
  have e8 : w4[8]? = some (fu, .inr (2, [.int 4, .int 0, .int 0, .int 0])) := by rw [hw]; exact lk_set e8
  have hn : w4.length = 9 := by rw [hw, List.length_set]; exact hn
  clear hw
  exact W.vret hx hb hr (fun t9 ht hW => ⟨⟨w4, rfl, ⟨hC.sub (by decide), hn, e8⟩, ⟨by rw [ht]; exact hP, va_K.moved hW.alike hK, hD, by rw [ht]; exact Nat.le_trans hz hS.1⟩⟩, hS.F ht⟩) hS.2.2 d_U_init_24
set_option maxHeartbeats 4000000 in
set_option maxRecDepth 100000 in
theorem c_Z_init_10 {l : Launch} {D : va_G} {t : Nat → ClassId} {z : Nat} {sa : Nat → Nat} {ws : va_W} {y : Nat} (hn : ws.length = 11) (e10 : ws[10]? = some (y, .inr (4, [.null, .null, .int 0])))  : Met l y_Z_init (Cond.code y_Z_init b_Z_init 1 (.none : Option Jvm.ClassFile.FieldType) :: WS) ({ frames := 2, cells := 3, slots := 1537, locals := 33 }) (Pz D t z sa ws [.ref y]) (va_Qv (fun u : va_W => ∃ b9 a9 h9 : Nat, Ch ws u [10, 11] ∧ u.length = 14 ∧ u[10]? = some (y, .inr (4, [.ref b9, .ref h9, .int 0])) ∧ u[11]? = some (b9, .inr (1, [.ref a9])) ∧ u[12]? = some (a9, .inl (t 2, 768, .inr (.inr (.inr (.inr (fun _ => none)))))) ∧ u[13]? = some (h9, .inl (t 1, 768, .inl (fun _ => 0)))) (fun u U => Wd D t z u U) (Az z)) 3 1537 (Az z) := by
  refine Met.ofW (cc := b_Z_init) (maxL := 1) (ret := (.none : Option Jvm.ClassFile.FieldType)) (by decide) rfl ?_
  intro p e s m args below meth c s₁ B hml hv
  obtain ⟨rfl, ⟨hP, hK, hD, hz⟩, hM⟩ := hv
  have hx := B.exec
  have hb := B.bytes
  have hr := B.returns
  have hts : ∀ w ∈ WS, w.before [.ref y].toArray s = true := fun w h => atoms_spec B.pre w (List.mem_cons_of_mem _ h)
  have hown : s.vm.findClass R_Z = some m.cls := findClass_of_methodNamed B.named
  have hlocks := B.notSynchronized
  have hin : meth.name = "<init>" := (name_of_methodNamed B.named B.method).1
  have hA : ∀ q, s.heap.size ≤ q → Az z q := fun q h => Nat.le_trans hz h
  have hS : va_S (Az z) s.heap s.heap [] := va_S.rf
  have hC : Ch ws ws [] := Ch.rf
  have hl := lv_entry ([.ref y]) (n := 1) (Nat.le_of_ble_eq_true rfl)
  rw [lg_entry_eq]
  generalize (lg_sl ([.ref y]) ++ List.replicate (1 - (lg_sl ([.ref y])).length) Slot.unset).toArray = ls at hl ⊢
  have hl : lv_has ls 1 [(0, .ref y)] := hl
  refine lv_aload_n hx hb d_Z_init_0 rfl (lv_at hl 0 rfl) ?_
  refine W.objInit hx hb hown (hts _ ml_Z_3) (hts _ oi_im) (hts _ oi_cd) rfl (by rw [hml]; exact hl.1) rfl d_Z_init_1 (Nat.le_of_ble_eq_true rfl) (Nat.le_of_ble_eq_true rfl) ?_
  refine W.eq (g2 := F0 m 4 ls []) rfl ?_
  refine lv_aload_n hx hb d_Z_init_4 rfl (lv_at hl 0 rfl) ?_
  refine va_new (ci := 1) (fs := [.null]) (C := R_K) (T := F_K) (N := 1) hx hb hts ws_K t_K ok_K hown (hts _ cl_Z_9) (hts _ ib_K) (hts _ in_K) hK hP hD hS hA rfl (fun j hj => by rcases (show j = 0 by omega) with rfl <;> rfl) (Nat.le_of_ble_eq_true rfl) (Nat.le_of_ble_eq_true rfl) d_Z_init_5 (fun q1 H hP hD hS => ?_)
  obtain ⟨w2, hw⟩ : ∃ q, q = ws ++ [(q1, .inr (1, [.null]))] := ⟨_, rfl⟩
  have hP : va_P D Cl (ws ++ [(q1, .inr (1, [.null]))]) H := hP
  have hD : va_D (Az z) (ws ++ [(q1, .inr (1, [.null]))]) := hD
  rw [← hw] at hP hD
  have hC := hC.push (c := [(q1, .inr (1, [.null]))])
  rw [← hw] at hC
  have e10 : w2[10]? = some (y, .inr (4, [.null, .null, .int 0])) := by rw [hw]; exact lk_push e10
  have e11 : w2[11]? = some (q1, .inr (1, [.null])) := by rw [hw]; exact lk_new hn
  have hn : w2.length = 12 := by rw [hw, List.length_append, hn]; rfl
  clear hw
  refine lv_dup hx hb d_Z_init_8 rfl ?_
  refine lv_sipush (v := 768) hx hb d_Z_init_9 (by decide) ?_
  refine va_callv (va_runI (As := [.int 768]) (rest := [.ref q1, .ref y]) ⟨hx, hb, hml, hown, hts⟩ (c_K_init_11 (D := D) (t := t) (z := z) (sa := sa) (ws := w2)  hn e11) (cwI 1 hts (gd_I cd_K_init) rfl rfl rfl (hts _ in_K) (hts _ ml_Z_11) (hts _ im_K_init) rfl (by decide +kernel) ⟨Nat.le_of_ble_eq_true rfl, Nat.le_of_ble_eq_true rfl⟩) ⟨Pz_blind, Pz_at hP hK hD hz hM hS⟩ rfl rfl hl.1 rfl (lv_room (Nat.le_of_ble_eq_true rfl)) d_Z_init_12 ⟨Nat.le_of_ble_eq_true rfl, Nat.le_of_ble_eq_true rfl⟩) hS (fun q _ h => h) (fun q h => h) (fun w3 t9 H locs ht hvm hp hB hz1 hk1 hS => ?_)
  obtain ⟨hP, hK9, hD, -⟩ := hB
  rw [ht] at hP
  clear hK9
  obtain ⟨a11, hC9, hn9, kf11, kf12⟩ := hp
  have e10 : w3[10]? = some (y, .inr (4, [.null, .null, .int 0])) := hC9.keep e10 (by decide)
  have e11 : w3[11]? = some (q1, .inr (1, [.ref a11])) := kf11
  have e12 : w3[12]? = some (a11, .inl (t 2, 768, .inr (.inr (.inr (.inr (fun _ => none)))))) := kf12
  have hC := hC.trans hC9
  have hn : w3.length = 13 := hn9
  refine va_putF (D := D) (ci := 4) (v := .ref q1) (ty := (.object "PageStore$Blocks")) (C := R_Z) (T := F_Z) (N := 3) hx hb hts ws_Z t_Z ok_Z n_Z hown hK hP hD hS 10 e10 rfl 0 (by decide) (hts _ fl_Z_14) (fun _ h9 => h9) rfl hin rfl (by decide +kernel) rfl rfl (Nat.le_of_ble_eq_true rfl) d_Z_init_15 (fun H locs hP hD hS => ?_)
  obtain ⟨w5, hw⟩ : ∃ q, q = w3.set 10 (y, .inr (4, [.ref q1, .null, .int 0])) := ⟨_, rfl⟩
  have hP : va_P D Cl (w3.set 10 (y, .inr (4, [.ref q1, .null, .int 0]))) H := hP
  have hD : va_D (Az z) (w3.set 10 (y, .inr (4, [.ref q1, .null, .int 0]))) := hD
  rw [← hw] at hP hD
  have hC := hC.put (p := 10) (c := (y, .inr (4, [.ref q1, .null, .int 0])))
  rw [← hw] at hC
  have e10 : w5[10]? = some (y, .inr (4, [.ref q1, .null, .int 0])) := by rw [hw]; exact lk_set e10
  have e11 : w5[11]? = some (q1, .inr (1, [.ref a11])) := by rw [hw]; exact lk_ne e11 (by decide)
  have e12 : w5[12]? = some (a11, .inl (t 2, 768, .inr (.inr (.inr (.inr (fun _ => none)))))) := by rw [hw]; exact lk_ne e12 (by decide)
  have hn : w5.length = 13 := by rw [hw, List.length_set]; exact hn
  clear hw
  refine lv_aload_n hx hb d_Z_init_18 rfl (lv_at hl 0 rfl) ?_
  refine lv_sipush (v := 768) hx hb d_Z_init_19 (by decide) ?_
  refine va_newa (D := D) (atype := .boolean) hx hb (hts _ ac_boolean) (ty := .boolean) rfl hK hP hD hS hA (N' := 768) (a0 := (768, .inl (fun _ => 0))) (fun cA => rfl) (by decide) (by decide) (by decide) (Nat.le_of_ble_eq_true rfl) (Nat.le_of_ble_eq_true rfl) d_Z_init_22 (fun q6 cA H hK2 hP hD hS => ?_)
  have hcA : cA = t 1 := Option.some.inj ((hK2.2 6 (cA, .boolean) rfl).2.symm.trans (hK.2 1 (t 1, .boolean) rfl).2)
  rw [hcA] at hP hD
  clear hK2 hcA
  obtain ⟨w7, hw⟩ : ∃ q, q = w5 ++ [(q6, .inl (t 1, 768, .inl (fun _ => 0)))] := ⟨_, rfl⟩
  have hP : va_P D Cl (w5 ++ [(q6, .inl (t 1, 768, .inl (fun _ => 0)))]) H := hP
  have hD : va_D (Az z) (w5 ++ [(q6, .inl (t 1, 768, .inl (fun _ => 0)))]) := hD
  rw [← hw] at hP hD
  have hC := hC.push (c := [(q6, .inl (t 1, 768, .inl (fun _ => 0)))])
  rw [← hw] at hC
  have e10 : w7[10]? = some (y, .inr (4, [.ref q1, .null, .int 0])) := by rw [hw]; exact lk_push e10
  have e11 : w7[11]? = some (q1, .inr (1, [.ref a11])) := by rw [hw]; exact lk_push e11
  have e12 : w7[12]? = some (a11, .inl (t 2, 768, .inr (.inr (.inr (.inr (fun _ => none)))))) := by rw [hw]; exact lk_push e12
  have e13 : w7[13]? = some (q6, .inl (t 1, 768, .inl (fun _ => 0))) := by rw [hw]; exact lk_new hn
  have hn : w7.length = 14 := by rw [hw, List.length_append, hn]; rfl
  clear hw
  refine va_putF (D := D) (ci := 4) (v := .ref q6) (ty := (.array .boolean)) (C := R_Z) (T := F_Z) (N := 3) hx hb hts ws_Z t_Z ok_Z n_Z hown hK hP hD hS 10 e10 rfl 1 (by decide) (hts _ fl_Z_20) (fun _ h9 => h9) rfl hin rfl (by decide +kernel) rfl rfl (Nat.le_of_ble_eq_true rfl) d_Z_init_24 (fun H locs hP hD hS => ?_)
  obtain ⟨w8, hw⟩ : ∃ q, q = w7.set 10 (y, .inr (4, [.ref q1, .ref q6, .int 0])) := ⟨_, rfl⟩
  have hP : va_P D Cl (w7.set 10 (y, .inr (4, [.ref q1, .ref q6, .int 0]))) H := hP
  have hD : va_D (Az z) (w7.set 10 (y, .inr (4, [.ref q1, .ref q6, .int 0]))) := hD
  rw [← hw] at hP hD
  have hC := hC.put (p := 10) (c := (y, .inr (4, [.ref q1, .ref q6, .int 0])))
  rw [← hw] at hC
  have e10 : w8[10]? = some (y, .inr (4, [.ref q1, .ref q6, .int 0])) := by rw [hw]; exact lk_set e10
  have e11 : w8[11]? = some (q1, .inr (1, [.ref a11])) := by rw [hw]; exact lk_ne e11 (by decide)
  have e12 : w8[12]? = some (a11, .inl (t 2, 768, .inr (.inr (.inr (.inr (fun _ => none)))))) := by rw [hw]; exact lk_ne e12 (by decide)
  have e13 : w8[13]? = some (q6, .inl (t 1, 768, .inl (fun _ => 0))) := by rw [hw]; exact lk_ne e13 (by decide)
  have hn : w8.length = 14 := by rw [hw, List.length_set]; exact hn
  clear hw
  refine lv_aload_n hx hb d_Z_init_27 rfl (lv_at hl 0 rfl) ?_
  refine lv_iconst (v := 0) hx hb d_Z_init_28 (by decide) ?_
  refine va_put (D := D) (ci := 4) (v := .int 0) (ty := .int) (C := R_Z) (T := F_Z) (N := 3) hx hb hts ws_Z t_Z ok_Z n_Z hown hK hP hD hS 10 e10 rfl 2 (by decide) (hts _ fl_Z_24) (fun _ h9 => h9) rfl (by decide +kernel) rfl rfl (Nat.le_of_ble_eq_true rfl) d_Z_init_29 (fun H locs hP hD hS => ?_)
  obtain ⟨w9, hw⟩ : ∃ q, q = w8.set 10 (y, .inr (4, [.ref q1, .ref q6, .int 0])) := ⟨_, rfl⟩
  have hP : va_P D Cl (w8.set 10 (y, .inr (4, [.ref q1, .ref q6, .int 0]))) H := hP
  have hD : va_D (Az z) (w8.set 10 (y, .inr (4, [.ref q1, .ref q6, .int 0]))) := hD
  rw [← hw] at hP hD
  have hC := hC.put (p := 10) (c := (y, .inr (4, [.ref q1, .ref q6, .int 0])))
  rw [← hw] at hC
  have e10 : w9[10]? = some (y, .inr (4, [.ref q1, .ref q6, .int 0])) := by rw [hw]; exact lk_set e10
  have e11 : w9[11]? = some (q1, .inr (1, [.ref a11])) := by rw [hw]; exact lk_ne e11 (by decide)
  have e12 : w9[12]? = some (a11, .inl (t 2, 768, .inr (.inr (.inr (.inr (fun _ => none)))))) := by rw [hw]; exact lk_ne e12 (by decide)
  have e13 : w9[13]? = some (q6, .inl (t 1, 768, .inl (fun _ => 0))) := by rw [hw]; exact lk_ne e13 (by decide)
  have hn : w9.length = 14 := by rw [hw, List.length_set]; exact hn
  clear hw
  exact W.vret hx hb hr (fun t9 ht hW => ⟨⟨w9, rfl, ⟨q1, a11, q6, hC.sub (by decide), hn, e10, e11, e12, e13⟩, ⟨by rw [ht]; exact hP, va_K.moved hW.alike hK, hD, by rw [ht]; exact Nat.le_trans hz hS.1⟩⟩, hS.F ht⟩) hS.2.2 d_Z_init_32
set_option maxHeartbeats 4000000 in
set_option maxRecDepth 100000 in
theorem c_Z_init_14 {l : Launch} {D : va_G} {t : Nat → ClassId} {z : Nat} {sa : Nat → Nat} {ws : va_W} {y : Nat} (hn : ws.length = 15) (e14 : ws[14]? = some (y, .inr (4, [.null, .null, .int 0])))  : Met l y_Z_init (Cond.code y_Z_init b_Z_init 1 (.none : Option Jvm.ClassFile.FieldType) :: WS) ({ frames := 2, cells := 3, slots := 1537, locals := 33 }) (Pz D t z sa ws [.ref y]) (va_Qv (fun u : va_W => ∃ b9 a9 h9 : Nat, Ch ws u [14, 15] ∧ u.length = 18 ∧ u[14]? = some (y, .inr (4, [.ref b9, .ref h9, .int 0])) ∧ u[15]? = some (b9, .inr (1, [.ref a9])) ∧ u[16]? = some (a9, .inl (t 2, 768, .inr (.inr (.inr (.inr (fun _ => none)))))) ∧ u[17]? = some (h9, .inl (t 1, 768, .inl (fun _ => 0)))) (fun u U => Wd D t z u U) (Az z)) 3 1537 (Az z) := by
  refine Met.ofW (cc := b_Z_init) (maxL := 1) (ret := (.none : Option Jvm.ClassFile.FieldType)) (by decide) rfl ?_
  intro p e s m args below meth c s₁ B hml hv
  obtain ⟨rfl, ⟨hP, hK, hD, hz⟩, hM⟩ := hv
  have hx := B.exec
  have hb := B.bytes
  have hr := B.returns
  have hts : ∀ w ∈ WS, w.before [.ref y].toArray s = true := fun w h => atoms_spec B.pre w (List.mem_cons_of_mem _ h)
  have hown : s.vm.findClass R_Z = some m.cls := findClass_of_methodNamed B.named
  have hlocks := B.notSynchronized
  have hin : meth.name = "<init>" := (name_of_methodNamed B.named B.method).1
  have hA : ∀ q, s.heap.size ≤ q → Az z q := fun q h => Nat.le_trans hz h
  have hS : va_S (Az z) s.heap s.heap [] := va_S.rf
  have hC : Ch ws ws [] := Ch.rf
  have hl := lv_entry ([.ref y]) (n := 1) (Nat.le_of_ble_eq_true rfl)
  rw [lg_entry_eq]
  generalize (lg_sl ([.ref y]) ++ List.replicate (1 - (lg_sl ([.ref y])).length) Slot.unset).toArray = ls at hl ⊢
  have hl : lv_has ls 1 [(0, .ref y)] := hl
  refine lv_aload_n hx hb d_Z_init_0 rfl (lv_at hl 0 rfl) ?_
  refine W.objInit hx hb hown (hts _ ml_Z_3) (hts _ oi_im) (hts _ oi_cd) rfl (by rw [hml]; exact hl.1) rfl d_Z_init_1 (Nat.le_of_ble_eq_true rfl) (Nat.le_of_ble_eq_true rfl) ?_
  refine W.eq (g2 := F0 m 4 ls []) rfl ?_
  refine lv_aload_n hx hb d_Z_init_4 rfl (lv_at hl 0 rfl) ?_
  refine va_new (ci := 1) (fs := [.null]) (C := R_K) (T := F_K) (N := 1) hx hb hts ws_K t_K ok_K hown (hts _ cl_Z_9) (hts _ ib_K) (hts _ in_K) hK hP hD hS hA rfl (fun j hj => by rcases (show j = 0 by omega) with rfl <;> rfl) (Nat.le_of_ble_eq_true rfl) (Nat.le_of_ble_eq_true rfl) d_Z_init_5 (fun q1 H hP hD hS => ?_)
  obtain ⟨w2, hw⟩ : ∃ q, q = ws ++ [(q1, .inr (1, [.null]))] := ⟨_, rfl⟩
  have hP : va_P D Cl (ws ++ [(q1, .inr (1, [.null]))]) H := hP
  have hD : va_D (Az z) (ws ++ [(q1, .inr (1, [.null]))]) := hD
  rw [← hw] at hP hD
  have hC := hC.push (c := [(q1, .inr (1, [.null]))])
  rw [← hw] at hC
  have e14 : w2[14]? = some (y, .inr (4, [.null, .null, .int 0])) := by rw [hw]; exact lk_push e14
  have e15 : w2[15]? = some (q1, .inr (1, [.null])) := by rw [hw]; exact lk_new hn
  have hn : w2.length = 16 := by rw [hw, List.length_append, hn]; rfl
  clear hw
  refine lv_dup hx hb d_Z_init_8 rfl ?_
  refine lv_sipush (v := 768) hx hb d_Z_init_9 (by decide) ?_
  refine va_callv (va_runI (As := [.int 768]) (rest := [.ref q1, .ref y]) ⟨hx, hb, hml, hown, hts⟩ (c_K_init_15 (D := D) (t := t) (z := z) (sa := sa) (ws := w2)  hn e15) (cwI 1 hts (gd_I cd_K_init) rfl rfl rfl (hts _ in_K) (hts _ ml_Z_11) (hts _ im_K_init) rfl (by decide +kernel) ⟨Nat.le_of_ble_eq_true rfl, Nat.le_of_ble_eq_true rfl⟩) ⟨Pz_blind, Pz_at hP hK hD hz hM hS⟩ rfl rfl hl.1 rfl (lv_room (Nat.le_of_ble_eq_true rfl)) d_Z_init_12 ⟨Nat.le_of_ble_eq_true rfl, Nat.le_of_ble_eq_true rfl⟩) hS (fun q _ h => h) (fun q h => h) (fun w3 t9 H locs ht hvm hp hB hz1 hk1 hS => ?_)
  obtain ⟨hP, hK9, hD, -⟩ := hB
  rw [ht] at hP
  clear hK9
  obtain ⟨a15, hC9, hn9, kf15, kf16⟩ := hp
  have e14 : w3[14]? = some (y, .inr (4, [.null, .null, .int 0])) := hC9.keep e14 (by decide)
  have e15 : w3[15]? = some (q1, .inr (1, [.ref a15])) := kf15
  have e16 : w3[16]? = some (a15, .inl (t 2, 768, .inr (.inr (.inr (.inr (fun _ => none)))))) := kf16
  have hC := hC.trans hC9
  have hn : w3.length = 17 := hn9
  refine va_putF (D := D) (ci := 4) (v := .ref q1) (ty := (.object "PageStore$Blocks")) (C := R_Z) (T := F_Z) (N := 3) hx hb hts ws_Z t_Z ok_Z n_Z hown hK hP hD hS 14 e14 rfl 0 (by decide) (hts _ fl_Z_14) (fun _ h9 => h9) rfl hin rfl (by decide +kernel) rfl rfl (Nat.le_of_ble_eq_true rfl) d_Z_init_15 (fun H locs hP hD hS => ?_)
  obtain ⟨w5, hw⟩ : ∃ q, q = w3.set 14 (y, .inr (4, [.ref q1, .null, .int 0])) := ⟨_, rfl⟩
  have hP : va_P D Cl (w3.set 14 (y, .inr (4, [.ref q1, .null, .int 0]))) H := hP
  have hD : va_D (Az z) (w3.set 14 (y, .inr (4, [.ref q1, .null, .int 0]))) := hD
  rw [← hw] at hP hD
  have hC := hC.put (p := 14) (c := (y, .inr (4, [.ref q1, .null, .int 0])))
  rw [← hw] at hC
  have e14 : w5[14]? = some (y, .inr (4, [.ref q1, .null, .int 0])) := by rw [hw]; exact lk_set e14
  have e15 : w5[15]? = some (q1, .inr (1, [.ref a15])) := by rw [hw]; exact lk_ne e15 (by decide)
  have e16 : w5[16]? = some (a15, .inl (t 2, 768, .inr (.inr (.inr (.inr (fun _ => none)))))) := by rw [hw]; exact lk_ne e16 (by decide)
  have hn : w5.length = 17 := by rw [hw, List.length_set]; exact hn
  clear hw
  refine lv_aload_n hx hb d_Z_init_18 rfl (lv_at hl 0 rfl) ?_
  refine lv_sipush (v := 768) hx hb d_Z_init_19 (by decide) ?_
  refine va_newa (D := D) (atype := .boolean) hx hb (hts _ ac_boolean) (ty := .boolean) rfl hK hP hD hS hA (N' := 768) (a0 := (768, .inl (fun _ => 0))) (fun cA => rfl) (by decide) (by decide) (by decide) (Nat.le_of_ble_eq_true rfl) (Nat.le_of_ble_eq_true rfl) d_Z_init_22 (fun q6 cA H hK2 hP hD hS => ?_)
  have hcA : cA = t 1 := Option.some.inj ((hK2.2 6 (cA, .boolean) rfl).2.symm.trans (hK.2 1 (t 1, .boolean) rfl).2)
  rw [hcA] at hP hD
  clear hK2 hcA
  obtain ⟨w7, hw⟩ : ∃ q, q = w5 ++ [(q6, .inl (t 1, 768, .inl (fun _ => 0)))] := ⟨_, rfl⟩
  have hP : va_P D Cl (w5 ++ [(q6, .inl (t 1, 768, .inl (fun _ => 0)))]) H := hP
  have hD : va_D (Az z) (w5 ++ [(q6, .inl (t 1, 768, .inl (fun _ => 0)))]) := hD
  rw [← hw] at hP hD
  have hC := hC.push (c := [(q6, .inl (t 1, 768, .inl (fun _ => 0)))])
  rw [← hw] at hC
  have e14 : w7[14]? = some (y, .inr (4, [.ref q1, .null, .int 0])) := by rw [hw]; exact lk_push e14
  have e15 : w7[15]? = some (q1, .inr (1, [.ref a15])) := by rw [hw]; exact lk_push e15
  have e16 : w7[16]? = some (a15, .inl (t 2, 768, .inr (.inr (.inr (.inr (fun _ => none)))))) := by rw [hw]; exact lk_push e16
  have e17 : w7[17]? = some (q6, .inl (t 1, 768, .inl (fun _ => 0))) := by rw [hw]; exact lk_new hn
  have hn : w7.length = 18 := by rw [hw, List.length_append, hn]; rfl
  clear hw
  refine va_putF (D := D) (ci := 4) (v := .ref q6) (ty := (.array .boolean)) (C := R_Z) (T := F_Z) (N := 3) hx hb hts ws_Z t_Z ok_Z n_Z hown hK hP hD hS 14 e14 rfl 1 (by decide) (hts _ fl_Z_20) (fun _ h9 => h9) rfl hin rfl (by decide +kernel) rfl rfl (Nat.le_of_ble_eq_true rfl) d_Z_init_24 (fun H locs hP hD hS => ?_)
  obtain ⟨w8, hw⟩ : ∃ q, q = w7.set 14 (y, .inr (4, [.ref q1, .ref q6, .int 0])) := ⟨_, rfl⟩
  have hP : va_P D Cl (w7.set 14 (y, .inr (4, [.ref q1, .ref q6, .int 0]))) H := hP
  have hD : va_D (Az z) (w7.set 14 (y, .inr (4, [.ref q1, .ref q6, .int 0]))) := hD
  rw [← hw] at hP hD
  have hC := hC.put (p := 14) (c := (y, .inr (4, [.ref q1, .ref q6, .int 0])))
  rw [← hw] at hC
  have e14 : w8[14]? = some (y, .inr (4, [.ref q1, .ref q6, .int 0])) := by rw [hw]; exact lk_set e14
  have e15 : w8[15]? = some (q1, .inr (1, [.ref a15])) := by rw [hw]; exact lk_ne e15 (by decide)
  have e16 : w8[16]? = some (a15, .inl (t 2, 768, .inr (.inr (.inr (.inr (fun _ => none)))))) := by rw [hw]; exact lk_ne e16 (by decide)
  have e17 : w8[17]? = some (q6, .inl (t 1, 768, .inl (fun _ => 0))) := by rw [hw]; exact lk_ne e17 (by decide)
  have hn : w8.length = 18 := by rw [hw, List.length_set]; exact hn
  clear hw
  refine lv_aload_n hx hb d_Z_init_27 rfl (lv_at hl 0 rfl) ?_
  refine lv_iconst (v := 0) hx hb d_Z_init_28 (by decide) ?_
  refine va_put (D := D) (ci := 4) (v := .int 0) (ty := .int) (C := R_Z) (T := F_Z) (N := 3) hx hb hts ws_Z t_Z ok_Z n_Z hown hK hP hD hS 14 e14 rfl 2 (by decide) (hts _ fl_Z_24) (fun _ h9 => h9) rfl (by decide +kernel) rfl rfl (Nat.le_of_ble_eq_true rfl) d_Z_init_29 (fun H locs hP hD hS => ?_)
  obtain ⟨w9, hw⟩ : ∃ q, q = w8.set 14 (y, .inr (4, [.ref q1, .ref q6, .int 0])) := ⟨_, rfl⟩
  have hP : va_P D Cl (w8.set 14 (y, .inr (4, [.ref q1, .ref q6, .int 0]))) H := hP
  have hD : va_D (Az z) (w8.set 14 (y, .inr (4, [.ref q1, .ref q6, .int 0]))) := hD
  rw [← hw] at hP hD
  have hC := hC.put (p := 14) (c := (y, .inr (4, [.ref q1, .ref q6, .int 0])))
  rw [← hw] at hC
  have e14 : w9[14]? = some (y, .inr (4, [.ref q1, .ref q6, .int 0])) := by rw [hw]; exact lk_set e14
  have e15 : w9[15]? = some (q1, .inr (1, [.ref a15])) := by rw [hw]; exact lk_ne e15 (by decide)
  have e16 : w9[16]? = some (a15, .inl (t 2, 768, .inr (.inr (.inr (.inr (fun _ => none)))))) := by rw [hw]; exact lk_ne e16 (by decide)
  have e17 : w9[17]? = some (q6, .inl (t 1, 768, .inl (fun _ => 0))) := by rw [hw]; exact lk_ne e17 (by decide)
  have hn : w9.length = 18 := by rw [hw, List.length_set]; exact hn
  clear hw
  exact W.vret hx hb hr (fun t9 ht hW => ⟨⟨w9, rfl, ⟨q1, a15, q6, hC.sub (by decide), hn, e14, e15, e16, e17⟩, ⟨by rw [ht]; exact hP, va_K.moved hW.alike hK, hD, by rw [ht]; exact Nat.le_trans hz hS.1⟩⟩, hS.F ht⟩) hS.2.2 d_Z_init_32
set_option maxHeartbeats 4000000 in
set_option maxRecDepth 100000 in
theorem c_Z_init_18 {l : Launch} {D : va_G} {t : Nat → ClassId} {z : Nat} {sa : Nat → Nat} {ws : va_W} {y : Nat} (hn : ws.length = 19) (e18 : ws[18]? = some (y, .inr (4, [.null, .null, .int 0])))  : Met l y_Z_init (Cond.code y_Z_init b_Z_init 1 (.none : Option Jvm.ClassFile.FieldType) :: WS) ({ frames := 2, cells := 3, slots := 1537, locals := 33 }) (Pz D t z sa ws [.ref y]) (va_Qv (fun u : va_W => ∃ b9 a9 h9 : Nat, Ch ws u [18, 19] ∧ u.length = 22 ∧ u[18]? = some (y, .inr (4, [.ref b9, .ref h9, .int 0])) ∧ u[19]? = some (b9, .inr (1, [.ref a9])) ∧ u[20]? = some (a9, .inl (t 2, 768, .inr (.inr (.inr (.inr (fun _ => none)))))) ∧ u[21]? = some (h9, .inl (t 1, 768, .inl (fun _ => 0)))) (fun u U => Wd D t z u U) (Az z)) 3 1537 (Az z) := by
  refine Met.ofW (cc := b_Z_init) (maxL := 1) (ret := (.none : Option Jvm.ClassFile.FieldType)) (by decide) rfl ?_
  intro p e s m args below meth c s₁ B hml hv
  obtain ⟨rfl, ⟨hP, hK, hD, hz⟩, hM⟩ := hv
  have hx := B.exec
  have hb := B.bytes
  have hr := B.returns
  have hts : ∀ w ∈ WS, w.before [.ref y].toArray s = true := fun w h => atoms_spec B.pre w (List.mem_cons_of_mem _ h)
  have hown : s.vm.findClass R_Z = some m.cls := findClass_of_methodNamed B.named
  have hlocks := B.notSynchronized
  have hin : meth.name = "<init>" := (name_of_methodNamed B.named B.method).1
  have hA : ∀ q, s.heap.size ≤ q → Az z q := fun q h => Nat.le_trans hz h
  have hS : va_S (Az z) s.heap s.heap [] := va_S.rf
  have hC : Ch ws ws [] := Ch.rf
  have hl := lv_entry ([.ref y]) (n := 1) (Nat.le_of_ble_eq_true rfl)
  rw [lg_entry_eq]
  generalize (lg_sl ([.ref y]) ++ List.replicate (1 - (lg_sl ([.ref y])).length) Slot.unset).toArray = ls at hl ⊢
  have hl : lv_has ls 1 [(0, .ref y)] := hl
  refine lv_aload_n hx hb d_Z_init_0 rfl (lv_at hl 0 rfl) ?_
  refine W.objInit hx hb hown (hts _ ml_Z_3) (hts _ oi_im) (hts _ oi_cd) rfl (by rw [hml]; exact hl.1) rfl d_Z_init_1 (Nat.le_of_ble_eq_true rfl) (Nat.le_of_ble_eq_true rfl) ?_
  refine W.eq (g2 := F0 m 4 ls []) rfl ?_
  refine lv_aload_n hx hb d_Z_init_4 rfl (lv_at hl 0 rfl) ?_
  refine va_new (ci := 1) (fs := [.null]) (C := R_K) (T := F_K) (N := 1) hx hb hts ws_K t_K ok_K hown (hts _ cl_Z_9) (hts _ ib_K) (hts _ in_K) hK hP hD hS hA rfl (fun j hj => by rcases (show j = 0 by omega) with rfl <;> rfl) (Nat.le_of_ble_eq_true rfl) (Nat.le_of_ble_eq_true rfl) d_Z_init_5 (fun q1 H hP hD hS => ?_)
  obtain ⟨w2, hw⟩ : ∃ q, q = ws ++ [(q1, .inr (1, [.null]))] := ⟨_, rfl⟩
  have hP : va_P D Cl (ws ++ [(q1, .inr (1, [.null]))]) H := hP
  have hD : va_D (Az z) (ws ++ [(q1, .inr (1, [.null]))]) := hD
  rw [← hw] at hP hD
  have hC := hC.push (c := [(q1, .inr (1, [.null]))])
  rw [← hw] at hC
  have e18 : w2[18]? = some (y, .inr (4, [.null, .null, .int 0])) := by rw [hw]; exact lk_push e18
  have e19 : w2[19]? = some (q1, .inr (1, [.null])) := by rw [hw]; exact lk_new hn
  have hn : w2.length = 20 := by rw [hw, List.length_append, hn]; rfl
  clear hw
  refine lv_dup hx hb d_Z_init_8 rfl ?_
  refine lv_sipush (v := 768) hx hb d_Z_init_9 (by decide) ?_
  refine va_callv (va_runI (As := [.int 768]) (rest := [.ref q1, .ref y]) ⟨hx, hb, hml, hown, hts⟩ (c_K_init_19 (D := D) (t := t) (z := z) (sa := sa) (ws := w2)  hn e19) (cwI 1 hts (gd_I cd_K_init) rfl rfl rfl (hts _ in_K) (hts _ ml_Z_11) (hts _ im_K_init) rfl (by decide +kernel) ⟨Nat.le_of_ble_eq_true rfl, Nat.le_of_ble_eq_true rfl⟩) ⟨Pz_blind, Pz_at hP hK hD hz hM hS⟩ rfl rfl hl.1 rfl (lv_room (Nat.le_of_ble_eq_true rfl)) d_Z_init_12 ⟨Nat.le_of_ble_eq_true rfl, Nat.le_of_ble_eq_true rfl⟩) hS (fun q _ h => h) (fun q h => h) (fun w3 t9 H locs ht hvm hp hB hz1 hk1 hS => ?_)
  obtain ⟨hP, hK9, hD, -⟩ := hB
  rw [ht] at hP
  clear hK9
  obtain ⟨a19, hC9, hn9, kf19, kf20⟩ := hp
  have e18 : w3[18]? = some (y, .inr (4, [.null, .null, .int 0])) := hC9.keep e18 (by decide)
  have e19 : w3[19]? = some (q1, .inr (1, [.ref a19])) := kf19
  have e20 : w3[20]? = some (a19, .inl (t 2, 768, .inr (.inr (.inr (.inr (fun _ => none)))))) := kf20
  have hC := hC.trans hC9
  have hn : w3.length = 21 := hn9
  refine va_putF (D := D) (ci := 4) (v := .ref q1) (ty := (.object "PageStore$Blocks")) (C := R_Z) (T := F_Z) (N := 3) hx hb hts ws_Z t_Z ok_Z n_Z hown hK hP hD hS 18 e18 rfl 0 (by decide) (hts _ fl_Z_14) (fun _ h9 => h9) rfl hin rfl (by decide +kernel) rfl rfl (Nat.le_of_ble_eq_true rfl) d_Z_init_15 (fun H locs hP hD hS => ?_)
  obtain ⟨w5, hw⟩ : ∃ q, q = w3.set 18 (y, .inr (4, [.ref q1, .null, .int 0])) := ⟨_, rfl⟩
  have hP : va_P D Cl (w3.set 18 (y, .inr (4, [.ref q1, .null, .int 0]))) H := hP
  have hD : va_D (Az z) (w3.set 18 (y, .inr (4, [.ref q1, .null, .int 0]))) := hD
  rw [← hw] at hP hD
  have hC := hC.put (p := 18) (c := (y, .inr (4, [.ref q1, .null, .int 0])))
  rw [← hw] at hC
  have e18 : w5[18]? = some (y, .inr (4, [.ref q1, .null, .int 0])) := by rw [hw]; exact lk_set e18
  have e19 : w5[19]? = some (q1, .inr (1, [.ref a19])) := by rw [hw]; exact lk_ne e19 (by decide)
  have e20 : w5[20]? = some (a19, .inl (t 2, 768, .inr (.inr (.inr (.inr (fun _ => none)))))) := by rw [hw]; exact lk_ne e20 (by decide)
  have hn : w5.length = 21 := by rw [hw, List.length_set]; exact hn
  clear hw
  refine lv_aload_n hx hb d_Z_init_18 rfl (lv_at hl 0 rfl) ?_
  refine lv_sipush (v := 768) hx hb d_Z_init_19 (by decide) ?_
  refine va_newa (D := D) (atype := .boolean) hx hb (hts _ ac_boolean) (ty := .boolean) rfl hK hP hD hS hA (N' := 768) (a0 := (768, .inl (fun _ => 0))) (fun cA => rfl) (by decide) (by decide) (by decide) (Nat.le_of_ble_eq_true rfl) (Nat.le_of_ble_eq_true rfl) d_Z_init_22 (fun q6 cA H hK2 hP hD hS => ?_)
  have hcA : cA = t 1 := Option.some.inj ((hK2.2 6 (cA, .boolean) rfl).2.symm.trans (hK.2 1 (t 1, .boolean) rfl).2)
  rw [hcA] at hP hD
  clear hK2 hcA
  obtain ⟨w7, hw⟩ : ∃ q, q = w5 ++ [(q6, .inl (t 1, 768, .inl (fun _ => 0)))] := ⟨_, rfl⟩
  have hP : va_P D Cl (w5 ++ [(q6, .inl (t 1, 768, .inl (fun _ => 0)))]) H := hP
  have hD : va_D (Az z) (w5 ++ [(q6, .inl (t 1, 768, .inl (fun _ => 0)))]) := hD
  rw [← hw] at hP hD
  have hC := hC.push (c := [(q6, .inl (t 1, 768, .inl (fun _ => 0)))])
  rw [← hw] at hC
  have e18 : w7[18]? = some (y, .inr (4, [.ref q1, .null, .int 0])) := by rw [hw]; exact lk_push e18
  have e19 : w7[19]? = some (q1, .inr (1, [.ref a19])) := by rw [hw]; exact lk_push e19
  have e20 : w7[20]? = some (a19, .inl (t 2, 768, .inr (.inr (.inr (.inr (fun _ => none)))))) := by rw [hw]; exact lk_push e20
  have e21 : w7[21]? = some (q6, .inl (t 1, 768, .inl (fun _ => 0))) := by rw [hw]; exact lk_new hn
  have hn : w7.length = 22 := by rw [hw, List.length_append, hn]; rfl
  clear hw
  refine va_putF (D := D) (ci := 4) (v := .ref q6) (ty := (.array .boolean)) (C := R_Z) (T := F_Z) (N := 3) hx hb hts ws_Z t_Z ok_Z n_Z hown hK hP hD hS 18 e18 rfl 1 (by decide) (hts _ fl_Z_20) (fun _ h9 => h9) rfl hin rfl (by decide +kernel) rfl rfl (Nat.le_of_ble_eq_true rfl) d_Z_init_24 (fun H locs hP hD hS => ?_)
  obtain ⟨w8, hw⟩ : ∃ q, q = w7.set 18 (y, .inr (4, [.ref q1, .ref q6, .int 0])) := ⟨_, rfl⟩
  have hP : va_P D Cl (w7.set 18 (y, .inr (4, [.ref q1, .ref q6, .int 0]))) H := hP
  have hD : va_D (Az z) (w7.set 18 (y, .inr (4, [.ref q1, .ref q6, .int 0]))) := hD
  rw [← hw] at hP hD
  have hC := hC.put (p := 18) (c := (y, .inr (4, [.ref q1, .ref q6, .int 0])))
  rw [← hw] at hC
  have e18 : w8[18]? = some (y, .inr (4, [.ref q1, .ref q6, .int 0])) := by rw [hw]; exact lk_set e18
  have e19 : w8[19]? = some (q1, .inr (1, [.ref a19])) := by rw [hw]; exact lk_ne e19 (by decide)
  have e20 : w8[20]? = some (a19, .inl (t 2, 768, .inr (.inr (.inr (.inr (fun _ => none)))))) := by rw [hw]; exact lk_ne e20 (by decide)
  have e21 : w8[21]? = some (q6, .inl (t 1, 768, .inl (fun _ => 0))) := by rw [hw]; exact lk_ne e21 (by decide)
  have hn : w8.length = 22 := by rw [hw, List.length_set]; exact hn
  clear hw
  refine lv_aload_n hx hb d_Z_init_27 rfl (lv_at hl 0 rfl) ?_
  refine lv_iconst (v := 0) hx hb d_Z_init_28 (by decide) ?_
  refine va_put (D := D) (ci := 4) (v := .int 0) (ty := .int) (C := R_Z) (T := F_Z) (N := 3) hx hb hts ws_Z t_Z ok_Z n_Z hown hK hP hD hS 18 e18 rfl 2 (by decide) (hts _ fl_Z_24) (fun _ h9 => h9) rfl (by decide +kernel) rfl rfl (Nat.le_of_ble_eq_true rfl) d_Z_init_29 (fun H locs hP hD hS => ?_)
  obtain ⟨w9, hw⟩ : ∃ q, q = w8.set 18 (y, .inr (4, [.ref q1, .ref q6, .int 0])) := ⟨_, rfl⟩
  have hP : va_P D Cl (w8.set 18 (y, .inr (4, [.ref q1, .ref q6, .int 0]))) H := hP
  have hD : va_D (Az z) (w8.set 18 (y, .inr (4, [.ref q1, .ref q6, .int 0]))) := hD
  rw [← hw] at hP hD
  have hC := hC.put (p := 18) (c := (y, .inr (4, [.ref q1, .ref q6, .int 0])))
  rw [← hw] at hC
  have e18 : w9[18]? = some (y, .inr (4, [.ref q1, .ref q6, .int 0])) := by rw [hw]; exact lk_set e18
  have e19 : w9[19]? = some (q1, .inr (1, [.ref a19])) := by rw [hw]; exact lk_ne e19 (by decide)
  have e20 : w9[20]? = some (a19, .inl (t 2, 768, .inr (.inr (.inr (.inr (fun _ => none)))))) := by rw [hw]; exact lk_ne e20 (by decide)
  have e21 : w9[21]? = some (q6, .inl (t 1, 768, .inl (fun _ => 0))) := by rw [hw]; exact lk_ne e21 (by decide)
  have hn : w9.length = 22 := by rw [hw, List.length_set]; exact hn
  clear hw
  exact W.vret hx hb hr (fun t9 ht hW => ⟨⟨w9, rfl, ⟨q1, a19, q6, hC.sub (by decide), hn, e18, e19, e20, e21⟩, ⟨by rw [ht]; exact hP, va_K.moved hW.alike hK, hD, by rw [ht]; exact Nat.le_trans hz hS.1⟩⟩, hS.F ht⟩) hS.2.2 d_Z_init_32
set_option maxHeartbeats 4000000 in
set_option maxRecDepth 100000 in
theorem c_Z_init_22 {l : Launch} {D : va_G} {t : Nat → ClassId} {z : Nat} {sa : Nat → Nat} {ws : va_W} {y : Nat} (hn : ws.length = 23) (e22 : ws[22]? = some (y, .inr (4, [.null, .null, .int 0])))  : Met l y_Z_init (Cond.code y_Z_init b_Z_init 1 (.none : Option Jvm.ClassFile.FieldType) :: WS) ({ frames := 2, cells := 3, slots := 1537, locals := 33 }) (Pz D t z sa ws [.ref y]) (va_Qv (fun u : va_W => ∃ b9 a9 h9 : Nat, Ch ws u [22, 23] ∧ u.length = 26 ∧ u[22]? = some (y, .inr (4, [.ref b9, .ref h9, .int 0])) ∧ u[23]? = some (b9, .inr (1, [.ref a9])) ∧ u[24]? = some (a9, .inl (t 2, 768, .inr (.inr (.inr (.inr (fun _ => none)))))) ∧ u[25]? = some (h9, .inl (t 1, 768, .inl (fun _ => 0)))) (fun u U => Wd D t z u U) (Az z)) 3 1537 (Az z) := by
  refine Met.ofW (cc := b_Z_init) (maxL := 1) (ret := (.none : Option Jvm.ClassFile.FieldType)) (by decide) rfl ?_
  intro p e s m args below meth c s₁ B hml hv
  obtain ⟨rfl, ⟨hP, hK, hD, hz⟩, hM⟩ := hv
  have hx := B.exec
  have hb := B.bytes
  have hr := B.returns
  have hts : ∀ w ∈ WS, w.before [.ref y].toArray s = true := fun w h => atoms_spec B.pre w (List.mem_cons_of_mem _ h)
  have hown : s.vm.findClass R_Z = some m.cls := findClass_of_methodNamed B.named
  have hlocks := B.notSynchronized
  have hin : meth.name = "<init>" := (name_of_methodNamed B.named B.method).1
  have hA : ∀ q, s.heap.size ≤ q → Az z q := fun q h => Nat.le_trans hz h
  have hS : va_S (Az z) s.heap s.heap [] := va_S.rf
  have hC : Ch ws ws [] := Ch.rf
  have hl := lv_entry ([.ref y]) (n := 1) (Nat.le_of_ble_eq_true rfl)
  rw [lg_entry_eq]
  generalize (lg_sl ([.ref y]) ++ List.replicate (1 - (lg_sl ([.ref y])).length) Slot.unset).toArray = ls at hl ⊢
  have hl : lv_has ls 1 [(0, .ref y)] := hl
  refine lv_aload_n hx hb d_Z_init_0 rfl (lv_at hl 0 rfl) ?_
  refine W.objInit hx hb hown (hts _ ml_Z_3) (hts _ oi_im) (hts _ oi_cd) rfl (by rw [hml]; exact hl.1) rfl d_Z_init_1 (Nat.le_of_ble_eq_true rfl) (Nat.le_of_ble_eq_true rfl) ?_
  refine W.eq (g2 := F0 m 4 ls []) rfl ?_
  refine lv_aload_n hx hb d_Z_init_4 rfl (lv_at hl 0 rfl) ?_
  refine va_new (ci := 1) (fs := [.null]) (C := R_K) (T := F_K) (N := 1) hx hb hts ws_K t_K ok_K hown (hts _ cl_Z_9) (hts _ ib_K) (hts _ in_K) hK hP hD hS hA rfl (fun j hj => by rcases (show j = 0 by omega) with rfl <;> rfl) (Nat.le_of_ble_eq_true rfl) (Nat.le_of_ble_eq_true rfl) d_Z_init_5 (fun q1 H hP hD hS => ?_)
  obtain ⟨w2, hw⟩ : ∃ q, q = ws ++ [(q1, .inr (1, [.null]))] := ⟨_, rfl⟩
  have hP : va_P D Cl (ws ++ [(q1, .inr (1, [.null]))]) H := hP
  have hD : va_D (Az z) (ws ++ [(q1, .inr (1, [.null]))]) := hD
  rw [← hw] at hP hD
  have hC := hC.push (c := [(q1, .inr (1, [.null]))])
  rw [← hw] at hC
  have e22 : w2[22]? = some (y, .inr (4, [.null, .null, .int 0])) := by rw [hw]; exact lk_push e22
  have e23 : w2[23]? = some (q1, .inr (1, [.null])) := by rw [hw]; exact lk_new hn
  have hn : w2.length = 24 := by rw [hw, List.length_append, hn]; rfl
  clear hw
  refine lv_dup hx hb d_Z_init_8 rfl ?_
  refine lv_sipush (v := 768) hx hb d_Z_init_9 (by decide) ?_
  refine va_callv (va_runI (As := [.int 768]) (rest := [.ref q1, .ref y]) ⟨hx, hb, hml, hown, hts⟩ (c_K_init_23 (D := D) (t := t) (z := z) (sa := sa) (ws := w2)  hn e23) (cwI 1 hts (gd_I cd_K_init) rfl rfl rfl (hts _ in_K) (hts _ ml_Z_11) (hts _ im_K_init) rfl (by decide +kernel) ⟨Nat.le_of_ble_eq_true rfl, Nat.le_of_ble_eq_true rfl⟩) ⟨Pz_blind, Pz_at hP hK hD hz hM hS⟩ rfl rfl hl.1 rfl (lv_room (Nat.le_of_ble_eq_true rfl)) d_Z_init_12 ⟨Nat.le_of_ble_eq_true rfl, Nat.le_of_ble_eq_true rfl⟩) hS (fun q _ h => h) (fun q h => h) (fun w3 t9 H locs ht hvm hp hB hz1 hk1 hS => ?_)
  obtain ⟨hP, hK9, hD, -⟩ := hB
  rw [ht] at hP
  clear hK9
  obtain ⟨a23, hC9, hn9, kf23, kf24⟩ := hp
  have e22 : w3[22]? = some (y, .inr (4, [.null, .null, .int 0])) := hC9.keep e22 (by decide)
  have e23 : w3[23]? = some (q1, .inr (1, [.ref a23])) := kf23
  have e24 : w3[24]? = some (a23, .inl (t 2, 768, .inr (.inr (.inr (.inr (fun _ => none)))))) := kf24
  have hC := hC.trans hC9
  have hn : w3.length = 25 := hn9
  refine va_putF (D := D) (ci := 4) (v := .ref q1) (ty := (.object "PageStore$Blocks")) (C := R_Z) (T := F_Z) (N := 3) hx hb hts ws_Z t_Z ok_Z n_Z hown hK hP hD hS 22 e22 rfl 0 (by decide) (hts _ fl_Z_14) (fun _ h9 => h9) rfl hin rfl (by decide +kernel) rfl rfl (Nat.le_of_ble_eq_true rfl) d_Z_init_15 (fun H locs hP hD hS => ?_)
  obtain ⟨w5, hw⟩ : ∃ q, q = w3.set 22 (y, .inr (4, [.ref q1, .null, .int 0])) := ⟨_, rfl⟩
  have hP : va_P D Cl (w3.set 22 (y, .inr (4, [.ref q1, .null, .int 0]))) H := hP
  have hD : va_D (Az z) (w3.set 22 (y, .inr (4, [.ref q1, .null, .int 0]))) := hD
  rw [← hw] at hP hD
  have hC := hC.put (p := 22) (c := (y, .inr (4, [.ref q1, .null, .int 0])))
  rw [← hw] at hC
  have e22 : w5[22]? = some (y, .inr (4, [.ref q1, .null, .int 0])) := by rw [hw]; exact lk_set e22
  have e23 : w5[23]? = some (q1, .inr (1, [.ref a23])) := by rw [hw]; exact lk_ne e23 (by decide)
  have e24 : w5[24]? = some (a23, .inl (t 2, 768, .inr (.inr (.inr (.inr (fun _ => none)))))) := by rw [hw]; exact lk_ne e24 (by decide)
  have hn : w5.length = 25 := by rw [hw, List.length_set]; exact hn
  clear hw
  refine lv_aload_n hx hb d_Z_init_18 rfl (lv_at hl 0 rfl) ?_
  refine lv_sipush (v := 768) hx hb d_Z_init_19 (by decide) ?_
  refine va_newa (D := D) (atype := .boolean) hx hb (hts _ ac_boolean) (ty := .boolean) rfl hK hP hD hS hA (N' := 768) (a0 := (768, .inl (fun _ => 0))) (fun cA => rfl) (by decide) (by decide) (by decide) (Nat.le_of_ble_eq_true rfl) (Nat.le_of_ble_eq_true rfl) d_Z_init_22 (fun q6 cA H hK2 hP hD hS => ?_)
  have hcA : cA = t 1 := Option.some.inj ((hK2.2 6 (cA, .boolean) rfl).2.symm.trans (hK.2 1 (t 1, .boolean) rfl).2)
  rw [hcA] at hP hD
  clear hK2 hcA
  obtain ⟨w7, hw⟩ : ∃ q, q = w5 ++ [(q6, .inl (t 1, 768, .inl (fun _ => 0)))] := ⟨_, rfl⟩
  have hP : va_P D Cl (w5 ++ [(q6, .inl (t 1, 768, .inl (fun _ => 0)))]) H := hP
  have hD : va_D (Az z) (w5 ++ [(q6, .inl (t 1, 768, .inl (fun _ => 0)))]) := hD
  rw [← hw] at hP hD
  have hC := hC.push (c := [(q6, .inl (t 1, 768, .inl (fun _ => 0)))])
  rw [← hw] at hC
  have e22 : w7[22]? = some (y, .inr (4, [.ref q1, .null, .int 0])) := by rw [hw]; exact lk_push e22
  have e23 : w7[23]? = some (q1, .inr (1, [.ref a23])) := by rw [hw]; exact lk_push e23
  have e24 : w7[24]? = some (a23, .inl (t 2, 768, .inr (.inr (.inr (.inr (fun _ => none)))))) := by rw [hw]; exact lk_push e24
  have e25 : w7[25]? = some (q6, .inl (t 1, 768, .inl (fun _ => 0))) := by rw [hw]; exact lk_new hn
  have hn : w7.length = 26 := by rw [hw, List.length_append, hn]; rfl
  clear hw
  refine va_putF (D := D) (ci := 4) (v := .ref q6) (ty := (.array .boolean)) (C := R_Z) (T := F_Z) (N := 3) hx hb hts ws_Z t_Z ok_Z n_Z hown hK hP hD hS 22 e22 rfl 1 (by decide) (hts _ fl_Z_20) (fun _ h9 => h9) rfl hin rfl (by decide +kernel) rfl rfl (Nat.le_of_ble_eq_true rfl) d_Z_init_24 (fun H locs hP hD hS => ?_)
  obtain ⟨w8, hw⟩ : ∃ q, q = w7.set 22 (y, .inr (4, [.ref q1, .ref q6, .int 0])) := ⟨_, rfl⟩
  have hP : va_P D Cl (w7.set 22 (y, .inr (4, [.ref q1, .ref q6, .int 0]))) H := hP
  have hD : va_D (Az z) (w7.set 22 (y, .inr (4, [.ref q1, .ref q6, .int 0]))) := hD
  rw [← hw] at hP hD
  have hC := hC.put (p := 22) (c := (y, .inr (4, [.ref q1, .ref q6, .int 0])))
  rw [← hw] at hC
  have e22 : w8[22]? = some (y, .inr (4, [.ref q1, .ref q6, .int 0])) := by rw [hw]; exact lk_set e22
  have e23 : w8[23]? = some (q1, .inr (1, [.ref a23])) := by rw [hw]; exact lk_ne e23 (by decide)
  have e24 : w8[24]? = some (a23, .inl (t 2, 768, .inr (.inr (.inr (.inr (fun _ => none)))))) := by rw [hw]; exact lk_ne e24 (by decide)
  have e25 : w8[25]? = some (q6, .inl (t 1, 768, .inl (fun _ => 0))) := by rw [hw]; exact lk_ne e25 (by decide)
  have hn : w8.length = 26 := by rw [hw, List.length_set]; exact hn
  clear hw
  refine lv_aload_n hx hb d_Z_init_27 rfl (lv_at hl 0 rfl) ?_
  refine lv_iconst (v := 0) hx hb d_Z_init_28 (by decide) ?_
  refine va_put (D := D) (ci := 4) (v := .int 0) (ty := .int) (C := R_Z) (T := F_Z) (N := 3) hx hb hts ws_Z t_Z ok_Z n_Z hown hK hP hD hS 22 e22 rfl 2 (by decide) (hts _ fl_Z_24) (fun _ h9 => h9) rfl (by decide +kernel) rfl rfl (Nat.le_of_ble_eq_true rfl) d_Z_init_29 (fun H locs hP hD hS => ?_)
  obtain ⟨w9, hw⟩ : ∃ q, q = w8.set 22 (y, .inr (4, [.ref q1, .ref q6, .int 0])) := ⟨_, rfl⟩
  have hP : va_P D Cl (w8.set 22 (y, .inr (4, [.ref q1, .ref q6, .int 0]))) H := hP
  have hD : va_D (Az z) (w8.set 22 (y, .inr (4, [.ref q1, .ref q6, .int 0]))) := hD
  rw [← hw] at hP hD
  have hC := hC.put (p := 22) (c := (y, .inr (4, [.ref q1, .ref q6, .int 0])))
  rw [← hw] at hC
  have e22 : w9[22]? = some (y, .inr (4, [.ref q1, .ref q6, .int 0])) := by rw [hw]; exact lk_set e22
  have e23 : w9[23]? = some (q1, .inr (1, [.ref a23])) := by rw [hw]; exact lk_ne e23 (by decide)
  have e24 : w9[24]? = some (a23, .inl (t 2, 768, .inr (.inr (.inr (.inr (fun _ => none)))))) := by rw [hw]; exact lk_ne e24 (by decide)
  have e25 : w9[25]? = some (q6, .inl (t 1, 768, .inl (fun _ => 0))) := by rw [hw]; exact lk_ne e25 (by decide)
  have hn : w9.length = 26 := by rw [hw, List.length_set]; exact hn
  clear hw
  exact W.vret hx hb hr (fun t9 ht hW => ⟨⟨w9, rfl, ⟨q1, a23, q6, hC.sub (by decide), hn, e22, e23, e24, e25⟩, ⟨by rw [ht]; exact hP, va_K.moved hW.alike hK, hD, by rw [ht]; exact Nat.le_trans hz hS.1⟩⟩, hS.F ht⟩) hS.2.2 d_Z_init_32
set_option maxHeartbeats 4000000 in
set_option maxRecDepth 100000 in
theorem c_Z_init_26 {l : Launch} {D : va_G} {t : Nat → ClassId} {z : Nat} {sa : Nat → Nat} {ws : va_W} {y : Nat} (hn : ws.length = 27) (e26 : ws[26]? = some (y, .inr (4, [.null, .null, .int 0])))  : Met l y_Z_init (Cond.code y_Z_init b_Z_init 1 (.none : Option Jvm.ClassFile.FieldType) :: WS) ({ frames := 2, cells := 3, slots := 1537, locals := 33 }) (Pz D t z sa ws [.ref y]) (va_Qv (fun u : va_W => ∃ b9 a9 h9 : Nat, Ch ws u [26, 27] ∧ u.length = 30 ∧ u[26]? = some (y, .inr (4, [.ref b9, .ref h9, .int 0])) ∧ u[27]? = some (b9, .inr (1, [.ref a9])) ∧ u[28]? = some (a9, .inl (t 2, 768, .inr (.inr (.inr (.inr (fun _ => none)))))) ∧ u[29]? = some (h9, .inl (t 1, 768, .inl (fun _ => 0)))) (fun u U => Wd D t z u U) (Az z)) 3 1537 (Az z) := by
  refine Met.ofW (cc := b_Z_init) (maxL := 1) (ret := (.none : Option Jvm.ClassFile.FieldType)) (by decide) rfl ?_
  intro p e s m args below meth c s₁ B hml hv
  obtain ⟨rfl, ⟨hP, hK, hD, hz⟩, hM⟩ := hv
  have hx := B.exec
  have hb := B.bytes
  have hr := B.returns
  have hts : ∀ w ∈ WS, w.before [.ref y].toArray s = true := fun w h => atoms_spec B.pre w (List.mem_cons_of_mem _ h)
  have hown : s.vm.findClass R_Z = some m.cls := findClass_of_methodNamed B.named
  have hlocks := B.notSynchronized
  have hin : meth.name = "<init>" := (name_of_methodNamed B.named B.method).1
  have hA : ∀ q, s.heap.size ≤ q → Az z q := fun q h => Nat.le_trans hz h
  have hS : va_S (Az z) s.heap s.heap [] := va_S.rf
  have hC : Ch ws ws [] := Ch.rf
  have hl := lv_entry ([.ref y]) (n := 1) (Nat.le_of_ble_eq_true rfl)
  rw [lg_entry_eq]
  generalize (lg_sl ([.ref y]) ++ List.replicate (1 - (lg_sl ([.ref y])).length) Slot.unset).toArray = ls at hl ⊢
  have hl : lv_has ls 1 [(0, .ref y)] := hl
  refine lv_aload_n hx hb d_Z_init_0 rfl (lv_at hl 0 rfl) ?_
  refine W.objInit hx hb hown (hts _ ml_Z_3) (hts _ oi_im) (hts _ oi_cd) rfl (by rw [hml]; exact hl.1) rfl d_Z_init_1 (Nat.le_of_ble_eq_true rfl) (Nat.le_of_ble_eq_true rfl) ?_
  refine W.eq (g2 := F0 m 4 ls []) rfl ?_
  refine lv_aload_n hx hb d_Z_init_4 rfl (lv_at hl 0 rfl) ?_
  refine va_new (ci := 1) (fs := [.null]) (C := R_K) (T := F_K) (N := 1) hx hb hts ws_K t_K ok_K hown (hts _ cl_Z_9) (hts _ ib_K) (hts _ in_K) hK hP hD hS hA rfl (fun j hj => by rcases (show j = 0 by omega) with rfl <;> rfl) (Nat.le_of_ble_eq_true rfl) (Nat.le_of_ble_eq_true rfl) d_Z_init_5 (fun q1 H hP hD hS => ?_)
  obtain ⟨w2, hw⟩ : ∃ q, q = ws ++ [(q1, .inr (1, [.null]))] := ⟨_, rfl⟩
  have hP : va_P D Cl (ws ++ [(q1, .inr (1, [.null]))]) H := hP
  have hD : va_D (Az z) (ws ++ [(q1, .inr (1, [.null]))]) := hD
  rw [← hw] at hP hD
  have hC := hC.push (c := [(q1, .inr (1, [.null]))])
  rw [← hw] at hC
  have e26 : w2[26]? = some (y, .inr (4, [.null, .null, .int 0])) := by rw [hw]; exact lk_push e26
  have e27 : w2[27]? = some (q1, .inr (1, [.null])) := by rw [hw]; exact lk_new hn
  have hn : w2.length = 28 := by rw [hw, List.length_append, hn]; rfl
  clear hw
  refine lv_dup hx hb d_Z_init_8 rfl ?_
  refine lv_sipush (v := 768) hx hb d_Z_init_9 (by decide) ?_
  refine va_callv (va_runI (As := [.int 768]) (rest := [.ref q1, .ref y]) ⟨hx, hb, hml, hown, hts⟩ (c_K_init_27 (D := D) (t := t) (z := z) (sa := sa) (ws := w2)  hn e27) (cwI 1 hts (gd_I cd_K_init) rfl rfl rfl (hts _ in_K) (hts _ ml_Z_11) (hts _ im_K_init) rfl (by decide +kernel) ⟨Nat.le_of_ble_eq_true rfl, Nat.le_of_ble_eq_true rfl⟩) ⟨Pz_blind, Pz_at hP hK hD hz hM hS⟩ rfl rfl hl.1 rfl (lv_room (Nat.le_of_ble_eq_true rfl)) d_Z_init_12 ⟨Nat.le_of_ble_eq_true rfl, Nat.le_of_ble_eq_true rfl⟩) hS (fun q _ h => h) (fun q h => h) (fun w3 t9 H locs ht hvm hp hB hz1 hk1 hS => ?_)
  obtain ⟨hP, hK9, hD, -⟩ := hB
  rw [ht] at hP
  clear hK9
  obtain ⟨a27, hC9, hn9, kf27, kf28⟩ := hp
  have e26 : w3[26]? = some (y, .inr (4, [.null, .null, .int 0])) := hC9.keep e26 (by decide)
  have e27 : w3[27]? = some (q1, .inr (1, [.ref a27])) := kf27
  have e28 : w3[28]? = some (a27, .inl (t 2, 768, .inr (.inr (.inr (.inr (fun _ => none)))))) := kf28
  have hC := hC.trans hC9
  have hn : w3.length = 29 := hn9
  refine va_putF (D := D) (ci := 4) (v := .ref q1) (ty := (.object "PageStore$Blocks")) (C := R_Z) (T := F_Z) (N := 3) hx hb hts ws_Z t_Z ok_Z n_Z hown hK hP hD hS 26 e26 rfl 0 (by decide) (hts _ fl_Z_14) (fun _ h9 => h9) rfl hin rfl (by decide +kernel) rfl rfl (Nat.le_of_ble_eq_true rfl) d_Z_init_15 (fun H locs hP hD hS => ?_)
  obtain ⟨w5, hw⟩ : ∃ q, q = w3.set 26 (y, .inr (4, [.ref q1, .null, .int 0])) := ⟨_, rfl⟩
  have hP : va_P D Cl (w3.set 26 (y, .inr (4, [.ref q1, .null, .int 0]))) H := hP
  have hD : va_D (Az z) (w3.set 26 (y, .inr (4, [.ref q1, .null, .int 0]))) := hD
  rw [← hw] at hP hD
  have hC := hC.put (p := 26) (c := (y, .inr (4, [.ref q1, .null, .int 0])))
  rw [← hw] at hC
  have e26 : w5[26]? = some (y, .inr (4, [.ref q1, .null, .int 0])) := by rw [hw]; exact lk_set e26
  have e27 : w5[27]? = some (q1, .inr (1, [.ref a27])) := by rw [hw]; exact lk_ne e27 (by decide)
  have e28 : w5[28]? = some (a27, .inl (t 2, 768, .inr (.inr (.inr (.inr (fun _ => none)))))) := by rw [hw]; exact lk_ne e28 (by decide)
  have hn : w5.length = 29 := by rw [hw, List.length_set]; exact hn
  clear hw
  refine lv_aload_n hx hb d_Z_init_18 rfl (lv_at hl 0 rfl) ?_
  refine lv_sipush (v := 768) hx hb d_Z_init_19 (by decide) ?_
  refine va_newa (D := D) (atype := .boolean) hx hb (hts _ ac_boolean) (ty := .boolean) rfl hK hP hD hS hA (N' := 768) (a0 := (768, .inl (fun _ => 0))) (fun cA => rfl) (by decide) (by decide) (by decide) (Nat.le_of_ble_eq_true rfl) (Nat.le_of_ble_eq_true rfl) d_Z_init_22 (fun q6 cA H hK2 hP hD hS => ?_)
  have hcA : cA = t 1 := Option.some.inj ((hK2.2 6 (cA, .boolean) rfl).2.symm.trans (hK.2 1 (t 1, .boolean) rfl).2)
  rw [hcA] at hP hD
  clear hK2 hcA
  obtain ⟨w7, hw⟩ : ∃ q, q = w5 ++ [(q6, .inl (t 1, 768, .inl (fun _ => 0)))] := ⟨_, rfl⟩
  have hP : va_P D Cl (w5 ++ [(q6, .inl (t 1, 768, .inl (fun _ => 0)))]) H := hP
  have hD : va_D (Az z) (w5 ++ [(q6, .inl (t 1, 768, .inl (fun _ => 0)))]) := hD
  rw [← hw] at hP hD
  have hC := hC.push (c := [(q6, .inl (t 1, 768, .inl (fun _ => 0)))])
  rw [← hw] at hC
  have e26 : w7[26]? = some (y, .inr (4, [.ref q1, .null, .int 0])) := by rw [hw]; exact lk_push e26
  have e27 : w7[27]? = some (q1, .inr (1, [.ref a27])) := by rw [hw]; exact lk_push e27
  have e28 : w7[28]? = some (a27, .inl (t 2, 768, .inr (.inr (.inr (.inr (fun _ => none)))))) := by rw [hw]; exact lk_push e28
  have e29 : w7[29]? = some (q6, .inl (t 1, 768, .inl (fun _ => 0))) := by rw [hw]; exact lk_new hn
  have hn : w7.length = 30 := by rw [hw, List.length_append, hn]; rfl
  clear hw
  refine va_putF (D := D) (ci := 4) (v := .ref q6) (ty := (.array .boolean)) (C := R_Z) (T := F_Z) (N := 3) hx hb hts ws_Z t_Z ok_Z n_Z hown hK hP hD hS 26 e26 rfl 1 (by decide) (hts _ fl_Z_20) (fun _ h9 => h9) rfl hin rfl (by decide +kernel) rfl rfl (Nat.le_of_ble_eq_true rfl) d_Z_init_24 (fun H locs hP hD hS => ?_)
  obtain ⟨w8, hw⟩ : ∃ q, q = w7.set 26 (y, .inr (4, [.ref q1, .ref q6, .int 0])) := ⟨_, rfl⟩
  have hP : va_P D Cl (w7.set 26 (y, .inr (4, [.ref q1, .ref q6, .int 0]))) H := hP
  have hD : va_D (Az z) (w7.set 26 (y, .inr (4, [.ref q1, .ref q6, .int 0]))) := hD
  rw [← hw] at hP hD
  have hC := hC.put (p := 26) (c := (y, .inr (4, [.ref q1, .ref q6, .int 0])))
  rw [← hw] at hC
  have e26 : w8[26]? = some (y, .inr (4, [.ref q1, .ref q6, .int 0])) := by rw [hw]; exact lk_set e26
  have e27 : w8[27]? = some (q1, .inr (1, [.ref a27])) := by rw [hw]; exact lk_ne e27 (by decide)
  have e28 : w8[28]? = some (a27, .inl (t 2, 768, .inr (.inr (.inr (.inr (fun _ => none)))))) := by rw [hw]; exact lk_ne e28 (by decide)
  have e29 : w8[29]? = some (q6, .inl (t 1, 768, .inl (fun _ => 0))) := by rw [hw]; exact lk_ne e29 (by decide)
  have hn : w8.length = 30 := by rw [hw, List.length_set]; exact hn
  clear hw
  refine lv_aload_n hx hb d_Z_init_27 rfl (lv_at hl 0 rfl) ?_
  refine lv_iconst (v := 0) hx hb d_Z_init_28 (by decide) ?_
  refine va_put (D := D) (ci := 4) (v := .int 0) (ty := .int) (C := R_Z) (T := F_Z) (N := 3) hx hb hts ws_Z t_Z ok_Z n_Z hown hK hP hD hS 26 e26 rfl 2 (by decide) (hts _ fl_Z_24) (fun _ h9 => h9) rfl (by decide +kernel) rfl rfl (Nat.le_of_ble_eq_true rfl) d_Z_init_29 (fun H locs hP hD hS => ?_)
  obtain ⟨w9, hw⟩ : ∃ q, q = w8.set 26 (y, .inr (4, [.ref q1, .ref q6, .int 0])) := ⟨_, rfl⟩
  have hP : va_P D Cl (w8.set 26 (y, .inr (4, [.ref q1, .ref q6, .int 0]))) H := hP
  have hD : va_D (Az z) (w8.set 26 (y, .inr (4, [.ref q1, .ref q6, .int 0]))) := hD
  rw [← hw] at hP hD
  have hC := hC.put (p := 26) (c := (y, .inr (4, [.ref q1, .ref q6, .int 0])))
  rw [← hw] at hC
  have e26 : w9[26]? = some (y, .inr (4, [.ref q1, .ref q6, .int 0])) := by rw [hw]; exact lk_set e26
  have e27 : w9[27]? = some (q1, .inr (1, [.ref a27])) := by rw [hw]; exact lk_ne e27 (by decide)
  have e28 : w9[28]? = some (a27, .inl (t 2, 768, .inr (.inr (.inr (.inr (fun _ => none)))))) := by rw [hw]; exact lk_ne e28 (by decide)
  have e29 : w9[29]? = some (q6, .inl (t 1, 768, .inl (fun _ => 0))) := by rw [hw]; exact lk_ne e29 (by decide)
  have hn : w9.length = 30 := by rw [hw, List.length_set]; exact hn
  clear hw
  exact W.vret hx hb hr (fun t9 ht hW => ⟨⟨w9, rfl, ⟨q1, a27, q6, hC.sub (by decide), hn, e26, e27, e28, e29⟩, ⟨by rw [ht]; exact hP, va_K.moved hW.alike hK, hD, by rw [ht]; exact Nat.le_trans hz hS.1⟩⟩, hS.F ht⟩) hS.2.2 d_Z_init_32
set_option maxHeartbeats 4000000 in
set_option maxRecDepth 100000 in
theorem c_Z_init_30 {l : Launch} {D : va_G} {t : Nat → ClassId} {z : Nat} {sa : Nat → Nat} {ws : va_W} {y : Nat} (hn : ws.length = 31) (e30 : ws[30]? = some (y, .inr (4, [.null, .null, .int 0])))  : Met l y_Z_init (Cond.code y_Z_init b_Z_init 1 (.none : Option Jvm.ClassFile.FieldType) :: WS) ({ frames := 2, cells := 3, slots := 1537, locals := 33 }) (Pz D t z sa ws [.ref y]) (va_Qv (fun u : va_W => ∃ b9 a9 h9 : Nat, Ch ws u [30, 31] ∧ u.length = 34 ∧ u[30]? = some (y, .inr (4, [.ref b9, .ref h9, .int 0])) ∧ u[31]? = some (b9, .inr (1, [.ref a9])) ∧ u[32]? = some (a9, .inl (t 2, 768, .inr (.inr (.inr (.inr (fun _ => none)))))) ∧ u[33]? = some (h9, .inl (t 1, 768, .inl (fun _ => 0)))) (fun u U => Wd D t z u U) (Az z)) 3 1537 (Az z) := by
  refine Met.ofW (cc := b_Z_init) (maxL := 1) (ret := (.none : Option Jvm.ClassFile.FieldType)) (by decide) rfl ?_
  intro p e s m args below meth c s₁ B hml hv
  obtain ⟨rfl, ⟨hP, hK, hD, hz⟩, hM⟩ := hv
  have hx := B.exec
  have hb := B.bytes
  have hr := B.returns
  have hts : ∀ w ∈ WS, w.before [.ref y].toArray s = true := fun w h => atoms_spec B.pre w (List.mem_cons_of_mem _ h)
  have hown : s.vm.findClass R_Z = some m.cls := findClass_of_methodNamed B.named
  have hlocks := B.notSynchronized
  have hin : meth.name = "<init>" := (name_of_methodNamed B.named B.method).1
  have hA : ∀ q, s.heap.size ≤ q → Az z q := fun q h => Nat.le_trans hz h
  have hS : va_S (Az z) s.heap s.heap [] := va_S.rf
  have hC : Ch ws ws [] := Ch.rf
  have hl := lv_entry ([.ref y]) (n := 1) (Nat.le_of_ble_eq_true rfl)
  rw [lg_entry_eq]
  generalize (lg_sl ([.ref y]) ++ List.replicate (1 - (lg_sl ([.ref y])).length) Slot.unset).toArray = ls at hl ⊢
  have hl : lv_has ls 1 [(0, .ref y)] := hl
  refine lv_aload_n hx hb d_Z_init_0 rfl (lv_at hl 0 rfl) ?_
  refine W.objInit hx hb hown (hts _ ml_Z_3) (hts _ oi_im) (hts _ oi_cd) rfl (by rw [hml]; exact hl.1) rfl d_Z_init_1 (Nat.le_of_ble_eq_true rfl) (Nat.le_of_ble_eq_true rfl) ?_
  refine W.eq (g2 := F0 m 4 ls []) rfl ?_
  refine lv_aload_n hx hb d_Z_init_4 rfl (lv_at hl 0 rfl) ?_
  refine va_new (ci := 1) (fs := [.null]) (C := R_K) (T := F_K) (N := 1) hx hb hts ws_K t_K ok_K hown (hts _ cl_Z_9) (hts _ ib_K) (hts _ in_K) hK hP hD hS hA rfl (fun j hj => by rcases (show j = 0 by omega) with rfl <;> rfl) (Nat.le_of_ble_eq_true rfl) (Nat.le_of_ble_eq_true rfl) d_Z_init_5 (fun q1 H hP hD hS => ?_)
  obtain ⟨w2, hw⟩ : ∃ q, q = ws ++ [(q1, .inr (1, [.null]))] := ⟨_, rfl⟩
  have hP : va_P D Cl (ws ++ [(q1, .inr (1, [.null]))]) H := hP
  have hD : va_D (Az z) (ws ++ [(q1, .inr (1, [.null]))]) := hD
  rw [← hw] at hP hD
  have hC := hC.push (c := [(q1, .inr (1, [.null]))])
  rw [← hw] at hC
  have e30 : w2[30]? = some (y, .inr (4, [.null, .null, .int 0])) := by rw [hw]; exact lk_push e30
  have e31 : w2[31]? = some (q1, .inr (1, [.null])) := by rw [hw]; exact lk_new hn
  have hn : w2.length = 32 := by rw [hw, List.length_append, hn]; rfl
  clear hw
  refine lv_dup hx hb d_Z_init_8 rfl ?_
  refine lv_sipush (v := 768) hx hb d_Z_init_9 (by decide) ?_
  refine va_callv (va_runI (As := [.int 768]) (rest := [.ref q1, .ref y]) ⟨hx, hb, hml, hown, hts⟩ (c_K_init_31 (D := D) (t := t) (z := z) (sa := sa) (ws := w2)  hn e31) (cwI 1 hts (gd_I cd_K_init) rfl rfl rfl (hts _ in_K) (hts _ ml_Z_11) (hts _ im_K_init) rfl (by decide +kernel) ⟨Nat.le_of_ble_eq_true rfl, Nat.le_of_ble_eq_true rfl⟩) ⟨Pz_blind, Pz_at hP hK hD hz hM hS⟩ rfl rfl hl.1 rfl (lv_room (Nat.le_of_ble_eq_true rfl)) d_Z_init_12 ⟨Nat.le_of_ble_eq_true rfl, Nat.le_of_ble_eq_true rfl⟩) hS (fun q _ h => h) (fun q h => h) (fun w3 t9 H locs ht hvm hp hB hz1 hk1 hS => ?_)
  obtain ⟨hP, hK9, hD, -⟩ := hB
  rw [ht] at hP
  clear hK9
  obtain ⟨a31, hC9, hn9, kf31, kf32⟩ := hp
  have e30 : w3[30]? = some (y, .inr (4, [.null, .null, .int 0])) := hC9.keep e30 (by decide)
  have e31 : w3[31]? = some (q1, .inr (1, [.ref a31])) := kf31
  have e32 : w3[32]? = some (a31, .inl (t 2, 768, .inr (.inr (.inr (.inr (fun _ => none)))))) := kf32
  have hC := hC.trans hC9
  have hn : w3.length = 33 := hn9
  refine va_putF (D := D) (ci := 4) (v := .ref q1) (ty := (.object "PageStore$Blocks")) (C := R_Z) (T := F_Z) (N := 3) hx hb hts ws_Z t_Z ok_Z n_Z hown hK hP hD hS 30 e30 rfl 0 (by decide) (hts _ fl_Z_14) (fun _ h9 => h9) rfl hin rfl (by decide +kernel) rfl rfl (Nat.le_of_ble_eq_true rfl) d_Z_init_15 (fun H locs hP hD hS => ?_)
  obtain ⟨w5, hw⟩ : ∃ q, q = w3.set 30 (y, .inr (4, [.ref q1, .null, .int 0])) := ⟨_, rfl⟩
  have hP : va_P D Cl (w3.set 30 (y, .inr (4, [.ref q1, .null, .int 0]))) H := hP
  have hD : va_D (Az z) (w3.set 30 (y, .inr (4, [.ref q1, .null, .int 0]))) := hD
  rw [← hw] at hP hD
  have hC := hC.put (p := 30) (c := (y, .inr (4, [.ref q1, .null, .int 0])))
  rw [← hw] at hC
  have e30 : w5[30]? = some (y, .inr (4, [.ref q1, .null, .int 0])) := by rw [hw]; exact lk_set e30
  have e31 : w5[31]? = some (q1, .inr (1, [.ref a31])) := by rw [hw]; exact lk_ne e31 (by decide)
  have e32 : w5[32]? = some (a31, .inl (t 2, 768, .inr (.inr (.inr (.inr (fun _ => none)))))) := by rw [hw]; exact lk_ne e32 (by decide)
  have hn : w5.length = 33 := by rw [hw, List.length_set]; exact hn
  clear hw
  refine lv_aload_n hx hb d_Z_init_18 rfl (lv_at hl 0 rfl) ?_
  refine lv_sipush (v := 768) hx hb d_Z_init_19 (by decide) ?_
  refine va_newa (D := D) (atype := .boolean) hx hb (hts _ ac_boolean) (ty := .boolean) rfl hK hP hD hS hA (N' := 768) (a0 := (768, .inl (fun _ => 0))) (fun cA => rfl) (by decide) (by decide) (by decide) (Nat.le_of_ble_eq_true rfl) (Nat.le_of_ble_eq_true rfl) d_Z_init_22 (fun q6 cA H hK2 hP hD hS => ?_)
  have hcA : cA = t 1 := Option.some.inj ((hK2.2 6 (cA, .boolean) rfl).2.symm.trans (hK.2 1 (t 1, .boolean) rfl).2)
  rw [hcA] at hP hD
  clear hK2 hcA
  obtain ⟨w7, hw⟩ : ∃ q, q = w5 ++ [(q6, .inl (t 1, 768, .inl (fun _ => 0)))] := ⟨_, rfl⟩
  have hP : va_P D Cl (w5 ++ [(q6, .inl (t 1, 768, .inl (fun _ => 0)))]) H := hP
  have hD : va_D (Az z) (w5 ++ [(q6, .inl (t 1, 768, .inl (fun _ => 0)))]) := hD
  rw [← hw] at hP hD
  have hC := hC.push (c := [(q6, .inl (t 1, 768, .inl (fun _ => 0)))])
  rw [← hw] at hC
  have e30 : w7[30]? = some (y, .inr (4, [.ref q1, .null, .int 0])) := by rw [hw]; exact lk_push e30
  have e31 : w7[31]? = some (q1, .inr (1, [.ref a31])) := by rw [hw]; exact lk_push e31
  have e32 : w7[32]? = some (a31, .inl (t 2, 768, .inr (.inr (.inr (.inr (fun _ => none)))))) := by rw [hw]; exact lk_push e32
  have e33 : w7[33]? = some (q6, .inl (t 1, 768, .inl (fun _ => 0))) := by rw [hw]; exact lk_new hn
  have hn : w7.length = 34 := by rw [hw, List.length_append, hn]; rfl
  clear hw
  refine va_putF (D := D) (ci := 4) (v := .ref q6) (ty := (.array .boolean)) (C := R_Z) (T := F_Z) (N := 3) hx hb hts ws_Z t_Z ok_Z n_Z hown hK hP hD hS 30 e30 rfl 1 (by decide) (hts _ fl_Z_20) (fun _ h9 => h9) rfl hin rfl (by decide +kernel) rfl rfl (Nat.le_of_ble_eq_true rfl) d_Z_init_24 (fun H locs hP hD hS => ?_)
  obtain ⟨w8, hw⟩ : ∃ q, q = w7.set 30 (y, .inr (4, [.ref q1, .ref q6, .int 0])) := ⟨_, rfl⟩
  have hP : va_P D Cl (w7.set 30 (y, .inr (4, [.ref q1, .ref q6, .int 0]))) H := hP
  have hD : va_D (Az z) (w7.set 30 (y, .inr (4, [.ref q1, .ref q6, .int 0]))) := hD
  rw [← hw] at hP hD
  have hC := hC.put (p := 30) (c := (y, .inr (4, [.ref q1, .ref q6, .int 0])))
  rw [← hw] at hC
  have e30 : w8[30]? = some (y, .inr (4, [.ref q1, .ref q6, .int 0])) := by rw [hw]; exact lk_set e30
  have e31 : w8[31]? = some (q1, .inr (1, [.ref a31])) := by rw [hw]; exact lk_ne e31 (by decide)
  have e32 : w8[32]? = some (a31, .inl (t 2, 768, .inr (.inr (.inr (.inr (fun _ => none)))))) := by rw [hw]; exact lk_ne e32 (by decide)
  have e33 : w8[33]? = some (q6, .inl (t 1, 768, .inl (fun _ => 0))) := by rw [hw]; exact lk_ne e33 (by decide)
  have hn : w8.length = 34 := by rw [hw, List.length_set]; exact hn
  clear hw
  refine lv_aload_n hx hb d_Z_init_27 rfl (lv_at hl 0 rfl) ?_
  refine lv_iconst (v := 0) hx hb d_Z_init_28 (by decide) ?_
  refine va_put (D := D) (ci := 4) (v := .int 0) (ty := .int) (C := R_Z) (T := F_Z) (N := 3) hx hb hts ws_Z t_Z ok_Z n_Z hown hK hP hD hS 30 e30 rfl 2 (by decide) (hts _ fl_Z_24) (fun _ h9 => h9) rfl (by decide +kernel) rfl rfl (Nat.le_of_ble_eq_true rfl) d_Z_init_29 (fun H locs hP hD hS => ?_)
  obtain ⟨w9, hw⟩ : ∃ q, q = w8.set 30 (y, .inr (4, [.ref q1, .ref q6, .int 0])) := ⟨_, rfl⟩
  have hP : va_P D Cl (w8.set 30 (y, .inr (4, [.ref q1, .ref q6, .int 0]))) H := hP
  have hD : va_D (Az z) (w8.set 30 (y, .inr (4, [.ref q1, .ref q6, .int 0]))) := hD
  rw [← hw] at hP hD
  have hC := hC.put (p := 30) (c := (y, .inr (4, [.ref q1, .ref q6, .int 0])))
  rw [← hw] at hC
  have e30 : w9[30]? = some (y, .inr (4, [.ref q1, .ref q6, .int 0])) := by rw [hw]; exact lk_set e30
  have e31 : w9[31]? = some (q1, .inr (1, [.ref a31])) := by rw [hw]; exact lk_ne e31 (by decide)
  have e32 : w9[32]? = some (a31, .inl (t 2, 768, .inr (.inr (.inr (.inr (fun _ => none)))))) := by rw [hw]; exact lk_ne e32 (by decide)
  have e33 : w9[33]? = some (q6, .inl (t 1, 768, .inl (fun _ => 0))) := by rw [hw]; exact lk_ne e33 (by decide)
  have hn : w9.length = 34 := by rw [hw, List.length_set]; exact hn
  clear hw
  exact W.vret hx hb hr (fun t9 ht hW => ⟨⟨w9, rfl, ⟨q1, a31, q6, hC.sub (by decide), hn, e30, e31, e32, e33⟩, ⟨by rw [ht]; exact hP, va_K.moved hW.alike hK, hD, by rw [ht]; exact Nat.le_trans hz hS.1⟩⟩, hS.F ht⟩) hS.2.2 d_Z_init_32
