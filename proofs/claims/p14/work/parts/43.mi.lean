set_option maxHeartbeats 4000000 in
set_option maxRecDepth 100000 in
theorem c_M_init {l : Launch} {D : va_G} {t : Nat → ClassId} {z : Nat} {sa : Nat → Nat} {ws : va_W} {mm : Nat} (hn : ws.length = 35) (e34 : ws[34]? = some (mm, .inr (6, [.null, .null, .int 0, .int 0, .null, .null, .null, .null, .int 0, .int 0, .int 0, .int 0, .int 0, .int 0, .int 0, .int 0, .int 0])))  : Met l y_M_init (Cond.code y_M_init b_M_init 1 (.none : Option Jvm.ClassFile.FieldType) :: WS) ({ frames := 1, cells := 6, slots := 1060102, locals := 12 }) (Pz D t z sa ws [.ref mm]) (va_Qv (fun u : va_W => ∃ x35 x36 x37 x38 x39 x40 : Nat, Ch ws u [34] ∧ u.length = 41 ∧ u[34]? = some (mm, .inr (6, [.ref x35, .ref x36, .int 1, .int 1, .ref x37, .ref x38, .ref x39, .ref x40, .int 0, .int 0, .int 0, .int 0, .int 0, .int 0, .int 4, .int 0, .int 0])) ∧ u[35]? = some (x35, .inl (t 0, 1048832, .inl (fun _ => 0))) ∧ u[36]? = some (x36, .inl (t 4, 4097, .inl (fun _ => 0))) ∧ u[37]? = some (x37, .inl (t 4, 1024, .inl (fun _ => 0))) ∧ u[38]? = some (x38, .inl (t 4, 1024, .inl (fun _ => 0))) ∧ u[39]? = some (x39, .inl (t 4, 5120, .inl (fun _ => 0))) ∧ u[40]? = some (x40, .inl (t 4, 5, .inl (fun _ => 0)))) (fun u U => Wd D t z u U) (Az z)) 6 1060102 (Az z) := by
  refine Met.ofW (cc := b_M_init) (maxL := 1) (ret := (.none : Option Jvm.ClassFile.FieldType)) (by decide) rfl ?_
  intro p e s m args below meth c s₁ B hml hv
  obtain ⟨rfl, ⟨hP, hK, hD, hz⟩, hM⟩ := hv
  have hx := B.exec
  have hb := B.bytes
  have hr := B.returns
  have hts : ∀ w ∈ WS, w.before [.ref mm].toArray s = true := fun w h => atoms_spec B.pre w (List.mem_cons_of_mem _ h)
  have hown : s.vm.findClass R_M = some m.cls := findClass_of_methodNamed B.named
  have hlocks := B.notSynchronized
  have hin : meth.name = "<init>" := (name_of_methodNamed B.named B.method).1
  have hA : ∀ q, s.heap.size ≤ q → Az z q := fun q h => Nat.le_trans hz h
  have hS : va_S (Az z) s.heap s.heap [] := va_S.rf
  have hC : Ch ws ws [] := Ch.rf
  have hl := lv_entry ([.ref mm]) (n := 1) (Nat.le_of_ble_eq_true rfl)
  rw [lg_entry_eq]
  generalize (lg_sl ([.ref mm]) ++ List.replicate (1 - (lg_sl ([.ref mm])).length) Slot.unset).toArray = ls at hl ⊢
  have hl : lv_has ls 1 [(0, .ref mm)] := hl
  refine lv_aload_n hx hb d_M_init_0 rfl (lv_at hl 0 rfl) ?_
  refine W.objInit hx hb hown (hts _ ml_M_1) (hts _ oi_im) (hts _ oi_cd) rfl (by rw [hml]; exact hl.1) rfl d_M_init_1 (Nat.le_of_ble_eq_true rfl) (Nat.le_of_ble_eq_true rfl) ?_
  refine W.eq (g2 := F0 m 4 ls []) rfl ?_
  refine lv_aload_n hx hb d_M_init_4 rfl (lv_at hl 0 rfl) ?_
  refine lv_ldc (v := 1048832) hx hb hown (hts _ co_M_7) d_M_init_5 ?_
  refine va_newa (D := D) (atype := .byte) hx hb (hts _ ac_byte) (ty := .byte) rfl hK hP hD hS hA (N' := 1048832) (a0 := (1048832, .inl (fun _ => 0))) (fun cA => rfl) (by decide) (by decide) (by decide) (Nat.le_of_ble_eq_true rfl) (Nat.le_of_ble_eq_true rfl) d_M_init_7 (fun q1 cA H hK2 hP hD hS => ?_)
  have hcA : cA = t 0 := Option.some.inj ((hK2.2 6 (cA, .byte) rfl).2.symm.trans (hK.2 0 (t 0, .byte) rfl).2)
  rw [hcA] at hP hD
  clear hK2 hcA
  obtain ⟨w2, hw⟩ : ∃ q, q = ws ++ [(q1, .inl (t 0, 1048832, .inl (fun _ => 0)))] := ⟨_, rfl⟩
  have hP : va_P D Cl (ws ++ [(q1, .inl (t 0, 1048832, .inl (fun _ => 0)))]) H := hP
  have hD : va_D (Az z) (ws ++ [(q1, .inl (t 0, 1048832, .inl (fun _ => 0)))]) := hD
  rw [← hw] at hP hD
  have hC := hC.push (c := [(q1, .inl (t 0, 1048832, .inl (fun _ => 0)))])
  rw [← hw] at hC
  have e34 : w2[34]? = some (mm, .inr (6, [.null, .null, .int 0, .int 0, .null, .null, .null, .null, .int 0, .int 0, .int 0, .int 0, .int 0, .int 0, .int 0, .int 0, .int 0])) := by rw [hw]; exact lk_push e34
  have e35 : w2[35]? = some (q1, .inl (t 0, 1048832, .inl (fun _ => 0))) := by rw [hw]; exact lk_new hn
  have hn : w2.length = 36 := by rw [hw, List.length_append, hn]; rfl
  clear hw
  refine va_putF (D := D) (ci := 6) (v := .ref q1) (ty := (.array .byte)) (C := R_M) (T := F_M) (N := 17) hx hb hts ws_M t_M ok_M n_M hown hK hP hD hS 34 e34 rfl 0 (by decide) (hts _ fl_M_8) (fun _ h9 => h9) rfl hin rfl (by decide +kernel) rfl rfl (Nat.le_of_ble_eq_true rfl) d_M_init_9 (fun H locs hP hD hS => ?_)
  obtain ⟨w3, hw⟩ : ∃ q, q = w2.set 34 (mm, .inr (6, [.ref q1, .null, .int 0, .int 0, .null, .null, .null, .null, .int 0, .int 0, .int 0, .int 0, .int 0, .int 0, .int 0, .int 0, .int 0])) := ⟨_, rfl⟩
  have hP : va_P D Cl (w2.set 34 (mm, .inr (6, [.ref q1, .null, .int 0, .int 0, .null, .null, .null, .null, .int 0, .int 0, .int 0, .int 0, .int 0, .int 0, .int 0, .int 0, .int 0]))) H := hP
  have hD : va_D (Az z) (w2.set 34 (mm, .inr (6, [.ref q1, .null, .int 0, .int 0, .null, .null, .null, .null, .int 0, .int 0, .int 0, .int 0, .int 0, .int 0, .int 0, .int 0, .int 0]))) := hD
  rw [← hw] at hP hD
  have hC := hC.put (p := 34) (c := (mm, .inr (6, [.ref q1, .null, .int 0, .int 0, .null, .null, .null, .null, .int 0, .int 0, .int 0, .int 0, .int 0, .int 0, .int 0, .int 0, .int 0])))
  rw [← hw] at hC
  have e34 : w3[34]? = some (mm, .inr (6, [.ref q1, .null, .int 0, .int 0, .null, .null, .null, .null, .int 0, .int 0, .int 0, .int 0, .int 0, .int 0, .int 0, .int 0, .int 0])) := by rw [hw]; exact lk_set e34
  have e35 : w3[35]? = some (q1, .inl (t 0, 1048832, .inl (fun _ => 0))) := by rw [hw]; exact lk_ne e35 (by decide)
  have hn : w3.length = 36 := by rw [hw, List.length_set]; exact hn
  clear hw
  refine lv_aload_n hx hb d_M_init_12 rfl (lv_at hl 0 rfl) ?_
  refine lv_sipush (v := 4097) hx hb d_M_init_13 (by decide) ?_
  refine va_newa (D := D) (atype := .int) hx hb (hts _ ac_int) (ty := .int) rfl hK hP hD hS hA (N' := 4097) (a0 := (4097, .inl (fun _ => 0))) (fun cA => rfl) (by decide) (by decide) (by decide) (Nat.le_of_ble_eq_true rfl) (Nat.le_of_ble_eq_true rfl) d_M_init_16 (fun q4 cA H hK2 hP hD hS => ?_)
  have hcA : cA = t 4 := Option.some.inj ((hK2.2 6 (cA, .int) rfl).2.symm.trans (hK.2 4 (t 4, .int) rfl).2)
  rw [hcA] at hP hD
  clear hK2 hcA
  obtain ⟨w5, hw⟩ : ∃ q, q = w3 ++ [(q4, .inl (t 4, 4097, .inl (fun _ => 0)))] := ⟨_, rfl⟩
  have hP : va_P D Cl (w3 ++ [(q4, .inl (t 4, 4097, .inl (fun _ => 0)))]) H := hP
  have hD : va_D (Az z) (w3 ++ [(q4, .inl (t 4, 4097, .inl (fun _ => 0)))]) := hD
  rw [← hw] at hP hD
  have hC := hC.push (c := [(q4, .inl (t 4, 4097, .inl (fun _ => 0)))])
  rw [← hw] at hC
  have e34 : w5[34]? = some (mm, .inr (6, [.ref q1, .null, .int 0, .int 0, .null, .null, .null, .null, .int 0, .int 0, .int 0, .int 0, .int 0, .int 0, .int 0, .int 0, .int 0])) := by rw [hw]; exact lk_push e34
  have e35 : w5[35]? = some (q1, .inl (t 0, 1048832, .inl (fun _ => 0))) := by rw [hw]; exact lk_push e35
  have e36 : w5[36]? = some (q4, .inl (t 4, 4097, .inl (fun _ => 0))) := by rw [hw]; exact lk_new hn
  have hn : w5.length = 37 := by rw [hw, List.length_append, hn]; rfl
  clear hw
  refine va_putF (D := D) (ci := 6) (v := .ref q4) (ty := (.array .int)) (C := R_M) (T := F_M) (N := 17) hx hb hts ws_M t_M ok_M n_M hown hK hP hD hS 34 e34 rfl 1 (by decide) (hts _ fl_M_14) (fun _ h9 => h9) rfl hin rfl (by decide +kernel) rfl rfl (Nat.le_of_ble_eq_true rfl) d_M_init_18 (fun H locs hP hD hS => ?_)
  obtain ⟨w6, hw⟩ : ∃ q, q = w5.set 34 (mm, .inr (6, [.ref q1, .ref q4, .int 0, .int 0, .null, .null, .null, .null, .int 0, .int 0, .int 0, .int 0, .int 0, .int 0, .int 0, .int 0, .int 0])) := ⟨_, rfl⟩
  have hP : va_P D Cl (w5.set 34 (mm, .inr (6, [.ref q1, .ref q4, .int 0, .int 0, .null, .null, .null, .null, .int 0, .int 0, .int 0, .int 0, .int 0, .int 0, .int 0, .int 0, .int 0]))) H := hP
  have hD : va_D (Az z) (w5.set 34 (mm, .inr (6, [.ref q1, .ref q4, .int 0, .int 0, .null, .null, .null, .null, .int 0, .int 0, .int 0, .int 0, .int 0, .int 0, .int 0, .int 0, .int 0]))) := hD
  rw [← hw] at hP hD
  have hC := hC.put (p := 34) (c := (mm, .inr (6, [.ref q1, .ref q4, .int 0, .int 0, .null, .null, .null, .null, .int 0, .int 0, .int 0, .int 0, .int 0, .int 0, .int 0, .int 0, .int 0])))
  rw [← hw] at hC
  have e34 : w6[34]? = some (mm, .inr (6, [.ref q1, .ref q4, .int 0, .int 0, .null, .null, .null, .null, .int 0, .int 0, .int 0, .int 0, .int 0, .int 0, .int 0, .int 0, .int 0])) := by rw [hw]; exact lk_set e34
  have e35 : w6[35]? = some (q1, .inl (t 0, 1048832, .inl (fun _ => 0))) := by rw [hw]; exact lk_ne e35 (by decide)
  have e36 : w6[36]? = some (q4, .inl (t 4, 4097, .inl (fun _ => 0))) := by rw [hw]; exact lk_ne e36 (by decide)
  have hn : w6.length = 37 := by rw [hw, List.length_set]; exact hn
  clear hw
  refine lv_aload_n hx hb d_M_init_21 rfl (lv_at hl 0 rfl) ?_
  refine lv_iconst (v := 1) hx hb d_M_init_22 (by decide) ?_
  refine va_put (D := D) (ci := 6) (v := .int 1) (ty := .int) (C := R_M) (T := F_M) (N := 17) hx hb hts ws_M t_M ok_M n_M hown hK hP hD hS 34 e34 rfl 2 (by decide) (hts _ fl_M_18) (fun _ h9 => h9) rfl (by decide +kernel) rfl rfl (Nat.le_of_ble_eq_true rfl) d_M_init_23 (fun H locs hP hD hS => ?_)
  obtain ⟨w7, hw⟩ : ∃ q, q = w6.set 34 (mm, .inr (6, [.ref q1, .ref q4, .int 1, .int 0, .null, .null, .null, .null, .int 0, .int 0, .int 0, .int 0, .int 0, .int 0, .int 0, .int 0, .int 0])) := ⟨_, rfl⟩
  have hP : va_P D Cl (w6.set 34 (mm, .inr (6, [.ref q1, .ref q4, .int 1, .int 0, .null, .null, .null, .null, .int 0, .int 0, .int 0, .int 0, .int 0, .int 0, .int 0, .int 0, .int 0]))) H := hP
  have hD : va_D (Az z) (w6.set 34 (mm, .inr (6, [.ref q1, .ref q4, .int 1, .int 0, .null, .null, .null, .null, .int 0, .int 0, .int 0, .int 0, .int 0, .int 0, .int 0, .int 0, .int 0]))) := hD
  rw [← hw] at hP hD
  have hC := hC.put (p := 34) (c := (mm, .inr (6, [.ref q1, .ref q4, .int 1, .int 0, .null, .null, .null, .null, .int 0, .int 0, .int 0, .int 0, .int 0, .int 0, .int 0, .int 0, .int 0])))
  rw [← hw] at hC
  have e34 : w7[34]? = some (mm, .inr (6, [.ref q1, .ref q4, .int 1, .int 0, .null, .null, .null, .null, .int 0, .int 0, .int 0, .int 0, .int 0, .int 0, .int 0, .int 0, .int 0])) := by rw [hw]; exact lk_set e34
  have e35 : w7[35]? = some (q1, .inl (t 0, 1048832, .inl (fun _ => 0))) := by rw [hw]; exact lk_ne e35 (by decide)
  have e36 : w7[36]? = some (q4, .inl (t 4, 4097, .inl (fun _ => 0))) := by rw [hw]; exact lk_ne e36 (by decide)
  have hn : w7.length = 37 := by rw [hw, List.length_set]; exact hn
  clear hw
  refine lv_aload_n hx hb d_M_init_26 rfl (lv_at hl 0 rfl) ?_
  refine lv_iconst (v := 1) hx hb d_M_init_27 (by decide) ?_
  refine va_put (D := D) (ci := 6) (v := .int 1) (ty := .int) (C := R_M) (T := F_M) (N := 17) hx hb hts ws_M t_M ok_M n_M hown hK hP hD hS 34 e34 rfl 3 (by decide) (hts _ fl_M_22) (fun _ h9 => h9) rfl (by decide +kernel) rfl rfl (Nat.le_of_ble_eq_true rfl) d_M_init_28 (fun H locs hP hD hS => ?_)
  obtain ⟨w8, hw⟩ : ∃ q, q = w7.set 34 (mm, .inr (6, [.ref q1, .ref q4, .int 1, .int 1, .null, .null, .null, .null, .int 0, .int 0, .int 0, .int 0, .int 0, .int 0, .int 0, .int 0, .int 0])) := ⟨_, rfl⟩
  have hP : va_P D Cl (w7.set 34 (mm, .inr (6, [.ref q1, .ref q4, .int 1, .int 1, .null, .null, .null, .null, .int 0, .int 0, .int 0, .int 0, .int 0, .int 0, .int 0, .int 0, .int 0]))) H := hP
  have hD : va_D (Az z) (w7.set 34 (mm, .inr (6, [.ref q1, .ref q4, .int 1, .int 1, .null, .null, .null, .null, .int 0, .int 0, .int 0, .int 0, .int 0, .int 0, .int 0, .int 0, .int 0]))) := hD
  rw [← hw] at hP hD
  have hC := hC.put (p := 34) (c := (mm, .inr (6, [.ref q1, .ref q4, .int 1, .int 1, .null, .null, .null, .null, .int 0, .int 0, .int 0, .int 0, .int 0, .int 0, .int 0, .int 0, .int 0])))
  rw [← hw] at hC
  have e34 : w8[34]? = some (mm, .inr (6, [.ref q1, .ref q4, .int 1, .int 1, .null, .null, .null, .null, .int 0, .int 0, .int 0, .int 0, .int 0, .int 0, .int 0, .int 0, .int 0])) := by rw [hw]; exact lk_set e34
  have e35 : w8[35]? = some (q1, .inl (t 0, 1048832, .inl (fun _ => 0))) := by rw [hw]; exact lk_ne e35 (by decide)
  have e36 : w8[36]? = some (q4, .inl (t 4, 4097, .inl (fun _ => 0))) := by rw [hw]; exact lk_ne e36 (by decide)
  have hn : w8.length = 37 := by rw [hw, List.length_set]; exact hn
  clear hw
  refine lv_aload_n hx hb d_M_init_31 rfl (lv_at hl 0 rfl) ?_
  refine lv_sipush (v := 1024) hx hb d_M_init_32 (by decide) ?_
  refine va_newa (D := D) (atype := .int) hx hb (hts _ ac_int) (ty := .int) rfl hK hP hD hS hA (N' := 1024) (a0 := (1024, .inl (fun _ => 0))) (fun cA => rfl) (by decide) (by decide) (by decide) (Nat.le_of_ble_eq_true rfl) (Nat.le_of_ble_eq_true rfl) d_M_init_35 (fun q9 cA H hK2 hP hD hS => ?_)
  have hcA : cA = t 4 := Option.some.inj ((hK2.2 6 (cA, .int) rfl).2.symm.trans (hK.2 4 (t 4, .int) rfl).2)
  rw [hcA] at hP hD
  clear hK2 hcA
  obtain ⟨w10, hw⟩ : ∃ q, q = w8 ++ [(q9, .inl (t 4, 1024, .inl (fun _ => 0)))] := ⟨_, rfl⟩
  have hP : va_P D Cl (w8 ++ [(q9, .inl (t 4, 1024, .inl (fun _ => 0)))]) H := hP
  have hD : va_D (Az z) (w8 ++ [(q9, .inl (t 4, 1024, .inl (fun _ => 0)))]) := hD
  rw [← hw] at hP hD
  have hC := hC.push (c := [(q9, .inl (t 4, 1024, .inl (fun _ => 0)))])
  rw [← hw] at hC
  have e34 : w10[34]? = some (mm, .inr (6, [.ref q1, .ref q4, .int 1, .int 1, .null, .null, .null, .null, .int 0, .int 0, .int 0, .int 0, .int 0, .int 0, .int 0, .int 0, .int 0])) := by rw [hw]; exact lk_push e34
  have e35 : w10[35]? = some (q1, .inl (t 0, 1048832, .inl (fun _ => 0))) := by rw [hw]; exact lk_push e35
  have e36 : w10[36]? = some (q4, .inl (t 4, 4097, .inl (fun _ => 0))) := by rw [hw]; exact lk_push e36
  have e37 : w10[37]? = some (q9, .inl (t 4, 1024, .inl (fun _ => 0))) := by rw [hw]; exact lk_new hn
  have hn : w10.length = 38 := by rw [hw, List.length_append, hn]; rfl
  clear hw
  refine va_putF (D := D) (ci := 6) (v := .ref q9) (ty := (.array .int)) (C := R_M) (T := F_M) (N := 17) hx hb hts ws_M t_M ok_M n_M hown hK hP hD hS 34 e34 rfl 4 (by decide) (hts _ fl_M_25) (fun _ h9 => h9) rfl hin rfl (by decide +kernel) rfl rfl (Nat.le_of_ble_eq_true rfl) d_M_init_37 (fun H locs hP hD hS => ?_)
  obtain ⟨w11, hw⟩ : ∃ q, q = w10.set 34 (mm, .inr (6, [.ref q1, .ref q4, .int 1, .int 1, .ref q9, .null, .null, .null, .int 0, .int 0, .int 0, .int 0, .int 0, .int 0, .int 0, .int 0, .int 0])) := ⟨_, rfl⟩
  have hP : va_P D Cl (w10.set 34 (mm, .inr (6, [.ref q1, .ref q4, .int 1, .int 1, .ref q9, .null, .null, .null, .int 0, .int 0, .int 0, .int 0, .int 0, .int 0, .int 0, .int 0, .int 0]))) H := hP
  have hD : va_D (Az z) (w10.set 34 (mm, .inr (6, [.ref q1, .ref q4, .int 1, .int 1, .ref q9, .null, .null, .null, .int 0, .int 0, .int 0, .int 0, .int 0, .int 0, .int 0, .int 0, .int 0]))) := hD
  rw [← hw] at hP hD
  have hC := hC.put (p := 34) (c := (mm, .inr (6, [.ref q1, .ref q4, .int 1, .int 1, .ref q9, .null, .null, .null, .int 0, .int 0, .int 0, .int 0, .int 0, .int 0, .int 0, .int 0, .int 0])))
  rw [← hw] at hC
  have e34 : w11[34]? = some (mm, .inr (6, [.ref q1, .ref q4, .int 1, .int 1, .ref q9, .null, .null, .null, .int 0, .int 0, .int 0, .int 0, .int 0, .int 0, .int 0, .int 0, .int 0])) := by rw [hw]; exact lk_set e34
  have e35 : w11[35]? = some (q1, .inl (t 0, 1048832, .inl (fun _ => 0))) := by rw [hw]; exact lk_ne e35 (by decide)
  have e36 : w11[36]? = some (q4, .inl (t 4, 4097, .inl (fun _ => 0))) := by rw [hw]; exact lk_ne e36 (by decide)
  have e37 : w11[37]? = some (q9, .inl (t 4, 1024, .inl (fun _ => 0))) := by rw [hw]; exact lk_ne e37 (by decide)
  have hn : w11.length = 38 := by rw [hw, List.length_set]; exact hn
  clear hw
  refine lv_aload_n hx hb d_M_init_40 rfl (lv_at hl 0 rfl) ?_
  refine lv_sipush (v := 1024) hx hb d_M_init_41 (by decide) ?_
  refine va_newa (D := D) (atype := .int) hx hb (hts _ ac_int) (ty := .int) rfl hK hP hD hS hA (N' := 1024) (a0 := (1024, .inl (fun _ => 0))) (fun cA => rfl) (by decide) (by decide) (by decide) (Nat.le_of_ble_eq_true rfl) (Nat.le_of_ble_eq_true rfl) d_M_init_44 (fun q12 cA H hK2 hP hD hS => ?_)
  have hcA : cA = t 4 := Option.some.inj ((hK2.2 6 (cA, .int) rfl).2.symm.trans (hK.2 4 (t 4, .int) rfl).2)
  rw [hcA] at hP hD
  clear hK2 hcA
  obtain ⟨w13, hw⟩ : ∃ q, q = w11 ++ [(q12, .inl (t 4, 1024, .inl (fun _ => 0)))] := ⟨_, rfl⟩
  have hP : va_P D Cl (w11 ++ [(q12, .inl (t 4, 1024, .inl (fun _ => 0)))]) H := hP
  have hD : va_D (Az z) (w11 ++ [(q12, .inl (t 4, 1024, .inl (fun _ => 0)))]) := hD
  rw [← hw] at hP hD
  have hC := hC.push (c := [(q12, .inl (t 4, 1024, .inl (fun _ => 0)))])
  rw [← hw] at hC
  have e34 : w13[34]? = some (mm, .inr (6, [.ref q1, .ref q4, .int 1, .int 1, .ref q9, .null, .null, .null, .int 0, .int 0, .int 0, .int 0, .int 0, .int 0, .int 0, .int 0, .int 0])) := by rw [hw]; exact lk_push e34
  have e35 : w13[35]? = some (q1, .inl (t 0, 1048832, .inl (fun _ => 0))) := by rw [hw]; exact lk_push e35
  have e36 : w13[36]? = some (q4, .inl (t 4, 4097, .inl (fun _ => 0))) := by rw [hw]; exact lk_push e36
  have e37 : w13[37]? = some (q9, .inl (t 4, 1024, .inl (fun _ => 0))) := by rw [hw]; exact lk_push e37
  have e38 : w13[38]? = some (q12, .inl (t 4, 1024, .inl (fun _ => 0))) := by rw [hw]; exact lk_new hn
  have hn : w13.length = 39 := by rw [hw, List.length_append, hn]; rfl
  clear hw
  refine va_putF (D := D) (ci := 6) (v := .ref q12) (ty := (.array .int)) (C := R_M) (T := F_M) (N := 17) hx hb hts ws_M t_M ok_M n_M hown hK hP hD hS 34 e34 rfl 5 (by decide) (hts _ fl_M_28) (fun _ h9 => h9) rfl hin rfl (by decide +kernel) rfl rfl (Nat.le_of_ble_eq_true rfl) d_M_init_46 (fun H locs hP hD hS => ?_)
  obtain ⟨w14, hw⟩ : ∃ q, q = w13.set 34 (mm, .inr (6, [.ref q1, .ref q4, .int 1, .int 1, .ref q9, .ref q12, .null, .null, .int 0, .int 0, .int 0, .int 0, .int 0, .int 0, .int 0, .int 0, .int 0])) := ⟨_, rfl⟩
  have hP : va_P D Cl (w13.set 34 (mm, .inr (6, [.ref q1, .ref q4, .int 1, .int 1, .ref q9, .ref q12, .null, .null, .int 0, .int 0, .int 0, .int 0, .int 0, .int 0, .int 0, .int 0, .int 0]))) H := hP
  have hD : va_D (Az z) (w13.set 34 (mm, .inr (6, [.ref q1, .ref q4, .int 1, .int 1, .ref q9, .ref q12, .null, .null, .int 0, .int 0, .int 0, .int 0, .int 0, .int 0, .int 0, .int 0, .int 0]))) := hD
  rw [← hw] at hP hD
  have hC := hC.put (p := 34) (c := (mm, .inr (6, [.ref q1, .ref q4, .int 1, .int 1, .ref q9, .ref q12, .null, .null, .int 0, .int 0, .int 0, .int 0, .int 0, .int 0, .int 0, .int 0, .int 0])))
  rw [← hw] at hC
  have e34 : w14[34]? = some (mm, .inr (6, [.ref q1, .ref q4, .int 1, .int 1, .ref q9, .ref q12, .null, .null, .int 0, .int 0, .int 0, .int 0, .int 0, .int 0, .int 0, .int 0, .int 0])) := by rw [hw]; exact lk_set e34
  have e35 : w14[35]? = some (q1, .inl (t 0, 1048832, .inl (fun _ => 0))) := by rw [hw]; exact lk_ne e35 (by decide)
  have e36 : w14[36]? = some (q4, .inl (t 4, 4097, .inl (fun _ => 0))) := by rw [hw]; exact lk_ne e36 (by decide)
  have e37 : w14[37]? = some (q9, .inl (t 4, 1024, .inl (fun _ => 0))) := by rw [hw]; exact lk_ne e37 (by decide)
  have e38 : w14[38]? = some (q12, .inl (t 4, 1024, .inl (fun _ => 0))) := by rw [hw]; exact lk_ne e38 (by decide)
  have hn : w14.length = 39 := by rw [hw, List.length_set]; exact hn
  clear hw
  refine lv_aload_n hx hb d_M_init_49 rfl (lv_at hl 0 rfl) ?_
  refine lv_sipush (v := 5120) hx hb d_M_init_50 (by decide) ?_
  refine va_newa (D := D) (atype := .int) hx hb (hts _ ac_int) (ty := .int) rfl hK hP hD hS hA (N' := 5120) (a0 := (5120, .inl (fun _ => 0))) (fun cA => rfl) (by decide) (by decide) (by decide) (Nat.le_of_ble_eq_true rfl) (Nat.le_of_ble_eq_true rfl) d_M_init_53 (fun q15 cA H hK2 hP hD hS => ?_)
  have hcA : cA = t 4 := Option.some.inj ((hK2.2 6 (cA, .int) rfl).2.symm.trans (hK.2 4 (t 4, .int) rfl).2)
  rw [hcA] at hP hD
  clear hK2 hcA
  obtain ⟨w16, hw⟩ : ∃ q, q = w14 ++ [(q15, .inl (t 4, 5120, .inl (fun _ => 0)))] := ⟨_, rfl⟩
  have hP : va_P D Cl (w14 ++ [(q15, .inl (t 4, 5120, .inl (fun _ => 0)))]) H := hP
  have hD : va_D (Az z) (w14 ++ [(q15, .inl (t 4, 5120, .inl (fun _ => 0)))]) := hD
  rw [← hw] at hP hD
  have hC := hC.push (c := [(q15, .inl (t 4, 5120, .inl (fun _ => 0)))])
  rw [← hw] at hC
  have e34 : w16[34]? = some (mm, .inr (6, [.ref q1, .ref q4, .int 1, .int 1, .ref q9, .ref q12, .null, .null, .int 0, .int 0, .int 0, .int 0, .int 0, .int 0, .int 0, .int 0, .int 0])) := by rw [hw]; exact lk_push e34
  have e35 : w16[35]? = some (q1, .inl (t 0, 1048832, .inl (fun _ => 0))) := by rw [hw]; exact lk_push e35
  have e36 : w16[36]? = some (q4, .inl (t 4, 4097, .inl (fun _ => 0))) := by rw [hw]; exact lk_push e36
  have e37 : w16[37]? = some (q9, .inl (t 4, 1024, .inl (fun _ => 0))) := by rw [hw]; exact lk_push e37
  have e38 : w16[38]? = some (q12, .inl (t 4, 1024, .inl (fun _ => 0))) := by rw [hw]; exact lk_push e38
  have e39 : w16[39]? = some (q15, .inl (t 4, 5120, .inl (fun _ => 0))) := by rw [hw]; exact lk_new hn
  have hn : w16.length = 40 := by rw [hw, List.length_append, hn]; rfl
  clear hw
  refine va_putF (D := D) (ci := 6) (v := .ref q15) (ty := (.array .int)) (C := R_M) (T := F_M) (N := 17) hx hb hts ws_M t_M ok_M n_M hown hK hP hD hS 34 e34 rfl 6 (by decide) (hts _ fl_M_31) (fun _ h9 => h9) rfl hin rfl (by decide +kernel) rfl rfl (Nat.le_of_ble_eq_true rfl) d_M_init_55 (fun H locs hP hD hS => ?_)
  obtain ⟨w17, hw⟩ : ∃ q, q = w16.set 34 (mm, .inr (6, [.ref q1, .ref q4, .int 1, .int 1, .ref q9, .ref q12, .ref q15, .null, .int 0, .int 0, .int 0, .int 0, .int 0, .int 0, .int 0, .int 0, .int 0])) := ⟨_, rfl⟩
  have hP : va_P D Cl (w16.set 34 (mm, .inr (6, [.ref q1, .ref q4, .int 1, .int 1, .ref q9, .ref q12, .ref q15, .null, .int 0, .int 0, .int 0, .int 0, .int 0, .int 0, .int 0, .int 0, .int 0]))) H := hP
  have hD : va_D (Az z) (w16.set 34 (mm, .inr (6, [.ref q1, .ref q4, .int 1, .int 1, .ref q9, .ref q12, .ref q15, .null, .int 0, .int 0, .int 0, .int 0, .int 0, .int 0, .int 0, .int 0, .int 0]))) := hD
  rw [← hw] at hP hD
  have hC := hC.put (p := 34) (c := (mm, .inr (6, [.ref q1, .ref q4, .int 1, .int 1, .ref q9, .ref q12, .ref q15, .null, .int 0, .int 0, .int 0, .int 0, .int 0, .int 0, .int 0, .int 0, .int 0])))
  rw [← hw] at hC
  have e34 : w17[34]? = some (mm, .inr (6, [.ref q1, .ref q4, .int 1, .int 1, .ref q9, .ref q12, .ref q15, .null, .int 0, .int 0, .int 0, .int 0, .int 0, .int 0, .int 0, .int 0, .int 0])) := by rw [hw]; exact lk_set e34
  have e35 : w17[35]? = some (q1, .inl (t 0, 1048832, .inl (fun _ => 0))) := by rw [hw]; exact lk_ne e35 (by decide)
  have e36 : w17[36]? = some (q4, .inl (t 4, 4097, .inl (fun _ => 0))) := by rw [hw]; exact lk_ne e36 (by decide)
  have e37 : w17[37]? = some (q9, .inl (t 4, 1024, .inl (fun _ => 0))) := by rw [hw]; exact lk_ne e37 (by decide)
  have e38 : w17[38]? = some (q12, .inl (t 4, 1024, .inl (fun _ => 0))) := by rw [hw]; exact lk_ne e38 (by decide)
  have e39 : w17[39]? = some (q15, .inl (t 4, 5120, .inl (fun _ => 0))) := by rw [hw]; exact lk_ne e39 (by decide)
  have hn : w17.length = 40 := by rw [hw, List.length_set]; exact hn
  clear hw
  refine lv_aload_n hx hb d_M_init_58 rfl (lv_at hl 0 rfl) ?_
  refine lv_iconst (v := 5) hx hb d_M_init_59 (by decide) ?_
  refine va_newa (D := D) (atype := .int) hx hb (hts _ ac_int) (ty := .int) rfl hK hP hD hS hA (N' := 5) (a0 := (5, .inl (fun _ => 0))) (fun cA => rfl) (by decide) (by decide) (by decide) (Nat.le_of_ble_eq_true rfl) (Nat.le_of_ble_eq_true rfl) d_M_init_60 (fun q18 cA H hK2 hP hD hS => ?_)
  have hcA : cA = t 4 := Option.some.inj ((hK2.2 6 (cA, .int) rfl).2.symm.trans (hK.2 4 (t 4, .int) rfl).2)
  rw [hcA] at hP hD
  clear hK2 hcA
  obtain ⟨w19, hw⟩ : ∃ q, q = w17 ++ [(q18, .inl (t 4, 5, .inl (fun _ => 0)))] := ⟨_, rfl⟩
  have hP : va_P D Cl (w17 ++ [(q18, .inl (t 4, 5, .inl (fun _ => 0)))]) H := hP
  have hD : va_D (Az z) (w17 ++ [(q18, .inl (t 4, 5, .inl (fun _ => 0)))]) := hD
  rw [← hw] at hP hD
  have hC := hC.push (c := [(q18, .inl (t 4, 5, .inl (fun _ => 0)))])
  rw [← hw] at hC
  have e34 : w19[34]? = some (mm, .inr (6, [.ref q1, .ref q4, .int 1, .int 1, .ref q9, .ref q12, .ref q15, .null, .int 0, .int 0, .int 0, .int 0, .int 0, .int 0, .int 0, .int 0, .int 0])) := by rw [hw]; exact lk_push e34
  have e35 : w19[35]? = some (q1, .inl (t 0, 1048832, .inl (fun _ => 0))) := by rw [hw]; exact lk_push e35
  have e36 : w19[36]? = some (q4, .inl (t 4, 4097, .inl (fun _ => 0))) := by rw [hw]; exact lk_push e36
  have e37 : w19[37]? = some (q9, .inl (t 4, 1024, .inl (fun _ => 0))) := by rw [hw]; exact lk_push e37
  have e38 : w19[38]? = some (q12, .inl (t 4, 1024, .inl (fun _ => 0))) := by rw [hw]; exact lk_push e38
  have e39 : w19[39]? = some (q15, .inl (t 4, 5120, .inl (fun _ => 0))) := by rw [hw]; exact lk_push e39
  have e40 : w19[40]? = some (q18, .inl (t 4, 5, .inl (fun _ => 0))) := by rw [hw]; exact lk_new hn
  have hn : w19.length = 41 := by rw [hw, List.length_append, hn]; rfl
  clear hw
  refine va_putF (D := D) (ci := 6) (v := .ref q18) (ty := (.array .int)) (C := R_M) (T := F_M) (N := 17) hx hb hts ws_M t_M ok_M n_M hown hK hP hD hS 34 e34 rfl 7 (by decide) (hts _ fl_M_34) (fun _ h9 => h9) rfl hin rfl (by decide +kernel) rfl rfl (Nat.le_of_ble_eq_true rfl) d_M_init_62 (fun H locs hP hD hS => ?_)
  obtain ⟨w20, hw⟩ : ∃ q, q = w19.set 34 (mm, .inr (6, [.ref q1, .ref q4, .int 1, .int 1, .ref q9, .ref q12, .ref q15, .ref q18, .int 0, .int 0, .int 0, .int 0, .int 0, .int 0, .int 0, .int 0, .int 0])) := ⟨_, rfl⟩
  have hP : va_P D Cl (w19.set 34 (mm, .inr (6, [.ref q1, .ref q4, .int 1, .int 1, .ref q9, .ref q12, .ref q15, .ref q18, .int 0, .int 0, .int 0, .int 0, .int 0, .int 0, .int 0, .int 0, .int 0]))) H := hP
  have hD : va_D (Az z) (w19.set 34 (mm, .inr (6, [.ref q1, .ref q4, .int 1, .int 1, .ref q9, .ref q12, .ref q15, .ref q18, .int 0, .int 0, .int 0, .int 0, .int 0, .int 0, .int 0, .int 0, .int 0]))) := hD
  rw [← hw] at hP hD
  have hC := hC.put (p := 34) (c := (mm, .inr (6, [.ref q1, .ref q4, .int 1, .int 1, .ref q9, .ref q12, .ref q15, .ref q18, .int 0, .int 0, .int 0, .int 0, .int 0, .int 0, .int 0, .int 0, .int 0])))
  rw [← hw] at hC
  have e34 : w20[34]? = some (mm, .inr (6, [.ref q1, .ref q4, .int 1, .int 1, .ref q9, .ref q12, .ref q15, .ref q18, .int 0, .int 0, .int 0, .int 0, .int 0, .int 0, .int 0, .int 0, .int 0])) := by rw [hw]; exact lk_set e34
  have e35 : w20[35]? = some (q1, .inl (t 0, 1048832, .inl (fun _ => 0))) := by rw [hw]; exact lk_ne e35 (by decide)
  have e36 : w20[36]? = some (q4, .inl (t 4, 4097, .inl (fun _ => 0))) := by rw [hw]; exact lk_ne e36 (by decide)
  have e37 : w20[37]? = some (q9, .inl (t 4, 1024, .inl (fun _ => 0))) := by rw [hw]; exact lk_ne e37 (by decide)
  have e38 : w20[38]? = some (q12, .inl (t 4, 1024, .inl (fun _ => 0))) := by rw [hw]; exact lk_ne e38 (by decide)
  have e39 : w20[39]? = some (q15, .inl (t 4, 5120, .inl (fun _ => 0))) := by rw [hw]; exact lk_ne e39 (by decide)
  have e40 : w20[40]? = some (q18, .inl (t 4, 5, .inl (fun _ => 0))) := by rw [hw]; exact lk_ne e40 (by decide)
  have hn : w20.length = 41 := by rw [hw, List.length_set]; exact hn
  clear hw
  refine lv_aload_n hx hb d_M_init_65 rfl (lv_at hl 0 rfl) ?_
  refine lv_iconst (v := 4) hx hb d_M_init_66 (by decide) ?_
  refine va_put (D := D) (ci := 6) (v := .int 4) (ty := .int) (C := R_M) (T := F_M) (N := 17) hx hb hts ws_M t_M ok_M n_M hown hK hP hD hS 34 e34 rfl 14 (by decide) (hts _ fl_M_37) (fun _ h9 => h9) rfl (by decide +kernel) rfl rfl (Nat.le_of_ble_eq_true rfl) d_M_init_67 (fun H locs hP hD hS => ?_)
  obtain ⟨w21, hw⟩ : ∃ q, q = w20.set 34 (mm, .inr (6, [.ref q1, .ref q4, .int 1, .int 1, .ref q9, .ref q12, .ref q15, .ref q18, .int 0, .int 0, .int 0, .int 0, .int 0, .int 0, .int 4, .int 0, .int 0])) := ⟨_, rfl⟩
  have hP : va_P D Cl (w20.set 34 (mm, .inr (6, [.ref q1, .ref q4, .int 1, .int 1, .ref q9, .ref q12, .ref q15, .ref q18, .int 0, .int 0, .int 0, .int 0, .int 0, .int 0, .int 4, .int 0, .int 0]))) H := hP
  have hD : va_D (Az z) (w20.set 34 (mm, .inr (6, [.ref q1, .ref q4, .int 1, .int 1, .ref q9, .ref q12, .ref q15, .ref q18, .int 0, .int 0, .int 0, .int 0, .int 0, .int 0, .int 4, .int 0, .int 0]))) := hD
  rw [← hw] at hP hD
  have hC := hC.put (p := 34) (c := (mm, .inr (6, [.ref q1, .ref q4, .int 1, .int 1, .ref q9, .ref q12, .ref q15, .ref q18, .int 0, .int 0, .int 0, .int 0, .int 0, .int 0, .int 4, .int 0, .int 0])))
  rw [← hw] at hC
  have e34 : w21[34]? = some (mm, .inr (6, [.ref q1, .ref q4, .int 1, .int 1, .ref q9, .ref q12, .ref q15, .ref q18, .int 0, .int 0, .int 0, .int 0, .int 0, .int 0, .int 4, .int 0, .int 0])) := by rw [hw]; exact lk_set e34
  have e35 : w21[35]? = some (q1, .inl (t 0, 1048832, .inl (fun _ => 0))) := by rw [hw]; exact lk_ne e35 (by decide)
  have e36 : w21[36]? = some (q4, .inl (t 4, 4097, .inl (fun _ => 0))) := by rw [hw]; exact lk_ne e36 (by decide)
  have e37 : w21[37]? = some (q9, .inl (t 4, 1024, .inl (fun _ => 0))) := by rw [hw]; exact lk_ne e37 (by decide)
  have e38 : w21[38]? = some (q12, .inl (t 4, 1024, .inl (fun _ => 0))) := by rw [hw]; exact lk_ne e38 (by decide)
  have e39 : w21[39]? = some (q15, .inl (t 4, 5120, .inl (fun _ => 0))) := by rw [hw]; exact lk_ne e39 (by decide)
  have e40 : w21[40]? = some (q18, .inl (t 4, 5, .inl (fun _ => 0))) := by rw [hw]; exact lk_ne e40 (by decide)
  have hn : w21.length = 41 := by rw [hw, List.length_set]; exact hn
  clear hw
  exact W.vret hx hb hr (fun t9 ht hW => ⟨⟨w21, rfl, ⟨q1, q4, q9, q12, q15, q18, hC.sub (by decide), hn, e34, e35, e36, e37, e38, e39, e40⟩, ⟨by rw [ht]; exact hP, va_K.moved hW.alike hK, hD, by rw [ht]; exact Nat.le_trans hz hS.1⟩⟩, hS.F ht⟩) hS.2.2 d_M_init_70
theorem cnt_none : ∀ n : Nat, cnt (fun _ => none) n = n
  | 0 => rfl
  | n + 1 => by
    show cnt (fun _ => none) n + _ = n + 1
    rw [cnt_none n]; simp
def vF : Nat → Int32 := fun i => [1, 0, 0, 0, 0, 0, 0, 4, 0, 0, 0, 0, 0, 0, 0, 0, 0].getD i 0
def vM : Nat → Int32 := fun i => [1, 1, 0, 0, 0, 0, 0, 0, 4, 0, 0].getD i 0
def Ou (a : Nat → Nat) (t : Nat → ClassId) (ws : va_W) : Prop := ∃ f : Nat → Int64, ws[41]? = some (a 41, .inl (t 5, 1, .inr (.inl f)))
theorem lo_0 {N : Nat} (h : 0 < N) : Lo N (fun _ => 0) := fun _ => ⟨0, h, rfl⟩
theorem iv_new {t : Nat → ClassId} {ws : va_W} {x0 x1 x2 x3 x4 x5 x6 x7 x8 x9 x10 x11 x12 x13 x14 x15 x16 x17 x18 x19 x20 x21 x22 x23 x24 x25 x26 x27 x28 x29 x30 x31 x32 x33 x34 x35 x36 x37 x38 x39 x40 x41 : Nat} {gl : Nat → Option Nat} {fo : Nat → Int64} (hn : ws.length = 42) (e0 : ws[0]? = some (x0, .inr (5, [.ref x1, .ref x4, .ref x7, .ref x8, .ref x9, .int 1, .int 0, .int 0, .int 0, .int 0]))) (e1 : ws[1]? = some (x1, .inr (3, [.ref x2, .int 0]))) (e2 : ws[2]? = some (x2, .inr (1, [.ref x3]))) (e3 : ws[3]? = some (x3, .inl (t 2, 768, .inr (.inr (.inr (.inr (fun _ => none))))))) (e4 : ws[4]? = some (x4, .inr (3, [.ref x5, .int 0]))) (e5 : ws[5]? = some (x5, .inr (1, [.ref x6]))) (e6 : ws[6]? = some (x6, .inl (t 2, 781, .inr (.inr (.inr (.inr (fun _ => none))))))) (e7 : ws[7]? = some (x7, .inl (t 3, 6, .inr (.inr (.inr (.inr gl)))))) (e8 : ws[8]? = some (x8, .inr (2, [.int 4, .int 0, .int 0, .int 0]))) (e9 : ws[9]? = some (x9, .inl (t 0, 260, .inl (fun _ => 0)))) (e10 : ws[10]? = some (x10, .inr (4, [.ref x11, .ref x13, .int 0]))) (e11 : ws[11]? = some (x11, .inr (1, [.ref x12]))) (e12 : ws[12]? = some (x12, .inl (t 2, 768, .inr (.inr (.inr (.inr (fun _ => none))))))) (e13 : ws[13]? = some (x13, .inl (t 1, 768, .inl (fun _ => 0)))) (e14 : ws[14]? = some (x14, .inr (4, [.ref x15, .ref x17, .int 0]))) (e15 : ws[15]? = some (x15, .inr (1, [.ref x16]))) (e16 : ws[16]? = some (x16, .inl (t 2, 768, .inr (.inr (.inr (.inr (fun _ => none))))))) (e17 : ws[17]? = some (x17, .inl (t 1, 768, .inl (fun _ => 0)))) (e18 : ws[18]? = some (x18, .inr (4, [.ref x19, .ref x21, .int 0]))) (e19 : ws[19]? = some (x19, .inr (1, [.ref x20]))) (e20 : ws[20]? = some (x20, .inl (t 2, 768, .inr (.inr (.inr (.inr (fun _ => none))))))) (e21 : ws[21]? = some (x21, .inl (t 1, 768, .inl (fun _ => 0)))) (e22 : ws[22]? = some (x22, .inr (4, [.ref x23, .ref x25, .int 0]))) (e23 : ws[23]? = some (x23, .inr (1, [.ref x24]))) (e24 : ws[24]? = some (x24, .inl (t 2, 768, .inr (.inr (.inr (.inr (fun _ => none))))))) (e25 : ws[25]? = some (x25, .inl (t 1, 768, .inl (fun _ => 0)))) (e26 : ws[26]? = some (x26, .inr (4, [.ref x27, .ref x29, .int 0]))) (e27 : ws[27]? = some (x27, .inr (1, [.ref x28]))) (e28 : ws[28]? = some (x28, .inl (t 2, 768, .inr (.inr (.inr (.inr (fun _ => none))))))) (e29 : ws[29]? = some (x29, .inl (t 1, 768, .inl (fun _ => 0)))) (e30 : ws[30]? = some (x30, .inr (4, [.ref x31, .ref x33, .int 0]))) (e31 : ws[31]? = some (x31, .inr (1, [.ref x32]))) (e32 : ws[32]? = some (x32, .inl (t 2, 768, .inr (.inr (.inr (.inr (fun _ => none))))))) (e33 : ws[33]? = some (x33, .inl (t 1, 768, .inl (fun _ => 0)))) (e34 : ws[34]? = some (x34, .inr (6, [.ref x35, .ref x36, .int 1, .int 1, .ref x37, .ref x38, .ref x39, .ref x40, .int 0, .int 0, .int 0, .int 0, .int 0, .int 0, .int 4, .int 0, .int 0]))) (e35 : ws[35]? = some (x35, .inl (t 0, 1048832, .inl (fun _ => 0)))) (e36 : ws[36]? = some (x36, .inl (t 4, 4097, .inl (fun _ => 0)))) (e37 : ws[37]? = some (x37, .inl (t 4, 1024, .inl (fun _ => 0)))) (e38 : ws[38]? = some (x38, .inl (t 4, 1024, .inl (fun _ => 0)))) (e39 : ws[39]? = some (x39, .inl (t 4, 5120, .inl (fun _ => 0)))) (e40 : ws[40]? = some (x40, .inl (t 4, 5, .inl (fun _ => 0)))) (e41 : ws[41]? = some (x41, .inl (t 5, 1, .inr (.inl fo)))) (hg : gl 0 = some x10 ∧ gl 1 = some x14 ∧ gl 2 = some x18 ∧ gl 3 = some x22 ∧ gl 4 = some x26 ∧ gl 5 = some x30) :
    ∃ a : Nat → Nat, a 0 = x0 ∧ a 34 = x34 ∧ a 41 = x41 ∧ Iv a t 0 vF ws ∧ C1 vF ∧ Mi a t 1 vM ws ∧ Ou a t ws ∧ nul ws = 6157 := by
  obtain ⟨g0, g1, g2, g3, g4, g5⟩ := hg
  refine ⟨fun i => (x0 :: x1 :: x2 :: x3 :: x4 :: x5 :: x6 :: x7 :: x8 :: x9 :: x10 :: x11 :: x12 :: x13 :: x14 :: x15 :: x16 :: x17 :: x18 :: x19 :: x20 :: x21 :: x22 :: x23 :: x24 :: x25 :: x26 :: x27 :: x28 :: x29 :: x30 :: x31 :: x32 :: x33 :: x34 :: x35 :: x36 :: x37 :: x38 :: x39 :: x40 :: x41 :: []).getD i 0, rfl, rfl, rfl, ?_, fun _ => rfl, ?_, ⟨fo, e41⟩, ?_⟩
  · refine ⟨⟨e0, e1, e2, e4, e5, ⟨gl, e7, ?_⟩, e8, ⟨_, e9⟩, ?_, ?_, ?_⟩, ?_, ?_, fun q => absurd q (by decide), by omega, Or.inl rfl, by omega, ?_⟩
    · intro j hj
      rcases (show j = 0 ∨ j = 1 ∨ j = 2 ∨ j = 3 ∨ j = 4 ∨ j = 5 by omega) with rfl | rfl | rfl | rfl | rfl | rfl
      · exact g0
      · exact g1
      · exact g2
      · exact g3
      · exact g4
      · exact g5
    · intro j hj
      rcases (show j = 0 ∨ j = 1 ∨ j = 2 ∨ j = 3 ∨ j = 4 ∨ j = 5 by omega) with rfl | rfl | rfl | rfl | rfl | rfl
      · exact e10
      · exact e14
      · exact e18
      · exact e22
      · exact e26
      · exact e30
    · intro j hj
      rcases (show j = 0 ∨ j = 1 ∨ j = 2 ∨ j = 3 ∨ j = 4 ∨ j = 5 by omega) with rfl | rfl | rfl | rfl | rfl | rfl
      · exact e11
      · exact e15
      · exact e19
      · exact e23
      · exact e27
      · exact e31
    · intro j hj
      rcases (show j = 0 ∨ j = 1 ∨ j = 2 ∨ j = 3 ∨ j = 4 ∨ j = 5 by omega) with rfl | rfl | rfl | rfl | rfl | rfl
      · exact ⟨_, e13, fun _ => Or.inl rfl⟩
      · exact ⟨_, e17, fun _ => Or.inl rfl⟩
      · exact ⟨_, e21, fun _ => Or.inl rfl⟩
      · exact ⟨_, e25, fun _ => Or.inl rfl⟩
      · exact ⟨_, e29, fun _ => Or.inl rfl⟩
      · exact ⟨_, e33, fun _ => Or.inl rfl⟩
    · exact ⟨⟨0, by decide, rfl⟩, ⟨0, by decide, rfl⟩, ⟨0, by decide, rfl⟩, ⟨0, by decide, rfl⟩, ⟨0, by decide, rfl⟩, fun j hj => ⟨0, by decide, by rcases (show j = 0 ∨ j = 1 ∨ j = 2 ∨ j = 3 ∨ j = 4 ∨ j = 5 by omega) with rfl | rfl | rfl | rfl | rfl | rfl <;> rfl⟩, Or.inl rfl⟩
    · intro pm hpm
      have hp : pm = 3 ∨ pm = 6 ∨ pm = 12 ∨ pm = 16 ∨ pm = 20 ∨ pm = 24 ∨ pm = 28 ∨ pm = 32 := by simpa [Mds] using hpm
      rcases hp with rfl | rfl | rfl | rfl | rfl | rfl | rfl | rfl
      · exact ⟨fun _ => none, e3, fun i hi b hb => nomatch hb⟩
      · exact ⟨fun _ => none, e6, fun i hi b hb => nomatch hb⟩
      · exact ⟨fun _ => none, e12, fun i hi b hb => nomatch hb⟩
      · exact ⟨fun _ => none, e16, fun i hi b hb => nomatch hb⟩
      · exact ⟨fun _ => none, e20, fun i hi b hb => nomatch hb⟩
      · exact ⟨fun _ => none, e24, fun i hi b hb => nomatch hb⟩
      · exact ⟨fun _ => none, e28, fun i hi b hb => nomatch hb⟩
      · exact ⟨fun _ => none, e32, fun i hi b hb => nomatch hb⟩
    · intro k c L f hk he
      rcases hk with rfl | hk
      · cases e9.symm.trans he; exact sb_fit0
      · rw [List.getElem?_eq_none (by omega)] at he; cases he
  · exact ⟨e34, ⟨⟨1, by decide, rfl⟩, ⟨0, by decide, rfl⟩, ⟨0, by decide, rfl⟩, ⟨0, by decide, rfl⟩⟩, ⟨_, e35⟩, ⟨_, e36⟩, ⟨_, e37, lo_0 (by decide)⟩, ⟨_, e38, lo_0 (by decide)⟩, ⟨_, e39, lo_0 (by decide)⟩, ⟨_, e40, lo_0 (by decide)⟩⟩
  · unfold nul
    rw [e3, e6, e12, e16, e20, e24, e28, e32]
    show cnt (fun _ => none) 768 + cnt (fun _ => none) 781 + cnt (fun _ => none) 768 + cnt (fun _ => none) 768 + cnt (fun _ => none) 768 + cnt (fun _ => none) 768 + cnt (fun _ => none) 768 + cnt (fun _ => none) 768 = 6157
    rw [cnt_none, cnt_none]
