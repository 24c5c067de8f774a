set_option maxHeartbeats 4000000 in
set_option maxRecDepth 100000 in
theorem c_M_init {l : Launch} {D : va_G} {t : Nat → ClassId} {z : Nat} {sa : Nat → Nat} {ws : va_W} {mm : Nat} (hn : ws.length = 35) (e34 : ws[34]? = some (mm, .inr (6, [.null, .null, .int 0, .int 0, .null, .null, .null, .null, .int 0, .int 0, .int 0, .int 0, .int 0, .int 0, .int 0, .int 0, .int 0])))  : Met l y_M_init (Cond.code y_M_init b_M_init 1 (.none : Option Jvm.ClassFile.FieldType) :: WS) ({ frames := 1, cells := 6, slots := 1060102, locals := 12 }) (Pz D t z sa ws [.ref mm]) (va_Qv (fun u : va_W => ∃ mb ms9 mn ml mk9 mq : Nat, Ch ws u [34] ∧ u.length = 41 ∧ u[34]? = some (mm, .inr (6, [.ref mb, .ref ms9, .int 1, .int 1, .ref mn, .ref ml, .ref mk9, .ref mq, .int 0, .int 0, .int 0, .int 0, .int 0, .int 0, .int 4, .int 0, .int 0]))) (fun u U => Wd D t z u U) (Az z)) 6 1060102 (Az z) := by
  refine Met.ofW (cc := b_M_init) (maxL := 1) (ret := (.none : Option Jvm.ClassFile.FieldType)) (by decide) rfl ?_
  intro p e s m args below meth c s₁ B hml hv
  obtain ⟨rfl, ⟨hP, hK, hD, hz⟩, hM⟩ := hv
  have hx := B.exec
  have hb := B.bytes
  have hr := B.returns
  have hts : ∀ w ∈ WS, w.before [.ref mm].toArray s = true := fun w h => atoms_spec B.pre w (List.mem_cons_of_mem _ h)
  have hown : s.vm.findClass R_M = some m.cls := findClass_of_methodNamed B.named
  have hlocks := B.notSynchronized
  have hin : meth.name = "<init>" := (name_of_methodNamed B.named B.method).1
  have hA : ∀ q, s.heap.size ≤ q → Az z q := fun q h => Nat.le_trans hz h
  have hS : va_S (Az z) s.heap s.heap [] := va_S.rf
  have hC : Ch ws ws [] := Ch.rf
  have hl := lv_entry ([.ref mm]) (n := 1) (Nat.le_of_ble_eq_true rfl)
  rw [lg_entry_eq]
  generalize (lg_sl ([.ref mm]) ++ List.replicate (1 - (lg_sl ([.ref mm])).length) Slot.unset).toArray = ls at hl ⊢
  have hl : lv_has ls 1 [(0, .ref mm)] := hl
  refine lv_aload_n hx hb d_M_init_0 rfl (lv_at hl 0 rfl) ?_
  refine W.objInit hx hb hown (hts _ ml_M_1) (hts _ oi_im) (hts _ oi_cd) rfl (by rw [hml]; exact hl.1) rfl d_M_init_1 (Nat.le_of_ble_eq_true rfl) (Nat.le_of_ble_eq_true rfl) ?_
  refine W.eq (g2 := F0 m 4 ls []) rfl ?_
  refine lv_aload_n hx hb d_M_init_4 rfl (lv_at hl 0 rfl) ?_
  refine lv_ldc (v := 1048832) hx hb hown (hts _ co_M_7) d_M_init_5 ?_
  refine va_newa (D := D) (atype := .byte) hx hb (hts _ ac_byte) (ty := .byte) rfl hK hP hD hS hA (N' := 1048832) (a0 := (1048832, .inl (fun _ => 0))) (fun cA => rfl) (by decide) (by decide) (by decide) (Nat.le_of_ble_eq_true rfl) (Nat.le_of_ble_eq_true rfl) d_M_init_7 (fun q1 cA H hK2 hP hD hS => ?_)
  have hcA : cA = t 0 := Option.some.inj ((hK2.2 6 (cA, .byte) rfl).2.symm.trans (hK.2 0 (t 0, .byte) rfl).2)
  rw [hcA] at hP hD
  clear hK2 hcA
  obtain ⟨w2, hw⟩ : ∃ q, q = ws ++ [(q1, .inl (t 0, 1048832, .inl (fun _ => 0)))] := ⟨_, rfl⟩
  have hP : va_P D Cl (ws ++ [(q1, .inl (t 0, 1048832, .inl (fun _ => 0)))]) H := hP
  have hD : va_D (Az z) (ws ++ [(q1, .inl (t 0, 1048832, .inl (fun _ => 0)))]) := hD
  rw [← hw] at hP hD
  have hC := hC.push (c := [(q1, .inl (t 0, 1048832, .inl (fun _ => 0)))])
  rw [← hw] at hC
  have e34 : w2[34]? = some (mm, .inr (6, [.null, .null, .int 0, .int 0, .null, .null, .null, .null, .int 0, .int 0, .int 0, .int 0, .int 0, .int 0, .int 0, .int 0, .int 0])) := by rw [hw]; exact lk_push e34
  have e35 : w2[35]? = some (q1, .inl (t 0, 1048832, .inl (fun _ => 0))) := by rw [hw]; exact lk_new hn
  have hn : w2.length = 36 := by rw [hw, List.length_append, hn]; rfl
  clear hw
  refine va_putF (D := D) (ci := 6) (v := .ref q1) (ty := (.array .byte)) (C := R_M) (T := F_M) (N := 17) hx hb hts ws_M t_M ok_M n_M hown hK hP hD hS 34 e34 rfl 0 (by decide) (hts _ fl_M_8) (fun _ h9 => h9) rfl hin rfl (by decide +kernel) rfl rfl (Nat.le_of_ble_eq_true rfl) d_M_init_9 (fun H locs hP hD hS => ?_)
  obtain ⟨w3, hw⟩ : ∃ q, q = w2.set 34 (mm, .inr (6, [.ref q1, .null, .int 0, .int 0, .null, .null, .null, .null, .int 0, .int 0, .int 0, .int 0, .int 0, .int 0, .int 0, .int 0, .int 0])) := ⟨_, rfl⟩
  have hP : va_P D Cl (w2.set 34 (mm, .inr (6, [.ref q1, .null, .int 0, .int 0, .null, .null, .null, .null, .int 0, .int 0, .int 0, .int 0, .int 0, .int 0, .int 0, .int 0, .int 0]))) H := hP
  have hD : va_D (Az z) (w2.set 34 (mm, .inr (6, [.ref q1, .null, .int 0, .int 0, .null, .null, .null, .null, .int 0, .int 0, .int 0, .int 0, .int 0, .int 0, .int 0, .int 0, .int 0]))) := hD
  rw [← hw] at hP hD
  have hC := hC.put (p := 34) (c := (mm, .inr (6, [.ref q1, .null, .int 0, .int 0, .null, .null, .null, .null, .int 0, .int 0, .int 0, .int 0, .int 0, .int 0, .int 0, .int 0, .int 0])))
  rw [← hw] at hC
  have e34 : w3[34]? = some (mm, .inr (6, [.ref q1, .null, .int 0, .int 0, .null, .null, .null, .null, .int 0, .int 0, .int 0, .int 0, .int 0, .int 0, .int 0, .int 0, .int 0])) := by rw [hw]; exact lk_set e34
  have e35 : w3[35]? = some (q1, .inl (t 0, 1048832, .inl (fun _ => 0))) := by rw [hw]; exact lk_ne e35 (by decide)
  have hn : w3.length = 36 := by rw [hw, List.length_set]; exact hn
  clear hw
  refine lv_aload_n hx hb d_M_init_12 rfl (lv_at hl 0 rfl) ?_
  refine lv_sipush (v := 4097) hx hb d_M_init_13 (by decide) ?_
  refine va_newa (D := D) (atype := .int) hx hb (hts _ ac_int) (ty := .int) rfl hK hP hD hS hA (N' := 4097) (a0 := (4097, .inl (fun _ => 0))) (fun cA => rfl) (by decide) (by decide) (by decide) (Nat.le_of_ble_eq_true rfl) (Nat.le_of_ble_eq_true rfl) d_M_init_16 (fun q4 cA H hK2 hP hD hS => ?_)
  have hcA : cA = t 4 := Option.some.inj ((hK2.2 6 (cA, .int) rfl).2.symm.trans (hK.2 4 (t 4, .int) rfl).2)
  rw [hcA] at hP hD
  clear hK2 hcA
  obtain ⟨w5, hw⟩ : ∃ q, q = w3 ++ [(q4, .inl (t 4, 4097, .inl (fun _ => 0)))] := ⟨_, rfl⟩
  have hP : va_P D Cl (w3 ++ [(q4, .inl (t 4, 4097, .inl (fun _ => 0)))]) H := hP
  have hD : va_D (Az z) (w3 ++ [(q4, .inl (t 4, 4097, .inl (fun _ => 0)))]) := hD
  rw [← hw] at hP hD
  have hC := hC.push (c := [(q4, .inl (t 4, 4097, .inl (fun _ => 0)))])
  rw [← hw] at hC
  have e34 : w5[34]? = some (mm, .inr (6, [.ref q1, .null, .int 0, .int 0, .null, .null, .null, .null, .int 0, .int 0, .int 0, .int 0, .int 0, .int 0, .int 0, .int 0, .int 0])) := by rw [hw]; exact lk_push e34
  have e35 : w5[35]? = some (q1, .inl (t 0, 1048832, .inl (fun _ => 0))) := by rw [hw]; exact lk_push e35
  have e36 : w5[36]? = some (q4, .inl (t 4, 4097, .inl (fun _ => 0))) := by rw [hw]; exact lk_new hn
  have hn : w5.length = 37 := by rw [hw, List.length_append, hn]; rfl
  clear hw
  refine va_putF (D := D) (ci := 6) (v := .ref q4) (ty := (.array .int)) (C := R_M) (T := F_M) (N := 17) hx hb hts ws_M t_M ok_M n_M hown hK hP hD hS 34 e34 rfl 1 (by decide) (hts _ fl_M_14) (fun _ h9 => h9) rfl hin rfl (by decide +kernel) rfl rfl (Nat.le_of_ble_eq_true rfl) d_M_init_18 (fun H locs hP hD hS => ?_)
  obtain ⟨w6, hw⟩ : ∃ q, q = w5.set 34 (mm, .inr (6, [.ref q1, .ref q4, .int 0, .int 0, .null, .null, .null, .null, .int 0, .int 0, .int 0, .int 0, .int 0, .int 0, .int 0, .int 0, .int 0])) := ⟨_, rfl⟩
  have hP : va_P D Cl (w5.set 34 (mm, .inr (6, [.ref q1, .ref q4, .int 0, .int 0, .null, .null, .null, .null, .int 0, .int 0, .int 0, .int 0, .int 0, .int 0, .int 0, .int 0, .int 0]))) H := hP
  have hD : va_D (Az z) (w5.set 34 (mm, .inr (6, [.ref q1, .ref q4, .int 0, .int 0, .null, .null, .null, .null, .int 0, .int 0, .int 0, .int 0, .int 0, .int 0, .int 0, .int 0, .int 0]))) := hD
  rw [← hw] at hP hD
  have hC := hC.put (p := 34) (c := (mm, .inr (6, [.ref q1, .ref q4, .int 0, .int 0, .null, .null, .null, .null, .int 0, .int 0, .int 0, .int 0, .int 0, .int 0, .int 0, .int 0, .int 0])))
  rw [← hw] at hC
  have e34 : w6[34]? = some (mm, .inr (6, [.ref q1, .ref q4, .int 0, .int 0, .null, .null, .null, .null, .int 0, .int 0, .int 0, .int 0, .int 0, .int 0, .int 0, .int 0, .int 0])) := by rw [hw]; exact lk_set e34
  have e35 : w6[35]? = some (q1, .inl (t 0, 1048832, .inl (fun _ => 0))) := by rw [hw]; exact lk_ne e35 (by decide)
  have e36 : w6[36]? = some (q4, .inl (t 4, 4097, .inl (fun _ => 0))) := by rw [hw]; exact lk_ne e36 (by decide)
  have hn : w6.length = 37 := by rw [hw, List.length_set]; exact hn
  clear hw
  refine lv_aload_n hx hb d_M_init_21 rfl (lv_at hl 0 rfl) ?_
  refine lv_iconst (v := 1) hx hb d_M_init_22 (by decide) ?_
  refine va_put (D := D) (ci := 6) (v := .int 1) (ty := .int) (C := R_M) (T := F_M) (N := 17) hx hb hts ws_M t_M ok_M n_M hown hK hP hD hS 34 e34 rfl 2 (by decide) (hts _ fl_M_18) (fun _ h9 => h9) rfl (by decide +kernel) rfl rfl (Nat.le_of_ble_eq_true rfl) d_M_init_23 (fun H locs hP hD hS => ?_)
  obtain ⟨w7, hw⟩ : ∃ q, q = w6.set 34 (mm, .inr (6, [.ref q1, .ref q4, .int 1, .int 0, .null, .null, .null, .null, .int 0, .int 0, .int 0, .int 0, .int 0, .int 0, .int 0, .int 0, .int 0])) := ⟨_, rfl⟩
  have hP : va_P D Cl (w6.set 34 (mm, .inr (6, [.ref q1, .ref q4, .int 1, .int 0, .null, .null, .null, .null, .int 0, .int 0, .int 0, .int 0, .int 0, .int 0, .int 0, .int 0, .int 0]))) H := hP
  have hD : va_D (Az z) (w6.set 34 (mm, .inr (6, [.ref q1, .ref q4, .int 1, .int 0, .null, .null, .null, .null, .int 0, .int 0, .int 0, .int 0, .int 0, .int 0, .int 0, .int 0, .int 0]))) := hD
  rw [← hw] at hP hD
  have hC := hC.put (p := 34) (c := (mm, .inr (6, [.ref q1, .ref q4, .int 1, .int 0, .null, .null, .null, .null, .int 0, .int 0, .int 0, .int 0, .int 0, .int 0, .int 0, .int 0, .int 0])))
  rw [← hw] at hC
  have e34 : w7[34]? = some (mm, .inr (6, [.ref q1, .ref q4, .int 1, .int 0, .null, .null, .null, .null, .int 0, .int 0, .int 0, .int 0, .int 0, .int 0, .int 0, .int 0, .int 0])) := by rw [hw]; exact lk_set e34
  have e35 : w7[35]? = some (q1, .inl (t 0, 1048832, .inl (fun _ => 0))) := by rw [hw]; exact lk_ne e35 (by decide)
  have e36 : w7[36]? = some (q4, .inl (t 4, 4097, .inl (fun _ => 0))) := by rw [hw]; exact lk_ne e36 (by decide)
  have hn : w7.length = 37 := by rw [hw, List.length_set]; exact hn
  clear hw
  refine lv_aload_n hx hb d_M_init_26 rfl (lv_at hl 0 rfl) ?_
  refine lv_iconst (v := 1) hx hb d_M_init_27 (by decide) ?_
  refine va_put (D := D) (ci := 6) (v := .int 1) (ty := .int) (C := R_M) (T := F_M) (N := 17) hx hb hts ws_M t_M ok_M n_M hown hK hP hD hS 34 e34 rfl 3 (by decide) (hts _ fl_M_22) (fun _ h9 => h9) rfl (by decide +kernel) rfl rfl (Nat.le_of_ble_eq_true rfl) d_M_init_28 (fun H locs hP hD hS => ?_)
  obtain ⟨w8, hw⟩ : ∃ q, q = w7.set 34 (mm, .inr (6, [.ref q1, .ref q4, .int 1, .int 1, .null, .null, .null, .null, .int 0, .int 0, .int 0, .int 0, .int 0, .int 0, .int 0, .int 0, .int 0])) := ⟨_, rfl⟩
  have hP : va_P D Cl (w7.set 34 (mm, .inr (6, [.ref q1, .ref q4, .int 1, .int 1, .null, .null, .null, .null, .int 0, .int 0, .int 0, .int 0, .int 0, .int 0, .int 0, .int 0, .int 0]))) H := hP
  have hD : va_D (Az z) (w7.set 34 (mm, .inr (6, [.ref q1, .ref q4, .int 1, .int 1, .null, .null, .null, .null, .int 0, .int 0, .int 0, .int 0, .int 0, .int 0, .int 0, .int 0, .int 0]))) := hD
  rw [← hw] at hP hD
  have hC := hC.put (p := 34) (c := (mm, .inr (6, [.ref q1, .ref q4, .int 1, .int 1, .null, .null, .null, .null, .int 0, .int 0, .int 0, .int 0, .int 0, .int 0, .int 0, .int 0, .int 0])))
  rw [← hw] at hC
  have e34 : w8[34]? = some (mm, .inr (6, [.ref q1, .ref q4, .int 1, .int 1, .null, .null, .null, .null, .int 0, .int 0, .int 0, .int 0, .int 0, .int 0, .int 0, .int 0, .int 0])) := by rw [hw]; exact lk_set e34
  have e35 : w8[35]? = some (q1, .inl (t 0, 1048832, .inl (fun _ => 0))) := by rw [hw]; exact lk_ne e35 (by decide)
  have e36 : w8[36]? = some (q4, .inl (t 4, 4097, .inl (fun _ => 0))) := by rw [hw]; exact lk_ne e36 (by decide)
  have hn : w8.length = 37 := by rw [hw, List.length_set]; exact hn
  clear hw
  refine lv_aload_n hx hb d_M_init_31 rfl (lv_at hl 0 rfl) ?_
  refine lv_sipush (v := 1024) hx hb d_M_init_32 (by decide) ?_
  refine va_newa (D := D) (atype := .int) hx hb (hts _ ac_int) (ty := .int) rfl hK hP hD hS hA (N' := 1024) (a0 := (1024, .inl (fun _ => 0))) (fun cA => rfl) (by decide) (by decide) (by decide) (Nat.le_of_ble_eq_true rfl) (Nat.le_of_ble_eq_true rfl) d_M_init_35 (fun q9 cA H hK2 hP hD hS => ?_)
  have hcA : cA = t 4 := Option.some.inj ((hK2.2 6 (cA, .int) rfl).2.symm.trans (hK.2 4 (t 4, .int) rfl).2)
  rw [hcA] at hP hD
  clear hK2 hcA
  obtain ⟨w10, hw⟩ : ∃ q, q = w8 ++ [(q9, .inl (t 4, 1024, .inl (fun _ => 0)))] := ⟨_, rfl⟩
  have hP : va_P D Cl (w8 ++ [(q9, .inl (t 4, 1024, .inl (fun _ => 0)))]) H := hP
  have hD : va_D (Az z) (w8 ++ [(q9, .inl (t 4, 1024, .inl (fun _ => 0)))]) := hD
  rw [← hw] at hP hD
  have hC := hC.push (c := [(q9, .inl (t 4, 1024, .inl (fun _ => 0)))])
  rw [← hw] at hC
  have e34 : w10[34]? = some (mm, .inr (6, [.ref q1, .ref q4, .int 1, .int 1, .null, .null, .null, .null, .int 0, .int 0, .int 0, .int 0, .int 0, .int 0, .int 0, .int 0, .int 0])) := by rw [hw]; exact lk_push e34
  have e35 : w10[35]? = some (q1, .inl (t 0, 1048832, .inl (fun _ => 0))) := by rw [hw]; exact lk_push e35
  have e36 : w10[36]? = some (q4, .inl (t 4, 4097, .inl (fun _ => 0))) := by rw [hw]; exact lk_push e36
  have e37 : w10[37]? = some (q9, .inl (t 4, 1024, .inl (fun _ => 0))) := by rw [hw]; exact lk_new hn
  have hn : w10.length = 38 := by rw [hw, List.length_append, hn]; rfl
  clear hw
  refine va_putF (D := D) (ci := 6) (v := .ref q9) (ty := (.array .int)) (C := R_M) (T := F_M) (N := 17) hx hb hts ws_M t_M ok_M n_M hown hK hP hD hS 34 e34 rfl 4 (by decide) (hts _ fl_M_25) (fun _ h9 => h9) rfl hin rfl (by decide +kernel) rfl rfl (Nat.le_of_ble_eq_true rfl) d_M_init_37 (fun H locs hP hD hS => ?_)
  obtain ⟨w11, hw⟩ : ∃ q, q = w10.set 34 (mm, .inr (6, [.ref q1, .ref q4, .int 1, .int 1, .ref q9, .null, .null, .null, .int 0, .int 0, .int 0, .int 0, .int 0, .int 0, .int 0, .int 0, .int 0])) := ⟨_, rfl⟩
  have hP : va_P D Cl (w10.set 34 (mm, .inr (6, [.ref q1, .ref q4, .int 1, .int 1, .ref q9, .null, .null, .null, .int 0, .int 0, .int 0, .int 0, .int 0, .int 0, .int 0, .int 0, .int 0]))) H := hP
  have hD : va_D (Az z) (w10.set 34 (mm, .inr (6, [.ref q1, .ref q4, .int 1, .int 1, .ref q9, .null, .null, .null, .int 0, .int 0, .int 0, .int 0, .int 0, .int 0, .int 0, .int 0, .int 0]))) := hD
  rw [← hw] at hP hD
  have hC := hC.put (p := 34) (c := (mm, .inr (6, [.ref q1, .ref q4, .int 1, .int 1, .ref q9, .null, .null, .null, .int 0, .int 0, .int 0, .int 0, .int 0, .int 0, .int 0, .int 0, .int 0])))
  rw [← hw] at hC
  have e34 : w11[34]? = some (mm, .inr (6, [.ref q1, .ref q4, .int 1, .int 1, .ref q9, .null, .null, .null, .int 0, .int 0, .int 0, .int 0, .int 0, .int 0, .int 0, .int 0, .int 0])) := by rw [hw]; exact lk_set e34
  have e35 : w11[35]? = some (q1, .inl (t 0, 1048832, .inl (fun _ => 0))) := by rw [hw]; exact lk_ne e35 (by decide)
  have e36 : w11[36]? = some (q4, .inl (t 4, 4097, .inl (fun _ => 0))) := by rw [hw]; exact lk_ne e36 (by decide)
  have e37 : w11[37]? = some (q9, .inl (t 4, 1024, .inl (fun _ => 0))) := by rw [hw]; exact lk_ne e37 (by decide)
  have hn : w11.length = 38 := by rw [hw, List.length_set]; exact hn
  clear hw
  refine lv_aload_n hx hb d_M_init_40 rfl (lv_at hl 0 rfl) ?_
  refine lv_sipush (v := 1024) hx hb d_M_init_41 (by decide) ?_
  refine va_newa (D := D) (atype := .int) hx hb (hts _ ac_int) (ty := .int) rfl hK hP hD hS hA (N' := 1024) (a0 := (1024, .inl (fun _ => 0))) (fun cA => rfl) (by decide) (by decide) (by decide) (Nat.le_of_ble_eq_true rfl) (Nat.le_of_ble_eq_true rfl) d_M_init_44 (fun q12 cA H hK2 hP hD hS => ?_)
  have hcA : cA = t 4 := Option.some.inj ((hK2.2 6 (cA, .int) rfl).2.symm.trans (hK.2 4 (t 4, .int) rfl).2)
  rw [hcA] at hP hD
  clear hK2 hcA
  obtain ⟨w13, hw⟩ : ∃ q, q = w11 ++ [(q12, .inl (t 4, 1024, .inl (fun _ => 0)))] := ⟨_, rfl⟩
  have hP : va_P D Cl (w11 ++ [(q12, .inl (t 4, 1024, .inl (fun _ => 0)))]) H := hP
  have hD : va_D (Az z) (w11 ++ [(q12, .inl (t 4, 1024, .inl (fun _ => 0)))]) := hD
  rw [← hw] at hP hD
  have hC := hC.push (c := [(q12, .inl (t 4, 1024, .inl (fun _ => 0)))])
  rw [← hw] at hC
  have e34 : w13[34]? = some (mm, .inr (6, [.ref q1, .ref q4, .int 1, .int 1, .ref q9, .null, .null, .null, .int 0, .int 0, .int 0, .int 0, .int 0, .int 0, .int 0, .int 0, .int 0])) := by rw [hw]; exact lk_push e34
  have e35 : w13[35]? = some (q1, .inl (t 0, 1048832, .inl (fun _ => 0))) := by rw [hw]; exact lk_push e35
  have e36 : w13[36]? = some (q4, .inl (t 4, 4097, .inl (fun _ => 0))) := by rw [hw]; exact lk_push e36
  have e37 : w13[37]? = some (q9, .inl (t 4, 1024, .inl (fun _ => 0))) := by rw [hw]; exact lk_push e37
  have e38 : w13[38]? = some (q12, .inl (t 4, 1024, .inl (fun _ => 0))) := by rw [hw]; exact lk_new hn
  have hn : w13.length = 39 := by rw [hw, List.length_append, hn]; rfl
  clear hw
  refine va_putF (D := D) (ci := 6) (v := .ref q12) (ty := (.array .int)) (C := R_M) (T := F_M) (N := 17) hx hb hts ws_M t_M ok_M n_M hown hK hP hD hS 34 e34 rfl 5 (by decide) (hts _ fl_M_28) (fun _ h9 => h9) rfl hin rfl (by decide +kernel) rfl rfl (Nat.le_of_ble_eq_true rfl) d_M_init_46 (fun H locs hP hD hS => ?_)
  obtain ⟨w14, hw⟩ : ∃ q, q = w13.set 34 (mm, .inr (6, [.ref q1, .ref q4, .int 1, .int 1, .ref q9, .ref q12, .null, .null, .int 0, .int 0, .int 0, .int 0, .int 0, .int 0, .int 0, .int 0, .int 0])) := ⟨_, rfl⟩
  have hP : va_P D Cl (w13.set 34 (mm, .inr (6, [.ref q1, .ref q4, .int 1, .int 1, .ref q9, .ref q12, .null, .null, .int 0, .int 0, .int 0, .int 0, .int 0, .int 0, .int 0, .int 0, .int 0]))) H := hP
  have hD : va_D (Az z) (w13.set 34 (mm, .inr (6, [.ref q1, .ref q4, .int 1, .int 1, .ref q9, .ref q12, .null, .null, .int 0, .int 0, .int 0, .int 0, .int 0, .int 0, .int 0, .int 0, .int 0]))) := hD
  rw [← hw] at hP hD
  have hC := hC.put (p := 34) (c := (mm, .inr (6, [.ref q1, .ref q4, .int 1, .int 1, .ref q9, .ref q12, .null, .null, .int 0, .int 0, .int 0, .int 0, .int 0, .int 0, .int 0, .int 0, .int 0])))
  rw [← hw] at hC
  have e34 : w14[34]? = some (mm, .inr (6, [.ref q1, .ref q4, .int 1, .int 1, .ref q9, .ref q12, .null, .null, .int 0, .int 0, .int 0, .int 0, .int 0, .int 0, .int 0, .int 0, .int 0])) := by rw [hw]; exact lk_set e34
  have e35 : w14[35]? = some (q1, .inl (t 0, 1048832, .inl (fun _ => 0))) := by rw [hw]; exact lk_ne e35 (by decide)
  have e36 : w14[36]? = some (q4, .inl (t 4, 4097, .inl (fun _ => 0))) := by rw [hw]; exact lk_ne e36 (by decide)
  have e37 : w14[37]? = some (q9, .inl (t 4, 1024, .inl (fun _ => 0))) := by rw [hw]; exact lk_ne e37 (by decide)
  have e38 : w14[38]? = some (q12, .inl (t 4, 1024, .inl (fun _ => 0))) := by rw [hw]; exact lk_ne e38 (by decide)
  have hn : w14.length = 39 := by rw [hw, List.length_set]; exact hn
  clear hw
  refine lv_aload_n hx hb d_M_init_49 rfl (lv_at hl 0 rfl) ?_
  refine lv_sipush (v := 5120) hx hb d_M_init_50 (by decide) ?_
  refine va_newa (D := D) (atype := .int) hx hb (hts _ ac_int) (ty := .int) rfl hK hP hD hS hA (N' := 5120) (a0 := (5120, .inl (fun _ => 0))) (fun cA => rfl) (by decide) (by decide) (by decide) (Nat.le_of_ble_eq_true rfl) (Nat.le_of_ble_eq_true rfl) d_M_init_53 (fun q15 cA H hK2 hP hD hS => ?_)
  have hcA : cA = t 4 := Option.some.inj ((hK2.2 6 (cA, .int) rfl).2.symm.trans (hK.2 4 (t 4, .int) rfl).2)
  rw [hcA] at hP hD
  clear hK2 hcA
  obtain ⟨w16, hw⟩ : ∃ q, q = w14 ++ [(q15, .inl (t 4, 5120, .inl (fun _ => 0)))] := ⟨_, rfl⟩
  have hP : va_P D Cl (w14 ++ [(q15, .inl (t 4, 5120, .inl (fun _ => 0)))]) H := hP
  have hD : va_D (Az z) (w14 ++ [(q15, .inl (t 4, 5120, .inl (fun _ => 0)))]) := hD
  rw [← hw] at hP hD
  have hC := hC.push (c := [(q15, .inl (t 4, 5120, .inl (fun _ => 0)))])
  rw [← hw] at hC
  have e34 : w16[34]? = some (mm, .inr (6, [.ref q1, .ref q4, .int 1, .int 1, .ref q9, .ref q12, .null, .null, .int 0, .int 0, .int 0, .int 0, .int 0, .int 0, .int 0, .int 0, .int 0])) := by rw [hw]; exact lk_push e34
  have e35 : w16[35]? = some (q1, .inl (t 0, 1048832, .inl (fun _ => 0))) := by rw [hw]; exact lk_push e35
  have e36 : w16[36]? = some (q4, .inl (t 4, 4097, .inl (fun _ => 0))) := by rw [hw]; exact lk_push e36
  have e37 : w16[37]? = some (q9, .inl (t 4, 1024, .inl (fun _ => 0))) := by rw [hw]; exact lk_push e37
  have e38 : w16[38]? = some (q12, .inl (t 4, 1024, .inl (fun _ => 0))) := by rw [hw]; exact lk_push e38
  have e39 : w16[39]? = some (q15, .inl (t 4, 5120, .inl (fun _ => 0))) := by rw [hw]; exact lk_new hn
  have hn : w16.length = 40 := by rw [hw, List.length_append, hn]; rfl
  clear hw
  refine va_putF (D := D) (ci := 6) (v := .ref q15) (ty := (.array .int)) (C := R_M) (T := F_M) (N := 17) hx hb hts ws_M t_M ok_M n_M hown hK hP hD hS 34 e34 rfl 6 (by decide) (hts _ fl_M_31) (fun _ h9 => h9) rfl hin rfl (by decide +kernel) rfl rfl (Nat.le_of_ble_eq_true rfl) d_M_init_55 (fun H locs hP hD hS => ?_)
  obtain ⟨w17, hw⟩ : ∃ q, q = w16.set 34 (mm, .inr (6, [.ref q1, .ref q4, .int 1, .int 1, .ref q9, .ref q12, .ref q15, .null, .int 0, .int 0, .int 0, .int 0, .int 0, .int 0, .int 0, .int 0, .int 0])) := ⟨_, rfl⟩
  have hP : va_P D Cl (w16.set 34 (mm, .inr (6, [.ref q1, .ref q4, .int 1, .int 1, .ref q9, .ref q12, .ref q15, .null, .int 0, .int 0, .int 0, .int 0, .int 0, .int 0, .int 0, .int 0, .int 0]))) H := hP
  have hD : va_D (Az z) (w16.set 34 (mm, .inr (6, [.ref q1, .ref q4, .int 1, .int 1, .ref q9, .ref q12, .ref q15, .null, .int 0, .int 0, .int 0, .int 0, .int 0, .int 0, .int 0, .int 0, .int 0]))) := hD
  rw [← hw] at hP hD
  have hC := hC.put (p := 34) (c := (mm, .inr (6, [.ref q1, .ref q4, .int 1, .int 1, .ref q9, .ref q12, .ref q15, .null, .int 0, .int 0, .int 0, .int 0, .int 0, .int 0, .int 0, .int 0, .int 0])))
  rw [← hw] at hC
  have e34 : w17[34]? = some (mm, .inr (6, [.ref q1, .ref q4, .int 1, .int 1, .ref q9, .ref q12, .ref q15, .null, .int 0, .int 0, .int 0, .int 0, .int 0, .int 0, .int 0, .int 0, .int 0])) := by rw [hw]; exact lk_set e34
  have e35 : w17[35]? = some (q1, .inl (t 0, 1048832, .inl (fun _ => 0))) := by rw [hw]; exact lk_ne e35 (by decide)
  have e36 : w17[36]? = some (q4, .inl (t 4, 4097, .inl (fun _ => 0))) := by rw [hw]; exact lk_ne e36 (by decide)
  have e37 : w17[37]? = some (q9, .inl (t 4, 1024, .inl (fun _ => 0))) := by rw [hw]; exact lk_ne e37 (by decide)
  have e38 : w17[38]? = some (q12, .inl (t 4, 1024, .inl (fun _ => 0))) := by rw [hw]; exact lk_ne e38 (by decide)
  have e39 : w17[39]? = some (q15, .inl (t 4, 5120, .inl (fun _ => 0))) := by rw [hw]; exact lk_ne e39 (by decide)
  have hn : w17.length = 40 := by rw [hw, List.length_set]; exact hn
  clear hw
  refine lv_aload_n hx hb d_M_init_58 rfl (lv_at hl 0 rfl) ?_
  refine lv_iconst (v := 5) hx hb d_M_init_59 (by decide) ?_
  refine va_newa (D := D) (atype := .int) hx hb (hts _ ac_int) (ty := .int) rfl hK hP hD hS hA (N' := 5) (a0 := (5, .inl (fun _ => 0))) (fun cA => rfl) (by decide) (by decide) (by decide) (Nat.le_of_ble_eq_true rfl) (Nat.le_of_ble_eq_true rfl) d_M_init_60 (fun q18 cA H hK2 hP hD hS => ?_)
  have hcA : cA = t 4 := Option.some.inj ((hK2.2 6 (cA, .int) rfl).2.symm.trans (hK.2 4 (t 4, .int) rfl).2)
  rw [hcA] at hP hD
  clear hK2 hcA
  obtain ⟨w19, hw⟩ : ∃ q, q = w17 ++ [(q18, .inl (t 4, 5, .inl (fun _ => 0)))] := ⟨_, rfl⟩
  have hP : va_P D Cl (w17 ++ [(q18, .inl (t 4, 5, .inl (fun _ => 0)))]) H := hP
  have hD : va_D (Az z) (w17 ++ [(q18, .inl (t 4, 5, .inl (fun _ => 0)))]) := hD
  rw [← hw] at hP hD
  have hC := hC.push (c := [(q18, .inl (t 4, 5, .inl (fun _ => 0)))])
  rw [← hw] at hC
  have e34 : w19[34]? = some (mm, .inr (6, [.ref q1, .ref q4, .int 1, .int 1, .ref q9, .ref q12, .ref q15, .null, .int 0, .int 0, .int 0, .int 0, .int 0, .int 0, .int 0, .int 0, .int 0])) := by rw [hw]; exact lk_push e34
  have e35 : w19[35]? = some (q1, .inl (t 0, 1048832, .inl (fun _ => 0))) := by rw [hw]; exact lk_push e35
  have e36 : w19[36]? = some (q4, .inl (t 4, 4097, .inl (fun _ => 0))) := by rw [hw]; exact lk_push e36
  have e37 : w19[37]? = some (q9, .inl (t 4, 1024, .inl (fun _ => 0))) := by rw [hw]; exact lk_push e37
  have e38 : w19[38]? = some (q12, .inl (t 4, 1024, .inl (fun _ => 0))) := by rw [hw]; exact lk_push e38
  have e39 : w19[39]? = some (q15, .inl (t 4, 5120, .inl (fun _ => 0))) := by rw [hw]; exact lk_push e39
  have e40 : w19[40]? = some (q18, .inl (t 4, 5, .inl (fun _ => 0))) := by rw [hw]; exact lk_new hn
  have hn : w19.length = 41 := by rw [hw, List.length_append, hn]; rfl
  clear hw
  refine va_putF (D := D) (ci := 6) (v := .ref q18) (ty := (.array .int)) (C := R_M) (T := F_M) (N := 17) hx hb hts ws_M t_M ok_M n_M hown hK hP hD hS 34 e34 rfl 7 (by decide) (hts _ fl_M_34) (fun _ h9 => h9) rfl hin rfl (by decide +kernel) rfl rfl (Nat.le_of_ble_eq_true rfl) d_M_init_62 (fun H locs hP hD hS => ?_)
  obtain ⟨w20, hw⟩ : ∃ q, q = w19.set 34 (mm, .inr (6, [.ref q1, .ref q4, .int 1, .int 1, .ref q9, .ref q12, .ref q15, .ref q18, .int 0, .int 0, .int 0, .int 0, .int 0, .int 0, .int 0, .int 0, .int 0])) := ⟨_, rfl⟩
  have hP : va_P D Cl (w19.set 34 (mm, .inr (6, [.ref q1, .ref q4, .int 1, .int 1, .ref q9, .ref q12, .ref q15, .ref q18, .int 0, .int 0, .int 0, .int 0, .int 0, .int 0, .int 0, .int 0, .int 0]))) H := hP
  have hD : va_D (Az z) (w19.set 34 (mm, .inr (6, [.ref q1, .ref q4, .int 1, .int 1, .ref q9, .ref q12, .ref q15, .ref q18, .int 0, .int 0, .int 0, .int 0, .int 0, .int 0, .int 0, .int 0, .int 0]))) := hD
  rw [← hw] at hP hD
  have hC := hC.put (p := 34) (c := (mm, .inr (6, [.ref q1, .ref q4, .int 1, .int 1, .ref q9, .ref q12, .ref q15, .ref q18, .int 0, .int 0, .int 0, .int 0, .int 0, .int 0, .int 0, .int 0, .int 0])))
  rw [← hw] at hC
  have e34 : w20[34]? = some (mm, .inr (6, [.ref q1, .ref q4, .int 1, .int 1, .ref q9, .ref q12, .ref q15, .ref q18, .int 0, .int 0, .int 0, .int 0, .int 0, .int 0, .int 0, .int 0, .int 0])) := by rw [hw]; exact lk_set e34
  have e35 : w20[35]? = some (q1, .inl (t 0, 1048832, .inl (fun _ => 0))) := by rw [hw]; exact lk_ne e35 (by decide)
  have e36 : w20[36]? = some (q4, .inl (t 4, 4097, .inl (fun _ => 0))) := by rw [hw]; exact lk_ne e36 (by decide)
  have e37 : w20[37]? = some (q9, .inl (t 4, 1024, .inl (fun _ => 0))) := by rw [hw]; exact lk_ne e37 (by decide)
  have e38 : w20[38]? = some (q12, .inl (t 4, 1024, .inl (fun _ => 0))) := by rw [hw]; exact lk_ne e38 (by decide)
  have e39 : w20[39]? = some (q15, .inl (t 4, 5120, .inl (fun _ => 0))) := by rw [hw]; exact lk_ne e39 (by decide)
  have e40 : w20[40]? = some (q18, .inl (t 4, 5, .inl (fun _ => 0))) := by rw [hw]; exact lk_ne e40 (by decide)
  have hn : w20.length = 41 := by rw [hw, List.length_set]; exact hn
  clear hw
  refine lv_aload_n hx hb d_M_init_65 rfl (lv_at hl 0 rfl) ?_
  refine lv_iconst (v := 4) hx hb d_M_init_66 (by decide) ?_
  refine va_put (D := D) (ci := 6) (v := .int 4) (ty := .int) (C := R_M) (T := F_M) (N := 17) hx hb hts ws_M t_M ok_M n_M hown hK hP hD hS 34 e34 rfl 14 (by decide) (hts _ fl_M_37) (fun _ h9 => h9) rfl (by decide +kernel) rfl rfl (Nat.le_of_ble_eq_true rfl) d_M_init_67 (fun H locs hP hD hS => ?_)
  obtain ⟨w21, hw⟩ : ∃ q, q = w20.set 34 (mm, .inr (6, [.ref q1, .ref q4, .int 1, .int 1, .ref q9, .ref q12, .ref q15, .ref q18, .int 0, .int 0, .int 0, .int 0, .int 0, .int 0, .int 4, .int 0, .int 0])) := ⟨_, rfl⟩
  have hP : va_P D Cl (w20.set 34 (mm, .inr (6, [.ref q1, .ref q4, .int 1, .int 1, .ref q9, .ref q12, .ref q15, .ref q18, .int 0, .int 0, .int 0, .int 0, .int 0, .int 0, .int 4, .int 0, .int 0]))) H := hP
  have hD : va_D (Az z) (w20.set 34 (mm, .inr (6, [.ref q1, .ref q4, .int 1, .int 1, .ref q9, .ref q12, .ref q15, .ref q18, .int 0, .int 0, .int 0, .int 0, .int 0, .int 0, .int 4, .int 0, .int 0]))) := hD
  rw [← hw] at hP hD
  have hC := hC.put (p := 34) (c := (mm, .inr (6, [.ref q1, .ref q4, .int 1, .int 1, .ref q9, .ref q12, .ref q15, .ref q18, .int 0, .int 0, .int 0, .int 0, .int 0, .int 0, .int 4, .int 0, .int 0])))
  rw [← hw] at hC
  have e34 : w21[34]? = some (mm, .inr (6, [.ref q1, .ref q4, .int 1, .int 1, .ref q9, .ref q12, .ref q15, .ref q18, .int 0, .int 0, .int 0, .int 0, .int 0, .int 0, .int 4, .int 0, .int 0])) := by rw [hw]; exact lk_set e34
  have e35 : w21[35]? = some (q1, .inl (t 0, 1048832, .inl (fun _ => 0))) := by rw [hw]; exact lk_ne e35 (by decide)
  have e36 : w21[36]? = some (q4, .inl (t 4, 4097, .inl (fun _ => 0))) := by rw [hw]; exact lk_ne e36 (by decide)
  have e37 : w21[37]? = some (q9, .inl (t 4, 1024, .inl (fun _ => 0))) := by rw [hw]; exact lk_ne e37 (by decide)
  have e38 : w21[38]? = some (q12, .inl (t 4, 1024, .inl (fun _ => 0))) := by rw [hw]; exact lk_ne e38 (by decide)
  have e39 : w21[39]? = some (q15, .inl (t 4, 5120, .inl (fun _ => 0))) := by rw [hw]; exact lk_ne e39 (by decide)
  have e40 : w21[40]? = some (q18, .inl (t 4, 5, .inl (fun _ => 0))) := by rw [hw]; exact lk_ne e40 (by decide)
  have hn : w21.length = 41 := by rw [hw, List.length_set]; exact hn
  clear hw
  exact W.vret hx hb hr (fun t9 ht hW => ⟨⟨w21, rfl, ⟨q1, q4, q9, q12, q15, q18, hC.sub (by decide), hn, e34⟩, ⟨by rw [ht]; exact hP, va_K.moved hW.alike hK, hD, by rw [ht]; exact Nat.le_trans hz hS.1⟩⟩, hS.F ht⟩) hS.2.2 d_M_init_70
