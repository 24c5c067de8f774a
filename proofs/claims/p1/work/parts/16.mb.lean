set_option maxHeartbeats 4000000 in
set_option maxRecDepth 100000 in
theorem c_M_power {l : Launch} {D : va_G} {t : Nat → ClassId} {z : Nat} {sa : Nat → Nat} {ws : va_W} {mm mb ms9 mn ml mk9 mq : Nat} {a0 a1 a2 : Int32} (e34 : ws[34]? = some (mm, .inr (6, [.ref mb, .ref ms9, .int 1, .int 1, .ref mn, .ref ml, .ref mk9, .ref mq, .int 0, .int 0, .int 0, .int 0, .int 0, .int 0, .int 4, .int 0, .int 0]))) (g0 : ¬ a0 < 0) (g1 : a0 ≤ 4) (g2 : ¬ a1 < 0) (g3 : a1 ≤ 1000) (g4 : ¬ a2 < 0) (g5 : a2 ≤ 300) : Met l y_M_power (Cond.code y_M_power b_M_power 4 (.none : Option Jvm.ClassFile.FieldType) :: WS) ({ frames := 0, cells := 0, slots := 0, locals := 0 }) (Pz D t z sa ws [.ref mm, .int a0, .int a1, .int a2]) (va_Qv (fun u : va_W => Ch ws u [34] ∧ u[34]? = some (mm, .inr (6, [.ref mb, .ref ms9, .int 1, .int 1, .ref mn, .ref ml, .ref mk9, .ref mq, .int 0, .int 0, .int 0, .int 0, .int 0, .int 0, .int a0, .int a1, .int 0]))) (fun u U => Wd D t z u U) (Az z)) 0 0 (Az z) := by
  refine Met.ofW (cc := b_M_power) (maxL := 4) (ret := (.none : Option Jvm.ClassFile.FieldType)) (by decide) rfl ?_
  intro p e s m args below meth c s₁ B hml hv
  obtain ⟨rfl, ⟨hP, hK, hD, hz⟩, hM⟩ := hv
  have hx := B.exec
  have hb := B.bytes
  have hr := B.returns
  have hts : ∀ w ∈ WS, w.before [.ref mm, .int a0, .int a1, .int a2].toArray s = true := fun w h => atoms_spec B.pre w (List.mem_cons_of_mem _ h)
  have hown : s.vm.findClass R_M = some m.cls := findClass_of_methodNamed B.named
  have hlocks := B.notSynchronized
  have hA : ∀ q, s.heap.size ≤ q → Az z q := fun q h => Nat.le_trans hz h
  have hS : va_S (Az z) s.heap s.heap [] := va_S.rf
  have hC : Ch ws ws [] := Ch.rf
  have hl := lv_entry ([.ref mm, .int a0, .int a1, .int a2]) (n := 4) (Nat.le_of_ble_eq_true rfl)
  rw [lg_entry_eq]
  generalize (lg_sl ([.ref mm, .int a0, .int a1, .int a2]) ++ List.replicate (4 - (lg_sl ([.ref mm, .int a0, .int a1, .int a2])).length) Slot.unset).toArray = ls at hl ⊢
  have hl : lv_has ls 4 [(0, .ref mm), (1, .int a0), (2, .int a1), (3, .int a2)] := hl
  refine lv_aload_n hx hb d_M_power_0 rfl (lv_at hl 0 rfl) ?_
  refine lv_iload_n hx hb d_M_power_1 rfl (lv_at hl 1 rfl) ?_
  refine lv_if_lt (tgt := 32) hx hb d_M_power_2 rfl (fun h => absurd h g0) (fun _ => ?_)
  refine lv_iload_n hx hb d_M_power_5 rfl (lv_at hl 1 rfl) ?_
  refine lv_iconst (v := 4) hx hb d_M_power_6 (by decide) ?_
  refine lv_icmp_gt (tgt := 32) hx hb d_M_power_7 rfl (fun h => absurd h (Int32.not_lt.mpr g1)) (fun _ => ?_)
  refine lv_iload_n hx hb d_M_power_10 rfl (lv_at hl 2 rfl) ?_
  refine lv_if_lt (tgt := 32) hx hb d_M_power_11 rfl (fun h => absurd h g2) (fun _ => ?_)
  refine lv_iload_n hx hb d_M_power_14 rfl (lv_at hl 2 rfl) ?_
  refine lv_sipush (v := 1000) hx hb d_M_power_15 (by decide) ?_
  refine lv_icmp_gt (tgt := 32) hx hb d_M_power_18 rfl (fun h => absurd h (Int32.not_lt.mpr g3)) (fun _ => ?_)
  refine lv_iload_n hx hb d_M_power_21 rfl (lv_at hl 3 rfl) ?_
  refine lv_if_lt (tgt := 32) hx hb d_M_power_22 rfl (fun h => absurd h g4) (fun _ => ?_)
  refine lv_iload_n hx hb d_M_power_25 rfl (lv_at hl 3 rfl) ?_
  refine lv_sipush (v := 300) hx hb d_M_power_26 (by decide) ?_
  refine lv_icmp_le (tgt := 36) hx hb d_M_power_29 rfl (fun _ => ?_) (fun h => absurd g5 h)
  refine lv_iconst (v := 0) hx hb d_M_power_36 (by decide) ?_
  refine va_put (D := D) (ci := 6) (v := .int 0) (ty := .int) (C := R_M) (T := F_M) (N := 17) hx hb hts ws_M t_M ok_M n_M hown hK hP hD hS 34 e34 rfl 16 (by decide) (hts _ fl_M_40) (fun _ h9 => h9) rfl (by decide +kernel) rfl rfl (Nat.le_of_ble_eq_true rfl) d_M_power_37 (fun H locs hP hD hS => ?_)
  obtain ⟨w7, hw⟩ : ∃ q, q = ws.set 34 (mm, .inr (6, [.ref mb, .ref ms9, .int 1, .int 1, .ref mn, .ref ml, .ref mk9, .ref mq, .int 0, .int 0, .int 0, .int 0, .int 0, .int 0, .int 4, .int 0, .int 0])) := ⟨_, rfl⟩
  have hP : va_P D Cl (ws.set 34 (mm, .inr (6, [.ref mb, .ref ms9, .int 1, .int 1, .ref mn, .ref ml, .ref mk9, .ref mq, .int 0, .int 0, .int 0, .int 0, .int 0, .int 0, .int 4, .int 0, .int 0]))) H := hP
  have hD : va_D (Az z) (ws.set 34 (mm, .inr (6, [.ref mb, .ref ms9, .int 1, .int 1, .ref mn, .ref ml, .ref mk9, .ref mq, .int 0, .int 0, .int 0, .int 0, .int 0, .int 0, .int 4, .int 0, .int 0]))) := hD
  rw [← hw] at hP hD
  have hC := hC.put (p := 34) (c := (mm, .inr (6, [.ref mb, .ref ms9, .int 1, .int 1, .ref mn, .ref ml, .ref mk9, .ref mq, .int 0, .int 0, .int 0, .int 0, .int 0, .int 0, .int 4, .int 0, .int 0])))
  rw [← hw] at hC
  have e34 : w7[34]? = some (mm, .inr (6, [.ref mb, .ref ms9, .int 1, .int 1, .ref mn, .ref ml, .ref mk9, .ref mq, .int 0, .int 0, .int 0, .int 0, .int 0, .int 0, .int 4, .int 0, .int 0])) := by rw [hw]; exact lk_set e34
  clear hw
  refine lv_aload_n hx hb d_M_power_40 rfl (lv_at hl 0 rfl) ?_
  refine va_get (D := D) (ci := 6) (v := .int 0) (C := R_M) (T := F_M) (N := 17) hx hb hts ws_M hown hK hP 34 e34 rfl 16 (by decide) (hts _ fl_M_40) (fun _ h9 => h9) rfl d_M_power_41 ?_
  refine lv_if_le (tgt := 48) hx hb d_M_power_44 rfl (fun _ => ?_) (fun h => absurd h (by decide))
  refine lv_aload_n hx hb d_M_power_48 rfl (lv_at hl 0 rfl) ?_
  refine lv_iload_n hx hb d_M_power_49 rfl (lv_at hl 1 rfl) ?_
  refine va_put (D := D) (ci := 6) (v := .int a0) (ty := .int) (C := R_M) (T := F_M) (N := 17) hx hb hts ws_M t_M ok_M n_M hown hK hP hD hS 34 e34 rfl 14 (by decide) (hts _ fl_M_37) (fun _ h9 => h9) rfl (by decide +kernel) rfl rfl (Nat.le_of_ble_eq_true rfl) d_M_power_50 (fun H locs hP hD hS => ?_)
  obtain ⟨w8, hw⟩ : ∃ q, q = w7.set 34 (mm, .inr (6, [.ref mb, .ref ms9, .int 1, .int 1, .ref mn, .ref ml, .ref mk9, .ref mq, .int 0, .int 0, .int 0, .int 0, .int 0, .int 0, .int a0, .int 0, .int 0])) := ⟨_, rfl⟩
  have hP : va_P D Cl (w7.set 34 (mm, .inr (6, [.ref mb, .ref ms9, .int 1, .int 1, .ref mn, .ref ml, .ref mk9, .ref mq, .int 0, .int 0, .int 0, .int 0, .int 0, .int 0, .int a0, .int 0, .int 0]))) H := hP
  have hD : va_D (Az z) (w7.set 34 (mm, .inr (6, [.ref mb, .ref ms9, .int 1, .int 1, .ref mn, .ref ml, .ref mk9, .ref mq, .int 0, .int 0, .int 0, .int 0, .int 0, .int 0, .int a0, .int 0, .int 0]))) := hD
  rw [← hw] at hP hD
  have hC := hC.put (p := 34) (c := (mm, .inr (6, [.ref mb, .ref ms9, .int 1, .int 1, .ref mn, .ref ml, .ref mk9, .ref mq, .int 0, .int 0, .int 0, .int 0, .int 0, .int 0, .int a0, .int 0, .int 0])))
  rw [← hw] at hC
  have e34 : w8[34]? = some (mm, .inr (6, [.ref mb, .ref ms9, .int 1, .int 1, .ref mn, .ref ml, .ref mk9, .ref mq, .int 0, .int 0, .int 0, .int 0, .int 0, .int 0, .int a0, .int 0, .int 0])) := by rw [hw]; exact lk_set e34
  clear hw
  refine lv_aload_n hx hb d_M_power_53 rfl (lv_at hl 0 rfl) ?_
  refine lv_iload_n hx hb d_M_power_54 rfl (lv_at hl 2 rfl) ?_
  refine va_put (D := D) (ci := 6) (v := .int a1) (ty := .int) (C := R_M) (T := F_M) (N := 17) hx hb hts ws_M t_M ok_M n_M hown hK hP hD hS 34 e34 rfl 15 (by decide) (hts _ fl_M_86) (fun _ h9 => h9) rfl (by decide +kernel) rfl rfl (Nat.le_of_ble_eq_true rfl) d_M_power_55 (fun H locs hP hD hS => ?_)
  obtain ⟨w9, hw⟩ : ∃ q, q = w8.set 34 (mm, .inr (6, [.ref mb, .ref ms9, .int 1, .int 1, .ref mn, .ref ml, .ref mk9, .ref mq, .int 0, .int 0, .int 0, .int 0, .int 0, .int 0, .int a0, .int a1, .int 0])) := ⟨_, rfl⟩
  have hP : va_P D Cl (w8.set 34 (mm, .inr (6, [.ref mb, .ref ms9, .int 1, .int 1, .ref mn, .ref ml, .ref mk9, .ref mq, .int 0, .int 0, .int 0, .int 0, .int 0, .int 0, .int a0, .int a1, .int 0]))) H := hP
  have hD : va_D (Az z) (w8.set 34 (mm, .inr (6, [.ref mb, .ref ms9, .int 1, .int 1, .ref mn, .ref ml, .ref mk9, .ref mq, .int 0, .int 0, .int 0, .int 0, .int 0, .int 0, .int a0, .int a1, .int 0]))) := hD
  rw [← hw] at hP hD
  have hC := hC.put (p := 34) (c := (mm, .inr (6, [.ref mb, .ref ms9, .int 1, .int 1, .ref mn, .ref ml, .ref mk9, .ref mq, .int 0, .int 0, .int 0, .int 0, .int 0, .int 0, .int a0, .int a1, .int 0])))
  rw [← hw] at hC
  have e34 : w9[34]? = some (mm, .inr (6, [.ref mb, .ref ms9, .int 1, .int 1, .ref mn, .ref ml, .ref mk9, .ref mq, .int 0, .int 0, .int 0, .int 0, .int 0, .int 0, .int a0, .int a1, .int 0])) := by rw [hw]; exact lk_set e34
  clear hw
  exact W.vret hx hb hr (fun t9 ht hW => ⟨⟨w9, rfl, ⟨hC.sub (by decide), e34⟩, ⟨by rw [ht]; exact hP, va_K.moved hW.alike hK, hD, by rw [ht]; exact Nat.le_trans hz hS.1⟩⟩, hS.F ht⟩) hS.2.2 d_M_power_58
set_option maxHeartbeats 4000000 in
set_option maxRecDepth 100000 in
theorem c_M_power_b {l : Launch} {D : va_G} {t : Nat → ClassId} {z : Nat} {sa : Nat → Nat} {ws : va_W} {mm mb ms9 mn ml mk9 mq : Nat} {a0 a1 a2 : Int32} (e34 : ws[34]? = some (mm, .inr (6, [.ref mb, .ref ms9, .int 1, .int 1, .ref mn, .ref ml, .ref mk9, .ref mq, .int 0, .int 0, .int 0, .int 0, .int 0, .int 0, .int 4, .int 0, .int 0]))) (g : ¬ (¬ a0 < 0 ∧ a0 ≤ 4 ∧ ¬ a1 < 0 ∧ a1 ≤ 1000 ∧ ¬ a2 < 0 ∧ a2 ≤ 300)) : Met l y_M_power (Cond.code y_M_power b_M_power 4 (.none : Option Jvm.ClassFile.FieldType) :: WS) ({ frames := 0, cells := 0, slots := 0, locals := 0 }) (Pz D t z sa ws [.ref mm, .int a0, .int a1, .int a2]) (va_Qv (fun u : va_W => Ch ws u [34] ∧ u[34]? = some (mm, .inr (6, [.ref mb, .ref ms9, .int 1, .int 1, .ref mn, .ref ml, .ref mk9, .ref mq, .int 0, .int 0, .int 0, .int 0, .int 0, .int 0, .int 4, .int 0, .int 1]))) (fun u U => Wd D t z u U) (Az z)) 0 0 (Az z) := by
  refine Met.ofW (cc := b_M_power) (maxL := 4) (ret := (.none : Option Jvm.ClassFile.FieldType)) (by decide) rfl ?_
  intro p e s m args below meth c s₁ B hml hv
  obtain ⟨rfl, ⟨hP, hK, hD, hz⟩, hM⟩ := hv
  have hx := B.exec
  have hb := B.bytes
  have hr := B.returns
  have hts : ∀ w ∈ WS, w.before [.ref mm, .int a0, .int a1, .int a2].toArray s = true := fun w h => atoms_spec B.pre w (List.mem_cons_of_mem _ h)
  have hown : s.vm.findClass R_M = some m.cls := findClass_of_methodNamed B.named
  have hlocks := B.notSynchronized
  have hA : ∀ q, s.heap.size ≤ q → Az z q := fun q h => Nat.le_trans hz h
  have hS : va_S (Az z) s.heap s.heap [] := va_S.rf
  have hC : Ch ws ws [] := Ch.rf
  have hl := lv_entry ([.ref mm, .int a0, .int a1, .int a2]) (n := 4) (Nat.le_of_ble_eq_true rfl)
  rw [lg_entry_eq]
  generalize (lg_sl ([.ref mm, .int a0, .int a1, .int a2]) ++ List.replicate (4 - (lg_sl ([.ref mm, .int a0, .int a1, .int a2])).length) Slot.unset).toArray = ls at hl ⊢
  have hl : lv_has ls 4 [(0, .ref mm), (1, .int a0), (2, .int a1), (3, .int a2)] := hl
  refine lv_aload_n hx hb d_M_power_0 rfl (lv_at hl 0 rfl) ?_
  refine lv_iload_n hx hb d_M_power_1 rfl (lv_at hl 1 rfl) ?_
  refine lv_if_lt (tgt := 32) hx hb d_M_power_2 rfl (fun q1 => ?_) (fun q1 => ?_)
  · skip
    refine lv_iconst (v := 1) hx hb d_M_power_32 (by decide) ?_
    refine lv_goto (tgt := 37) hx hb d_M_power_33 rfl ?_
    refine va_put (D := D) (ci := 6) (v := .int 1) (ty := .int) (C := R_M) (T := F_M) (N := 17) hx hb hts ws_M t_M ok_M n_M hown hK hP hD hS 34 e34 rfl 16 (by decide) (hts _ fl_M_40) (fun _ h9 => h9) rfl (by decide +kernel) rfl rfl (Nat.le_of_ble_eq_true rfl) d_M_power_37 (fun H locs hP hD hS => ?_)
    obtain ⟨w2, hw⟩ : ∃ q, q = ws.set 34 (mm, .inr (6, [.ref mb, .ref ms9, .int 1, .int 1, .ref mn, .ref ml, .ref mk9, .ref mq, .int 0, .int 0, .int 0, .int 0, .int 0, .int 0, .int 4, .int 0, .int 1])) := ⟨_, rfl⟩
    have hP : va_P D Cl (ws.set 34 (mm, .inr (6, [.ref mb, .ref ms9, .int 1, .int 1, .ref mn, .ref ml, .ref mk9, .ref mq, .int 0, .int 0, .int 0, .int 0, .int 0, .int 0, .int 4, .int 0, .int 1]))) H := hP
    have hD : va_D (Az z) (ws.set 34 (mm, .inr (6, [.ref mb, .ref ms9, .int 1, .int 1, .ref mn, .ref ml, .ref mk9, .ref mq, .int 0, .int 0, .int 0, .int 0, .int 0, .int 0, .int 4, .int 0, .int 1]))) := hD
    rw [← hw] at hP hD
    have hC := hC.put (p := 34) (c := (mm, .inr (6, [.ref mb, .ref ms9, .int 1, .int 1, .ref mn, .ref ml, .ref mk9, .ref mq, .int 0, .int 0, .int 0, .int 0, .int 0, .int 0, .int 4, .int 0, .int 1])))
    rw [← hw] at hC
    have e34 : w2[34]? = some (mm, .inr (6, [.ref mb, .ref ms9, .int 1, .int 1, .ref mn, .ref ml, .ref mk9, .ref mq, .int 0, .int 0, .int 0, .int 0, .int 0, .int 0, .int 4, .int 0, .int 1])) := by rw [hw]; exact lk_set e34
    clear hw
    refine lv_aload_n hx hb d_M_power_40 rfl (lv_at hl 0 rfl) ?_
    refine va_get (D := D) (ci := 6) (v := .int 1) (C := R_M) (T := F_M) (N := 17) hx hb hts ws_M hown hK hP 34 e34 rfl 16 (by decide) (hts _ fl_M_40) (fun _ h9 => h9) rfl d_M_power_41 ?_
    refine lv_if_le (tgt := 48) hx hb d_M_power_44 rfl (fun h => absurd h (by decide)) (fun _ => ?_)
    exact W.vret hx hb hr (fun t9 ht hW => ⟨⟨w2, rfl, ⟨hC.sub (by decide), e34⟩, ⟨by rw [ht]; exact hP, va_K.moved hW.alike hK, hD, by rw [ht]; exact Nat.le_trans hz hS.1⟩⟩, hS.F ht⟩) hS.2.2 d_M_power_47
  · skip
    refine lv_iload_n hx hb d_M_power_5 rfl (lv_at hl 1 rfl) ?_
    refine lv_iconst (v := 4) hx hb d_M_power_6 (by decide) ?_
    refine lv_icmp_gt (tgt := 32) hx hb d_M_power_7 rfl (fun q3 => ?_) (fun q3 => ?_)
    · skip
      refine lv_iconst (v := 1) hx hb d_M_power_32 (by decide) ?_
      refine lv_goto (tgt := 37) hx hb d_M_power_33 rfl ?_
      refine va_put (D := D) (ci := 6) (v := .int 1) (ty := .int) (C := R_M) (T := F_M) (N := 17) hx hb hts ws_M t_M ok_M n_M hown hK hP hD hS 34 e34 rfl 16 (by decide) (hts _ fl_M_40) (fun _ h9 => h9) rfl (by decide +kernel) rfl rfl (Nat.le_of_ble_eq_true rfl) d_M_power_37 (fun H locs hP hD hS => ?_)
      obtain ⟨w4, hw⟩ : ∃ q, q = ws.set 34 (mm, .inr (6, [.ref mb, .ref ms9, .int 1, .int 1, .ref mn, .ref ml, .ref mk9, .ref mq, .int 0, .int 0, .int 0, .int 0, .int 0, .int 0, .int 4, .int 0, .int 1])) := ⟨_, rfl⟩
      have hP : va_P D Cl (ws.set 34 (mm, .inr (6, [.ref mb, .ref ms9, .int 1, .int 1, .ref mn, .ref ml, .ref mk9, .ref mq, .int 0, .int 0, .int 0, .int 0, .int 0, .int 0, .int 4, .int 0, .int 1]))) H := hP
      have hD : va_D (Az z) (ws.set 34 (mm, .inr (6, [.ref mb, .ref ms9, .int 1, .int 1, .ref mn, .ref ml, .ref mk9, .ref mq, .int 0, .int 0, .int 0, .int 0, .int 0, .int 0, .int 4, .int 0, .int 1]))) := hD
      rw [← hw] at hP hD
      have hC := hC.put (p := 34) (c := (mm, .inr (6, [.ref mb, .ref ms9, .int 1, .int 1, .ref mn, .ref ml, .ref mk9, .ref mq, .int 0, .int 0, .int 0, .int 0, .int 0, .int 0, .int 4, .int 0, .int 1])))
      rw [← hw] at hC
      have e34 : w4[34]? = some (mm, .inr (6, [.ref mb, .ref ms9, .int 1, .int 1, .ref mn, .ref ml, .ref mk9, .ref mq, .int 0, .int 0, .int 0, .int 0, .int 0, .int 0, .int 4, .int 0, .int 1])) := by rw [hw]; exact lk_set e34
      clear hw
      refine lv_aload_n hx hb d_M_power_40 rfl (lv_at hl 0 rfl) ?_
      refine va_get (D := D) (ci := 6) (v := .int 1) (C := R_M) (T := F_M) (N := 17) hx hb hts ws_M hown hK hP 34 e34 rfl 16 (by decide) (hts _ fl_M_40) (fun _ h9 => h9) rfl d_M_power_41 ?_
      refine lv_if_le (tgt := 48) hx hb d_M_power_44 rfl (fun h => absurd h (by decide)) (fun _ => ?_)
      exact W.vret hx hb hr (fun t9 ht hW => ⟨⟨w4, rfl, ⟨hC.sub (by decide), e34⟩, ⟨by rw [ht]; exact hP, va_K.moved hW.alike hK, hD, by rw [ht]; exact Nat.le_trans hz hS.1⟩⟩, hS.F ht⟩) hS.2.2 d_M_power_47
    · skip
      refine lv_iload_n hx hb d_M_power_10 rfl (lv_at hl 2 rfl) ?_
      refine lv_if_lt (tgt := 32) hx hb d_M_power_11 rfl (fun q5 => ?_) (fun q5 => ?_)
      · skip
        refine lv_iconst (v := 1) hx hb d_M_power_32 (by decide) ?_
        refine lv_goto (tgt := 37) hx hb d_M_power_33 rfl ?_
        refine va_put (D := D) (ci := 6) (v := .int 1) (ty := .int) (C := R_M) (T := F_M) (N := 17) hx hb hts ws_M t_M ok_M n_M hown hK hP hD hS 34 e34 rfl 16 (by decide) (hts _ fl_M_40) (fun _ h9 => h9) rfl (by decide +kernel) rfl rfl (Nat.le_of_ble_eq_true rfl) d_M_power_37 (fun H locs hP hD hS => ?_)
        obtain ⟨w6, hw⟩ : ∃ q, q = ws.set 34 (mm, .inr (6, [.ref mb, .ref ms9, .int 1, .int 1, .ref mn, .ref ml, .ref mk9, .ref mq, .int 0, .int 0, .int 0, .int 0, .int 0, .int 0, .int 4, .int 0, .int 1])) := ⟨_, rfl⟩
        have hP : va_P D Cl (ws.set 34 (mm, .inr (6, [.ref mb, .ref ms9, .int 1, .int 1, .ref mn, .ref ml, .ref mk9, .ref mq, .int 0, .int 0, .int 0, .int 0, .int 0, .int 0, .int 4, .int 0, .int 1]))) H := hP
        have hD : va_D (Az z) (ws.set 34 (mm, .inr (6, [.ref mb, .ref ms9, .int 1, .int 1, .ref mn, .ref ml, .ref mk9, .ref mq, .int 0, .int 0, .int 0, .int 0, .int 0, .int 0, .int 4, .int 0, .int 1]))) := hD
        rw [← hw] at hP hD
        have hC := hC.put (p := 34) (c := (mm, .inr (6, [.ref mb, .ref ms9, .int 1, .int 1, .ref mn, .ref ml, .ref mk9, .ref mq, .int 0, .int 0, .int 0, .int 0, .int 0, .int 0, .int 4, .int 0, .int 1])))
        rw [← hw] at hC
        have e34 : w6[34]? = some (mm, .inr (6, [.ref mb, .ref ms9, .int 1, .int 1, .ref mn, .ref ml, .ref mk9, .ref mq, .int 0, .int 0, .int 0, .int 0, .int 0, .int 0, .int 4, .int 0, .int 1])) := by rw [hw]; exact lk_set e34
        clear hw
        refine lv_aload_n hx hb d_M_power_40 rfl (lv_at hl 0 rfl) ?_
        refine va_get (D := D) (ci := 6) (v := .int 1) (C := R_M) (T := F_M) (N := 17) hx hb hts ws_M hown hK hP 34 e34 rfl 16 (by decide) (hts _ fl_M_40) (fun _ h9 => h9) rfl d_M_power_41 ?_
        refine lv_if_le (tgt := 48) hx hb d_M_power_44 rfl (fun h => absurd h (by decide)) (fun _ => ?_)
        exact W.vret hx hb hr (fun t9 ht hW => ⟨⟨w6, rfl, ⟨hC.sub (by decide), e34⟩, ⟨by rw [ht]; exact hP, va_K.moved hW.alike hK, hD, by rw [ht]; exact Nat.le_trans hz hS.1⟩⟩, hS.F ht⟩) hS.2.2 d_M_power_47
      · skip
        refine lv_iload_n hx hb d_M_power_14 rfl (lv_at hl 2 rfl) ?_
        refine lv_sipush (v := 1000) hx hb d_M_power_15 (by decide) ?_
        refine lv_icmp_gt (tgt := 32) hx hb d_M_power_18 rfl (fun q7 => ?_) (fun q7 => ?_)
        · skip
          refine lv_iconst (v := 1) hx hb d_M_power_32 (by decide) ?_
          refine lv_goto (tgt := 37) hx hb d_M_power_33 rfl ?_
          refine va_put (D := D) (ci := 6) (v := .int 1) (ty := .int) (C := R_M) (T := F_M) (N := 17) hx hb hts ws_M t_M ok_M n_M hown hK hP hD hS 34 e34 rfl 16 (by decide) (hts _ fl_M_40) (fun _ h9 => h9) rfl (by decide +kernel) rfl rfl (Nat.le_of_ble_eq_true rfl) d_M_power_37 (fun H locs hP hD hS => ?_)
          obtain ⟨w8, hw⟩ : ∃ q, q = ws.set 34 (mm, .inr (6, [.ref mb, .ref ms9, .int 1, .int 1, .ref mn, .ref ml, .ref mk9, .ref mq, .int 0, .int 0, .int 0, .int 0, .int 0, .int 0, .int 4, .int 0, .int 1])) := ⟨_, rfl⟩
          have hP : va_P D Cl (ws.set 34 (mm, .inr (6, [.ref mb, .ref ms9, .int 1, .int 1, .ref mn, .ref ml, .ref mk9, .ref mq, .int 0, .int 0, .int 0, .int 0, .int 0, .int 0, .int 4, .int 0, .int 1]))) H := hP
          have hD : va_D (Az z) (ws.set 34 (mm, .inr (6, [.ref mb, .ref ms9, .int 1, .int 1, .ref mn, .ref ml, .ref mk9, .ref mq, .int 0, .int 0, .int 0, .int 0, .int 0, .int 0, .int 4, .int 0, .int 1]))) := hD
          rw [← hw] at hP hD
          have hC := hC.put (p := 34) (c := (mm, .inr (6, [.ref mb, .ref ms9, .int 1, .int 1, .ref mn, .ref ml, .ref mk9, .ref mq, .int 0, .int 0, .int 0, .int 0, .int 0, .int 0, .int 4, .int 0, .int 1])))
          rw [← hw] at hC
          have e34 : w8[34]? = some (mm, .inr (6, [.ref mb, .ref ms9, .int 1, .int 1, .ref mn, .ref ml, .ref mk9, .ref mq, .int 0, .int 0, .int 0, .int 0, .int 0, .int 0, .int 4, .int 0, .int 1])) := by rw [hw]; exact lk_set e34
          clear hw
          refine lv_aload_n hx hb d_M_power_40 rfl (lv_at hl 0 rfl) ?_
          refine va_get (D := D) (ci := 6) (v := .int 1) (C := R_M) (T := F_M) (N := 17) hx hb hts ws_M hown hK hP 34 e34 rfl 16 (by decide) (hts _ fl_M_40) (fun _ h9 => h9) rfl d_M_power_41 ?_
          refine lv_if_le (tgt := 48) hx hb d_M_power_44 rfl (fun h => absurd h (by decide)) (fun _ => ?_)
          exact W.vret hx hb hr (fun t9 ht hW => ⟨⟨w8, rfl, ⟨hC.sub (by decide), e34⟩, ⟨by rw [ht]; exact hP, va_K.moved hW.alike hK, hD, by rw [ht]; exact Nat.le_trans hz hS.1⟩⟩, hS.F ht⟩) hS.2.2 d_M_power_47
        · skip
          refine lv_iload_n hx hb d_M_power_21 rfl (lv_at hl 3 rfl) ?_
          refine lv_if_lt (tgt := 32) hx hb d_M_power_22 rfl (fun q9 => ?_) (fun q9 => ?_)
          · skip
            refine lv_iconst (v := 1) hx hb d_M_power_32 (by decide) ?_
            refine lv_goto (tgt := 37) hx hb d_M_power_33 rfl ?_
            refine va_put (D := D) (ci := 6) (v := .int 1) (ty := .int) (C := R_M) (T := F_M) (N := 17) hx hb hts ws_M t_M ok_M n_M hown hK hP hD hS 34 e34 rfl 16 (by decide) (hts _ fl_M_40) (fun _ h9 => h9) rfl (by decide +kernel) rfl rfl (Nat.le_of_ble_eq_true rfl) d_M_power_37 (fun H locs hP hD hS => ?_)
            obtain ⟨w10, hw⟩ : ∃ q, q = ws.set 34 (mm, .inr (6, [.ref mb, .ref ms9, .int 1, .int 1, .ref mn, .ref ml, .ref mk9, .ref mq, .int 0, .int 0, .int 0, .int 0, .int 0, .int 0, .int 4, .int 0, .int 1])) := ⟨_, rfl⟩
            have hP : va_P D Cl (ws.set 34 (mm, .inr (6, [.ref mb, .ref ms9, .int 1, .int 1, .ref mn, .ref ml, .ref mk9, .ref mq, .int 0, .int 0, .int 0, .int 0, .int 0, .int 0, .int 4, .int 0, .int 1]))) H := hP
            have hD : va_D (Az z) (ws.set 34 (mm, .inr (6, [.ref mb, .ref ms9, .int 1, .int 1, .ref mn, .ref ml, .ref mk9, .ref mq, .int 0, .int 0, .int 0, .int 0, .int 0, .int 0, .int 4, .int 0, .int 1]))) := hD
            rw [← hw] at hP hD
            have hC := hC.put (p := 34) (c := (mm, .inr (6, [.ref mb, .ref ms9, .int 1, .int 1, .ref mn, .ref ml, .ref mk9, .ref mq, .int 0, .int 0, .int 0, .int 0, .int 0, .int 0, .int 4, .int 0, .int 1])))
            rw [← hw] at hC
            have e34 : w10[34]? = some (mm, .inr (6, [.ref mb, .ref ms9, .int 1, .int 1, .ref mn, .ref ml, .ref mk9, .ref mq, .int 0, .int 0, .int 0, .int 0, .int 0, .int 0, .int 4, .int 0, .int 1])) := by rw [hw]; exact lk_set e34
            clear hw
            refine lv_aload_n hx hb d_M_power_40 rfl (lv_at hl 0 rfl) ?_
            refine va_get (D := D) (ci := 6) (v := .int 1) (C := R_M) (T := F_M) (N := 17) hx hb hts ws_M hown hK hP 34 e34 rfl 16 (by decide) (hts _ fl_M_40) (fun _ h9 => h9) rfl d_M_power_41 ?_
            refine lv_if_le (tgt := 48) hx hb d_M_power_44 rfl (fun h => absurd h (by decide)) (fun _ => ?_)
            exact W.vret hx hb hr (fun t9 ht hW => ⟨⟨w10, rfl, ⟨hC.sub (by decide), e34⟩, ⟨by rw [ht]; exact hP, va_K.moved hW.alike hK, hD, by rw [ht]; exact Nat.le_trans hz hS.1⟩⟩, hS.F ht⟩) hS.2.2 d_M_power_47
          · skip
            refine lv_iload_n hx hb d_M_power_25 rfl (lv_at hl 3 rfl) ?_
            refine lv_sipush (v := 300) hx hb d_M_power_26 (by decide) ?_
            refine lv_icmp_le (tgt := 36) hx hb d_M_power_29 rfl (fun q11 => ?_) (fun q11 => ?_)
            · skip
              exact (g ⟨by assumption, Int32.not_lt.mp (by assumption), by assumption, Int32.not_lt.mp (by assumption), by assumption, by assumption⟩).elim
            · skip
              refine lv_iconst (v := 1) hx hb d_M_power_32 (by decide) ?_
              refine lv_goto (tgt := 37) hx hb d_M_power_33 rfl ?_
              refine va_put (D := D) (ci := 6) (v := .int 1) (ty := .int) (C := R_M) (T := F_M) (N := 17) hx hb hts ws_M t_M ok_M n_M hown hK hP hD hS 34 e34 rfl 16 (by decide) (hts _ fl_M_40) (fun _ h9 => h9) rfl (by decide +kernel) rfl rfl (Nat.le_of_ble_eq_true rfl) d_M_power_37 (fun H locs hP hD hS => ?_)
              obtain ⟨w12, hw⟩ : ∃ q, q = ws.set 34 (mm, .inr (6, [.ref mb, .ref ms9, .int 1, .int 1, .ref mn, .ref ml, .ref mk9, .ref mq, .int 0, .int 0, .int 0, .int 0, .int 0, .int 0, .int 4, .int 0, .int 1])) := ⟨_, rfl⟩
              have hP : va_P D Cl (ws.set 34 (mm, .inr (6, [.ref mb, .ref ms9, .int 1, .int 1, .ref mn, .ref ml, .ref mk9, .ref mq, .int 0, .int 0, .int 0, .int 0, .int 0, .int 0, .int 4, .int 0, .int 1]))) H := hP
              have hD : va_D (Az z) (ws.set 34 (mm, .inr (6, [.ref mb, .ref ms9, .int 1, .int 1, .ref mn, .ref ml, .ref mk9, .ref mq, .int 0, .int 0, .int 0, .int 0, .int 0, .int 0, .int 4, .int 0, .int 1]))) := hD
              rw [← hw] at hP hD
              have hC := hC.put (p := 34) (c := (mm, .inr (6, [.ref mb, .ref ms9, .int 1, .int 1, .ref mn, .ref ml, .ref mk9, .ref mq, .int 0, .int 0, .int 0, .int 0, .int 0, .int 0, .int 4, .int 0, .int 1])))
              rw [← hw] at hC
              have e34 : w12[34]? = some (mm, .inr (6, [.ref mb, .ref ms9, .int 1, .int 1, .ref mn, .ref ml, .ref mk9, .ref mq, .int 0, .int 0, .int 0, .int 0, .int 0, .int 0, .int 4, .int 0, .int 1])) := by rw [hw]; exact lk_set e34
              clear hw
              refine lv_aload_n hx hb d_M_power_40 rfl (lv_at hl 0 rfl) ?_
              refine va_get (D := D) (ci := 6) (v := .int 1) (C := R_M) (T := F_M) (N := 17) hx hb hts ws_M hown hK hP 34 e34 rfl 16 (by decide) (hts _ fl_M_40) (fun _ h9 => h9) rfl d_M_power_41 ?_
              refine lv_if_le (tgt := 48) hx hb d_M_power_44 rfl (fun h => absurd h (by decide)) (fun _ => ?_)
              exact W.vret hx hb hr (fun t9 ht hW => ⟨⟨w12, rfl, ⟨hC.sub (by decide), e34⟩, ⟨by rw [ht]; exact hP, va_K.moved hW.alike hK, hD, by rw [ht]; exact Nat.le_trans hz hS.1⟩⟩, hS.F ht⟩) hS.2.2 d_M_power_47
set_option maxHeartbeats 4000000 in
set_option maxRecDepth 100000 in
theorem c_M_fall {l : Launch} {D : va_G} {t : Nat → ClassId} {z : Nat} {sa : Nat → Nat} {ws : va_W} {mm mb ms9 mn ml mk9 mq : Nat} (e34 : ws[34]? = some (mm, .inr (6, [.ref mb, .ref ms9, .int 1, .int 1, .ref mn, .ref ml, .ref mk9, .ref mq, .int 0, .int 0, .int 0, .int 0, .int 0, .int 0, .int 4, .int 0, .int 0])))  : Met l y_M_fall (Cond.code y_M_fall b_M_fall 2 (.none : Option Jvm.ClassFile.FieldType) :: WS) ({ frames := 0, cells := 0, slots := 0, locals := 0 }) (Pz D t z sa ws [.ref mm]) (va_Qv (fun u : va_W => Ch ws u [34] ∧ u[34]? = some (mm, .inr (6, [.ref mb, .ref ms9, .int 1, .int 1, .ref mn, .ref ml, .ref mk9, .ref mq, .int 0, .int 0, .int 0, .int 0, .int 0, .int 0, .int 4, .int 0, .int 0]))) (fun u U => Wd D t z u U) (Az z)) 0 0 (Az z) := by
  refine Met.ofW (cc := b_M_fall) (maxL := 2) (ret := (.none : Option Jvm.ClassFile.FieldType)) (by decide) rfl ?_
  intro p e s m args below meth c s₁ B hml hv
  obtain ⟨rfl, ⟨hP, hK, hD, hz⟩, hM⟩ := hv
  have hx := B.exec
  have hb := B.bytes
  have hr := B.returns
  have hts : ∀ w ∈ WS, w.before [.ref mm].toArray s = true := fun w h => atoms_spec B.pre w (List.mem_cons_of_mem _ h)
  have hown : s.vm.findClass R_M = some m.cls := findClass_of_methodNamed B.named
  have hlocks := B.notSynchronized
  have hA : ∀ q, s.heap.size ≤ q → Az z q := fun q h => Nat.le_trans hz h
  have hS : va_S (Az z) s.heap s.heap [] := va_S.rf
  have hC : Ch ws ws [] := Ch.rf
  have hl := lv_entry ([.ref mm]) (n := 2) (Nat.le_of_ble_eq_true rfl)
  rw [lg_entry_eq]
  generalize (lg_sl ([.ref mm]) ++ List.replicate (2 - (lg_sl ([.ref mm])).length) Slot.unset).toArray = ls at hl ⊢
  have hl : lv_has ls 2 [(0, .ref mm)] := hl
  refine lv_iconst (v := 0) hx hb d_M_fall_0 (by decide) ?_
  refine lv_istore_n (lv' := [(1, .int 0), (0, .ref mm)]) hx hb d_M_fall_1 rfl hl (by decide) rfl (fun ls hl => ?_)
  refine lv_iload_n hx hb d_M_fall_2 rfl (lv_at hl 0 rfl) ?_
  refine lv_aload_n hx hb d_M_fall_3 rfl (lv_at hl 1 rfl) ?_
  refine va_get (D := D) (ci := 6) (v := .int 0) (C := R_M) (T := F_M) (N := 17) hx hb hts ws_M hown hK hP 34 e34 rfl 9 (by decide) (hts _ fl_M_80) (fun _ h9 => h9) rfl d_M_fall_4 ?_
  refine lv_icmp_ge (tgt := 28) hx hb d_M_fall_7 rfl (fun _ => ?_) (fun h => absurd h (by decide))
  refine lv_aload_n hx hb d_M_fall_28 rfl (lv_at hl 1 rfl) ?_
  refine lv_aload_n hx hb d_M_fall_29 rfl (lv_at hl 1 rfl) ?_
  refine va_get (D := D) (ci := 6) (v := .int 0) (C := R_M) (T := F_M) (N := 17) hx hb hts ws_M hown hK hP 34 e34 rfl 9 (by decide) (hts _ fl_M_80) (fun _ h9 => h9) rfl d_M_fall_30 ?_
  refine va_put (D := D) (ci := 6) (v := .int 0) (ty := .int) (C := R_M) (T := F_M) (N := 17) hx hb hts ws_M t_M ok_M n_M hown hK hP hD hS 34 e34 rfl 8 (by decide) (hts _ fl_M_43) (fun _ h9 => h9) rfl (by decide +kernel) rfl rfl (Nat.le_of_ble_eq_true rfl) d_M_fall_33 (fun H locs hP hD hS => ?_)
  obtain ⟨w1, hw⟩ : ∃ q, q = ws.set 34 (mm, .inr (6, [.ref mb, .ref ms9, .int 1, .int 1, .ref mn, .ref ml, .ref mk9, .ref mq, .int 0, .int 0, .int 0, .int 0, .int 0, .int 0, .int 4, .int 0, .int 0])) := ⟨_, rfl⟩
  have hP : va_P D Cl (ws.set 34 (mm, .inr (6, [.ref mb, .ref ms9, .int 1, .int 1, .ref mn, .ref ml, .ref mk9, .ref mq, .int 0, .int 0, .int 0, .int 0, .int 0, .int 0, .int 4, .int 0, .int 0]))) H := hP
  have hD : va_D (Az z) (ws.set 34 (mm, .inr (6, [.ref mb, .ref ms9, .int 1, .int 1, .ref mn, .ref ml, .ref mk9, .ref mq, .int 0, .int 0, .int 0, .int 0, .int 0, .int 0, .int 4, .int 0, .int 0]))) := hD
  rw [← hw] at hP hD
  have hC := hC.put (p := 34) (c := (mm, .inr (6, [.ref mb, .ref ms9, .int 1, .int 1, .ref mn, .ref ml, .ref mk9, .ref mq, .int 0, .int 0, .int 0, .int 0, .int 0, .int 0, .int 4, .int 0, .int 0])))
  rw [← hw] at hC
  have e34 : w1[34]? = some (mm, .inr (6, [.ref mb, .ref ms9, .int 1, .int 1, .ref mn, .ref ml, .ref mk9, .ref mq, .int 0, .int 0, .int 0, .int 0, .int 0, .int 0, .int 4, .int 0, .int 0])) := by rw [hw]; exact lk_set e34
  clear hw
  refine lv_aload_n hx hb d_M_fall_36 rfl (lv_at hl 1 rfl) ?_
  refine lv_iconst (v := 0) hx hb d_M_fall_37 (by decide) ?_
  refine va_put (D := D) (ci := 6) (v := .int 0) (ty := .boolean) (C := R_M) (T := F_M) (N := 17) hx hb hts ws_M t_M ok_M n_M hown hK hP hD hS 34 e34 rfl 13 (by decide) (hts _ fl_M_54) (fun _ h9 => h9) rfl (by decide +kernel) rfl rfl (Nat.le_of_ble_eq_true rfl) d_M_fall_38 (fun H locs hP hD hS => ?_)
  obtain ⟨w2, hw⟩ : ∃ q, q = w1.set 34 (mm, .inr (6, [.ref mb, .ref ms9, .int 1, .int 1, .ref mn, .ref ml, .ref mk9, .ref mq, .int 0, .int 0, .int 0, .int 0, .int 0, .int 0, .int 4, .int 0, .int 0])) := ⟨_, rfl⟩
  have hP : va_P D Cl (w1.set 34 (mm, .inr (6, [.ref mb, .ref ms9, .int 1, .int 1, .ref mn, .ref ml, .ref mk9, .ref mq, .int 0, .int 0, .int 0, .int 0, .int 0, .int 0, .int 4, .int 0, .int 0]))) H := hP
  have hD : va_D (Az z) (w1.set 34 (mm, .inr (6, [.ref mb, .ref ms9, .int 1, .int 1, .ref mn, .ref ml, .ref mk9, .ref mq, .int 0, .int 0, .int 0, .int 0, .int 0, .int 0, .int 4, .int 0, .int 0]))) := hD
  rw [← hw] at hP hD
  have hC := hC.put (p := 34) (c := (mm, .inr (6, [.ref mb, .ref ms9, .int 1, .int 1, .ref mn, .ref ml, .ref mk9, .ref mq, .int 0, .int 0, .int 0, .int 0, .int 0, .int 0, .int 4, .int 0, .int 0])))
  rw [← hw] at hC
  have e34 : w2[34]? = some (mm, .inr (6, [.ref mb, .ref ms9, .int 1, .int 1, .ref mn, .ref ml, .ref mk9, .ref mq, .int 0, .int 0, .int 0, .int 0, .int 0, .int 0, .int 4, .int 0, .int 0])) := by rw [hw]; exact lk_set e34
  clear hw
  refine lv_aload_n hx hb d_M_fall_41 rfl (lv_at hl 1 rfl) ?_
  refine lv_iconst (v := 0) hx hb d_M_fall_42 (by decide) ?_
  refine va_put (D := D) (ci := 6) (v := .int 0) (ty := .int) (C := R_M) (T := F_M) (N := 17) hx hb hts ws_M t_M ok_M n_M hown hK hP hD hS 34 e34 rfl 10 (by decide) (hts _ fl_M_77) (fun _ h9 => h9) rfl (by decide +kernel) rfl rfl (Nat.le_of_ble_eq_true rfl) d_M_fall_43 (fun H locs hP hD hS => ?_)
  obtain ⟨w3, hw⟩ : ∃ q, q = w2.set 34 (mm, .inr (6, [.ref mb, .ref ms9, .int 1, .int 1, .ref mn, .ref ml, .ref mk9, .ref mq, .int 0, .int 0, .int 0, .int 0, .int 0, .int 0, .int 4, .int 0, .int 0])) := ⟨_, rfl⟩
  have hP : va_P D Cl (w2.set 34 (mm, .inr (6, [.ref mb, .ref ms9, .int 1, .int 1, .ref mn, .ref ml, .ref mk9, .ref mq, .int 0, .int 0, .int 0, .int 0, .int 0, .int 0, .int 4, .int 0, .int 0]))) H := hP
  have hD : va_D (Az z) (w2.set 34 (mm, .inr (6, [.ref mb, .ref ms9, .int 1, .int 1, .ref mn, .ref ml, .ref mk9, .ref mq, .int 0, .int 0, .int 0, .int 0, .int 0, .int 0, .int 4, .int 0, .int 0]))) := hD
  rw [← hw] at hP hD
  have hC := hC.put (p := 34) (c := (mm, .inr (6, [.ref mb, .ref ms9, .int 1, .int 1, .ref mn, .ref ml, .ref mk9, .ref mq, .int 0, .int 0, .int 0, .int 0, .int 0, .int 0, .int 4, .int 0, .int 0])))
  rw [← hw] at hC
  have e34 : w3[34]? = some (mm, .inr (6, [.ref mb, .ref ms9, .int 1, .int 1, .ref mn, .ref ml, .ref mk9, .ref mq, .int 0, .int 0, .int 0, .int 0, .int 0, .int 0, .int 4, .int 0, .int 0])) := by rw [hw]; exact lk_set e34
  clear hw
  exact W.vret hx hb hr (fun t9 ht hW => ⟨⟨w3, rfl, ⟨hC.sub (by decide), e34⟩, ⟨by rw [ht]; exact hP, va_K.moved hW.alike hK, hD, by rw [ht]; exact Nat.le_trans hz hS.1⟩⟩, hS.F ht⟩) hS.2.2 d_M_fall_46
set_option maxHeartbeats 4000000 in
set_option maxRecDepth 100000 in
theorem c_M_reopen {l : Launch} {D : va_G} {t : Nat → ClassId} {z : Nat} {sa : Nat → Nat} {ws : va_W} {mm mb ms9 mn ml mk9 mq : Nat} (e34 : ws[34]? = some (mm, .inr (6, [.ref mb, .ref ms9, .int 1, .int 1, .ref mn, .ref ml, .ref mk9, .ref mq, .int 0, .int 0, .int 0, .int 0, .int 0, .int 0, .int 4, .int 0, .int 0])))  : Met l y_M_reopen (Cond.code y_M_reopen b_M_reopen 1 (some .int) :: WS) ({ frames := 1, cells := 0, slots := 0, locals := 21 }) (Pz D t z sa ws [.ref mm]) (va_Qi (fun (r : Int32) (u : va_W) => r = 0 ∧ Ch ws u [34] ∧ u[34]? = some (mm, .inr (6, [.ref mb, .ref ms9, .int 1, .int 1, .ref mn, .ref ml, .ref mk9, .ref mq, .int 0, .int 0, .int 0, .int 0, .int 0, .int 0, .int 4, .int 0, .int 0]))) (fun u U => Wd D t z u U) (Az z)) 0 0 (Az z) := by
  refine Met.ofW (cc := b_M_reopen) (maxL := 1) (ret := (some .int)) (by decide) rfl ?_
  intro p e s m args below meth c s₁ B hml hv
  obtain ⟨rfl, ⟨hP, hK, hD, hz⟩, hM⟩ := hv
  have hx := B.exec
  have hb := B.bytes
  have hr := B.returns
  have hts : ∀ w ∈ WS, w.before [.ref mm].toArray s = true := fun w h => atoms_spec B.pre w (List.mem_cons_of_mem _ h)
  have hown : s.vm.findClass R_M = some m.cls := findClass_of_methodNamed B.named
  have hlocks := B.notSynchronized
  have hA : ∀ q, s.heap.size ≤ q → Az z q := fun q h => Nat.le_trans hz h
  have hS : va_S (Az z) s.heap s.heap [] := va_S.rf
  have hC : Ch ws ws [] := Ch.rf
  have hl := lv_entry ([.ref mm]) (n := 1) (Nat.le_of_ble_eq_true rfl)
  rw [lg_entry_eq]
  generalize (lg_sl ([.ref mm]) ++ List.replicate (1 - (lg_sl ([.ref mm])).length) Slot.unset).toArray = ls at hl ⊢
  have hl : lv_has ls 1 [(0, .ref mm)] := hl
  refine lv_aload_n hx hb d_M_reopen_0 rfl (lv_at hl 0 rfl) ?_
  refine va_callv (va_runV (As := []) (rest := []) ⟨hx, hb, hml, hown, hts⟩ (c_M_fall (D := D) (t := t) (z := z) (sa := sa) (ws := ws)  e34) (cwV 0 hts (gd_V ml_M_92 im_M_fall se_M_fall in_M cd_M_fall) rfl rfl rfl (by decide +kernel) ⟨Nat.le_of_ble_eq_true rfl, Nat.le_of_ble_eq_true rfl⟩) ⟨Pz_blind, va_recv hK hP (ci := 6) rfl e34, Pz_at hP hK hD hz hM hS⟩ rfl rfl hl.1 rfl (lv_room (Nat.le_of_ble_eq_true rfl)) d_M_reopen_1 ⟨Nat.le_of_ble_eq_true rfl, Nat.le_of_ble_eq_true rfl⟩) hS (fun q _ h => h) (fun q h => h) (fun w1 t9 H locs ht hvm hp hB hz1 hk1 hS => ?_)
  obtain ⟨hP, hK9, hD, -⟩ := hB
  rw [ht] at hP
  clear hK9
  obtain ⟨hC9, kf34⟩ := hp
  have e34 : w1[34]? = some (mm, .inr (6, [.ref mb, .ref ms9, .int 1, .int 1, .ref mn, .ref ml, .ref mk9, .ref mq, .int 0, .int 0, .int 0, .int 0, .int 0, .int 0, .int 4, .int 0, .int 0])) := kf34
  have hC := hC.trans hC9
  refine lv_aload_n hx hb d_M_reopen_4 rfl (lv_at hl 0 rfl) ?_
  refine lv_aload_n hx hb d_M_reopen_5 rfl (lv_at hl 0 rfl) ?_
  refine va_get (D := D) (ci := 6) (v := .int 4) (C := R_M) (T := F_M) (N := 17) hx hb hts ws_M hown hK hP 34 e34 rfl 14 (by decide) (hts _ fl_M_37) (fun _ h9 => h9) rfl d_M_reopen_6 ?_
  refine lv_iconst (v := 3) hx hb d_M_reopen_9 (by decide) ?_
  refine lv_icmp_ne (tgt := 17) hx hb d_M_reopen_10 rfl (fun _ => ?_) (fun h => absurd h (by decide))
  refine lv_iconst (v := 0) hx hb d_M_reopen_17 (by decide) ?_
  refine va_put (D := D) (ci := 6) (v := .int 0) (ty := .int) (C := R_M) (T := F_M) (N := 17) hx hb hts ws_M t_M ok_M n_M hown hK hP hD hS 34 e34 rfl 16 (by decide) (hts _ fl_M_40) (fun _ h9 => h9) rfl (by decide +kernel) rfl rfl (Nat.le_of_ble_eq_true rfl) d_M_reopen_18 (fun H locs hP hD hS => ?_)
  obtain ⟨w3, hw⟩ : ∃ q, q = w1.set 34 (mm, .inr (6, [.ref mb, .ref ms9, .int 1, .int 1, .ref mn, .ref ml, .ref mk9, .ref mq, .int 0, .int 0, .int 0, .int 0, .int 0, .int 0, .int 4, .int 0, .int 0])) := ⟨_, rfl⟩
  have hP : va_P D Cl (w1.set 34 (mm, .inr (6, [.ref mb, .ref ms9, .int 1, .int 1, .ref mn, .ref ml, .ref mk9, .ref mq, .int 0, .int 0, .int 0, .int 0, .int 0, .int 0, .int 4, .int 0, .int 0]))) H := hP
  have hD : va_D (Az z) (w1.set 34 (mm, .inr (6, [.ref mb, .ref ms9, .int 1, .int 1, .ref mn, .ref ml, .ref mk9, .ref mq, .int 0, .int 0, .int 0, .int 0, .int 0, .int 0, .int 4, .int 0, .int 0]))) := hD
  rw [← hw] at hP hD
  have hC := hC.put (p := 34) (c := (mm, .inr (6, [.ref mb, .ref ms9, .int 1, .int 1, .ref mn, .ref ml, .ref mk9, .ref mq, .int 0, .int 0, .int 0, .int 0, .int 0, .int 0, .int 4, .int 0, .int 0])))
  rw [← hw] at hC
  have e34 : w3[34]? = some (mm, .inr (6, [.ref mb, .ref ms9, .int 1, .int 1, .ref mn, .ref ml, .ref mk9, .ref mq, .int 0, .int 0, .int 0, .int 0, .int 0, .int 0, .int 4, .int 0, .int 0])) := by rw [hw]; exact lk_set e34
  clear hw
  refine lv_aload_n hx hb d_M_reopen_21 rfl (lv_at hl 0 rfl) ?_
  refine lv_aload_n hx hb d_M_reopen_22 rfl (lv_at hl 0 rfl) ?_
  refine va_get (D := D) (ci := 6) (v := .int 4) (C := R_M) (T := F_M) (N := 17) hx hb hts ws_M hown hK hP 34 e34 rfl 14 (by decide) (hts _ fl_M_37) (fun _ h9 => h9) rfl d_M_reopen_23 ?_
  refine lv_iconst (v := 3) hx hb d_M_reopen_26 (by decide) ?_
  refine lv_icmp_ne (tgt := 34) hx hb d_M_reopen_27 rfl (fun _ => ?_) (fun h => absurd h (by decide))
  refine lv_iconst (v := 0) hx hb d_M_reopen_34 (by decide) ?_
  refine va_put (D := D) (ci := 6) (v := .int 0) (ty := .boolean) (C := R_M) (T := F_M) (N := 17) hx hb hts ws_M t_M ok_M n_M hown hK hP hD hS 34 e34 rfl 12 (by decide) (hts _ fl_M_46) (fun _ h9 => h9) rfl (by decide +kernel) rfl rfl (Nat.le_of_ble_eq_true rfl) d_M_reopen_35 (fun H locs hP hD hS => ?_)
  obtain ⟨w4, hw⟩ : ∃ q, q = w3.set 34 (mm, .inr (6, [.ref mb, .ref ms9, .int 1, .int 1, .ref mn, .ref ml, .ref mk9, .ref mq, .int 0, .int 0, .int 0, .int 0, .int 0, .int 0, .int 4, .int 0, .int 0])) := ⟨_, rfl⟩
  have hP : va_P D Cl (w3.set 34 (mm, .inr (6, [.ref mb, .ref ms9, .int 1, .int 1, .ref mn, .ref ml, .ref mk9, .ref mq, .int 0, .int 0, .int 0, .int 0, .int 0, .int 0, .int 4, .int 0, .int 0]))) H := hP
  have hD : va_D (Az z) (w3.set 34 (mm, .inr (6, [.ref mb, .ref ms9, .int 1, .int 1, .ref mn, .ref ml, .ref mk9, .ref mq, .int 0, .int 0, .int 0, .int 0, .int 0, .int 0, .int 4, .int 0, .int 0]))) := hD
  rw [← hw] at hP hD
  have hC := hC.put (p := 34) (c := (mm, .inr (6, [.ref mb, .ref ms9, .int 1, .int 1, .ref mn, .ref ml, .ref mk9, .ref mq, .int 0, .int 0, .int 0, .int 0, .int 0, .int 0, .int 4, .int 0, .int 0])))
  rw [← hw] at hC
  have e34 : w4[34]? = some (mm, .inr (6, [.ref mb, .ref ms9, .int 1, .int 1, .ref mn, .ref ml, .ref mk9, .ref mq, .int 0, .int 0, .int 0, .int 0, .int 0, .int 0, .int 4, .int 0, .int 0])) := by rw [hw]; exact lk_set e34
  clear hw
  refine lv_aload_n hx hb d_M_reopen_38 rfl (lv_at hl 0 rfl) ?_
  refine lv_iconst (v := 4) hx hb d_M_reopen_39 (by decide) ?_
  refine va_put (D := D) (ci := 6) (v := .int 4) (ty := .int) (C := R_M) (T := F_M) (N := 17) hx hb hts ws_M t_M ok_M n_M hown hK hP hD hS 34 e34 rfl 14 (by decide) (hts _ fl_M_37) (fun _ h9 => h9) rfl (by decide +kernel) rfl rfl (Nat.le_of_ble_eq_true rfl) d_M_reopen_40 (fun H locs hP hD hS => ?_)
  obtain ⟨w5, hw⟩ : ∃ q, q = w4.set 34 (mm, .inr (6, [.ref mb, .ref ms9, .int 1, .int 1, .ref mn, .ref ml, .ref mk9, .ref mq, .int 0, .int 0, .int 0, .int 0, .int 0, .int 0, .int 4, .int 0, .int 0])) := ⟨_, rfl⟩
  have hP : va_P D Cl (w4.set 34 (mm, .inr (6, [.ref mb, .ref ms9, .int 1, .int 1, .ref mn, .ref ml, .ref mk9, .ref mq, .int 0, .int 0, .int 0, .int 0, .int 0, .int 0, .int 4, .int 0, .int 0]))) H := hP
  have hD : va_D (Az z) (w4.set 34 (mm, .inr (6, [.ref mb, .ref ms9, .int 1, .int 1, .ref mn, .ref ml, .ref mk9, .ref mq, .int 0, .int 0, .int 0, .int 0, .int 0, .int 0, .int 4, .int 0, .int 0]))) := hD
  rw [← hw] at hP hD
  have hC := hC.put (p := 34) (c := (mm, .inr (6, [.ref mb, .ref ms9, .int 1, .int 1, .ref mn, .ref ml, .ref mk9, .ref mq, .int 0, .int 0, .int 0, .int 0, .int 0, .int 0, .int 4, .int 0, .int 0])))
  rw [← hw] at hC
  have e34 : w5[34]? = some (mm, .inr (6, [.ref mb, .ref ms9, .int 1, .int 1, .ref mn, .ref ml, .ref mk9, .ref mq, .int 0, .int 0, .int 0, .int 0, .int 0, .int 0, .int 4, .int 0, .int 0])) := by rw [hw]; exact lk_set e34
  clear hw
  refine lv_aload_n hx hb d_M_reopen_43 rfl (lv_at hl 0 rfl) ?_
  refine va_get (D := D) (ci := 6) (v := .int 0) (C := R_M) (T := F_M) (N := 17) hx hb hts ws_M hown hK hP 34 e34 rfl 12 (by decide) (hts _ fl_M_46) (fun _ h9 => h9) rfl d_M_reopen_44 ?_
  refine lv_if_eq (tgt := 54) hx hb d_M_reopen_47 rfl (fun _ => ?_) (fun h => absurd h (by decide))
  refine lv_aload_n hx hb d_M_reopen_54 rfl (lv_at hl 0 rfl) ?_
  refine va_get (D := D) (ci := 6) (v := .int 0) (C := R_M) (T := F_M) (N := 17) hx hb hts ws_M hown hK hP 34 e34 rfl 8 (by decide) (hts _ fl_M_43) (fun _ h9 => h9) rfl d_M_reopen_55 ?_
  exact W.iret (v := 0) hx hb hr (fun t9 ht hW => ⟨⟨0, w5, rfl, ⟨rfl, hC.sub (by decide), e34⟩, ⟨by rw [ht]; exact hP, va_K.moved hW.alike hK, hD, by rw [ht]; exact Nat.le_trans hz hS.1⟩⟩, hS.F ht⟩) hS.2.2 d_M_reopen_58
set_option maxHeartbeats 4000000 in
set_option maxRecDepth 100000 in
theorem c_M_told0 {l : Launch} {D : va_G} {t : Nat → ClassId} {z : Nat} {sa : Nat → Nat} {ws : va_W} {mm mb ms9 mn ml mk9 mq : Nat} (e34 : ws[34]? = some (mm, .inr (6, [.ref mb, .ref ms9, .int 1, .int 1, .ref mn, .ref ml, .ref mk9, .ref mq, .int 0, .int 0, .int 0, .int 0, .int 0, .int 0, .int 4, .int 0, .int 0])))  : Met l y_M_told (Cond.code y_M_told b_M_told 2 (some .int) :: WS) ({ frames := 0, cells := 0, slots := 0, locals := 0 }) (Pz D t z sa ws [.ref mm, .int 0]) (va_Qi (fun (r : Int32) (u : va_W) => r = 1 ∧ Ch ws u [34] ∧ u[34]? = some (mm, .inr (6, [.ref mb, .ref ms9, .int 1, .int 1, .ref mn, .ref ml, .ref mk9, .ref mq, .int 0, .int 0, .int 0, .int 0, .int 0, .int 0, .int 4, .int 0, .int 0]))) (fun u U => Wd D t z u U) (Az z)) 0 0 (Az z) := by
  refine Met.ofW (cc := b_M_told) (maxL := 2) (ret := (some .int)) (by decide) rfl ?_
  intro p e s m args below meth c s₁ B hml hv
  obtain ⟨rfl, ⟨hP, hK, hD, hz⟩, hM⟩ := hv
  have hx := B.exec
  have hb := B.bytes
  have hr := B.returns
  have hts : ∀ w ∈ WS, w.before [.ref mm, .int 0].toArray s = true := fun w h => atoms_spec B.pre w (List.mem_cons_of_mem _ h)
  have hown : s.vm.findClass R_M = some m.cls := findClass_of_methodNamed B.named
  have hlocks := B.notSynchronized
  have hA : ∀ q, s.heap.size ≤ q → Az z q := fun q h => Nat.le_trans hz h
  have hS : va_S (Az z) s.heap s.heap [] := va_S.rf
  have hC : Ch ws ws [] := Ch.rf
  have hl := lv_entry ([.ref mm, .int 0]) (n := 2) (Nat.le_of_ble_eq_true rfl)
  rw [lg_entry_eq]
  generalize (lg_sl ([.ref mm, .int 0]) ++ List.replicate (2 - (lg_sl ([.ref mm, .int 0])).length) Slot.unset).toArray = ls at hl ⊢
  have hl : lv_has ls 2 [(0, .ref mm), (1, .int 0)] := hl
  refine lv_aload_n hx hb d_M_told_0 rfl (lv_at hl 0 rfl) ?_
  refine lv_iload_n hx hb d_M_told_1 rfl (lv_at hl 1 rfl) ?_
  refine lv_if_lt (tgt := 10) hx hb d_M_told_2 rfl (fun h => absurd h (by decide)) (fun _ => ?_)
  refine lv_iload_n hx hb d_M_told_5 rfl (lv_at hl 1 rfl) ?_
  refine lv_iconst (v := 3) hx hb d_M_told_6 (by decide) ?_
  refine lv_icmp_le (tgt := 14) hx hb d_M_told_7 rfl (fun _ => ?_) (fun h => absurd h (by decide))
  refine lv_iconst (v := 0) hx hb d_M_told_14 (by decide) ?_
  refine va_put (D := D) (ci := 6) (v := .int 0) (ty := .int) (C := R_M) (T := F_M) (N := 17) hx hb hts ws_M t_M ok_M n_M hown hK hP hD hS 34 e34 rfl 16 (by decide) (hts _ fl_M_40) (fun _ h9 => h9) rfl (by decide +kernel) rfl rfl (Nat.le_of_ble_eq_true rfl) d_M_told_15 (fun H locs hP hD hS => ?_)
  obtain ⟨w1, hw⟩ : ∃ q, q = ws.set 34 (mm, .inr (6, [.ref mb, .ref ms9, .int 1, .int 1, .ref mn, .ref ml, .ref mk9, .ref mq, .int 0, .int 0, .int 0, .int 0, .int 0, .int 0, .int 4, .int 0, .int 0])) := ⟨_, rfl⟩
  have hP : va_P D Cl (ws.set 34 (mm, .inr (6, [.ref mb, .ref ms9, .int 1, .int 1, .ref mn, .ref ml, .ref mk9, .ref mq, .int 0, .int 0, .int 0, .int 0, .int 0, .int 0, .int 4, .int 0, .int 0]))) H := hP
  have hD : va_D (Az z) (ws.set 34 (mm, .inr (6, [.ref mb, .ref ms9, .int 1, .int 1, .ref mn, .ref ml, .ref mk9, .ref mq, .int 0, .int 0, .int 0, .int 0, .int 0, .int 0, .int 4, .int 0, .int 0]))) := hD
  rw [← hw] at hP hD
  have hC := hC.put (p := 34) (c := (mm, .inr (6, [.ref mb, .ref ms9, .int 1, .int 1, .ref mn, .ref ml, .ref mk9, .ref mq, .int 0, .int 0, .int 0, .int 0, .int 0, .int 0, .int 4, .int 0, .int 0])))
  rw [← hw] at hC
  have e34 : w1[34]? = some (mm, .inr (6, [.ref mb, .ref ms9, .int 1, .int 1, .ref mn, .ref ml, .ref mk9, .ref mq, .int 0, .int 0, .int 0, .int 0, .int 0, .int 0, .int 4, .int 0, .int 0])) := by rw [hw]; exact lk_set e34
  clear hw
  refine lv_aload_n hx hb d_M_told_18 rfl (lv_at hl 0 rfl) ?_
  refine va_get (D := D) (ci := 6) (v := .int 0) (C := R_M) (T := F_M) (N := 17) hx hb hts ws_M hown hK hP 34 e34 rfl 16 (by decide) (hts _ fl_M_40) (fun _ h9 => h9) rfl d_M_told_19 ?_
  refine lv_if_le (tgt := 27) hx hb d_M_told_22 rfl (fun _ => ?_) (fun h => absurd h (by decide))
  refine lv_iload_n hx hb d_M_told_27 rfl (lv_at hl 1 rfl) ?_
  refine lv_if_ne (tgt := 44) hx hb d_M_told_28 rfl (fun h => absurd h (by decide)) (fun _ => ?_)
  refine lv_aload_n hx hb d_M_told_31 rfl (lv_at hl 0 rfl) ?_
  refine va_get (D := D) (ci := 6) (v := .int 0) (C := R_M) (T := F_M) (N := 17) hx hb hts ws_M hown hK hP 34 e34 rfl 12 (by decide) (hts _ fl_M_46) (fun _ h9 => h9) rfl d_M_told_32 ?_
  refine lv_if_eq (tgt := 42) hx hb d_M_told_35 rfl (fun _ => ?_) (fun h => absurd h (by decide))
  refine lv_iconst (v := 1) hx hb d_M_told_42 (by decide) ?_
  exact W.iret (v := 1) hx hb hr (fun t9 ht hW => ⟨⟨1, w1, rfl, ⟨rfl, hC.sub (by decide), e34⟩, ⟨by rw [ht]; exact hP, va_K.moved hW.alike hK, hD, by rw [ht]; exact Nat.le_trans hz hS.1⟩⟩, hS.F ht⟩) hS.2.2 d_M_told_43
set_option maxHeartbeats 4000000 in
set_option maxRecDepth 100000 in
theorem c_M_told1 {l : Launch} {D : va_G} {t : Nat → ClassId} {z : Nat} {sa : Nat → Nat} {ws : va_W} {mm mb ms9 mn ml mk9 mq : Nat} (e34 : ws[34]? = some (mm, .inr (6, [.ref mb, .ref ms9, .int 1, .int 1, .ref mn, .ref ml, .ref mk9, .ref mq, .int 0, .int 0, .int 0, .int 0, .int 0, .int 0, .int 4, .int 0, .int 0])))  : Met l y_M_told (Cond.code y_M_told b_M_told 2 (some .int) :: WS) ({ frames := 0, cells := 0, slots := 0, locals := 0 }) (Pz D t z sa ws [.ref mm, .int 1]) (va_Qi (fun (r : Int32) (u : va_W) => r = 0 ∧ Ch ws u [34] ∧ u[34]? = some (mm, .inr (6, [.ref mb, .ref ms9, .int 1, .int 1, .ref mn, .ref ml, .ref mk9, .ref mq, .int 0, .int 0, .int 0, .int 0, .int 0, .int 0, .int 4, .int 0, .int 0]))) (fun u U => Wd D t z u U) (Az z)) 0 0 (Az z) := by
  refine Met.ofW (cc := b_M_told) (maxL := 2) (ret := (some .int)) (by decide) rfl ?_
  intro p e s m args below meth c s₁ B hml hv
  obtain ⟨rfl, ⟨hP, hK, hD, hz⟩, hM⟩ := hv
  have hx := B.exec
  have hb := B.bytes
  have hr := B.returns
  have hts : ∀ w ∈ WS, w.before [.ref mm, .int 1].toArray s = true := fun w h => atoms_spec B.pre w (List.mem_cons_of_mem _ h)
  have hown : s.vm.findClass R_M = some m.cls := findClass_of_methodNamed B.named
  have hlocks := B.notSynchronized
  have hA : ∀ q, s.heap.size ≤ q → Az z q := fun q h => Nat.le_trans hz h
  have hS : va_S (Az z) s.heap s.heap [] := va_S.rf
  have hC : Ch ws ws [] := Ch.rf
  have hl := lv_entry ([.ref mm, .int 1]) (n := 2) (Nat.le_of_ble_eq_true rfl)
  rw [lg_entry_eq]
  generalize (lg_sl ([.ref mm, .int 1]) ++ List.replicate (2 - (lg_sl ([.ref mm, .int 1])).length) Slot.unset).toArray = ls at hl ⊢
  have hl : lv_has ls 2 [(0, .ref mm), (1, .int 1)] := hl
  refine lv_aload_n hx hb d_M_told_0 rfl (lv_at hl 0 rfl) ?_
  refine lv_iload_n hx hb d_M_told_1 rfl (lv_at hl 1 rfl) ?_
  refine lv_if_lt (tgt := 10) hx hb d_M_told_2 rfl (fun h => absurd h (by decide)) (fun _ => ?_)
  refine lv_iload_n hx hb d_M_told_5 rfl (lv_at hl 1 rfl) ?_
  refine lv_iconst (v := 3) hx hb d_M_told_6 (by decide) ?_
  refine lv_icmp_le (tgt := 14) hx hb d_M_told_7 rfl (fun _ => ?_) (fun h => absurd h (by decide))
  refine lv_iconst (v := 0) hx hb d_M_told_14 (by decide) ?_
  refine va_put (D := D) (ci := 6) (v := .int 0) (ty := .int) (C := R_M) (T := F_M) (N := 17) hx hb hts ws_M t_M ok_M n_M hown hK hP hD hS 34 e34 rfl 16 (by decide) (hts _ fl_M_40) (fun _ h9 => h9) rfl (by decide +kernel) rfl rfl (Nat.le_of_ble_eq_true rfl) d_M_told_15 (fun H locs hP hD hS => ?_)
  obtain ⟨w1, hw⟩ : ∃ q, q = ws.set 34 (mm, .inr (6, [.ref mb, .ref ms9, .int 1, .int 1, .ref mn, .ref ml, .ref mk9, .ref mq, .int 0, .int 0, .int 0, .int 0, .int 0, .int 0, .int 4, .int 0, .int 0])) := ⟨_, rfl⟩
  have hP : va_P D Cl (ws.set 34 (mm, .inr (6, [.ref mb, .ref ms9, .int 1, .int 1, .ref mn, .ref ml, .ref mk9, .ref mq, .int 0, .int 0, .int 0, .int 0, .int 0, .int 0, .int 4, .int 0, .int 0]))) H := hP
  have hD : va_D (Az z) (ws.set 34 (mm, .inr (6, [.ref mb, .ref ms9, .int 1, .int 1, .ref mn, .ref ml, .ref mk9, .ref mq, .int 0, .int 0, .int 0, .int 0, .int 0, .int 0, .int 4, .int 0, .int 0]))) := hD
  rw [← hw] at hP hD
  have hC := hC.put (p := 34) (c := (mm, .inr (6, [.ref mb, .ref ms9, .int 1, .int 1, .ref mn, .ref ml, .ref mk9, .ref mq, .int 0, .int 0, .int 0, .int 0, .int 0, .int 0, .int 4, .int 0, .int 0])))
  rw [← hw] at hC
  have e34 : w1[34]? = some (mm, .inr (6, [.ref mb, .ref ms9, .int 1, .int 1, .ref mn, .ref ml, .ref mk9, .ref mq, .int 0, .int 0, .int 0, .int 0, .int 0, .int 0, .int 4, .int 0, .int 0])) := by rw [hw]; exact lk_set e34
  clear hw
  refine lv_aload_n hx hb d_M_told_18 rfl (lv_at hl 0 rfl) ?_
  refine va_get (D := D) (ci := 6) (v := .int 0) (C := R_M) (T := F_M) (N := 17) hx hb hts ws_M hown hK hP 34 e34 rfl 16 (by decide) (hts _ fl_M_40) (fun _ h9 => h9) rfl d_M_told_19 ?_
  refine lv_if_le (tgt := 27) hx hb d_M_told_22 rfl (fun _ => ?_) (fun h => absurd h (by decide))
  refine lv_iload_n hx hb d_M_told_27 rfl (lv_at hl 1 rfl) ?_
  refine lv_if_ne (tgt := 44) hx hb d_M_told_28 rfl (fun _ => ?_) (fun h => absurd h (by decide))
  refine lv_iload_n hx hb d_M_told_44 rfl (lv_at hl 1 rfl) ?_
  refine lv_iconst (v := 1) hx hb d_M_told_45 (by decide) ?_
  refine lv_icmp_ne (tgt := 62) hx hb d_M_told_46 rfl (fun h => absurd h (by decide)) (fun _ => ?_)
  refine lv_aload_n hx hb d_M_told_49 rfl (lv_at hl 0 rfl) ?_
  refine va_get (D := D) (ci := 6) (v := .int 0) (C := R_M) (T := F_M) (N := 17) hx hb hts ws_M hown hK hP 34 e34 rfl 13 (by decide) (hts _ fl_M_54) (fun _ h9 => h9) rfl d_M_told_50 ?_
  refine lv_if_eq (tgt := 60) hx hb d_M_told_53 rfl (fun _ => ?_) (fun h => absurd h (by decide))
  refine lv_iconst (v := 0) hx hb d_M_told_60 (by decide) ?_
  exact W.iret (v := 0) hx hb hr (fun t9 ht hW => ⟨⟨0, w1, rfl, ⟨rfl, hC.sub (by decide), e34⟩, ⟨by rw [ht]; exact hP, va_K.moved hW.alike hK, hD, by rw [ht]; exact Nat.le_trans hz hS.1⟩⟩, hS.F ht⟩) hS.2.2 d_M_told_61
set_option maxHeartbeats 4000000 in
set_option maxRecDepth 100000 in
theorem c_M_told2 {l : Launch} {D : va_G} {t : Nat → ClassId} {z : Nat} {sa : Nat → Nat} {ws : va_W} {mm mb ms9 mn ml mk9 mq : Nat} (e34 : ws[34]? = some (mm, .inr (6, [.ref mb, .ref ms9, .int 1, .int 1, .ref mn, .ref ml, .ref mk9, .ref mq, .int 0, .int 0, .int 0, .int 0, .int 0, .int 0, .int 4, .int 0, .int 0])))  : Met l y_M_told (Cond.code y_M_told b_M_told 2 (some .int) :: WS) ({ frames := 0, cells := 0, slots := 0, locals := 0 }) (Pz D t z sa ws [.ref mm, .int 2]) (va_Qi (fun (r : Int32) (u : va_W) => r = 0 ∧ Ch ws u [34] ∧ u[34]? = some (mm, .inr (6, [.ref mb, .ref ms9, .int 1, .int 1, .ref mn, .ref ml, .ref mk9, .ref mq, .int 0, .int 0, .int 0, .int 0, .int 0, .int 0, .int 4, .int 0, .int 0]))) (fun u U => Wd D t z u U) (Az z)) 0 0 (Az z) := by
  refine Met.ofW (cc := b_M_told) (maxL := 2) (ret := (some .int)) (by decide) rfl ?_
  intro p e s m args below meth c s₁ B hml hv
  obtain ⟨rfl, ⟨hP, hK, hD, hz⟩, hM⟩ := hv
  have hx := B.exec
  have hb := B.bytes
  have hr := B.returns
  have hts : ∀ w ∈ WS, w.before [.ref mm, .int 2].toArray s = true := fun w h => atoms_spec B.pre w (List.mem_cons_of_mem _ h)
  have hown : s.vm.findClass R_M = some m.cls := findClass_of_methodNamed B.named
  have hlocks := B.notSynchronized
  have hA : ∀ q, s.heap.size ≤ q → Az z q := fun q h => Nat.le_trans hz h
  have hS : va_S (Az z) s.heap s.heap [] := va_S.rf
  have hC : Ch ws ws [] := Ch.rf
  have hl := lv_entry ([.ref mm, .int 2]) (n := 2) (Nat.le_of_ble_eq_true rfl)
  rw [lg_entry_eq]
  generalize (lg_sl ([.ref mm, .int 2]) ++ List.replicate (2 - (lg_sl ([.ref mm, .int 2])).length) Slot.unset).toArray = ls at hl ⊢
  have hl : lv_has ls 2 [(0, .ref mm), (1, .int 2)] := hl
  refine lv_aload_n hx hb d_M_told_0 rfl (lv_at hl 0 rfl) ?_
  refine lv_iload_n hx hb d_M_told_1 rfl (lv_at hl 1 rfl) ?_
  refine lv_if_lt (tgt := 10) hx hb d_M_told_2 rfl (fun h => absurd h (by decide)) (fun _ => ?_)
  refine lv_iload_n hx hb d_M_told_5 rfl (lv_at hl 1 rfl) ?_
  refine lv_iconst (v := 3) hx hb d_M_told_6 (by decide) ?_
  refine lv_icmp_le (tgt := 14) hx hb d_M_told_7 rfl (fun _ => ?_) (fun h => absurd h (by decide))
  refine lv_iconst (v := 0) hx hb d_M_told_14 (by decide) ?_
  refine va_put (D := D) (ci := 6) (v := .int 0) (ty := .int) (C := R_M) (T := F_M) (N := 17) hx hb hts ws_M t_M ok_M n_M hown hK hP hD hS 34 e34 rfl 16 (by decide) (hts _ fl_M_40) (fun _ h9 => h9) rfl (by decide +kernel) rfl rfl (Nat.le_of_ble_eq_true rfl) d_M_told_15 (fun H locs hP hD hS => ?_)
  obtain ⟨w1, hw⟩ : ∃ q, q = ws.set 34 (mm, .inr (6, [.ref mb, .ref ms9, .int 1, .int 1, .ref mn, .ref ml, .ref mk9, .ref mq, .int 0, .int 0, .int 0, .int 0, .int 0, .int 0, .int 4, .int 0, .int 0])) := ⟨_, rfl⟩
  have hP : va_P D Cl (ws.set 34 (mm, .inr (6, [.ref mb, .ref ms9, .int 1, .int 1, .ref mn, .ref ml, .ref mk9, .ref mq, .int 0, .int 0, .int 0, .int 0, .int 0, .int 0, .int 4, .int 0, .int 0]))) H := hP
  have hD : va_D (Az z) (ws.set 34 (mm, .inr (6, [.ref mb, .ref ms9, .int 1, .int 1, .ref mn, .ref ml, .ref mk9, .ref mq, .int 0, .int 0, .int 0, .int 0, .int 0, .int 0, .int 4, .int 0, .int 0]))) := hD
  rw [← hw] at hP hD
  have hC := hC.put (p := 34) (c := (mm, .inr (6, [.ref mb, .ref ms9, .int 1, .int 1, .ref mn, .ref ml, .ref mk9, .ref mq, .int 0, .int 0, .int 0, .int 0, .int 0, .int 0, .int 4, .int 0, .int 0])))
  rw [← hw] at hC
  have e34 : w1[34]? = some (mm, .inr (6, [.ref mb, .ref ms9, .int 1, .int 1, .ref mn, .ref ml, .ref mk9, .ref mq, .int 0, .int 0, .int 0, .int 0, .int 0, .int 0, .int 4, .int 0, .int 0])) := by rw [hw]; exact lk_set e34
  clear hw
  refine lv_aload_n hx hb d_M_told_18 rfl (lv_at hl 0 rfl) ?_
  refine va_get (D := D) (ci := 6) (v := .int 0) (C := R_M) (T := F_M) (N := 17) hx hb hts ws_M hown hK hP 34 e34 rfl 16 (by decide) (hts _ fl_M_40) (fun _ h9 => h9) rfl d_M_told_19 ?_
  refine lv_if_le (tgt := 27) hx hb d_M_told_22 rfl (fun _ => ?_) (fun h => absurd h (by decide))
  refine lv_iload_n hx hb d_M_told_27 rfl (lv_at hl 1 rfl) ?_
  refine lv_if_ne (tgt := 44) hx hb d_M_told_28 rfl (fun _ => ?_) (fun h => absurd h (by decide))
  refine lv_iload_n hx hb d_M_told_44 rfl (lv_at hl 1 rfl) ?_
  refine lv_iconst (v := 1) hx hb d_M_told_45 (by decide) ?_
  refine lv_icmp_ne (tgt := 62) hx hb d_M_told_46 rfl (fun _ => ?_) (fun h => absurd h (by decide))
  refine lv_iload_n hx hb d_M_told_62 rfl (lv_at hl 1 rfl) ?_
  refine lv_iconst (v := 2) hx hb d_M_told_63 (by decide) ?_
  refine lv_icmp_ne (tgt := 74) hx hb d_M_told_64 rfl (fun h => absurd h (by decide)) (fun _ => ?_)
  refine lv_aload_n hx hb d_M_told_67 rfl (lv_at hl 0 rfl) ?_
  refine va_get (D := D) (ci := 6) (v := .int 0) (C := R_M) (T := F_M) (N := 17) hx hb hts ws_M hown hK hP 34 e34 rfl 10 (by decide) (hts _ fl_M_77) (fun _ h9 => h9) rfl d_M_told_68 ?_
  refine lv_goto (tgt := 78) hx hb d_M_told_71 rfl ?_
  exact W.iret (v := 0) hx hb hr (fun t9 ht hW => ⟨⟨0, w1, rfl, ⟨rfl, hC.sub (by decide), e34⟩, ⟨by rw [ht]; exact hP, va_K.moved hW.alike hK, hD, by rw [ht]; exact Nat.le_trans hz hS.1⟩⟩, hS.F ht⟩) hS.2.2 d_M_told_78
set_option maxHeartbeats 4000000 in
set_option maxRecDepth 100000 in
theorem c_M_told3 {l : Launch} {D : va_G} {t : Nat → ClassId} {z : Nat} {sa : Nat → Nat} {ws : va_W} {mm mb ms9 mn ml mk9 mq : Nat} (e34 : ws[34]? = some (mm, .inr (6, [.ref mb, .ref ms9, .int 1, .int 1, .ref mn, .ref ml, .ref mk9, .ref mq, .int 0, .int 0, .int 0, .int 0, .int 0, .int 0, .int 4, .int 0, .int 0])))  : Met l y_M_told (Cond.code y_M_told b_M_told 2 (some .int) :: WS) ({ frames := 0, cells := 0, slots := 0, locals := 0 }) (Pz D t z sa ws [.ref mm, .int 3]) (va_Qi (fun (r : Int32) (u : va_W) => r = 0 ∧ Ch ws u [34] ∧ u[34]? = some (mm, .inr (6, [.ref mb, .ref ms9, .int 1, .int 1, .ref mn, .ref ml, .ref mk9, .ref mq, .int 0, .int 0, .int 0, .int 0, .int 0, .int 0, .int 4, .int 0, .int 0]))) (fun u U => Wd D t z u U) (Az z)) 0 0 (Az z) := by
  refine Met.ofW (cc := b_M_told) (maxL := 2) (ret := (some .int)) (by decide) rfl ?_
  intro p e s m args below meth c s₁ B hml hv
  obtain ⟨rfl, ⟨hP, hK, hD, hz⟩, hM⟩ := hv
  have hx := B.exec
  have hb := B.bytes
  have hr := B.returns
  have hts : ∀ w ∈ WS, w.before [.ref mm, .int 3].toArray s = true := fun w h => atoms_spec B.pre w (List.mem_cons_of_mem _ h)
  have hown : s.vm.findClass R_M = some m.cls := findClass_of_methodNamed B.named
  have hlocks := B.notSynchronized
  have hA : ∀ q, s.heap.size ≤ q → Az z q := fun q h => Nat.le_trans hz h
  have hS : va_S (Az z) s.heap s.heap [] := va_S.rf
  have hC : Ch ws ws [] := Ch.rf
  have hl := lv_entry ([.ref mm, .int 3]) (n := 2) (Nat.le_of_ble_eq_true rfl)
  rw [lg_entry_eq]
  generalize (lg_sl ([.ref mm, .int 3]) ++ List.replicate (2 - (lg_sl ([.ref mm, .int 3])).length) Slot.unset).toArray = ls at hl ⊢
  have hl : lv_has ls 2 [(0, .ref mm), (1, .int 3)] := hl
  refine lv_aload_n hx hb d_M_told_0 rfl (lv_at hl 0 rfl) ?_
  refine lv_iload_n hx hb d_M_told_1 rfl (lv_at hl 1 rfl) ?_
  refine lv_if_lt (tgt := 10) hx hb d_M_told_2 rfl (fun h => absurd h (by decide)) (fun _ => ?_)
  refine lv_iload_n hx hb d_M_told_5 rfl (lv_at hl 1 rfl) ?_
  refine lv_iconst (v := 3) hx hb d_M_told_6 (by decide) ?_
  refine lv_icmp_le (tgt := 14) hx hb d_M_told_7 rfl (fun _ => ?_) (fun h => absurd h (by decide))
  refine lv_iconst (v := 0) hx hb d_M_told_14 (by decide) ?_
  refine va_put (D := D) (ci := 6) (v := .int 0) (ty := .int) (C := R_M) (T := F_M) (N := 17) hx hb hts ws_M t_M ok_M n_M hown hK hP hD hS 34 e34 rfl 16 (by decide) (hts _ fl_M_40) (fun _ h9 => h9) rfl (by decide +kernel) rfl rfl (Nat.le_of_ble_eq_true rfl) d_M_told_15 (fun H locs hP hD hS => ?_)
  obtain ⟨w1, hw⟩ : ∃ q, q = ws.set 34 (mm, .inr (6, [.ref mb, .ref ms9, .int 1, .int 1, .ref mn, .ref ml, .ref mk9, .ref mq, .int 0, .int 0, .int 0, .int 0, .int 0, .int 0, .int 4, .int 0, .int 0])) := ⟨_, rfl⟩
  have hP : va_P D Cl (ws.set 34 (mm, .inr (6, [.ref mb, .ref ms9, .int 1, .int 1, .ref mn, .ref ml, .ref mk9, .ref mq, .int 0, .int 0, .int 0, .int 0, .int 0, .int 0, .int 4, .int 0, .int 0]))) H := hP
  have hD : va_D (Az z) (ws.set 34 (mm, .inr (6, [.ref mb, .ref ms9, .int 1, .int 1, .ref mn, .ref ml, .ref mk9, .ref mq, .int 0, .int 0, .int 0, .int 0, .int 0, .int 0, .int 4, .int 0, .int 0]))) := hD
  rw [← hw] at hP hD
  have hC := hC.put (p := 34) (c := (mm, .inr (6, [.ref mb, .ref ms9, .int 1, .int 1, .ref mn, .ref ml, .ref mk9, .ref mq, .int 0, .int 0, .int 0, .int 0, .int 0, .int 0, .int 4, .int 0, .int 0])))
  rw [← hw] at hC
  have e34 : w1[34]? = some (mm, .inr (6, [.ref mb, .ref ms9, .int 1, .int 1, .ref mn, .ref ml, .ref mk9, .ref mq, .int 0, .int 0, .int 0, .int 0, .int 0, .int 0, .int 4, .int 0, .int 0])) := by rw [hw]; exact lk_set e34
  clear hw
  refine lv_aload_n hx hb d_M_told_18 rfl (lv_at hl 0 rfl) ?_
  refine va_get (D := D) (ci := 6) (v := .int 0) (C := R_M) (T := F_M) (N := 17) hx hb hts ws_M hown hK hP 34 e34 rfl 16 (by decide) (hts _ fl_M_40) (fun _ h9 => h9) rfl d_M_told_19 ?_
  refine lv_if_le (tgt := 27) hx hb d_M_told_22 rfl (fun _ => ?_) (fun h => absurd h (by decide))
  refine lv_iload_n hx hb d_M_told_27 rfl (lv_at hl 1 rfl) ?_
  refine lv_if_ne (tgt := 44) hx hb d_M_told_28 rfl (fun _ => ?_) (fun h => absurd h (by decide))
  refine lv_iload_n hx hb d_M_told_44 rfl (lv_at hl 1 rfl) ?_
  refine lv_iconst (v := 1) hx hb d_M_told_45 (by decide) ?_
  refine lv_icmp_ne (tgt := 62) hx hb d_M_told_46 rfl (fun _ => ?_) (fun h => absurd h (by decide))
  refine lv_iload_n hx hb d_M_told_62 rfl (lv_at hl 1 rfl) ?_
  refine lv_iconst (v := 2) hx hb d_M_told_63 (by decide) ?_
  refine lv_icmp_ne (tgt := 74) hx hb d_M_told_64 rfl (fun _ => ?_) (fun h => absurd h (by decide))
  refine lv_aload_n hx hb d_M_told_74 rfl (lv_at hl 0 rfl) ?_
  refine va_get (D := D) (ci := 6) (v := .int 0) (C := R_M) (T := F_M) (N := 17) hx hb hts ws_M hown hK hP 34 e34 rfl 11 (by decide) (hts _ fl_M_83) (fun _ h9 => h9) rfl d_M_told_75 ?_
  exact W.iret (v := 0) hx hb hr (fun t9 ht hW => ⟨⟨0, w1, rfl, ⟨rfl, hC.sub (by decide), e34⟩, ⟨by rw [ht]; exact hP, va_K.moved hW.alike hK, hD, by rw [ht]; exact Nat.le_trans hz hS.1⟩⟩, hS.F ht⟩) hS.2.2 d_M_told_78
set_option maxHeartbeats 4000000 in
set_option maxRecDepth 100000 in
theorem c_M_told_b {l : Launch} {D : va_G} {t : Nat → ClassId} {z : Nat} {sa : Nat → Nat} {ws : va_W} {mm mb ms9 mn ml mk9 mq : Nat} {a0 : Int32} (e34 : ws[34]? = some (mm, .inr (6, [.ref mb, .ref ms9, .int 1, .int 1, .ref mn, .ref ml, .ref mk9, .ref mq, .int 0, .int 0, .int 0, .int 0, .int 0, .int 0, .int 4, .int 0, .int 0]))) (g : ¬ (¬ a0 < 0 ∧ a0 ≤ 3)) : Met l y_M_told (Cond.code y_M_told b_M_told 2 (some .int) :: WS) ({ frames := 0, cells := 0, slots := 0, locals := 0 }) (Pz D t z sa ws [.ref mm, .int a0]) (va_Qi (fun (r : Int32) (u : va_W) => r = 0 ∧ Ch ws u [34] ∧ u[34]? = some (mm, .inr (6, [.ref mb, .ref ms9, .int 1, .int 1, .ref mn, .ref ml, .ref mk9, .ref mq, .int 0, .int 0, .int 0, .int 0, .int 0, .int 0, .int 4, .int 0, .int 1]))) (fun u U => Wd D t z u U) (Az z)) 0 0 (Az z) := by
  refine Met.ofW (cc := b_M_told) (maxL := 2) (ret := (some .int)) (by decide) rfl ?_
  intro p e s m args below meth c s₁ B hml hv
  obtain ⟨rfl, ⟨hP, hK, hD, hz⟩, hM⟩ := hv
  have hx := B.exec
  have hb := B.bytes
  have hr := B.returns
  have hts : ∀ w ∈ WS, w.before [.ref mm, .int a0].toArray s = true := fun w h => atoms_spec B.pre w (List.mem_cons_of_mem _ h)
  have hown : s.vm.findClass R_M = some m.cls := findClass_of_methodNamed B.named
  have hlocks := B.notSynchronized
  have hA : ∀ q, s.heap.size ≤ q → Az z q := fun q h => Nat.le_trans hz h
  have hS : va_S (Az z) s.heap s.heap [] := va_S.rf
  have hC : Ch ws ws [] := Ch.rf
  have hl := lv_entry ([.ref mm, .int a0]) (n := 2) (Nat.le_of_ble_eq_true rfl)
  rw [lg_entry_eq]
  generalize (lg_sl ([.ref mm, .int a0]) ++ List.replicate (2 - (lg_sl ([.ref mm, .int a0])).length) Slot.unset).toArray = ls at hl ⊢
  have hl : lv_has ls 2 [(0, .ref mm), (1, .int a0)] := hl
  refine lv_aload_n hx hb d_M_told_0 rfl (lv_at hl 0 rfl) ?_
  refine lv_iload_n hx hb d_M_told_1 rfl (lv_at hl 1 rfl) ?_
  refine lv_if_lt (tgt := 10) hx hb d_M_told_2 rfl (fun q1 => ?_) (fun q1 => ?_)
  · skip
    refine lv_iconst (v := 1) hx hb d_M_told_10 (by decide) ?_
    refine lv_goto (tgt := 15) hx hb d_M_told_11 rfl ?_
    refine va_put (D := D) (ci := 6) (v := .int 1) (ty := .int) (C := R_M) (T := F_M) (N := 17) hx hb hts ws_M t_M ok_M n_M hown hK hP hD hS 34 e34 rfl 16 (by decide) (hts _ fl_M_40) (fun _ h9 => h9) rfl (by decide +kernel) rfl rfl (Nat.le_of_ble_eq_true rfl) d_M_told_15 (fun H locs hP hD hS => ?_)
    obtain ⟨w2, hw⟩ : ∃ q, q = ws.set 34 (mm, .inr (6, [.ref mb, .ref ms9, .int 1, .int 1, .ref mn, .ref ml, .ref mk9, .ref mq, .int 0, .int 0, .int 0, .int 0, .int 0, .int 0, .int 4, .int 0, .int 1])) := ⟨_, rfl⟩
    have hP : va_P D Cl (ws.set 34 (mm, .inr (6, [.ref mb, .ref ms9, .int 1, .int 1, .ref mn, .ref ml, .ref mk9, .ref mq, .int 0, .int 0, .int 0, .int 0, .int 0, .int 0, .int 4, .int 0, .int 1]))) H := hP
    have hD : va_D (Az z) (ws.set 34 (mm, .inr (6, [.ref mb, .ref ms9, .int 1, .int 1, .ref mn, .ref ml, .ref mk9, .ref mq, .int 0, .int 0, .int 0, .int 0, .int 0, .int 0, .int 4, .int 0, .int 1]))) := hD
    rw [← hw] at hP hD
    have hC := hC.put (p := 34) (c := (mm, .inr (6, [.ref mb, .ref ms9, .int 1, .int 1, .ref mn, .ref ml, .ref mk9, .ref mq, .int 0, .int 0, .int 0, .int 0, .int 0, .int 0, .int 4, .int 0, .int 1])))
    rw [← hw] at hC
    have e34 : w2[34]? = some (mm, .inr (6, [.ref mb, .ref ms9, .int 1, .int 1, .ref mn, .ref ml, .ref mk9, .ref mq, .int 0, .int 0, .int 0, .int 0, .int 0, .int 0, .int 4, .int 0, .int 1])) := by rw [hw]; exact lk_set e34
    clear hw
    refine lv_aload_n hx hb d_M_told_18 rfl (lv_at hl 0 rfl) ?_
    refine va_get (D := D) (ci := 6) (v := .int 1) (C := R_M) (T := F_M) (N := 17) hx hb hts ws_M hown hK hP 34 e34 rfl 16 (by decide) (hts _ fl_M_40) (fun _ h9 => h9) rfl d_M_told_19 ?_
    refine lv_if_le (tgt := 27) hx hb d_M_told_22 rfl (fun h => absurd h (by decide)) (fun _ => ?_)
    refine lv_iconst (v := 0) hx hb d_M_told_25 (by decide) ?_
    exact W.iret (v := 0) hx hb hr (fun t9 ht hW => ⟨⟨0, w2, rfl, ⟨rfl, hC.sub (by decide), e34⟩, ⟨by rw [ht]; exact hP, va_K.moved hW.alike hK, hD, by rw [ht]; exact Nat.le_trans hz hS.1⟩⟩, hS.F ht⟩) hS.2.2 d_M_told_26
  · skip
    refine lv_iload_n hx hb d_M_told_5 rfl (lv_at hl 1 rfl) ?_
    refine lv_iconst (v := 3) hx hb d_M_told_6 (by decide) ?_
    refine lv_icmp_le (tgt := 14) hx hb d_M_told_7 rfl (fun q3 => ?_) (fun q3 => ?_)
    · skip
      exact (g ⟨by assumption, by assumption⟩).elim
    · skip
      refine lv_iconst (v := 1) hx hb d_M_told_10 (by decide) ?_
      refine lv_goto (tgt := 15) hx hb d_M_told_11 rfl ?_
      refine va_put (D := D) (ci := 6) (v := .int 1) (ty := .int) (C := R_M) (T := F_M) (N := 17) hx hb hts ws_M t_M ok_M n_M hown hK hP hD hS 34 e34 rfl 16 (by decide) (hts _ fl_M_40) (fun _ h9 => h9) rfl (by decide +kernel) rfl rfl (Nat.le_of_ble_eq_true rfl) d_M_told_15 (fun H locs hP hD hS => ?_)
      obtain ⟨w4, hw⟩ : ∃ q, q = ws.set 34 (mm, .inr (6, [.ref mb, .ref ms9, .int 1, .int 1, .ref mn, .ref ml, .ref mk9, .ref mq, .int 0, .int 0, .int 0, .int 0, .int 0, .int 0, .int 4, .int 0, .int 1])) := ⟨_, rfl⟩
      have hP : va_P D Cl (ws.set 34 (mm, .inr (6, [.ref mb, .ref ms9, .int 1, .int 1, .ref mn, .ref ml, .ref mk9, .ref mq, .int 0, .int 0, .int 0, .int 0, .int 0, .int 0, .int 4, .int 0, .int 1]))) H := hP
      have hD : va_D (Az z) (ws.set 34 (mm, .inr (6, [.ref mb, .ref ms9, .int 1, .int 1, .ref mn, .ref ml, .ref mk9, .ref mq, .int 0, .int 0, .int 0, .int 0, .int 0, .int 0, .int 4, .int 0, .int 1]))) := hD
      rw [← hw] at hP hD
      have hC := hC.put (p := 34) (c := (mm, .inr (6, [.ref mb, .ref ms9, .int 1, .int 1, .ref mn, .ref ml, .ref mk9, .ref mq, .int 0, .int 0, .int 0, .int 0, .int 0, .int 0, .int 4, .int 0, .int 1])))
      rw [← hw] at hC
      have e34 : w4[34]? = some (mm, .inr (6, [.ref mb, .ref ms9, .int 1, .int 1, .ref mn, .ref ml, .ref mk9, .ref mq, .int 0, .int 0, .int 0, .int 0, .int 0, .int 0, .int 4, .int 0, .int 1])) := by rw [hw]; exact lk_set e34
      clear hw
      refine lv_aload_n hx hb d_M_told_18 rfl (lv_at hl 0 rfl) ?_
      refine va_get (D := D) (ci := 6) (v := .int 1) (C := R_M) (T := F_M) (N := 17) hx hb hts ws_M hown hK hP 34 e34 rfl 16 (by decide) (hts _ fl_M_40) (fun _ h9 => h9) rfl d_M_told_19 ?_
      refine lv_if_le (tgt := 27) hx hb d_M_told_22 rfl (fun h => absurd h (by decide)) (fun _ => ?_)
      refine lv_iconst (v := 0) hx hb d_M_told_25 (by decide) ?_
      exact W.iret (v := 0) hx hb hr (fun t9 ht hW => ⟨⟨0, w4, rfl, ⟨rfl, hC.sub (by decide), e34⟩, ⟨by rw [ht]; exact hP, va_K.moved hW.alike hK, hD, by rw [ht]; exact Nat.le_trans hz hS.1⟩⟩, hS.F ht⟩) hS.2.2 d_M_told_26
set_option maxHeartbeats 4000000 in
set_option maxRecDepth 100000 in
theorem c_M_thrown {l : Launch} {D : va_G} {t : Nat → ClassId} {z : Nat} {sa : Nat → Nat} {ws : va_W} {mm mb ms9 mn ml mk9 mq : Nat} {x2 x3 x8 x9 x10 x11 x12 x13 x14 x15 th : Int32} (e34 : ws[34]? = some (mm, .inr (6, [.ref mb, .ref ms9, .int x2, .int x3, .ref mn, .ref ml, .ref mk9, .ref mq, .int x8, .int x9, .int x10, .int x11, .int x12, .int x13, .int x14, .int x15, .int th])))  : Met l y_M_thrown (Cond.code y_M_thrown b_M_thrown 1 (some .int) :: WS) ({ frames := 0, cells := 0, slots := 0, locals := 0 }) (Pz D t z sa ws [.ref mm]) (va_Qi (fun (r : Int32) (u : va_W) => r = th ∧ u = ws) (fun u U => Wd D t z u U) (Az z)) 0 0 (Az z) := by
  refine Met.ofW (cc := b_M_thrown) (maxL := 1) (ret := (some .int)) (by decide) rfl ?_
  intro p e s m args below meth c s₁ B hml hv
  obtain ⟨rfl, ⟨hP, hK, hD, hz⟩, hM⟩ := hv
  have hx := B.exec
  have hb := B.bytes
  have hr := B.returns
  have hts : ∀ w ∈ WS, w.before [.ref mm].toArray s = true := fun w h => atoms_spec B.pre w (List.mem_cons_of_mem _ h)
  have hown : s.vm.findClass R_M = some m.cls := findClass_of_methodNamed B.named
  have hlocks := B.notSynchronized
  have hA : ∀ q, s.heap.size ≤ q → Az z q := fun q h => Nat.le_trans hz h
  have hS : va_S (Az z) s.heap s.heap [] := va_S.rf
  have hC : Ch ws ws [] := Ch.rf
  have hl := lv_entry ([.ref mm]) (n := 1) (Nat.le_of_ble_eq_true rfl)
  rw [lg_entry_eq]
  generalize (lg_sl ([.ref mm]) ++ List.replicate (1 - (lg_sl ([.ref mm])).length) Slot.unset).toArray = ls at hl ⊢
  have hl : lv_has ls 1 [(0, .ref mm)] := hl
  refine lv_aload_n hx hb d_M_thrown_0 rfl (lv_at hl 0 rfl) ?_
  refine va_get (D := D) (ci := 6) (v := .int th) (C := R_M) (T := F_M) (N := 17) hx hb hts ws_M hown hK hP 34 e34 rfl 16 (by decide) (hts _ fl_M_40) (fun _ h9 => h9) rfl d_M_thrown_1 ?_
  exact W.iret (v := th) hx hb hr (fun t9 ht hW => ⟨⟨th, ws, rfl, ⟨rfl, rfl⟩, ⟨by rw [ht]; exact hP, va_K.moved hW.alike hK, hD, by rw [ht]; exact Nat.le_trans hz hS.1⟩⟩, hS.F ht⟩) hS.2.2 d_M_thrown_4
