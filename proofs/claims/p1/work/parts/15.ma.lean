set_option maxHeartbeats 4000000 in
set_option maxRecDepth 100000 in
theorem c_M_fails10 {l : Launch} {D : va_G} {t : Nat → ClassId} {z : Nat} {sa : Nat → Nat} {ws : va_W} {mm mb ms9 mn ml mk9 mq : Nat} (e34 : ws[34]? = some (mm, .inr (6, [.ref mb, .ref ms9, .int 1, .int 1, .ref mn, .ref ml, .ref mk9, .ref mq, .int 0, .int 0, .int 0, .int 0, .int 0, .int 0, .int 4, .int 0, .int 0])))  : Met l y_M_fails (Cond.code y_M_fails b_M_fails 3 (some .boolean) :: WS) ({ frames := 0, cells := 0, slots := 0, locals := 0 }) (Pz D t z sa ws [.ref mm, .int 1, .int 0]) (va_Qi (fun (r : Int32) (u : va_W) => r = 1 ∧ Ch ws u [34] ∧ u[34]? = some (mm, .inr (6, [.ref mb, .ref ms9, .int 1, .int 1, .ref mn, .ref ml, .ref mk9, .ref mq, .int 0, .int 0, .int 0, .int 0, .int 0, .int 0, .int 4, .int 0, .int 1]))) (fun u U => Wd D t z u U) (Az z)) 0 0 (Az z) := by
  refine Met.ofW (cc := b_M_fails) (maxL := 3) (ret := (some .boolean)) (by decide) rfl ?_
  intro p e s m args below meth c s₁ B hml hv
  obtain ⟨rfl, ⟨hP, hK, hD, hz⟩, hM⟩ := hv
  have hx := B.exec
  have hb := B.bytes
  have hr := B.returns
  have hts : ∀ w ∈ WS, w.before [.ref mm, .int 1, .int 0].toArray s = true := fun w h => atoms_spec B.pre w (List.mem_cons_of_mem _ h)
  have hown : s.vm.findClass R_M = some m.cls := findClass_of_methodNamed B.named
  have hlocks := B.notSynchronized
  have hA : ∀ q, s.heap.size ≤ q → Az z q := fun q h => Nat.le_trans hz h
  have hS : va_S (Az z) s.heap s.heap [] := va_S.rf
  have hC : Ch ws ws [] := Ch.rf
  have hl := lv_entry ([.ref mm, .int 1, .int 0]) (n := 3) (Nat.le_of_ble_eq_true rfl)
  rw [lg_entry_eq]
  generalize (lg_sl ([.ref mm, .int 1, .int 0]) ++ List.replicate (3 - (lg_sl ([.ref mm, .int 1, .int 0])).length) Slot.unset).toArray = ls at hl ⊢
  have hl : lv_has ls 3 [(0, .ref mm), (1, .int 1), (2, .int 0)] := hl
  refine lv_aload_n hx hb d_M_fails_0 rfl (lv_at hl 0 rfl) ?_
  refine lv_iload_n hx hb d_M_fails_1 rfl (lv_at hl 1 rfl) ?_
  refine lv_if_eq (tgt := 9) hx hb d_M_fails_2 rfl (fun h => absurd h (by decide)) (fun _ => ?_)
  refine lv_iconst (v := 1) hx hb d_M_fails_5 (by decide) ?_
  refine lv_goto (tgt := 18) hx hb d_M_fails_6 rfl ?_
  refine va_put (D := D) (ci := 6) (v := .int 1) (ty := .int) (C := R_M) (T := F_M) (N := 17) hx hb hts ws_M t_M ok_M n_M hown hK hP hD hS 34 e34 rfl 16 (by decide) (hts _ fl_M_40) (fun _ h9 => h9) rfl (by decide +kernel) rfl rfl (Nat.le_of_ble_eq_true rfl) d_M_fails_18 (fun H locs hP hD hS => ?_)
  obtain ⟨w1, hw⟩ : ∃ q, q = ws.set 34 (mm, .inr (6, [.ref mb, .ref ms9, .int 1, .int 1, .ref mn, .ref ml, .ref mk9, .ref mq, .int 0, .int 0, .int 0, .int 0, .int 0, .int 0, .int 4, .int 0, .int 1])) := ⟨_, rfl⟩
  have hP : va_P D Cl (ws.set 34 (mm, .inr (6, [.ref mb, .ref ms9, .int 1, .int 1, .ref mn, .ref ml, .ref mk9, .ref mq, .int 0, .int 0, .int 0, .int 0, .int 0, .int 0, .int 4, .int 0, .int 1]))) H := hP
  have hD : va_D (Az z) (ws.set 34 (mm, .inr (6, [.ref mb, .ref ms9, .int 1, .int 1, .ref mn, .ref ml, .ref mk9, .ref mq, .int 0, .int 0, .int 0, .int 0, .int 0, .int 0, .int 4, .int 0, .int 1]))) := hD
  rw [← hw] at hP hD
  have hC := hC.put (p := 34) (c := (mm, .inr (6, [.ref mb, .ref ms9, .int 1, .int 1, .ref mn, .ref ml, .ref mk9, .ref mq, .int 0, .int 0, .int 0, .int 0, .int 0, .int 0, .int 4, .int 0, .int 1])))
  rw [← hw] at hC
  have e34 : w1[34]? = some (mm, .inr (6, [.ref mb, .ref ms9, .int 1, .int 1, .ref mn, .ref ml, .ref mk9, .ref mq, .int 0, .int 0, .int 0, .int 0, .int 0, .int 0, .int 4, .int 0, .int 1])) := by rw [hw]; exact lk_set e34
  clear hw
  refine lv_aload_n hx hb d_M_fails_21 rfl (lv_at hl 0 rfl) ?_
  refine va_get (D := D) (ci := 6) (v := .int 1) (C := R_M) (T := F_M) (N := 17) hx hb hts ws_M hown hK hP 34 e34 rfl 16 (by decide) (hts _ fl_M_40) (fun _ h9 => h9) rfl d_M_fails_22 ?_
  refine lv_if_le (tgt := 32) hx hb d_M_fails_25 rfl (fun h => absurd h (by decide)) (fun _ => ?_)
  refine lv_iconst (v := 1) hx hb d_M_fails_28 (by decide) ?_
  refine lv_goto (tgt := 33) hx hb d_M_fails_29 rfl ?_
  exact W.zret (v := 1) (ty := .boolean) hx hb hr rfl (fun t9 ht hW => ⟨⟨1, w1, rfl, ⟨rfl, hC.sub (by decide), e34⟩, ⟨by rw [ht]; exact hP, va_K.moved hW.alike hK, hD, by rw [ht]; exact Nat.le_trans hz hS.1⟩⟩, hS.F ht⟩) hS.2.2 d_M_fails_33
set_option maxHeartbeats 4000000 in
set_option maxRecDepth 100000 in
theorem c_M_fails11 {l : Launch} {D : va_G} {t : Nat → ClassId} {z : Nat} {sa : Nat → Nat} {ws : va_W} {mm mb ms9 mn ml mk9 mq : Nat} (e34 : ws[34]? = some (mm, .inr (6, [.ref mb, .ref ms9, .int 1, .int 1, .ref mn, .ref ml, .ref mk9, .ref mq, .int 0, .int 0, .int 0, .int 0, .int 0, .int 0, .int 4, .int 0, .int 0])))  : Met l y_M_fails (Cond.code y_M_fails b_M_fails 3 (some .boolean) :: WS) ({ frames := 0, cells := 0, slots := 0, locals := 0 }) (Pz D t z sa ws [.ref mm, .int 1, .int 1]) (va_Qi (fun (r : Int32) (u : va_W) => r = 1 ∧ Ch ws u [34] ∧ u[34]? = some (mm, .inr (6, [.ref mb, .ref ms9, .int 1, .int 1, .ref mn, .ref ml, .ref mk9, .ref mq, .int 0, .int 0, .int 0, .int 0, .int 0, .int 0, .int 4, .int 0, .int 1]))) (fun u U => Wd D t z u U) (Az z)) 0 0 (Az z) := by
  refine Met.ofW (cc := b_M_fails) (maxL := 3) (ret := (some .boolean)) (by decide) rfl ?_
  intro p e s m args below meth c s₁ B hml hv
  obtain ⟨rfl, ⟨hP, hK, hD, hz⟩, hM⟩ := hv
  have hx := B.exec
  have hb := B.bytes
  have hr := B.returns
  have hts : ∀ w ∈ WS, w.before [.ref mm, .int 1, .int 1].toArray s = true := fun w h => atoms_spec B.pre w (List.mem_cons_of_mem _ h)
  have hown : s.vm.findClass R_M = some m.cls := findClass_of_methodNamed B.named
  have hlocks := B.notSynchronized
  have hA : ∀ q, s.heap.size ≤ q → Az z q := fun q h => Nat.le_trans hz h
  have hS : va_S (Az z) s.heap s.heap [] := va_S.rf
  have hC : Ch ws ws [] := Ch.rf
  have hl := lv_entry ([.ref mm, .int 1, .int 1]) (n := 3) (Nat.le_of_ble_eq_true rfl)
  rw [lg_entry_eq]
  generalize (lg_sl ([.ref mm, .int 1, .int 1]) ++ List.replicate (3 - (lg_sl ([.ref mm, .int 1, .int 1])).length) Slot.unset).toArray = ls at hl ⊢
  have hl : lv_has ls 3 [(0, .ref mm), (1, .int 1), (2, .int 1)] := hl
  refine lv_aload_n hx hb d_M_fails_0 rfl (lv_at hl 0 rfl) ?_
  refine lv_iload_n hx hb d_M_fails_1 rfl (lv_at hl 1 rfl) ?_
  refine lv_if_eq (tgt := 9) hx hb d_M_fails_2 rfl (fun h => absurd h (by decide)) (fun _ => ?_)
  refine lv_iconst (v := 1) hx hb d_M_fails_5 (by decide) ?_
  refine lv_goto (tgt := 18) hx hb d_M_fails_6 rfl ?_
  refine va_put (D := D) (ci := 6) (v := .int 1) (ty := .int) (C := R_M) (T := F_M) (N := 17) hx hb hts ws_M t_M ok_M n_M hown hK hP hD hS 34 e34 rfl 16 (by decide) (hts _ fl_M_40) (fun _ h9 => h9) rfl (by decide +kernel) rfl rfl (Nat.le_of_ble_eq_true rfl) d_M_fails_18 (fun H locs hP hD hS => ?_)
  obtain ⟨w1, hw⟩ : ∃ q, q = ws.set 34 (mm, .inr (6, [.ref mb, .ref ms9, .int 1, .int 1, .ref mn, .ref ml, .ref mk9, .ref mq, .int 0, .int 0, .int 0, .int 0, .int 0, .int 0, .int 4, .int 0, .int 1])) := ⟨_, rfl⟩
  have hP : va_P D Cl (ws.set 34 (mm, .inr (6, [.ref mb, .ref ms9, .int 1, .int 1, .ref mn, .ref ml, .ref mk9, .ref mq, .int 0, .int 0, .int 0, .int 0, .int 0, .int 0, .int 4, .int 0, .int 1]))) H := hP
  have hD : va_D (Az z) (ws.set 34 (mm, .inr (6, [.ref mb, .ref ms9, .int 1, .int 1, .ref mn, .ref ml, .ref mk9, .ref mq, .int 0, .int 0, .int 0, .int 0, .int 0, .int 0, .int 4, .int 0, .int 1]))) := hD
  rw [← hw] at hP hD
  have hC := hC.put (p := 34) (c := (mm, .inr (6, [.ref mb, .ref ms9, .int 1, .int 1, .ref mn, .ref ml, .ref mk9, .ref mq, .int 0, .int 0, .int 0, .int 0, .int 0, .int 0, .int 4, .int 0, .int 1])))
  rw [← hw] at hC
  have e34 : w1[34]? = some (mm, .inr (6, [.ref mb, .ref ms9, .int 1, .int 1, .ref mn, .ref ml, .ref mk9, .ref mq, .int 0, .int 0, .int 0, .int 0, .int 0, .int 0, .int 4, .int 0, .int 1])) := by rw [hw]; exact lk_set e34
  clear hw
  refine lv_aload_n hx hb d_M_fails_21 rfl (lv_at hl 0 rfl) ?_
  refine va_get (D := D) (ci := 6) (v := .int 1) (C := R_M) (T := F_M) (N := 17) hx hb hts ws_M hown hK hP 34 e34 rfl 16 (by decide) (hts _ fl_M_40) (fun _ h9 => h9) rfl d_M_fails_22 ?_
  refine lv_if_le (tgt := 32) hx hb d_M_fails_25 rfl (fun h => absurd h (by decide)) (fun _ => ?_)
  refine lv_iconst (v := 1) hx hb d_M_fails_28 (by decide) ?_
  refine lv_goto (tgt := 33) hx hb d_M_fails_29 rfl ?_
  exact W.zret (v := 1) (ty := .boolean) hx hb hr rfl (fun t9 ht hW => ⟨⟨1, w1, rfl, ⟨rfl, hC.sub (by decide), e34⟩, ⟨by rw [ht]; exact hP, va_K.moved hW.alike hK, hD, by rw [ht]; exact Nat.le_trans hz hS.1⟩⟩, hS.F ht⟩) hS.2.2 d_M_fails_33
set_option maxHeartbeats 4000000 in
set_option maxRecDepth 100000 in
theorem c_M_fails01 {l : Launch} {D : va_G} {t : Nat → ClassId} {z : Nat} {sa : Nat → Nat} {ws : va_W} {mm mb ms9 mn ml mk9 mq : Nat} (e34 : ws[34]? = some (mm, .inr (6, [.ref mb, .ref ms9, .int 1, .int 1, .ref mn, .ref ml, .ref mk9, .ref mq, .int 0, .int 0, .int 0, .int 0, .int 0, .int 0, .int 4, .int 0, .int 0])))  : Met l y_M_fails (Cond.code y_M_fails b_M_fails 3 (some .boolean) :: WS) ({ frames := 0, cells := 0, slots := 0, locals := 0 }) (Pz D t z sa ws [.ref mm, .int 0, .int 1]) (va_Qi (fun (r : Int32) (u : va_W) => r = 1 ∧ Ch ws u [34] ∧ u[34]? = some (mm, .inr (6, [.ref mb, .ref ms9, .int 1, .int 1, .ref mn, .ref ml, .ref mk9, .ref mq, .int 0, .int 0, .int 0, .int 0, .int 0, .int 0, .int 4, .int 0, .int 2]))) (fun u U => Wd D t z u U) (Az z)) 0 0 (Az z) := by
  refine Met.ofW (cc := b_M_fails) (maxL := 3) (ret := (some .boolean)) (by decide) rfl ?_
  intro p e s m args below meth c s₁ B hml hv
  obtain ⟨rfl, ⟨hP, hK, hD, hz⟩, hM⟩ := hv
  have hx := B.exec
  have hb := B.bytes
  have hr := B.returns
  have hts : ∀ w ∈ WS, w.before [.ref mm, .int 0, .int 1].toArray s = true := fun w h => atoms_spec B.pre w (List.mem_cons_of_mem _ h)
  have hown : s.vm.findClass R_M = some m.cls := findClass_of_methodNamed B.named
  have hlocks := B.notSynchronized
  have hA : ∀ q, s.heap.size ≤ q → Az z q := fun q h => Nat.le_trans hz h
  have hS : va_S (Az z) s.heap s.heap [] := va_S.rf
  have hC : Ch ws ws [] := Ch.rf
  have hl := lv_entry ([.ref mm, .int 0, .int 1]) (n := 3) (Nat.le_of_ble_eq_true rfl)
  rw [lg_entry_eq]
  generalize (lg_sl ([.ref mm, .int 0, .int 1]) ++ List.replicate (3 - (lg_sl ([.ref mm, .int 0, .int 1])).length) Slot.unset).toArray = ls at hl ⊢
  have hl : lv_has ls 3 [(0, .ref mm), (1, .int 0), (2, .int 1)] := hl
  refine lv_aload_n hx hb d_M_fails_0 rfl (lv_at hl 0 rfl) ?_
  refine lv_iload_n hx hb d_M_fails_1 rfl (lv_at hl 1 rfl) ?_
  refine lv_if_eq (tgt := 9) hx hb d_M_fails_2 rfl (fun _ => ?_) (fun h => absurd h (by decide))
  refine lv_iload_n hx hb d_M_fails_9 rfl (lv_at hl 2 rfl) ?_
  refine lv_if_eq (tgt := 17) hx hb d_M_fails_10 rfl (fun h => absurd h (by decide)) (fun _ => ?_)
  refine lv_iconst (v := 2) hx hb d_M_fails_13 (by decide) ?_
  refine lv_goto (tgt := 18) hx hb d_M_fails_14 rfl ?_
  refine va_put (D := D) (ci := 6) (v := .int 2) (ty := .int) (C := R_M) (T := F_M) (N := 17) hx hb hts ws_M t_M ok_M n_M hown hK hP hD hS 34 e34 rfl 16 (by decide) (hts _ fl_M_40) (fun _ h9 => h9) rfl (by decide +kernel) rfl rfl (Nat.le_of_ble_eq_true rfl) d_M_fails_18 (fun H locs hP hD hS => ?_)
  obtain ⟨w1, hw⟩ : ∃ q, q = ws.set 34 (mm, .inr (6, [.ref mb, .ref ms9, .int 1, .int 1, .ref mn, .ref ml, .ref mk9, .ref mq, .int 0, .int 0, .int 0, .int 0, .int 0, .int 0, .int 4, .int 0, .int 2])) := ⟨_, rfl⟩
  have hP : va_P D Cl (ws.set 34 (mm, .inr (6, [.ref mb, .ref ms9, .int 1, .int 1, .ref mn, .ref ml, .ref mk9, .ref mq, .int 0, .int 0, .int 0, .int 0, .int 0, .int 0, .int 4, .int 0, .int 2]))) H := hP
  have hD : va_D (Az z) (ws.set 34 (mm, .inr (6, [.ref mb, .ref ms9, .int 1, .int 1, .ref mn, .ref ml, .ref mk9, .ref mq, .int 0, .int 0, .int 0, .int 0, .int 0, .int 0, .int 4, .int 0, .int 2]))) := hD
  rw [← hw] at hP hD
  have hC := hC.put (p := 34) (c := (mm, .inr (6, [.ref mb, .ref ms9, .int 1, .int 1, .ref mn, .ref ml, .ref mk9, .ref mq, .int 0, .int 0, .int 0, .int 0, .int 0, .int 0, .int 4, .int 0, .int 2])))
  rw [← hw] at hC
  have e34 : w1[34]? = some (mm, .inr (6, [.ref mb, .ref ms9, .int 1, .int 1, .ref mn, .ref ml, .ref mk9, .ref mq, .int 0, .int 0, .int 0, .int 0, .int 0, .int 0, .int 4, .int 0, .int 2])) := by rw [hw]; exact lk_set e34
  clear hw
  refine lv_aload_n hx hb d_M_fails_21 rfl (lv_at hl 0 rfl) ?_
  refine va_get (D := D) (ci := 6) (v := .int 2) (C := R_M) (T := F_M) (N := 17) hx hb hts ws_M hown hK hP 34 e34 rfl 16 (by decide) (hts _ fl_M_40) (fun _ h9 => h9) rfl d_M_fails_22 ?_
  refine lv_if_le (tgt := 32) hx hb d_M_fails_25 rfl (fun h => absurd h (by decide)) (fun _ => ?_)
  refine lv_iconst (v := 1) hx hb d_M_fails_28 (by decide) ?_
  refine lv_goto (tgt := 33) hx hb d_M_fails_29 rfl ?_
  exact W.zret (v := 1) (ty := .boolean) hx hb hr rfl (fun t9 ht hW => ⟨⟨1, w1, rfl, ⟨rfl, hC.sub (by decide), e34⟩, ⟨by rw [ht]; exact hP, va_K.moved hW.alike hK, hD, by rw [ht]; exact Nat.le_trans hz hS.1⟩⟩, hS.F ht⟩) hS.2.2 d_M_fails_33
set_option maxHeartbeats 4000000 in
set_option maxRecDepth 100000 in
theorem c_M_fails00 {l : Launch} {D : va_G} {t : Nat → ClassId} {z : Nat} {sa : Nat → Nat} {ws : va_W} {mm mb ms9 mn ml mk9 mq : Nat} (e34 : ws[34]? = some (mm, .inr (6, [.ref mb, .ref ms9, .int 1, .int 1, .ref mn, .ref ml, .ref mk9, .ref mq, .int 0, .int 0, .int 0, .int 0, .int 0, .int 0, .int 4, .int 0, .int 0])))  : Met l y_M_fails (Cond.code y_M_fails b_M_fails 3 (some .boolean) :: WS) ({ frames := 0, cells := 0, slots := 0, locals := 0 }) (Pz D t z sa ws [.ref mm, .int 0, .int 0]) (va_Qi (fun (r : Int32) (u : va_W) => r = 0 ∧ Ch ws u [34] ∧ u[34]? = some (mm, .inr (6, [.ref mb, .ref ms9, .int 1, .int 1, .ref mn, .ref ml, .ref mk9, .ref mq, .int 0, .int 0, .int 0, .int 0, .int 0, .int 0, .int 4, .int 0, .int 0]))) (fun u U => Wd D t z u U) (Az z)) 0 0 (Az z) := by
  refine Met.ofW (cc := b_M_fails) (maxL := 3) (ret := (some .boolean)) (by decide) rfl ?_
  intro p e s m args below meth c s₁ B hml hv
  obtain ⟨rfl, ⟨hP, hK, hD, hz⟩, hM⟩ := hv
  have hx := B.exec
  have hb := B.bytes
  have hr := B.returns
  have hts : ∀ w ∈ WS, w.before [.ref mm, .int 0, .int 0].toArray s = true := fun w h => atoms_spec B.pre w (List.mem_cons_of_mem _ h)
  have hown : s.vm.findClass R_M = some m.cls := findClass_of_methodNamed B.named
  have hlocks := B.notSynchronized
  have hA : ∀ q, s.heap.size ≤ q → Az z q := fun q h => Nat.le_trans hz h
  have hS : va_S (Az z) s.heap s.heap [] := va_S.rf
  have hC : Ch ws ws [] := Ch.rf
  have hl := lv_entry ([.ref mm, .int 0, .int 0]) (n := 3) (Nat.le_of_ble_eq_true rfl)
  rw [lg_entry_eq]
  generalize (lg_sl ([.ref mm, .int 0, .int 0]) ++ List.replicate (3 - (lg_sl ([.ref mm, .int 0, .int 0])).length) Slot.unset).toArray = ls at hl ⊢
  have hl : lv_has ls 3 [(0, .ref mm), (1, .int 0), (2, .int 0)] := hl
  refine lv_aload_n hx hb d_M_fails_0 rfl (lv_at hl 0 rfl) ?_
  refine lv_iload_n hx hb d_M_fails_1 rfl (lv_at hl 1 rfl) ?_
  refine lv_if_eq (tgt := 9) hx hb d_M_fails_2 rfl (fun _ => ?_) (fun h => absurd h (by decide))
  refine lv_iload_n hx hb d_M_fails_9 rfl (lv_at hl 2 rfl) ?_
  refine lv_if_eq (tgt := 17) hx hb d_M_fails_10 rfl (fun _ => ?_) (fun h => absurd h (by decide))
  refine lv_iconst (v := 0) hx hb d_M_fails_17 (by decide) ?_
  refine va_put (D := D) (ci := 6) (v := .int 0) (ty := .int) (C := R_M) (T := F_M) (N := 17) hx hb hts ws_M t_M ok_M n_M hown hK hP hD hS 34 e34 rfl 16 (by decide) (hts _ fl_M_40) (fun _ h9 => h9) rfl (by decide +kernel) rfl rfl (Nat.le_of_ble_eq_true rfl) d_M_fails_18 (fun H locs hP hD hS => ?_)
  obtain ⟨w1, hw⟩ : ∃ q, q = ws.set 34 (mm, .inr (6, [.ref mb, .ref ms9, .int 1, .int 1, .ref mn, .ref ml, .ref mk9, .ref mq, .int 0, .int 0, .int 0, .int 0, .int 0, .int 0, .int 4, .int 0, .int 0])) := ⟨_, rfl⟩
  have hP : va_P D Cl (ws.set 34 (mm, .inr (6, [.ref mb, .ref ms9, .int 1, .int 1, .ref mn, .ref ml, .ref mk9, .ref mq, .int 0, .int 0, .int 0, .int 0, .int 0, .int 0, .int 4, .int 0, .int 0]))) H := hP
  have hD : va_D (Az z) (ws.set 34 (mm, .inr (6, [.ref mb, .ref ms9, .int 1, .int 1, .ref mn, .ref ml, .ref mk9, .ref mq, .int 0, .int 0, .int 0, .int 0, .int 0, .int 0, .int 4, .int 0, .int 0]))) := hD
  rw [← hw] at hP hD
  have hC := hC.put (p := 34) (c := (mm, .inr (6, [.ref mb, .ref ms9, .int 1, .int 1, .ref mn, .ref ml, .ref mk9, .ref mq, .int 0, .int 0, .int 0, .int 0, .int 0, .int 0, .int 4, .int 0, .int 0])))
  rw [← hw] at hC
  have e34 : w1[34]? = some (mm, .inr (6, [.ref mb, .ref ms9, .int 1, .int 1, .ref mn, .ref ml, .ref mk9, .ref mq, .int 0, .int 0, .int 0, .int 0, .int 0, .int 0, .int 4, .int 0, .int 0])) := by rw [hw]; exact lk_set e34
  clear hw
  refine lv_aload_n hx hb d_M_fails_21 rfl (lv_at hl 0 rfl) ?_
  refine va_get (D := D) (ci := 6) (v := .int 0) (C := R_M) (T := F_M) (N := 17) hx hb hts ws_M hown hK hP 34 e34 rfl 16 (by decide) (hts _ fl_M_40) (fun _ h9 => h9) rfl d_M_fails_22 ?_
  refine lv_if_le (tgt := 32) hx hb d_M_fails_25 rfl (fun _ => ?_) (fun h => absurd h (by decide))
  refine lv_iconst (v := 0) hx hb d_M_fails_32 (by decide) ?_
  exact W.zret (v := 0) (ty := .boolean) hx hb hr rfl (fun t9 ht hW => ⟨⟨0, w1, rfl, ⟨rfl, hC.sub (by decide), e34⟩, ⟨by rw [ht]; exact hP, va_K.moved hW.alike hK, hD, by rw [ht]; exact Nat.le_trans hz hS.1⟩⟩, hS.F ht⟩) hS.2.2 d_M_fails_33
set_option maxHeartbeats 4000000 in
set_option maxRecDepth 100000 in
theorem c_M_isPage {l : Launch} {D : va_G} {t : Nat → ClassId} {z : Nat} {sa : Nat → Nat} {ws : va_W} {mm mb ms9 mn ml mk9 mq : Nat} {pp : Int32} (e34 : ws[34]? = some (mm, .inr (6, [.ref mb, .ref ms9, .int 1, .int 1, .ref mn, .ref ml, .ref mk9, .ref mq, .int 0, .int 0, .int 0, .int 0, .int 0, .int 0, .int 4, .int 0, .int 0])))  : Met l y_M_isPage (Cond.code y_M_isPage b_M_isPage 2 (some .boolean) :: WS) ({ frames := 0, cells := 0, slots := 0, locals := 0 }) (Pz D t z sa ws [.ref mm, .int pp]) (va_Qi (fun (r : Int32) (u : va_W) => r = 0 ∧ u = ws) (fun u U => Wd D t z u U) (Az z)) 0 0 (Az z) := by
  refine Met.ofW (cc := b_M_isPage) (maxL := 2) (ret := (some .boolean)) (by decide) rfl ?_
  intro p e s m args below meth c s₁ B hml hv
  obtain ⟨rfl, ⟨hP, hK, hD, hz⟩, hM⟩ := hv
  have hx := B.exec
  have hb := B.bytes
  have hr := B.returns
  have hts : ∀ w ∈ WS, w.before [.ref mm, .int pp].toArray s = true := fun w h => atoms_spec B.pre w (List.mem_cons_of_mem _ h)
  have hown : s.vm.findClass R_M = some m.cls := findClass_of_methodNamed B.named
  have hlocks := B.notSynchronized
  have hA : ∀ q, s.heap.size ≤ q → Az z q := fun q h => Nat.le_trans hz h
  have hS : va_S (Az z) s.heap s.heap [] := va_S.rf
  have hC : Ch ws ws [] := Ch.rf
  have hl := lv_entry ([.ref mm, .int pp]) (n := 2) (Nat.le_of_ble_eq_true rfl)
  rw [lg_entry_eq]
  generalize (lg_sl ([.ref mm, .int pp]) ++ List.replicate (2 - (lg_sl ([.ref mm, .int pp])).length) Slot.unset).toArray = ls at hl ⊢
  have hl : lv_has ls 2 [(0, .ref mm), (1, .int pp)] := hl
  refine lv_iload_n hx hb d_M_isPage_0 rfl (lv_at hl 1 rfl) ?_
  refine lv_if_lt (tgt := 16) hx hb d_M_isPage_1 rfl (fun q1 => ?_) (fun q1 => ?_)
  · skip
    refine lv_iconst (v := 0) hx hb d_M_isPage_16 (by decide) ?_
    exact W.zret (v := 0) (ty := .boolean) hx hb hr rfl (fun t9 ht hW => ⟨⟨0, ws, rfl, ⟨rfl, rfl⟩, ⟨by rw [ht]; exact hP, va_K.moved hW.alike hK, hD, by rw [ht]; exact Nat.le_trans hz hS.1⟩⟩, hS.F ht⟩) hS.2.2 d_M_isPage_17
  · skip
    refine lv_iload_n hx hb d_M_isPage_4 rfl (lv_at hl 1 rfl) ?_
    refine lv_aload_n hx hb d_M_isPage_5 rfl (lv_at hl 0 rfl) ?_
    refine va_get (D := D) (ci := 6) (v := .int 0) (C := R_M) (T := F_M) (N := 17) hx hb hts ws_M hown hK hP 34 e34 rfl 8 (by decide) (hts _ fl_M_43) (fun _ h9 => h9) rfl d_M_isPage_6 ?_
    refine lv_icmp_ge (tgt := 16) hx hb d_M_isPage_9 rfl (fun _ => ?_) (fun h => absurd (Int32.not_lt.mp q1) h)
    refine lv_iconst (v := 0) hx hb d_M_isPage_16 (by decide) ?_
    exact W.zret (v := 0) (ty := .boolean) hx hb hr rfl (fun t9 ht hW => ⟨⟨0, ws, rfl, ⟨rfl, rfl⟩, ⟨by rw [ht]; exact hP, va_K.moved hW.alike hK, hD, by rw [ht]; exact Nat.le_trans hz hS.1⟩⟩, hS.F ht⟩) hS.2.2 d_M_isPage_17
set_option maxHeartbeats 4000000 in
set_option maxRecDepth 100000 in
theorem c_M_pages {l : Launch} {D : va_G} {t : Nat → ClassId} {z : Nat} {sa : Nat → Nat} {ws : va_W} {mm mb ms9 mn ml mk9 mq : Nat} (e34 : ws[34]? = some (mm, .inr (6, [.ref mb, .ref ms9, .int 1, .int 1, .ref mn, .ref ml, .ref mk9, .ref mq, .int 0, .int 0, .int 0, .int 0, .int 0, .int 0, .int 4, .int 0, .int 0])))  : Met l y_M_pages (Cond.code y_M_pages b_M_pages 1 (some .int) :: WS) ({ frames := 1, cells := 0, slots := 0, locals := 22 }) (Pz D t z sa ws [.ref mm]) (va_Qi (fun (r : Int32) (u : va_W) => r = 0 ∧ Ch ws u [34] ∧ u[34]? = some (mm, .inr (6, [.ref mb, .ref ms9, .int 1, .int 1, .ref mn, .ref ml, .ref mk9, .ref mq, .int 0, .int 0, .int 0, .int 0, .int 0, .int 0, .int 4, .int 0, .int 0]))) (fun u U => Wd D t z u U) (Az z)) 0 0 (Az z) := by
  refine Met.ofW (cc := b_M_pages) (maxL := 1) (ret := (some .int)) (by decide) rfl ?_
  intro p e s m args below meth c s₁ B hml hv
  obtain ⟨rfl, ⟨hP, hK, hD, hz⟩, hM⟩ := hv
  have hx := B.exec
  have hb := B.bytes
  have hr := B.returns
  have hts : ∀ w ∈ WS, w.before [.ref mm].toArray s = true := fun w h => atoms_spec B.pre w (List.mem_cons_of_mem _ h)
  have hown : s.vm.findClass R_M = some m.cls := findClass_of_methodNamed B.named
  have hlocks := B.notSynchronized
  have hA : ∀ q, s.heap.size ≤ q → Az z q := fun q h => Nat.le_trans hz h
  have hS : va_S (Az z) s.heap s.heap [] := va_S.rf
  have hC : Ch ws ws [] := Ch.rf
  have hl := lv_entry ([.ref mm]) (n := 1) (Nat.le_of_ble_eq_true rfl)
  rw [lg_entry_eq]
  generalize (lg_sl ([.ref mm]) ++ List.replicate (1 - (lg_sl ([.ref mm])).length) Slot.unset).toArray = ls at hl ⊢
  have hl : lv_has ls 1 [(0, .ref mm)] := hl
  refine lv_aload_n hx hb d_M_pages_0 rfl (lv_at hl 0 rfl) ?_
  refine lv_aload_n hx hb d_M_pages_1 rfl (lv_at hl 0 rfl) ?_
  refine va_get (D := D) (ci := 6) (v := .int 0) (C := R_M) (T := F_M) (N := 17) hx hb hts ws_M hown hK hP 34 e34 rfl 12 (by decide) (hts _ fl_M_46) (fun _ h9 => h9) rfl d_M_pages_2 ?_
  refine lv_iconst (v := 0) hx hb d_M_pages_5 (by decide) ?_
  refine va_calli (va_runV (As := [.int 0, .int 0]) (rest := []) ⟨hx, hb, hml, hown, hts⟩ (c_M_fails00 (D := D) (t := t) (z := z) (sa := sa) (ws := ws)  e34) (cwV 2 hts (gd_V ml_M_50 im_M_fails se_M_fails in_M cd_M_fails) rfl rfl rfl (by decide +kernel) ⟨Nat.le_of_ble_eq_true rfl, Nat.le_of_ble_eq_true rfl⟩) ⟨Pz_blind, va_recv hK hP (ci := 6) rfl e34, Pz_at hP hK hD hz hM hS⟩ rfl rfl hl.1 rfl (lv_room (Nat.le_of_ble_eq_true rfl)) d_M_pages_6 ⟨Nat.le_of_ble_eq_true rfl, Nat.le_of_ble_eq_true rfl⟩) hS (fun q _ h => h) (fun q h => h) (fun r2 w1 t9 H locs ht hvm hp hB hz1 hk1 hS => ?_)
  obtain ⟨hP, hK9, hD, -⟩ := hB
  rw [ht] at hP
  clear hK9
  obtain ⟨hr9, hC9, kf34⟩ := hp
  subst hr9
  have e34 : w1[34]? = some (mm, .inr (6, [.ref mb, .ref ms9, .int 1, .int 1, .ref mn, .ref ml, .ref mk9, .ref mq, .int 0, .int 0, .int 0, .int 0, .int 0, .int 0, .int 4, .int 0, .int 0])) := kf34
  have hC := hC.trans hC9
  refine lv_if_eq (tgt := 14) hx hb d_M_pages_9 rfl (fun _ => ?_) (fun h => absurd h (by decide))
  refine lv_aload_n hx hb d_M_pages_14 rfl (lv_at hl 0 rfl) ?_
  refine va_get (D := D) (ci := 6) (v := .int 0) (C := R_M) (T := F_M) (N := 17) hx hb hts ws_M hown hK hP 34 e34 rfl 8 (by decide) (hts _ fl_M_43) (fun _ h9 => h9) rfl d_M_pages_15 ?_
  exact W.iret (v := 0) hx hb hr (fun t9 ht hW => ⟨⟨0, w1, rfl, ⟨rfl, hC.sub (by decide), e34⟩, ⟨by rw [ht]; exact hP, va_K.moved hW.alike hK, hD, by rw [ht]; exact Nat.le_trans hz hS.1⟩⟩, hS.F ht⟩) hS.2.2 d_M_pages_18
set_option maxHeartbeats 4000000 in
set_option maxRecDepth 100000 in
theorem c_M_add {l : Launch} {D : va_G} {t : Nat → ClassId} {z : Nat} {sa : Nat → Nat} {ws : va_W} {mm mb ms9 mn ml mk9 mq : Nat} (e34 : ws[34]? = some (mm, .inr (6, [.ref mb, .ref ms9, .int 1, .int 1, .ref mn, .ref ml, .ref mk9, .ref mq, .int 0, .int 0, .int 0, .int 0, .int 0, .int 0, .int 4, .int 0, .int 0])))  : Met l y_M_add (Cond.code y_M_add b_M_add 1 (some .int) :: WS) ({ frames := 1, cells := 0, slots := 0, locals := 22 }) (Pz D t z sa ws [.ref mm]) (va_Qi (fun (r : Int32) (u : va_W) => r = 0 ∧ Ch ws u [34] ∧ u[34]? = some (mm, .inr (6, [.ref mb, .ref ms9, .int 1, .int 1, .ref mn, .ref ml, .ref mk9, .ref mq, .int 0, .int 0, .int 0, .int 0, .int 0, .int 0, .int 4, .int 0, .int 1]))) (fun u U => Wd D t z u U) (Az z)) 0 0 (Az z) := by
  refine Met.ofW (cc := b_M_add) (maxL := 1) (ret := (some .int)) (by decide) rfl ?_
  intro p e s m args below meth c s₁ B hml hv
  obtain ⟨rfl, ⟨hP, hK, hD, hz⟩, hM⟩ := hv
  have hx := B.exec
  have hb := B.bytes
  have hr := B.returns
  have hts : ∀ w ∈ WS, w.before [.ref mm].toArray s = true := fun w h => atoms_spec B.pre w (List.mem_cons_of_mem _ h)
  have hown : s.vm.findClass R_M = some m.cls := findClass_of_methodNamed B.named
  have hlocks := B.notSynchronized
  have hA : ∀ q, s.heap.size ≤ q → Az z q := fun q h => Nat.le_trans hz h
  have hS : va_S (Az z) s.heap s.heap [] := va_S.rf
  have hC : Ch ws ws [] := Ch.rf
  have hl := lv_entry ([.ref mm]) (n := 1) (Nat.le_of_ble_eq_true rfl)
  rw [lg_entry_eq]
  generalize (lg_sl ([.ref mm]) ++ List.replicate (1 - (lg_sl ([.ref mm])).length) Slot.unset).toArray = ls at hl ⊢
  have hl : lv_has ls 1 [(0, .ref mm)] := hl
  refine lv_aload_n hx hb d_M_add_0 rfl (lv_at hl 0 rfl) ?_
  refine lv_aload_n hx hb d_M_add_1 rfl (lv_at hl 0 rfl) ?_
  refine va_get (D := D) (ci := 6) (v := .int 0) (C := R_M) (T := F_M) (N := 17) hx hb hts ws_M hown hK hP 34 e34 rfl 12 (by decide) (hts _ fl_M_46) (fun _ h9 => h9) rfl d_M_add_2 ?_
  refine lv_if_ne (tgt := 25) hx hb d_M_add_5 rfl (fun h => absurd h (by decide)) (fun _ => ?_)
  refine lv_aload_n hx hb d_M_add_8 rfl (lv_at hl 0 rfl) ?_
  refine va_get (D := D) (ci := 6) (v := .int 0) (C := R_M) (T := F_M) (N := 17) hx hb hts ws_M hown hK hP 34 e34 rfl 13 (by decide) (hts _ fl_M_54) (fun _ h9 => h9) rfl d_M_add_9 ?_
  refine lv_if_eq (tgt := 25) hx hb d_M_add_12 rfl (fun _ => ?_) (fun h => absurd h (by decide))
  refine lv_iconst (v := 1) hx hb d_M_add_25 (by decide) ?_
  refine lv_goto (tgt := 30) hx hb d_M_add_26 rfl ?_
  refine lv_iconst (v := 0) hx hb d_M_add_30 (by decide) ?_
  refine va_calli (va_runV (As := [.int 1, .int 0]) (rest := []) ⟨hx, hb, hml, hown, hts⟩ (c_M_fails10 (D := D) (t := t) (z := z) (sa := sa) (ws := ws)  e34) (cwV 2 hts (gd_V ml_M_50 im_M_fails se_M_fails in_M cd_M_fails) rfl rfl rfl (by decide +kernel) ⟨Nat.le_of_ble_eq_true rfl, Nat.le_of_ble_eq_true rfl⟩) ⟨Pz_blind, va_recv hK hP (ci := 6) rfl e34, Pz_at hP hK hD hz hM hS⟩ rfl rfl hl.1 rfl (lv_room (Nat.le_of_ble_eq_true rfl)) d_M_add_31 ⟨Nat.le_of_ble_eq_true rfl, Nat.le_of_ble_eq_true rfl⟩) hS (fun q _ h => h) (fun q h => h) (fun r2 w1 t9 H locs ht hvm hp hB hz1 hk1 hS => ?_)
  obtain ⟨hP, hK9, hD, -⟩ := hB
  rw [ht] at hP
  clear hK9
  obtain ⟨hr9, hC9, kf34⟩ := hp
  subst hr9
  have e34 : w1[34]? = some (mm, .inr (6, [.ref mb, .ref ms9, .int 1, .int 1, .ref mn, .ref ml, .ref mk9, .ref mq, .int 0, .int 0, .int 0, .int 0, .int 0, .int 0, .int 4, .int 0, .int 1])) := kf34
  have hC := hC.trans hC9
  refine lv_if_eq (tgt := 39) hx hb d_M_add_34 rfl (fun h => absurd h (by decide)) (fun _ => ?_)
  refine lv_iconst (v := 0) hx hb d_M_add_37 (by decide) ?_
  exact W.iret (v := 0) hx hb hr (fun t9 ht hW => ⟨⟨0, w1, rfl, ⟨rfl, hC.sub (by decide), e34⟩, ⟨by rw [ht]; exact hP, va_K.moved hW.alike hK, hD, by rw [ht]; exact Nat.le_trans hz hS.1⟩⟩, hS.F ht⟩) hS.2.2 d_M_add_38
set_option maxHeartbeats 4000000 in
set_option maxRecDepth 100000 in
theorem c_M_get {l : Launch} {D : va_G} {t : Nat → ClassId} {z : Nat} {sa : Nat → Nat} {ws : va_W} {mm mb ms9 mn ml mk9 mq : Nat} {a0 a1 : Int32} (e34 : ws[34]? = some (mm, .inr (6, [.ref mb, .ref ms9, .int 1, .int 1, .ref mn, .ref ml, .ref mk9, .ref mq, .int 0, .int 0, .int 0, .int 0, .int 0, .int 0, .int 4, .int 0, .int 0])))  : Met l y_M_get (Cond.code y_M_get b_M_get 3 (some .int) :: WS) ({ frames := 1, cells := 0, slots := 0, locals := 22 }) (Pz D t z sa ws [.ref mm, .int a0, .int a1]) (va_Qi (fun (r : Int32) (u : va_W) => r = 0 ∧ Ch ws u [34] ∧ u[34]? = some (mm, .inr (6, [.ref mb, .ref ms9, .int 1, .int 1, .ref mn, .ref ml, .ref mk9, .ref mq, .int 0, .int 0, .int 0, .int 0, .int 0, .int 0, .int 4, .int 0, .int 2]))) (fun u U => Wd D t z u U) (Az z)) 0 0 (Az z) := by
  refine Met.ofW (cc := b_M_get) (maxL := 3) (ret := (some .int)) (by decide) rfl ?_
  intro p e s m args below meth c s₁ B hml hv
  obtain ⟨rfl, ⟨hP, hK, hD, hz⟩, hM⟩ := hv
  have hx := B.exec
  have hb := B.bytes
  have hr := B.returns
  have hts : ∀ w ∈ WS, w.before [.ref mm, .int a0, .int a1].toArray s = true := fun w h => atoms_spec B.pre w (List.mem_cons_of_mem _ h)
  have hown : s.vm.findClass R_M = some m.cls := findClass_of_methodNamed B.named
  have hlocks := B.notSynchronized
  have hA : ∀ q, s.heap.size ≤ q → Az z q := fun q h => Nat.le_trans hz h
  have hS : va_S (Az z) s.heap s.heap [] := va_S.rf
  have hC : Ch ws ws [] := Ch.rf
  have hl := lv_entry ([.ref mm, .int a0, .int a1]) (n := 3) (Nat.le_of_ble_eq_true rfl)
  rw [lg_entry_eq]
  generalize (lg_sl ([.ref mm, .int a0, .int a1]) ++ List.replicate (3 - (lg_sl ([.ref mm, .int a0, .int a1])).length) Slot.unset).toArray = ls at hl ⊢
  have hl : lv_has ls 3 [(0, .ref mm), (1, .int a0), (2, .int a1)] := hl
  refine lv_aload_n hx hb d_M_get_0 rfl (lv_at hl 0 rfl) ?_
  refine lv_aload_n hx hb d_M_get_1 rfl (lv_at hl 0 rfl) ?_
  refine va_get (D := D) (ci := 6) (v := .int 0) (C := R_M) (T := F_M) (N := 17) hx hb hts ws_M hown hK hP 34 e34 rfl 12 (by decide) (hts _ fl_M_46) (fun _ h9 => h9) rfl d_M_get_2 ?_
  refine lv_aload_n hx hb d_M_get_5 rfl (lv_at hl 0 rfl) ?_
  refine lv_iload_n hx hb d_M_get_6 rfl (lv_at hl 1 rfl) ?_
  refine va_calli (va_runV (As := [.int a0]) (rest := [.int 0, .ref mm]) ⟨hx, hb, hml, hown, hts⟩ (c_M_isPage (D := D) (t := t) (z := z) (sa := sa) (ws := ws) (pp := a0) e34) (cwV 1 hts (gd_V ml_M_57 im_M_isPage se_M_isPage in_M cd_M_isPage) rfl rfl rfl (by decide +kernel) ⟨Nat.le_of_ble_eq_true rfl, Nat.le_of_ble_eq_true rfl⟩) ⟨Pz_blind, va_recv hK hP (ci := 6) rfl e34, Pz_at hP hK hD hz hM hS⟩ rfl rfl hl.1 rfl (lv_room (Nat.le_of_ble_eq_true rfl)) d_M_get_7 ⟨Nat.le_of_ble_eq_true rfl, Nat.le_of_ble_eq_true rfl⟩) hS (fun q _ h => h) (fun q h => h) (fun r2 w1 t9 H locs ht hvm hp hB hz1 hk1 hS => ?_)
  obtain ⟨hP, hK9, hD, -⟩ := hB
  rw [ht] at hP
  clear hK9
  obtain ⟨hr9, hw9⟩ := hp
  rw [hw9] at hP hD
  clear hw9
  subst hr9
  refine lv_if_eq (tgt := 24) hx hb d_M_get_10 rfl (fun _ => ?_) (fun h => absurd h (by decide))
  refine lv_iconst (v := 1) hx hb d_M_get_24 (by decide) ?_
  refine lv_goto (tgt := 29) hx hb d_M_get_25 rfl ?_
  refine va_calli (va_runV (As := [.int 0, .int 1]) (rest := []) ⟨hx, hb, hml, hown, hts⟩ (c_M_fails01 (D := D) (t := t) (z := z) (sa := sa) (ws := ws)  e34) (cwV 2 hts (gd_V ml_M_50 im_M_fails se_M_fails in_M cd_M_fails) rfl rfl rfl (by decide +kernel) ⟨Nat.le_of_ble_eq_true rfl, Nat.le_of_ble_eq_true rfl⟩) ⟨Pz_blind, va_recv hK hP (ci := 6) rfl e34, Pz_at hP hK hD hz hM hS⟩ rfl rfl hl.1 rfl (lv_room (Nat.le_of_ble_eq_true rfl)) d_M_get_29 ⟨Nat.le_of_ble_eq_true rfl, Nat.le_of_ble_eq_true rfl⟩) hS (fun q _ h => h) (fun q h => h) (fun r4 w3 t9 H locs ht hvm hp hB hz1 hk1 hS => ?_)
  obtain ⟨hP, hK9, hD, -⟩ := hB
  rw [ht] at hP
  clear hK9
  obtain ⟨hr9, hC9, kf34⟩ := hp
  subst hr9
  have e34 : w3[34]? = some (mm, .inr (6, [.ref mb, .ref ms9, .int 1, .int 1, .ref mn, .ref ml, .ref mk9, .ref mq, .int 0, .int 0, .int 0, .int 0, .int 0, .int 0, .int 4, .int 0, .int 2])) := kf34
  have hC := hC.trans hC9
  refine lv_if_eq (tgt := 37) hx hb d_M_get_32 rfl (fun h => absurd h (by decide)) (fun _ => ?_)
  refine lv_iconst (v := 0) hx hb d_M_get_35 (by decide) ?_
  exact W.iret (v := 0) hx hb hr (fun t9 ht hW => ⟨⟨0, w3, rfl, ⟨rfl, hC.sub (by decide), e34⟩, ⟨by rw [ht]; exact hP, va_K.moved hW.alike hK, hD, by rw [ht]; exact Nat.le_trans hz hS.1⟩⟩, hS.F ht⟩) hS.2.2 d_M_get_36
set_option maxHeartbeats 4000000 in
set_option maxRecDepth 100000 in
theorem c_M_put {l : Launch} {D : va_G} {t : Nat → ClassId} {z : Nat} {sa : Nat → Nat} {ws : va_W} {mm mb ms9 mn ml mk9 mq : Nat} {a0 a1 a2 : Int32} (e34 : ws[34]? = some (mm, .inr (6, [.ref mb, .ref ms9, .int 1, .int 1, .ref mn, .ref ml, .ref mk9, .ref mq, .int 0, .int 0, .int 0, .int 0, .int 0, .int 0, .int 4, .int 0, .int 0])))  : Met l y_M_put (Cond.code y_M_put b_M_put 5 (some .int) :: WS) ({ frames := 1, cells := 0, slots := 0, locals := 22 }) (Pz D t z sa ws [.ref mm, .int a0, .int a1, .int a2]) (va_Qi (fun (r : Int32) (u : va_W) => r = 0 ∧ Ch ws u [34] ∧ u[34]? = some (mm, .inr (6, [.ref mb, .ref ms9, .int 1, .int 1, .ref mn, .ref ml, .ref mk9, .ref mq, .int 0, .int 0, .int 0, .int 0, .int 0, .int 0, .int 4, .int 0, .int 1]))) (fun u U => Wd D t z u U) (Az z)) 0 0 (Az z) := by
  refine Met.ofW (cc := b_M_put) (maxL := 5) (ret := (some .int)) (by decide) rfl ?_
  intro p e s m args below meth c s₁ B hml hv
  obtain ⟨rfl, ⟨hP, hK, hD, hz⟩, hM⟩ := hv
  have hx := B.exec
  have hb := B.bytes
  have hr := B.returns
  have hts : ∀ w ∈ WS, w.before [.ref mm, .int a0, .int a1, .int a2].toArray s = true := fun w h => atoms_spec B.pre w (List.mem_cons_of_mem _ h)
  have hown : s.vm.findClass R_M = some m.cls := findClass_of_methodNamed B.named
  have hlocks := B.notSynchronized
  have hA : ∀ q, s.heap.size ≤ q → Az z q := fun q h => Nat.le_trans hz h
  have hS : va_S (Az z) s.heap s.heap [] := va_S.rf
  have hC : Ch ws ws [] := Ch.rf
  have hl := lv_entry ([.ref mm, .int a0, .int a1, .int a2]) (n := 5) (Nat.le_of_ble_eq_true rfl)
  rw [lg_entry_eq]
  generalize (lg_sl ([.ref mm, .int a0, .int a1, .int a2]) ++ List.replicate (5 - (lg_sl ([.ref mm, .int a0, .int a1, .int a2])).length) Slot.unset).toArray = ls at hl ⊢
  have hl : lv_has ls 5 [(0, .ref mm), (1, .int a0), (2, .int a1), (3, .int a2)] := hl
  refine lv_aload_n hx hb d_M_put_0 rfl (lv_at hl 0 rfl) ?_
  refine lv_aload_n hx hb d_M_put_1 rfl (lv_at hl 0 rfl) ?_
  refine va_get (D := D) (ci := 6) (v := .int 0) (C := R_M) (T := F_M) (N := 17) hx hb hts ws_M hown hK hP 34 e34 rfl 12 (by decide) (hts _ fl_M_46) (fun _ h9 => h9) rfl d_M_put_2 ?_
  refine lv_if_ne (tgt := 15) hx hb d_M_put_5 rfl (fun h => absurd h (by decide)) (fun _ => ?_)
  refine lv_aload_n hx hb d_M_put_8 rfl (lv_at hl 0 rfl) ?_
  refine va_get (D := D) (ci := 6) (v := .int 0) (C := R_M) (T := F_M) (N := 17) hx hb hts ws_M hown hK hP 34 e34 rfl 13 (by decide) (hts _ fl_M_54) (fun _ h9 => h9) rfl d_M_put_9 ?_
  refine lv_if_ne (tgt := 19) hx hb d_M_put_12 rfl (fun h => absurd h (by decide)) (fun _ => ?_)
  refine lv_iconst (v := 1) hx hb d_M_put_15 (by decide) ?_
  refine lv_goto (tgt := 20) hx hb d_M_put_16 rfl ?_
  refine lv_aload_n hx hb d_M_put_20 rfl (lv_at hl 0 rfl) ?_
  refine lv_iload_n hx hb d_M_put_21 rfl (lv_at hl 1 rfl) ?_
  refine va_calli (va_runV (As := [.int a0]) (rest := [.int 1, .ref mm]) ⟨hx, hb, hml, hown, hts⟩ (c_M_isPage (D := D) (t := t) (z := z) (sa := sa) (ws := ws) (pp := a0) e34) (cwV 1 hts (gd_V ml_M_57 im_M_isPage se_M_isPage in_M cd_M_isPage) rfl rfl rfl (by decide +kernel) ⟨Nat.le_of_ble_eq_true rfl, Nat.le_of_ble_eq_true rfl⟩) ⟨Pz_blind, va_recv hK hP (ci := 6) rfl e34, Pz_at hP hK hD hz hM hS⟩ rfl rfl hl.1 rfl (lv_room (Nat.le_of_ble_eq_true rfl)) d_M_put_22 ⟨Nat.le_of_ble_eq_true rfl, Nat.le_of_ble_eq_true rfl⟩) hS (fun q _ h => h) (fun q h => h) (fun r2 w1 t9 H locs ht hvm hp hB hz1 hk1 hS => ?_)
  obtain ⟨hP, hK9, hD, -⟩ := hB
  rw [ht] at hP
  clear hK9
  obtain ⟨hr9, hw9⟩ := hp
  rw [hw9] at hP hD
  clear hw9
  subst hr9
  refine lv_if_eq (tgt := 39) hx hb d_M_put_25 rfl (fun _ => ?_) (fun h => absurd h (by decide))
  refine lv_iconst (v := 1) hx hb d_M_put_39 (by decide) ?_
  refine lv_goto (tgt := 44) hx hb d_M_put_40 rfl ?_
  refine va_calli (va_runV (As := [.int 1, .int 1]) (rest := []) ⟨hx, hb, hml, hown, hts⟩ (c_M_fails11 (D := D) (t := t) (z := z) (sa := sa) (ws := ws)  e34) (cwV 2 hts (gd_V ml_M_50 im_M_fails se_M_fails in_M cd_M_fails) rfl rfl rfl (by decide +kernel) ⟨Nat.le_of_ble_eq_true rfl, Nat.le_of_ble_eq_true rfl⟩) ⟨Pz_blind, va_recv hK hP (ci := 6) rfl e34, Pz_at hP hK hD hz hM hS⟩ rfl rfl hl.1 rfl (lv_room (Nat.le_of_ble_eq_true rfl)) d_M_put_44 ⟨Nat.le_of_ble_eq_true rfl, Nat.le_of_ble_eq_true rfl⟩) hS (fun q _ h => h) (fun q h => h) (fun r4 w3 t9 H locs ht hvm hp hB hz1 hk1 hS => ?_)
  obtain ⟨hP, hK9, hD, -⟩ := hB
  rw [ht] at hP
  clear hK9
  obtain ⟨hr9, hC9, kf34⟩ := hp
  subst hr9
  have e34 : w3[34]? = some (mm, .inr (6, [.ref mb, .ref ms9, .int 1, .int 1, .ref mn, .ref ml, .ref mk9, .ref mq, .int 0, .int 0, .int 0, .int 0, .int 0, .int 0, .int 4, .int 0, .int 1])) := kf34
  have hC := hC.trans hC9
  refine lv_if_eq (tgt := 52) hx hb d_M_put_47 rfl (fun h => absurd h (by decide)) (fun _ => ?_)
  refine lv_iconst (v := 0) hx hb d_M_put_50 (by decide) ?_
  exact W.iret (v := 0) hx hb hr (fun t9 ht hW => ⟨⟨0, w3, rfl, ⟨rfl, hC.sub (by decide), e34⟩, ⟨by rw [ht]; exact hP, va_K.moved hW.alike hK, hD, by rw [ht]; exact Nat.le_trans hz hS.1⟩⟩, hS.F ht⟩) hS.2.2 d_M_put_51
set_option maxHeartbeats 4000000 in
set_option maxRecDepth 100000 in
theorem c_M_move {l : Launch} {D : va_G} {t : Nat → ClassId} {z : Nat} {sa : Nat → Nat} {ws : va_W} {mm mb ms9 mn ml mk9 mq : Nat} {a0 a1 a2 a3 a4 : Int32} (e34 : ws[34]? = some (mm, .inr (6, [.ref mb, .ref ms9, .int 1, .int 1, .ref mn, .ref ml, .ref mk9, .ref mq, .int 0, .int 0, .int 0, .int 0, .int 0, .int 0, .int 4, .int 0, .int 0])))  : Met l y_M_move (Cond.code y_M_move b_M_move 8 (.none : Option Jvm.ClassFile.FieldType) :: WS) ({ frames := 1, cells := 0, slots := 0, locals := 22 }) (Pz D t z sa ws [.ref mm, .int a0, .int a1, .int a2, .int a3, .int a4]) (va_Qv (fun u : va_W => Ch ws u [34] ∧ u[34]? = some (mm, .inr (6, [.ref mb, .ref ms9, .int 1, .int 1, .ref mn, .ref ml, .ref mk9, .ref mq, .int 0, .int 0, .int 0, .int 0, .int 0, .int 0, .int 4, .int 0, .int 1]))) (fun u U => Wd D t z u U) (Az z)) 0 0 (Az z) := by
  refine Met.ofW (cc := b_M_move) (maxL := 8) (ret := (.none : Option Jvm.ClassFile.FieldType)) (by decide) rfl ?_
  intro p e s m args below meth c s₁ B hml hv
  obtain ⟨rfl, ⟨hP, hK, hD, hz⟩, hM⟩ := hv
  have hx := B.exec
  have hb := B.bytes
  have hr := B.returns
  have hts : ∀ w ∈ WS, w.before [.ref mm, .int a0, .int a1, .int a2, .int a3, .int a4].toArray s = true := fun w h => atoms_spec B.pre w (List.mem_cons_of_mem _ h)
  have hown : s.vm.findClass R_M = some m.cls := findClass_of_methodNamed B.named
  have hlocks := B.notSynchronized
  have hA : ∀ q, s.heap.size ≤ q → Az z q := fun q h => Nat.le_trans hz h
  have hS : va_S (Az z) s.heap s.heap [] := va_S.rf
  have hC : Ch ws ws [] := Ch.rf
  have hl := lv_entry ([.ref mm, .int a0, .int a1, .int a2, .int a3, .int a4]) (n := 8) (Nat.le_of_ble_eq_true rfl)
  rw [lg_entry_eq]
  generalize (lg_sl ([.ref mm, .int a0, .int a1, .int a2, .int a3, .int a4]) ++ List.replicate (8 - (lg_sl ([.ref mm, .int a0, .int a1, .int a2, .int a3, .int a4])).length) Slot.unset).toArray = ls at hl ⊢
  have hl : lv_has ls 8 [(0, .ref mm), (1, .int a0), (2, .int a1), (3, .int a2), (4, .int a3), (5, .int a4)] := hl
  refine lv_aload_n hx hb d_M_move_0 rfl (lv_at hl 0 rfl) ?_
  refine lv_aload_n hx hb d_M_move_1 rfl (lv_at hl 0 rfl) ?_
  refine va_get (D := D) (ci := 6) (v := .int 0) (C := R_M) (T := F_M) (N := 17) hx hb hts ws_M hown hK hP 34 e34 rfl 12 (by decide) (hts _ fl_M_46) (fun _ h9 => h9) rfl d_M_move_2 ?_
  refine lv_if_ne (tgt := 15) hx hb d_M_move_5 rfl (fun h => absurd h (by decide)) (fun _ => ?_)
  refine lv_aload_n hx hb d_M_move_8 rfl (lv_at hl 0 rfl) ?_
  refine va_get (D := D) (ci := 6) (v := .int 0) (C := R_M) (T := F_M) (N := 17) hx hb hts ws_M hown hK hP 34 e34 rfl 13 (by decide) (hts _ fl_M_54) (fun _ h9 => h9) rfl d_M_move_9 ?_
  refine lv_if_ne (tgt := 19) hx hb d_M_move_12 rfl (fun h => absurd h (by decide)) (fun _ => ?_)
  refine lv_iconst (v := 1) hx hb d_M_move_15 (by decide) ?_
  refine lv_goto (tgt := 20) hx hb d_M_move_16 rfl ?_
  refine lv_aload_n hx hb d_M_move_20 rfl (lv_at hl 0 rfl) ?_
  refine lv_iload_n hx hb d_M_move_21 rfl (lv_at hl 1 rfl) ?_
  refine va_calli (va_runV (As := [.int a0]) (rest := [.int 1, .ref mm]) ⟨hx, hb, hml, hown, hts⟩ (c_M_isPage (D := D) (t := t) (z := z) (sa := sa) (ws := ws) (pp := a0) e34) (cwV 1 hts (gd_V ml_M_57 im_M_isPage se_M_isPage in_M cd_M_isPage) rfl rfl rfl (by decide +kernel) ⟨Nat.le_of_ble_eq_true rfl, Nat.le_of_ble_eq_true rfl⟩) ⟨Pz_blind, va_recv hK hP (ci := 6) rfl e34, Pz_at hP hK hD hz hM hS⟩ rfl rfl hl.1 rfl (lv_room (Nat.le_of_ble_eq_true rfl)) d_M_move_22 ⟨Nat.le_of_ble_eq_true rfl, Nat.le_of_ble_eq_true rfl⟩) hS (fun q _ h => h) (fun q h => h) (fun r2 w1 t9 H locs ht hvm hp hB hz1 hk1 hS => ?_)
  obtain ⟨hP, hK9, hD, -⟩ := hB
  rw [ht] at hP
  clear hK9
  obtain ⟨hr9, hw9⟩ := hp
  rw [hw9] at hP hD
  clear hw9
  subst hr9
  refine lv_if_eq (tgt := 55) hx hb d_M_move_25 rfl (fun _ => ?_) (fun h => absurd h (by decide))
  refine lv_iconst (v := 1) hx hb d_M_move_55 (by decide) ?_
  refine lv_goto (tgt := 60) hx hb d_M_move_56 rfl ?_
  refine va_calli (va_runV (As := [.int 1, .int 1]) (rest := []) ⟨hx, hb, hml, hown, hts⟩ (c_M_fails11 (D := D) (t := t) (z := z) (sa := sa) (ws := ws)  e34) (cwV 2 hts (gd_V ml_M_50 im_M_fails se_M_fails in_M cd_M_fails) rfl rfl rfl (by decide +kernel) ⟨Nat.le_of_ble_eq_true rfl, Nat.le_of_ble_eq_true rfl⟩) ⟨Pz_blind, va_recv hK hP (ci := 6) rfl e34, Pz_at hP hK hD hz hM hS⟩ rfl rfl hl.1 rfl (lv_room (Nat.le_of_ble_eq_true rfl)) d_M_move_60 ⟨Nat.le_of_ble_eq_true rfl, Nat.le_of_ble_eq_true rfl⟩) hS (fun q _ h => h) (fun q h => h) (fun r4 w3 t9 H locs ht hvm hp hB hz1 hk1 hS => ?_)
  obtain ⟨hP, hK9, hD, -⟩ := hB
  rw [ht] at hP
  clear hK9
  obtain ⟨hr9, hC9, kf34⟩ := hp
  subst hr9
  have e34 : w3[34]? = some (mm, .inr (6, [.ref mb, .ref ms9, .int 1, .int 1, .ref mn, .ref ml, .ref mk9, .ref mq, .int 0, .int 0, .int 0, .int 0, .int 0, .int 0, .int 4, .int 0, .int 1])) := kf34
  have hC := hC.trans hC9
  refine lv_if_eq (tgt := 67) hx hb d_M_move_63 rfl (fun h => absurd h (by decide)) (fun _ => ?_)
  exact W.vret hx hb hr (fun t9 ht hW => ⟨⟨w3, rfl, ⟨hC.sub (by decide), e34⟩, ⟨by rw [ht]; exact hP, va_K.moved hW.alike hK, hD, by rw [ht]; exact Nat.le_trans hz hS.1⟩⟩, hS.F ht⟩) hS.2.2 d_M_move_66
set_option maxHeartbeats 4000000 in
set_option maxRecDepth 100000 in
theorem c_M_sum {l : Launch} {D : va_G} {t : Nat → ClassId} {z : Nat} {sa : Nat → Nat} {ws : va_W} {mm mb ms9 mn ml mk9 mq : Nat} {a0 : Int32} (e34 : ws[34]? = some (mm, .inr (6, [.ref mb, .ref ms9, .int 1, .int 1, .ref mn, .ref ml, .ref mk9, .ref mq, .int 0, .int 0, .int 0, .int 0, .int 0, .int 0, .int 4, .int 0, .int 0])))  : Met l y_M_sum (Cond.code y_M_sum b_M_sum 5 (some .long) :: WS) ({ frames := 1, cells := 0, slots := 0, locals := 22 }) (Pz D t z sa ws [.ref mm, .int a0]) (va_Ql (fun (r : Int64) (u : va_W) => r = 0 ∧ Ch ws u [34] ∧ u[34]? = some (mm, .inr (6, [.ref mb, .ref ms9, .int 1, .int 1, .ref mn, .ref ml, .ref mk9, .ref mq, .int 0, .int 0, .int 0, .int 0, .int 0, .int 0, .int 4, .int 0, .int 2]))) (fun u U => Wd D t z u U) (Az z)) 0 0 (Az z) := by
  refine Met.ofW (cc := b_M_sum) (maxL := 5) (ret := (some .long)) (by decide) rfl ?_
  intro p e s m args below meth c s₁ B hml hv
  obtain ⟨rfl, ⟨hP, hK, hD, hz⟩, hM⟩ := hv
  have hx := B.exec
  have hb := B.bytes
  have hr := B.returns
  have hts : ∀ w ∈ WS, w.before [.ref mm, .int a0].toArray s = true := fun w h => atoms_spec B.pre w (List.mem_cons_of_mem _ h)
  have hown : s.vm.findClass R_M = some m.cls := findClass_of_methodNamed B.named
  have hlocks := B.notSynchronized
  have hA : ∀ q, s.heap.size ≤ q → Az z q := fun q h => Nat.le_trans hz h
  have hS : va_S (Az z) s.heap s.heap [] := va_S.rf
  have hC : Ch ws ws [] := Ch.rf
  have hl := lv_entry ([.ref mm, .int a0]) (n := 5) (Nat.le_of_ble_eq_true rfl)
  rw [lg_entry_eq]
  generalize (lg_sl ([.ref mm, .int a0]) ++ List.replicate (5 - (lg_sl ([.ref mm, .int a0])).length) Slot.unset).toArray = ls at hl ⊢
  have hl : lv_has ls 5 [(0, .ref mm), (1, .int a0)] := hl
  refine lv_aload_n hx hb d_M_sum_0 rfl (lv_at hl 0 rfl) ?_
  refine lv_aload_n hx hb d_M_sum_1 rfl (lv_at hl 0 rfl) ?_
  refine va_get (D := D) (ci := 6) (v := .int 0) (C := R_M) (T := F_M) (N := 17) hx hb hts ws_M hown hK hP 34 e34 rfl 12 (by decide) (hts _ fl_M_46) (fun _ h9 => h9) rfl d_M_sum_2 ?_
  refine lv_aload_n hx hb d_M_sum_5 rfl (lv_at hl 0 rfl) ?_
  refine lv_iload_n hx hb d_M_sum_6 rfl (lv_at hl 1 rfl) ?_
  refine va_calli (va_runV (As := [.int a0]) (rest := [.int 0, .ref mm]) ⟨hx, hb, hml, hown, hts⟩ (c_M_isPage (D := D) (t := t) (z := z) (sa := sa) (ws := ws) (pp := a0) e34) (cwV 1 hts (gd_V ml_M_57 im_M_isPage se_M_isPage in_M cd_M_isPage) rfl rfl rfl (by decide +kernel) ⟨Nat.le_of_ble_eq_true rfl, Nat.le_of_ble_eq_true rfl⟩) ⟨Pz_blind, va_recv hK hP (ci := 6) rfl e34, Pz_at hP hK hD hz hM hS⟩ rfl rfl hl.1 rfl (lv_room (Nat.le_of_ble_eq_true rfl)) d_M_sum_7 ⟨Nat.le_of_ble_eq_true rfl, Nat.le_of_ble_eq_true rfl⟩) hS (fun q _ h => h) (fun q h => h) (fun r2 w1 t9 H locs ht hvm hp hB hz1 hk1 hS => ?_)
  obtain ⟨hP, hK9, hD, -⟩ := hB
  rw [ht] at hP
  clear hK9
  obtain ⟨hr9, hw9⟩ := hp
  rw [hw9] at hP hD
  clear hw9
  subst hr9
  refine lv_if_ne (tgt := 17) hx hb d_M_sum_10 rfl (fun h => absurd h (by decide)) (fun _ => ?_)
  refine lv_iconst (v := 1) hx hb d_M_sum_13 (by decide) ?_
  refine lv_goto (tgt := 18) hx hb d_M_sum_14 rfl ?_
  refine va_calli (va_runV (As := [.int 0, .int 1]) (rest := []) ⟨hx, hb, hml, hown, hts⟩ (c_M_fails01 (D := D) (t := t) (z := z) (sa := sa) (ws := ws)  e34) (cwV 2 hts (gd_V ml_M_50 im_M_fails se_M_fails in_M cd_M_fails) rfl rfl rfl (by decide +kernel) ⟨Nat.le_of_ble_eq_true rfl, Nat.le_of_ble_eq_true rfl⟩) ⟨Pz_blind, va_recv hK hP (ci := 6) rfl e34, Pz_at hP hK hD hz hM hS⟩ rfl rfl hl.1 rfl (lv_room (Nat.le_of_ble_eq_true rfl)) d_M_sum_18 ⟨Nat.le_of_ble_eq_true rfl, Nat.le_of_ble_eq_true rfl⟩) hS (fun q _ h => h) (fun q h => h) (fun r4 w3 t9 H locs ht hvm hp hB hz1 hk1 hS => ?_)
  obtain ⟨hP, hK9, hD, -⟩ := hB
  rw [ht] at hP
  clear hK9
  obtain ⟨hr9, hC9, kf34⟩ := hp
  subst hr9
  have e34 : w3[34]? = some (mm, .inr (6, [.ref mb, .ref ms9, .int 1, .int 1, .ref mn, .ref ml, .ref mk9, .ref mq, .int 0, .int 0, .int 0, .int 0, .int 0, .int 0, .int 4, .int 0, .int 2])) := kf34
  have hC := hC.trans hC9
  refine lv_if_eq (tgt := 26) hx hb d_M_sum_21 rfl (fun h => absurd h (by decide)) (fun _ => ?_)
  refine lv_lconst (v := 0) hx hb d_M_sum_24 (by decide) ?_
  exact W.lret (v := 0) hx hb hr (fun t9 ht hW => ⟨⟨0, w3, rfl, ⟨rfl, hC.sub (by decide), e34⟩, ⟨by rw [ht]; exact hP, va_K.moved hW.alike hK, hD, by rw [ht]; exact Nat.le_trans hz hS.1⟩⟩, hS.F ht⟩) hS.2.2 d_M_sum_25
set_option maxHeartbeats 4000000 in
set_option maxRecDepth 100000 in
theorem c_M_begin {l : Launch} {D : va_G} {t : Nat → ClassId} {z : Nat} {sa : Nat → Nat} {ws : va_W} {mm mb ms9 mn ml mk9 mq : Nat} (e34 : ws[34]? = some (mm, .inr (6, [.ref mb, .ref ms9, .int 1, .int 1, .ref mn, .ref ml, .ref mk9, .ref mq, .int 0, .int 0, .int 0, .int 0, .int 0, .int 0, .int 4, .int 0, .int 0])))  : Met l y_M_begin (Cond.code y_M_begin b_M_begin 1 (.none : Option Jvm.ClassFile.FieldType) :: WS) ({ frames := 1, cells := 0, slots := 0, locals := 22 }) (Pz D t z sa ws [.ref mm]) (va_Qv (fun u : va_W => Ch ws u [34] ∧ u[34]? = some (mm, .inr (6, [.ref mb, .ref ms9, .int 1, .int 2, .ref mn, .ref ml, .ref mk9, .ref mq, .int 0, .int 0, .int 0, .int 0, .int 0, .int 1, .int 4, .int 0, .int 0]))) (fun u U => Wd D t z u U) (Az z)) 0 0 (Az z) := by
  refine Met.ofW (cc := b_M_begin) (maxL := 1) (ret := (.none : Option Jvm.ClassFile.FieldType)) (by decide) rfl ?_
  intro p e s m args below meth c s₁ B hml hv
  obtain ⟨rfl, ⟨hP, hK, hD, hz⟩, hM⟩ := hv
  have hx := B.exec
  have hb := B.bytes
  have hr := B.returns
  have hts : ∀ w ∈ WS, w.before [.ref mm].toArray s = true := fun w h => atoms_spec B.pre w (List.mem_cons_of_mem _ h)
  have hown : s.vm.findClass R_M = some m.cls := findClass_of_methodNamed B.named
  have hlocks := B.notSynchronized
  have hA : ∀ q, s.heap.size ≤ q → Az z q := fun q h => Nat.le_trans hz h
  have hS : va_S (Az z) s.heap s.heap [] := va_S.rf
  have hC : Ch ws ws [] := Ch.rf
  have hl := lv_entry ([.ref mm]) (n := 1) (Nat.le_of_ble_eq_true rfl)
  rw [lg_entry_eq]
  generalize (lg_sl ([.ref mm]) ++ List.replicate (1 - (lg_sl ([.ref mm])).length) Slot.unset).toArray = ls at hl ⊢
  have hl : lv_has ls 1 [(0, .ref mm)] := hl
  refine lv_aload_n hx hb d_M_begin_0 rfl (lv_at hl 0 rfl) ?_
  refine lv_aload_n hx hb d_M_begin_1 rfl (lv_at hl 0 rfl) ?_
  refine va_get (D := D) (ci := 6) (v := .int 0) (C := R_M) (T := F_M) (N := 17) hx hb hts ws_M hown hK hP 34 e34 rfl 12 (by decide) (hts _ fl_M_46) (fun _ h9 => h9) rfl d_M_begin_2 ?_
  refine lv_if_ne (tgt := 15) hx hb d_M_begin_5 rfl (fun h => absurd h (by decide)) (fun _ => ?_)
  refine lv_aload_n hx hb d_M_begin_8 rfl (lv_at hl 0 rfl) ?_
  refine va_get (D := D) (ci := 6) (v := .int 0) (C := R_M) (T := F_M) (N := 17) hx hb hts ws_M hown hK hP 34 e34 rfl 13 (by decide) (hts _ fl_M_54) (fun _ h9 => h9) rfl d_M_begin_9 ?_
  refine lv_if_eq (tgt := 19) hx hb d_M_begin_12 rfl (fun _ => ?_) (fun h => absurd h (by decide))
  refine lv_iconst (v := 0) hx hb d_M_begin_19 (by decide) ?_
  refine lv_iconst (v := 0) hx hb d_M_begin_20 (by decide) ?_
  refine va_calli (va_runV (As := [.int 0, .int 0]) (rest := []) ⟨hx, hb, hml, hown, hts⟩ (c_M_fails00 (D := D) (t := t) (z := z) (sa := sa) (ws := ws)  e34) (cwV 2 hts (gd_V ml_M_50 im_M_fails se_M_fails in_M cd_M_fails) rfl rfl rfl (by decide +kernel) ⟨Nat.le_of_ble_eq_true rfl, Nat.le_of_ble_eq_true rfl⟩) ⟨Pz_blind, va_recv hK hP (ci := 6) rfl e34, Pz_at hP hK hD hz hM hS⟩ rfl rfl hl.1 rfl (lv_room (Nat.le_of_ble_eq_true rfl)) d_M_begin_21 ⟨Nat.le_of_ble_eq_true rfl, Nat.le_of_ble_eq_true rfl⟩) hS (fun q _ h => h) (fun q h => h) (fun r2 w1 t9 H locs ht hvm hp hB hz1 hk1 hS => ?_)
  obtain ⟨hP, hK9, hD, -⟩ := hB
  rw [ht] at hP
  clear hK9
  obtain ⟨hr9, hC9, kf34⟩ := hp
  subst hr9
  have e34 : w1[34]? = some (mm, .inr (6, [.ref mb, .ref ms9, .int 1, .int 1, .ref mn, .ref ml, .ref mk9, .ref mq, .int 0, .int 0, .int 0, .int 0, .int 0, .int 0, .int 4, .int 0, .int 0])) := kf34
  have hC := hC.trans hC9
  refine lv_if_eq (tgt := 28) hx hb d_M_begin_24 rfl (fun _ => ?_) (fun h => absurd h (by decide))
  refine lv_aload_n hx hb d_M_begin_28 rfl (lv_at hl 0 rfl) ?_
  refine lv_iconst (v := 1) hx hb d_M_begin_29 (by decide) ?_
  refine va_put (D := D) (ci := 6) (v := .int 1) (ty := .boolean) (C := R_M) (T := F_M) (N := 17) hx hb hts ws_M t_M ok_M n_M hown hK hP hD hS 34 e34 rfl 13 (by decide) (hts _ fl_M_54) (fun _ h9 => h9) rfl (by decide +kernel) rfl rfl (Nat.le_of_ble_eq_true rfl) d_M_begin_30 (fun H locs hP hD hS => ?_)
  obtain ⟨w3, hw⟩ : ∃ q, q = w1.set 34 (mm, .inr (6, [.ref mb, .ref ms9, .int 1, .int 1, .ref mn, .ref ml, .ref mk9, .ref mq, .int 0, .int 0, .int 0, .int 0, .int 0, .int 1, .int 4, .int 0, .int 0])) := ⟨_, rfl⟩
  have hP : va_P D Cl (w1.set 34 (mm, .inr (6, [.ref mb, .ref ms9, .int 1, .int 1, .ref mn, .ref ml, .ref mk9, .ref mq, .int 0, .int 0, .int 0, .int 0, .int 0, .int 1, .int 4, .int 0, .int 0]))) H := hP
  have hD : va_D (Az z) (w1.set 34 (mm, .inr (6, [.ref mb, .ref ms9, .int 1, .int 1, .ref mn, .ref ml, .ref mk9, .ref mq, .int 0, .int 0, .int 0, .int 0, .int 0, .int 1, .int 4, .int 0, .int 0]))) := hD
  rw [← hw] at hP hD
  have hC := hC.put (p := 34) (c := (mm, .inr (6, [.ref mb, .ref ms9, .int 1, .int 1, .ref mn, .ref ml, .ref mk9, .ref mq, .int 0, .int 0, .int 0, .int 0, .int 0, .int 1, .int 4, .int 0, .int 0])))
  rw [← hw] at hC
  have e34 : w3[34]? = some (mm, .inr (6, [.ref mb, .ref ms9, .int 1, .int 1, .ref mn, .ref ml, .ref mk9, .ref mq, .int 0, .int 0, .int 0, .int 0, .int 0, .int 1, .int 4, .int 0, .int 0])) := by rw [hw]; exact lk_set e34
  clear hw
  refine lv_aload_n hx hb d_M_begin_33 rfl (lv_at hl 0 rfl) ?_
  refine lv_iconst (v := 0) hx hb d_M_begin_34 (by decide) ?_
  refine va_put (D := D) (ci := 6) (v := .int 0) (ty := .int) (C := R_M) (T := F_M) (N := 17) hx hb hts ws_M t_M ok_M n_M hown hK hP hD hS 34 e34 rfl 10 (by decide) (hts _ fl_M_77) (fun _ h9 => h9) rfl (by decide +kernel) rfl rfl (Nat.le_of_ble_eq_true rfl) d_M_begin_35 (fun H locs hP hD hS => ?_)
  obtain ⟨w4, hw⟩ : ∃ q, q = w3.set 34 (mm, .inr (6, [.ref mb, .ref ms9, .int 1, .int 1, .ref mn, .ref ml, .ref mk9, .ref mq, .int 0, .int 0, .int 0, .int 0, .int 0, .int 1, .int 4, .int 0, .int 0])) := ⟨_, rfl⟩
  have hP : va_P D Cl (w3.set 34 (mm, .inr (6, [.ref mb, .ref ms9, .int 1, .int 1, .ref mn, .ref ml, .ref mk9, .ref mq, .int 0, .int 0, .int 0, .int 0, .int 0, .int 1, .int 4, .int 0, .int 0]))) H := hP
  have hD : va_D (Az z) (w3.set 34 (mm, .inr (6, [.ref mb, .ref ms9, .int 1, .int 1, .ref mn, .ref ml, .ref mk9, .ref mq, .int 0, .int 0, .int 0, .int 0, .int 0, .int 1, .int 4, .int 0, .int 0]))) := hD
  rw [← hw] at hP hD
  have hC := hC.put (p := 34) (c := (mm, .inr (6, [.ref mb, .ref ms9, .int 1, .int 1, .ref mn, .ref ml, .ref mk9, .ref mq, .int 0, .int 0, .int 0, .int 0, .int 0, .int 1, .int 4, .int 0, .int 0])))
  rw [← hw] at hC
  have e34 : w4[34]? = some (mm, .inr (6, [.ref mb, .ref ms9, .int 1, .int 1, .ref mn, .ref ml, .ref mk9, .ref mq, .int 0, .int 0, .int 0, .int 0, .int 0, .int 1, .int 4, .int 0, .int 0])) := by rw [hw]; exact lk_set e34
  clear hw
  refine lv_aload_n hx hb d_M_begin_38 rfl (lv_at hl 0 rfl) ?_
  refine lv_dup hx hb d_M_begin_39 rfl ?_
  refine va_get (D := D) (ci := 6) (v := .int 1) (C := R_M) (T := F_M) (N := 17) hx hb hts ws_M hown hK hP 34 e34 rfl 3 (by decide) (hts _ fl_M_22) (fun _ h9 => h9) rfl d_M_begin_40 ?_
  refine lv_iconst (v := 1) hx hb d_M_begin_43 (by decide) ?_
  refine lv_iadd hx hb d_M_begin_44 ?_
  refine lv_topi (fun v5 hv5 => ?_)
  have hv5 : v5 = 2 := hv5.trans (by decide)
  subst hv5
  refine va_put (D := D) (ci := 6) (v := .int 2) (ty := .int) (C := R_M) (T := F_M) (N := 17) hx hb hts ws_M t_M ok_M n_M hown hK hP hD hS 34 e34 rfl 3 (by decide) (hts _ fl_M_22) (fun _ h9 => h9) rfl (by decide +kernel) rfl rfl (Nat.le_of_ble_eq_true rfl) d_M_begin_45 (fun H locs hP hD hS => ?_)
  obtain ⟨w6, hw⟩ : ∃ q, q = w4.set 34 (mm, .inr (6, [.ref mb, .ref ms9, .int 1, .int 2, .ref mn, .ref ml, .ref mk9, .ref mq, .int 0, .int 0, .int 0, .int 0, .int 0, .int 1, .int 4, .int 0, .int 0])) := ⟨_, rfl⟩
  have hP : va_P D Cl (w4.set 34 (mm, .inr (6, [.ref mb, .ref ms9, .int 1, .int 2, .ref mn, .ref ml, .ref mk9, .ref mq, .int 0, .int 0, .int 0, .int 0, .int 0, .int 1, .int 4, .int 0, .int 0]))) H := hP
  have hD : va_D (Az z) (w4.set 34 (mm, .inr (6, [.ref mb, .ref ms9, .int 1, .int 2, .ref mn, .ref ml, .ref mk9, .ref mq, .int 0, .int 0, .int 0, .int 0, .int 0, .int 1, .int 4, .int 0, .int 0]))) := hD
  rw [← hw] at hP hD
  have hC := hC.put (p := 34) (c := (mm, .inr (6, [.ref mb, .ref ms9, .int 1, .int 2, .ref mn, .ref ml, .ref mk9, .ref mq, .int 0, .int 0, .int 0, .int 0, .int 0, .int 1, .int 4, .int 0, .int 0])))
  rw [← hw] at hC
  have e34 : w6[34]? = some (mm, .inr (6, [.ref mb, .ref ms9, .int 1, .int 2, .ref mn, .ref ml, .ref mk9, .ref mq, .int 0, .int 0, .int 0, .int 0, .int 0, .int 1, .int 4, .int 0, .int 0])) := by rw [hw]; exact lk_set e34
  clear hw
  exact W.vret hx hb hr (fun t9 ht hW => ⟨⟨w6, rfl, ⟨hC.sub (by decide), e34⟩, ⟨by rw [ht]; exact hP, va_K.moved hW.alike hK, hD, by rw [ht]; exact Nat.le_trans hz hS.1⟩⟩, hS.F ht⟩) hS.2.2 d_M_begin_48
set_option maxHeartbeats 4000000 in
set_option maxRecDepth 100000 in
theorem c_M_commit {l : Launch} {D : va_G} {t : Nat → ClassId} {z : Nat} {sa : Nat → Nat} {ws : va_W} {mm mb ms9 mn ml mk9 mq : Nat} (e34 : ws[34]? = some (mm, .inr (6, [.ref mb, .ref ms9, .int 1, .int 1, .ref mn, .ref ml, .ref mk9, .ref mq, .int 0, .int 0, .int 0, .int 0, .int 0, .int 0, .int 4, .int 0, .int 0])))  : Met l y_M_commit (Cond.code y_M_commit b_M_commit 2 (.none : Option Jvm.ClassFile.FieldType) :: WS) ({ frames := 1, cells := 0, slots := 0, locals := 22 }) (Pz D t z sa ws [.ref mm]) (va_Qv (fun u : va_W => Ch ws u [34] ∧ u[34]? = some (mm, .inr (6, [.ref mb, .ref ms9, .int 1, .int 1, .ref mn, .ref ml, .ref mk9, .ref mq, .int 0, .int 0, .int 0, .int 0, .int 0, .int 0, .int 4, .int 0, .int 1]))) (fun u U => Wd D t z u U) (Az z)) 0 0 (Az z) := by
  refine Met.ofW (cc := b_M_commit) (maxL := 2) (ret := (.none : Option Jvm.ClassFile.FieldType)) (by decide) rfl ?_
  intro p e s m args below meth c s₁ B hml hv
  obtain ⟨rfl, ⟨hP, hK, hD, hz⟩, hM⟩ := hv
  have hx := B.exec
  have hb := B.bytes
  have hr := B.returns
  have hts : ∀ w ∈ WS, w.before [.ref mm].toArray s = true := fun w h => atoms_spec B.pre w (List.mem_cons_of_mem _ h)
  have hown : s.vm.findClass R_M = some m.cls := findClass_of_methodNamed B.named
  have hlocks := B.notSynchronized
  have hA : ∀ q, s.heap.size ≤ q → Az z q := fun q h => Nat.le_trans hz h
  have hS : va_S (Az z) s.heap s.heap [] := va_S.rf
  have hC : Ch ws ws [] := Ch.rf
  have hl := lv_entry ([.ref mm]) (n := 2) (Nat.le_of_ble_eq_true rfl)
  rw [lg_entry_eq]
  generalize (lg_sl ([.ref mm]) ++ List.replicate (2 - (lg_sl ([.ref mm])).length) Slot.unset).toArray = ls at hl ⊢
  have hl : lv_has ls 2 [(0, .ref mm)] := hl
  refine lv_aload_n hx hb d_M_commit_0 rfl (lv_at hl 0 rfl) ?_
  refine lv_aload_n hx hb d_M_commit_1 rfl (lv_at hl 0 rfl) ?_
  refine va_get (D := D) (ci := 6) (v := .int 0) (C := R_M) (T := F_M) (N := 17) hx hb hts ws_M hown hK hP 34 e34 rfl 12 (by decide) (hts _ fl_M_46) (fun _ h9 => h9) rfl d_M_commit_2 ?_
  refine lv_if_ne (tgt := 15) hx hb d_M_commit_5 rfl (fun h => absurd h (by decide)) (fun _ => ?_)
  refine lv_aload_n hx hb d_M_commit_8 rfl (lv_at hl 0 rfl) ?_
  refine va_get (D := D) (ci := 6) (v := .int 0) (C := R_M) (T := F_M) (N := 17) hx hb hts ws_M hown hK hP 34 e34 rfl 13 (by decide) (hts _ fl_M_54) (fun _ h9 => h9) rfl d_M_commit_9 ?_
  refine lv_if_ne (tgt := 19) hx hb d_M_commit_12 rfl (fun h => absurd h (by decide)) (fun _ => ?_)
  refine lv_iconst (v := 1) hx hb d_M_commit_15 (by decide) ?_
  refine lv_goto (tgt := 20) hx hb d_M_commit_16 rfl ?_
  refine lv_iconst (v := 0) hx hb d_M_commit_20 (by decide) ?_
  refine va_calli (va_runV (As := [.int 1, .int 0]) (rest := []) ⟨hx, hb, hml, hown, hts⟩ (c_M_fails10 (D := D) (t := t) (z := z) (sa := sa) (ws := ws)  e34) (cwV 2 hts (gd_V ml_M_50 im_M_fails se_M_fails in_M cd_M_fails) rfl rfl rfl (by decide +kernel) ⟨Nat.le_of_ble_eq_true rfl, Nat.le_of_ble_eq_true rfl⟩) ⟨Pz_blind, va_recv hK hP (ci := 6) rfl e34, Pz_at hP hK hD hz hM hS⟩ rfl rfl hl.1 rfl (lv_room (Nat.le_of_ble_eq_true rfl)) d_M_commit_21 ⟨Nat.le_of_ble_eq_true rfl, Nat.le_of_ble_eq_true rfl⟩) hS (fun q _ h => h) (fun q h => h) (fun r2 w1 t9 H locs ht hvm hp hB hz1 hk1 hS => ?_)
  obtain ⟨hP, hK9, hD, -⟩ := hB
  rw [ht] at hP
  clear hK9
  obtain ⟨hr9, hC9, kf34⟩ := hp
  subst hr9
  have e34 : w1[34]? = some (mm, .inr (6, [.ref mb, .ref ms9, .int 1, .int 1, .ref mn, .ref ml, .ref mk9, .ref mq, .int 0, .int 0, .int 0, .int 0, .int 0, .int 0, .int 4, .int 0, .int 1])) := kf34
  have hC := hC.trans hC9
  refine lv_if_eq (tgt := 28) hx hb d_M_commit_24 rfl (fun h => absurd h (by decide)) (fun _ => ?_)
  exact W.vret hx hb hr (fun t9 ht hW => ⟨⟨w1, rfl, ⟨hC.sub (by decide), e34⟩, ⟨by rw [ht]; exact hP, va_K.moved hW.alike hK, hD, by rw [ht]; exact Nat.le_trans hz hS.1⟩⟩, hS.F ht⟩) hS.2.2 d_M_commit_27
set_option maxHeartbeats 4000000 in
set_option maxRecDepth 100000 in
theorem c_M_rollback {l : Launch} {D : va_G} {t : Nat → ClassId} {z : Nat} {sa : Nat → Nat} {ws : va_W} {mm mb ms9 mn ml mk9 mq : Nat} (e34 : ws[34]? = some (mm, .inr (6, [.ref mb, .ref ms9, .int 1, .int 1, .ref mn, .ref ml, .ref mk9, .ref mq, .int 0, .int 0, .int 0, .int 0, .int 0, .int 0, .int 4, .int 0, .int 0])))  : Met l y_M_rollback (Cond.code y_M_rollback b_M_rollback 1 (.none : Option Jvm.ClassFile.FieldType) :: WS) ({ frames := 1, cells := 0, slots := 0, locals := 22 }) (Pz D t z sa ws [.ref mm]) (va_Qv (fun u : va_W => Ch ws u [34] ∧ u[34]? = some (mm, .inr (6, [.ref mb, .ref ms9, .int 1, .int 1, .ref mn, .ref ml, .ref mk9, .ref mq, .int 0, .int 0, .int 0, .int 0, .int 0, .int 0, .int 4, .int 0, .int 1]))) (fun u U => Wd D t z u U) (Az z)) 0 0 (Az z) := by
  refine Met.ofW (cc := b_M_rollback) (maxL := 1) (ret := (.none : Option Jvm.ClassFile.FieldType)) (by decide) rfl ?_
  intro p e s m args below meth c s₁ B hml hv
  obtain ⟨rfl, ⟨hP, hK, hD, hz⟩, hM⟩ := hv
  have hx := B.exec
  have hb := B.bytes
  have hr := B.returns
  have hts : ∀ w ∈ WS, w.before [.ref mm].toArray s = true := fun w h => atoms_spec B.pre w (List.mem_cons_of_mem _ h)
  have hown : s.vm.findClass R_M = some m.cls := findClass_of_methodNamed B.named
  have hlocks := B.notSynchronized
  have hA : ∀ q, s.heap.size ≤ q → Az z q := fun q h => Nat.le_trans hz h
  have hS : va_S (Az z) s.heap s.heap [] := va_S.rf
  have hC : Ch ws ws [] := Ch.rf
  have hl := lv_entry ([.ref mm]) (n := 1) (Nat.le_of_ble_eq_true rfl)
  rw [lg_entry_eq]
  generalize (lg_sl ([.ref mm]) ++ List.replicate (1 - (lg_sl ([.ref mm])).length) Slot.unset).toArray = ls at hl ⊢
  have hl : lv_has ls 1 [(0, .ref mm)] := hl
  refine lv_aload_n hx hb d_M_rollback_0 rfl (lv_at hl 0 rfl) ?_
  refine lv_aload_n hx hb d_M_rollback_1 rfl (lv_at hl 0 rfl) ?_
  refine va_get (D := D) (ci := 6) (v := .int 0) (C := R_M) (T := F_M) (N := 17) hx hb hts ws_M hown hK hP 34 e34 rfl 12 (by decide) (hts _ fl_M_46) (fun _ h9 => h9) rfl d_M_rollback_2 ?_
  refine lv_if_ne (tgt := 15) hx hb d_M_rollback_5 rfl (fun h => absurd h (by decide)) (fun _ => ?_)
  refine lv_aload_n hx hb d_M_rollback_8 rfl (lv_at hl 0 rfl) ?_
  refine va_get (D := D) (ci := 6) (v := .int 0) (C := R_M) (T := F_M) (N := 17) hx hb hts ws_M hown hK hP 34 e34 rfl 13 (by decide) (hts _ fl_M_54) (fun _ h9 => h9) rfl d_M_rollback_9 ?_
  refine lv_if_ne (tgt := 19) hx hb d_M_rollback_12 rfl (fun h => absurd h (by decide)) (fun _ => ?_)
  refine lv_iconst (v := 1) hx hb d_M_rollback_15 (by decide) ?_
  refine lv_goto (tgt := 20) hx hb d_M_rollback_16 rfl ?_
  refine lv_iconst (v := 0) hx hb d_M_rollback_20 (by decide) ?_
  refine va_calli (va_runV (As := [.int 1, .int 0]) (rest := []) ⟨hx, hb, hml, hown, hts⟩ (c_M_fails10 (D := D) (t := t) (z := z) (sa := sa) (ws := ws)  e34) (cwV 2 hts (gd_V ml_M_50 im_M_fails se_M_fails in_M cd_M_fails) rfl rfl rfl (by decide +kernel) ⟨Nat.le_of_ble_eq_true rfl, Nat.le_of_ble_eq_true rfl⟩) ⟨Pz_blind, va_recv hK hP (ci := 6) rfl e34, Pz_at hP hK hD hz hM hS⟩ rfl rfl hl.1 rfl (lv_room (Nat.le_of_ble_eq_true rfl)) d_M_rollback_21 ⟨Nat.le_of_ble_eq_true rfl, Nat.le_of_ble_eq_true rfl⟩) hS (fun q _ h => h) (fun q h => h) (fun r2 w1 t9 H locs ht hvm hp hB hz1 hk1 hS => ?_)
  obtain ⟨hP, hK9, hD, -⟩ := hB
  rw [ht] at hP
  clear hK9
  obtain ⟨hr9, hC9, kf34⟩ := hp
  subst hr9
  have e34 : w1[34]? = some (mm, .inr (6, [.ref mb, .ref ms9, .int 1, .int 1, .ref mn, .ref ml, .ref mk9, .ref mq, .int 0, .int 0, .int 0, .int 0, .int 0, .int 0, .int 4, .int 0, .int 1])) := kf34
  have hC := hC.trans hC9
  refine lv_if_eq (tgt := 28) hx hb d_M_rollback_24 rfl (fun h => absurd h (by decide)) (fun _ => ?_)
  exact W.vret hx hb hr (fun t9 ht hW => ⟨⟨w1, rfl, ⟨hC.sub (by decide), e34⟩, ⟨by rw [ht]; exact hP, va_K.moved hW.alike hK, hD, by rw [ht]; exact Nat.le_trans hz hS.1⟩⟩, hS.F ht⟩) hS.2.2 d_M_rollback_27
set_option maxHeartbeats 4000000 in
set_option maxRecDepth 100000 in
theorem c_M_mark {l : Launch} {D : va_G} {t : Nat → ClassId} {z : Nat} {sa : Nat → Nat} {ws : va_W} {mm mb ms9 mn ml mk9 mq : Nat} (e34 : ws[34]? = some (mm, .inr (6, [.ref mb, .ref ms9, .int 1, .int 1, .ref mn, .ref ml, .ref mk9, .ref mq, .int 0, .int 0, .int 0, .int 0, .int 0, .int 0, .int 4, .int 0, .int 0])))  : Met l y_M_mark (Cond.code y_M_mark b_M_mark 2 (some .int) :: WS) ({ frames := 1, cells := 0, slots := 0, locals := 22 }) (Pz D t z sa ws [.ref mm]) (va_Qi (fun (r : Int32) (u : va_W) => r = 0 ∧ Ch ws u [34] ∧ u[34]? = some (mm, .inr (6, [.ref mb, .ref ms9, .int 1, .int 1, .ref mn, .ref ml, .ref mk9, .ref mq, .int 0, .int 0, .int 0, .int 0, .int 0, .int 0, .int 4, .int 0, .int 1]))) (fun u U => Wd D t z u U) (Az z)) 0 0 (Az z) := by
  refine Met.ofW (cc := b_M_mark) (maxL := 2) (ret := (some .int)) (by decide) rfl ?_
  intro p e s m args below meth c s₁ B hml hv
  obtain ⟨rfl, ⟨hP, hK, hD, hz⟩, hM⟩ := hv
  have hx := B.exec
  have hb := B.bytes
  have hr := B.returns
  have hts : ∀ w ∈ WS, w.before [.ref mm].toArray s = true := fun w h => atoms_spec B.pre w (List.mem_cons_of_mem _ h)
  have hown : s.vm.findClass R_M = some m.cls := findClass_of_methodNamed B.named
  have hlocks := B.notSynchronized
  have hA : ∀ q, s.heap.size ≤ q → Az z q := fun q h => Nat.le_trans hz h
  have hS : va_S (Az z) s.heap s.heap [] := va_S.rf
  have hC : Ch ws ws [] := Ch.rf
  have hl := lv_entry ([.ref mm]) (n := 2) (Nat.le_of_ble_eq_true rfl)
  rw [lg_entry_eq]
  generalize (lg_sl ([.ref mm]) ++ List.replicate (2 - (lg_sl ([.ref mm])).length) Slot.unset).toArray = ls at hl ⊢
  have hl : lv_has ls 2 [(0, .ref mm)] := hl
  refine lv_aload_n hx hb d_M_mark_0 rfl (lv_at hl 0 rfl) ?_
  refine lv_aload_n hx hb d_M_mark_1 rfl (lv_at hl 0 rfl) ?_
  refine va_get (D := D) (ci := 6) (v := .int 0) (C := R_M) (T := F_M) (N := 17) hx hb hts ws_M hown hK hP 34 e34 rfl 12 (by decide) (hts _ fl_M_46) (fun _ h9 => h9) rfl d_M_mark_2 ?_
  refine lv_if_ne (tgt := 23) hx hb d_M_mark_5 rfl (fun h => absurd h (by decide)) (fun _ => ?_)
  refine lv_aload_n hx hb d_M_mark_8 rfl (lv_at hl 0 rfl) ?_
  refine va_get (D := D) (ci := 6) (v := .int 0) (C := R_M) (T := F_M) (N := 17) hx hb hts ws_M hown hK hP 34 e34 rfl 13 (by decide) (hts _ fl_M_54) (fun _ h9 => h9) rfl d_M_mark_9 ?_
  refine lv_if_eq (tgt := 23) hx hb d_M_mark_12 rfl (fun _ => ?_) (fun h => absurd h (by decide))
  refine lv_iconst (v := 1) hx hb d_M_mark_23 (by decide) ?_
  refine lv_goto (tgt := 28) hx hb d_M_mark_24 rfl ?_
  refine lv_iconst (v := 0) hx hb d_M_mark_28 (by decide) ?_
  refine va_calli (va_runV (As := [.int 1, .int 0]) (rest := []) ⟨hx, hb, hml, hown, hts⟩ (c_M_fails10 (D := D) (t := t) (z := z) (sa := sa) (ws := ws)  e34) (cwV 2 hts (gd_V ml_M_50 im_M_fails se_M_fails in_M cd_M_fails) rfl rfl rfl (by decide +kernel) ⟨Nat.le_of_ble_eq_true rfl, Nat.le_of_ble_eq_true rfl⟩) ⟨Pz_blind, va_recv hK hP (ci := 6) rfl e34, Pz_at hP hK hD hz hM hS⟩ rfl rfl hl.1 rfl (lv_room (Nat.le_of_ble_eq_true rfl)) d_M_mark_29 ⟨Nat.le_of_ble_eq_true rfl, Nat.le_of_ble_eq_true rfl⟩) hS (fun q _ h => h) (fun q h => h) (fun r2 w1 t9 H locs ht hvm hp hB hz1 hk1 hS => ?_)
  obtain ⟨hP, hK9, hD, -⟩ := hB
  rw [ht] at hP
  clear hK9
  obtain ⟨hr9, hC9, kf34⟩ := hp
  subst hr9
  have e34 : w1[34]? = some (mm, .inr (6, [.ref mb, .ref ms9, .int 1, .int 1, .ref mn, .ref ml, .ref mk9, .ref mq, .int 0, .int 0, .int 0, .int 0, .int 0, .int 0, .int 4, .int 0, .int 1])) := kf34
  have hC := hC.trans hC9
  refine lv_if_eq (tgt := 37) hx hb d_M_mark_32 rfl (fun h => absurd h (by decide)) (fun _ => ?_)
  refine lv_iconst (v := 0) hx hb d_M_mark_35 (by decide) ?_
  exact W.iret (v := 0) hx hb hr (fun t9 ht hW => ⟨⟨0, w1, rfl, ⟨rfl, hC.sub (by decide), e34⟩, ⟨by rw [ht]; exact hP, va_K.moved hW.alike hK, hD, by rw [ht]; exact Nat.le_trans hz hS.1⟩⟩, hS.F ht⟩) hS.2.2 d_M_mark_36
set_option maxHeartbeats 4000000 in
set_option maxRecDepth 100000 in
theorem c_M_back {l : Launch} {D : va_G} {t : Nat → ClassId} {z : Nat} {sa : Nat → Nat} {ws : va_W} {mm mb ms9 mn ml mk9 mq : Nat} {a0 : Int32} (e34 : ws[34]? = some (mm, .inr (6, [.ref mb, .ref ms9, .int 1, .int 1, .ref mn, .ref ml, .ref mk9, .ref mq, .int 0, .int 0, .int 0, .int 0, .int 0, .int 0, .int 4, .int 0, .int 0])))  : Met l y_M_back (Cond.code y_M_back b_M_back 3 (.none : Option Jvm.ClassFile.FieldType) :: WS) ({ frames := 1, cells := 0, slots := 0, locals := 22 }) (Pz D t z sa ws [.ref mm, .int a0]) (va_Qv (fun u : va_W => Ch ws u [34] ∧ u[34]? = some (mm, .inr (6, [.ref mb, .ref ms9, .int 1, .int 1, .ref mn, .ref ml, .ref mk9, .ref mq, .int 0, .int 0, .int 0, .int 0, .int 0, .int 0, .int 4, .int 0, .int 1]))) (fun u U => Wd D t z u U) (Az z)) 0 0 (Az z) := by
  refine Met.ofW (cc := b_M_back) (maxL := 3) (ret := (.none : Option Jvm.ClassFile.FieldType)) (by decide) rfl ?_
  intro p e s m args below meth c s₁ B hml hv
  obtain ⟨rfl, ⟨hP, hK, hD, hz⟩, hM⟩ := hv
  have hx := B.exec
  have hb := B.bytes
  have hr := B.returns
  have hts : ∀ w ∈ WS, w.before [.ref mm, .int a0].toArray s = true := fun w h => atoms_spec B.pre w (List.mem_cons_of_mem _ h)
  have hown : s.vm.findClass R_M = some m.cls := findClass_of_methodNamed B.named
  have hlocks := B.notSynchronized
  have hA : ∀ q, s.heap.size ≤ q → Az z q := fun q h => Nat.le_trans hz h
  have hS : va_S (Az z) s.heap s.heap [] := va_S.rf
  have hC : Ch ws ws [] := Ch.rf
  have hl := lv_entry ([.ref mm, .int a0]) (n := 3) (Nat.le_of_ble_eq_true rfl)
  rw [lg_entry_eq]
  generalize (lg_sl ([.ref mm, .int a0]) ++ List.replicate (3 - (lg_sl ([.ref mm, .int a0])).length) Slot.unset).toArray = ls at hl ⊢
  have hl : lv_has ls 3 [(0, .ref mm), (1, .int a0)] := hl
  refine lv_aload_n hx hb d_M_back_0 rfl (lv_at hl 0 rfl) ?_
  refine lv_aload_n hx hb d_M_back_1 rfl (lv_at hl 0 rfl) ?_
  refine va_get (D := D) (ci := 6) (v := .int 0) (C := R_M) (T := F_M) (N := 17) hx hb hts ws_M hown hK hP 34 e34 rfl 12 (by decide) (hts _ fl_M_46) (fun _ h9 => h9) rfl d_M_back_2 ?_
  refine lv_if_ne (tgt := 15) hx hb d_M_back_5 rfl (fun h => absurd h (by decide)) (fun _ => ?_)
  refine lv_aload_n hx hb d_M_back_8 rfl (lv_at hl 0 rfl) ?_
  refine va_get (D := D) (ci := 6) (v := .int 0) (C := R_M) (T := F_M) (N := 17) hx hb hts ws_M hown hK hP 34 e34 rfl 13 (by decide) (hts _ fl_M_54) (fun _ h9 => h9) rfl d_M_back_9 ?_
  refine lv_if_ne (tgt := 19) hx hb d_M_back_12 rfl (fun h => absurd h (by decide)) (fun _ => ?_)
  refine lv_iconst (v := 1) hx hb d_M_back_15 (by decide) ?_
  refine lv_goto (tgt := 20) hx hb d_M_back_16 rfl ?_
  refine lv_iload_n hx hb d_M_back_20 rfl (lv_at hl 1 rfl) ?_
  refine lv_iconst (v := 1) hx hb d_M_back_21 (by decide) ?_
  refine lv_icmp_lt (tgt := 33) hx hb d_M_back_22 rfl (fun q1 => ?_) (fun q1 => ?_)
  · skip
    refine lv_iconst (v := 1) hx hb d_M_back_33 (by decide) ?_
    refine lv_goto (tgt := 38) hx hb d_M_back_34 rfl ?_
    refine va_calli (va_runV (As := [.int 1, .int 1]) (rest := []) ⟨hx, hb, hml, hown, hts⟩ (c_M_fails11 (D := D) (t := t) (z := z) (sa := sa) (ws := ws)  e34) (cwV 2 hts (gd_V ml_M_50 im_M_fails se_M_fails in_M cd_M_fails) rfl rfl rfl (by decide +kernel) ⟨Nat.le_of_ble_eq_true rfl, Nat.le_of_ble_eq_true rfl⟩) ⟨Pz_blind, va_recv hK hP (ci := 6) rfl e34, Pz_at hP hK hD hz hM hS⟩ rfl rfl hl.1 rfl (lv_room (Nat.le_of_ble_eq_true rfl)) d_M_back_38 ⟨Nat.le_of_ble_eq_true rfl, Nat.le_of_ble_eq_true rfl⟩) hS (fun q _ h => h) (fun q h => h) (fun r3 w2 t9 H locs ht hvm hp hB hz1 hk1 hS => ?_)
    obtain ⟨hP, hK9, hD, -⟩ := hB
    rw [ht] at hP
    clear hK9
    obtain ⟨hr9, hC9, kf34⟩ := hp
    subst hr9
    have e34 : w2[34]? = some (mm, .inr (6, [.ref mb, .ref ms9, .int 1, .int 1, .ref mn, .ref ml, .ref mk9, .ref mq, .int 0, .int 0, .int 0, .int 0, .int 0, .int 0, .int 4, .int 0, .int 1])) := kf34
    have hC := hC.trans hC9
    refine lv_if_eq (tgt := 45) hx hb d_M_back_41 rfl (fun h => absurd h (by decide)) (fun _ => ?_)
    exact W.vret hx hb hr (fun t9 ht hW => ⟨⟨w2, rfl, ⟨hC.sub (by decide), e34⟩, ⟨by rw [ht]; exact hP, va_K.moved hW.alike hK, hD, by rw [ht]; exact Nat.le_trans hz hS.1⟩⟩, hS.F ht⟩) hS.2.2 d_M_back_44
  · skip
    refine lv_iload_n hx hb d_M_back_25 rfl (lv_at hl 1 rfl) ?_
    refine lv_aload_n hx hb d_M_back_26 rfl (lv_at hl 0 rfl) ?_
    refine va_get (D := D) (ci := 6) (v := .int 0) (C := R_M) (T := F_M) (N := 17) hx hb hts ws_M hown hK hP 34 e34 rfl 10 (by decide) (hts _ fl_M_77) (fun _ h9 => h9) rfl d_M_back_27 ?_
    refine lv_icmp_le (tgt := 37) hx hb d_M_back_30 rfl (fun q4 => ?_) (fun q4 => ?_)
    · skip
      refine lv_iconst (v := 0) hx hb d_M_back_37 (by decide) ?_
      refine va_calli (va_runV (As := [.int 1, .int 0]) (rest := []) ⟨hx, hb, hml, hown, hts⟩ (c_M_fails10 (D := D) (t := t) (z := z) (sa := sa) (ws := ws)  e34) (cwV 2 hts (gd_V ml_M_50 im_M_fails se_M_fails in_M cd_M_fails) rfl rfl rfl (by decide +kernel) ⟨Nat.le_of_ble_eq_true rfl, Nat.le_of_ble_eq_true rfl⟩) ⟨Pz_blind, va_recv hK hP (ci := 6) rfl e34, Pz_at hP hK hD hz hM hS⟩ rfl rfl hl.1 rfl (lv_room (Nat.le_of_ble_eq_true rfl)) d_M_back_38 ⟨Nat.le_of_ble_eq_true rfl, Nat.le_of_ble_eq_true rfl⟩) hS (fun q _ h => h) (fun q h => h) (fun r6 w5 t9 H locs ht hvm hp hB hz1 hk1 hS => ?_)
      obtain ⟨hP, hK9, hD, -⟩ := hB
      rw [ht] at hP
      clear hK9
      obtain ⟨hr9, hC9, kf34⟩ := hp
      subst hr9
      have e34 : w5[34]? = some (mm, .inr (6, [.ref mb, .ref ms9, .int 1, .int 1, .ref mn, .ref ml, .ref mk9, .ref mq, .int 0, .int 0, .int 0, .int 0, .int 0, .int 0, .int 4, .int 0, .int 1])) := kf34
      have hC := hC.trans hC9
      refine lv_if_eq (tgt := 45) hx hb d_M_back_41 rfl (fun h => absurd h (by decide)) (fun _ => ?_)
      exact W.vret hx hb hr (fun t9 ht hW => ⟨⟨w5, rfl, ⟨hC.sub (by decide), e34⟩, ⟨by rw [ht]; exact hP, va_K.moved hW.alike hK, hD, by rw [ht]; exact Nat.le_trans hz hS.1⟩⟩, hS.F ht⟩) hS.2.2 d_M_back_44
    · skip
      refine lv_iconst (v := 1) hx hb d_M_back_33 (by decide) ?_
      refine lv_goto (tgt := 38) hx hb d_M_back_34 rfl ?_
      refine va_calli (va_runV (As := [.int 1, .int 1]) (rest := []) ⟨hx, hb, hml, hown, hts⟩ (c_M_fails11 (D := D) (t := t) (z := z) (sa := sa) (ws := ws)  e34) (cwV 2 hts (gd_V ml_M_50 im_M_fails se_M_fails in_M cd_M_fails) rfl rfl rfl (by decide +kernel) ⟨Nat.le_of_ble_eq_true rfl, Nat.le_of_ble_eq_true rfl⟩) ⟨Pz_blind, va_recv hK hP (ci := 6) rfl e34, Pz_at hP hK hD hz hM hS⟩ rfl rfl hl.1 rfl (lv_room (Nat.le_of_ble_eq_true rfl)) d_M_back_38 ⟨Nat.le_of_ble_eq_true rfl, Nat.le_of_ble_eq_true rfl⟩) hS (fun q _ h => h) (fun q h => h) (fun r8 w7 t9 H locs ht hvm hp hB hz1 hk1 hS => ?_)
      obtain ⟨hP, hK9, hD, -⟩ := hB
      rw [ht] at hP
      clear hK9
      obtain ⟨hr9, hC9, kf34⟩ := hp
      subst hr9
      have e34 : w7[34]? = some (mm, .inr (6, [.ref mb, .ref ms9, .int 1, .int 1, .ref mn, .ref ml, .ref mk9, .ref mq, .int 0, .int 0, .int 0, .int 0, .int 0, .int 0, .int 4, .int 0, .int 1])) := kf34
      have hC := hC.trans hC9
      refine lv_if_eq (tgt := 45) hx hb d_M_back_41 rfl (fun h => absurd h (by decide)) (fun _ => ?_)
      exact W.vret hx hb hr (fun t9 ht hW => ⟨⟨w7, rfl, ⟨hC.sub (by decide), e34⟩, ⟨by rw [ht]; exact hP, va_K.moved hW.alike hK, hD, by rw [ht]; exact Nat.le_trans hz hS.1⟩⟩, hS.F ht⟩) hS.2.2 d_M_back_44
set_option maxHeartbeats 4000000 in
set_option maxRecDepth 100000 in
theorem c_M_keep {l : Launch} {D : va_G} {t : Nat → ClassId} {z : Nat} {sa : Nat → Nat} {ws : va_W} {mm mb ms9 mn ml mk9 mq : Nat} {a0 : Int32} (e34 : ws[34]? = some (mm, .inr (6, [.ref mb, .ref ms9, .int 1, .int 1, .ref mn, .ref ml, .ref mk9, .ref mq, .int 0, .int 0, .int 0, .int 0, .int 0, .int 0, .int 4, .int 0, .int 0])))  : Met l y_M_keep (Cond.code y_M_keep b_M_keep 2 (.none : Option Jvm.ClassFile.FieldType) :: WS) ({ frames := 1, cells := 0, slots := 0, locals := 22 }) (Pz D t z sa ws [.ref mm, .int a0]) (va_Qv (fun u : va_W => Ch ws u [34] ∧ u[34]? = some (mm, .inr (6, [.ref mb, .ref ms9, .int 1, .int 1, .ref mn, .ref ml, .ref mk9, .ref mq, .int 0, .int 0, .int 0, .int 0, .int 0, .int 0, .int 4, .int 0, .int 1]))) (fun u U => Wd D t z u U) (Az z)) 0 0 (Az z) := by
  refine Met.ofW (cc := b_M_keep) (maxL := 2) (ret := (.none : Option Jvm.ClassFile.FieldType)) (by decide) rfl ?_
  intro p e s m args below meth c s₁ B hml hv
  obtain ⟨rfl, ⟨hP, hK, hD, hz⟩, hM⟩ := hv
  have hx := B.exec
  have hb := B.bytes
  have hr := B.returns
  have hts : ∀ w ∈ WS, w.before [.ref mm, .int a0].toArray s = true := fun w h => atoms_spec B.pre w (List.mem_cons_of_mem _ h)
  have hown : s.vm.findClass R_M = some m.cls := findClass_of_methodNamed B.named
  have hlocks := B.notSynchronized
  have hA : ∀ q, s.heap.size ≤ q → Az z q := fun q h => Nat.le_trans hz h
  have hS : va_S (Az z) s.heap s.heap [] := va_S.rf
  have hC : Ch ws ws [] := Ch.rf
  have hl := lv_entry ([.ref mm, .int a0]) (n := 2) (Nat.le_of_ble_eq_true rfl)
  rw [lg_entry_eq]
  generalize (lg_sl ([.ref mm, .int a0]) ++ List.replicate (2 - (lg_sl ([.ref mm, .int a0])).length) Slot.unset).toArray = ls at hl ⊢
  have hl : lv_has ls 2 [(0, .ref mm), (1, .int a0)] := hl
  refine lv_aload_n hx hb d_M_keep_0 rfl (lv_at hl 0 rfl) ?_
  refine lv_aload_n hx hb d_M_keep_1 rfl (lv_at hl 0 rfl) ?_
  refine va_get (D := D) (ci := 6) (v := .int 0) (C := R_M) (T := F_M) (N := 17) hx hb hts ws_M hown hK hP 34 e34 rfl 12 (by decide) (hts _ fl_M_46) (fun _ h9 => h9) rfl d_M_keep_2 ?_
  refine lv_if_ne (tgt := 15) hx hb d_M_keep_5 rfl (fun h => absurd h (by decide)) (fun _ => ?_)
  refine lv_aload_n hx hb d_M_keep_8 rfl (lv_at hl 0 rfl) ?_
  refine va_get (D := D) (ci := 6) (v := .int 0) (C := R_M) (T := F_M) (N := 17) hx hb hts ws_M hown hK hP 34 e34 rfl 13 (by decide) (hts _ fl_M_54) (fun _ h9 => h9) rfl d_M_keep_9 ?_
  refine lv_if_ne (tgt := 19) hx hb d_M_keep_12 rfl (fun h => absurd h (by decide)) (fun _ => ?_)
  refine lv_iconst (v := 1) hx hb d_M_keep_15 (by decide) ?_
  refine lv_goto (tgt := 20) hx hb d_M_keep_16 rfl ?_
  refine lv_iload_n hx hb d_M_keep_20 rfl (lv_at hl 1 rfl) ?_
  refine lv_iconst (v := 1) hx hb d_M_keep_21 (by decide) ?_
  refine lv_icmp_lt (tgt := 33) hx hb d_M_keep_22 rfl (fun q1 => ?_) (fun q1 => ?_)
  · skip
    refine lv_iconst (v := 1) hx hb d_M_keep_33 (by decide) ?_
    refine lv_goto (tgt := 38) hx hb d_M_keep_34 rfl ?_
    refine va_calli (va_runV (As := [.int 1, .int 1]) (rest := []) ⟨hx, hb, hml, hown, hts⟩ (c_M_fails11 (D := D) (t := t) (z := z) (sa := sa) (ws := ws)  e34) (cwV 2 hts (gd_V ml_M_50 im_M_fails se_M_fails in_M cd_M_fails) rfl rfl rfl (by decide +kernel) ⟨Nat.le_of_ble_eq_true rfl, Nat.le_of_ble_eq_true rfl⟩) ⟨Pz_blind, va_recv hK hP (ci := 6) rfl e34, Pz_at hP hK hD hz hM hS⟩ rfl rfl hl.1 rfl (lv_room (Nat.le_of_ble_eq_true rfl)) d_M_keep_38 ⟨Nat.le_of_ble_eq_true rfl, Nat.le_of_ble_eq_true rfl⟩) hS (fun q _ h => h) (fun q h => h) (fun r3 w2 t9 H locs ht hvm hp hB hz1 hk1 hS => ?_)
    obtain ⟨hP, hK9, hD, -⟩ := hB
    rw [ht] at hP
    clear hK9
    obtain ⟨hr9, hC9, kf34⟩ := hp
    subst hr9
    have e34 : w2[34]? = some (mm, .inr (6, [.ref mb, .ref ms9, .int 1, .int 1, .ref mn, .ref ml, .ref mk9, .ref mq, .int 0, .int 0, .int 0, .int 0, .int 0, .int 0, .int 4, .int 0, .int 1])) := kf34
    have hC := hC.trans hC9
    refine lv_if_eq (tgt := 45) hx hb d_M_keep_41 rfl (fun h => absurd h (by decide)) (fun _ => ?_)
    exact W.vret hx hb hr (fun t9 ht hW => ⟨⟨w2, rfl, ⟨hC.sub (by decide), e34⟩, ⟨by rw [ht]; exact hP, va_K.moved hW.alike hK, hD, by rw [ht]; exact Nat.le_trans hz hS.1⟩⟩, hS.F ht⟩) hS.2.2 d_M_keep_44
  · skip
    refine lv_iload_n hx hb d_M_keep_25 rfl (lv_at hl 1 rfl) ?_
    refine lv_aload_n hx hb d_M_keep_26 rfl (lv_at hl 0 rfl) ?_
    refine va_get (D := D) (ci := 6) (v := .int 0) (C := R_M) (T := F_M) (N := 17) hx hb hts ws_M hown hK hP 34 e34 rfl 10 (by decide) (hts _ fl_M_77) (fun _ h9 => h9) rfl d_M_keep_27 ?_
    refine lv_icmp_le (tgt := 37) hx hb d_M_keep_30 rfl (fun q4 => ?_) (fun q4 => ?_)
    · skip
      refine lv_iconst (v := 0) hx hb d_M_keep_37 (by decide) ?_
      refine va_calli (va_runV (As := [.int 1, .int 0]) (rest := []) ⟨hx, hb, hml, hown, hts⟩ (c_M_fails10 (D := D) (t := t) (z := z) (sa := sa) (ws := ws)  e34) (cwV 2 hts (gd_V ml_M_50 im_M_fails se_M_fails in_M cd_M_fails) rfl rfl rfl (by decide +kernel) ⟨Nat.le_of_ble_eq_true rfl, Nat.le_of_ble_eq_true rfl⟩) ⟨Pz_blind, va_recv hK hP (ci := 6) rfl e34, Pz_at hP hK hD hz hM hS⟩ rfl rfl hl.1 rfl (lv_room (Nat.le_of_ble_eq_true rfl)) d_M_keep_38 ⟨Nat.le_of_ble_eq_true rfl, Nat.le_of_ble_eq_true rfl⟩) hS (fun q _ h => h) (fun q h => h) (fun r6 w5 t9 H locs ht hvm hp hB hz1 hk1 hS => ?_)
      obtain ⟨hP, hK9, hD, -⟩ := hB
      rw [ht] at hP
      clear hK9
      obtain ⟨hr9, hC9, kf34⟩ := hp
      subst hr9
      have e34 : w5[34]? = some (mm, .inr (6, [.ref mb, .ref ms9, .int 1, .int 1, .ref mn, .ref ml, .ref mk9, .ref mq, .int 0, .int 0, .int 0, .int 0, .int 0, .int 0, .int 4, .int 0, .int 1])) := kf34
      have hC := hC.trans hC9
      refine lv_if_eq (tgt := 45) hx hb d_M_keep_41 rfl (fun h => absurd h (by decide)) (fun _ => ?_)
      exact W.vret hx hb hr (fun t9 ht hW => ⟨⟨w5, rfl, ⟨hC.sub (by decide), e34⟩, ⟨by rw [ht]; exact hP, va_K.moved hW.alike hK, hD, by rw [ht]; exact Nat.le_trans hz hS.1⟩⟩, hS.F ht⟩) hS.2.2 d_M_keep_44
    · skip
      refine lv_iconst (v := 1) hx hb d_M_keep_33 (by decide) ?_
      refine lv_goto (tgt := 38) hx hb d_M_keep_34 rfl ?_
      refine va_calli (va_runV (As := [.int 1, .int 1]) (rest := []) ⟨hx, hb, hml, hown, hts⟩ (c_M_fails11 (D := D) (t := t) (z := z) (sa := sa) (ws := ws)  e34) (cwV 2 hts (gd_V ml_M_50 im_M_fails se_M_fails in_M cd_M_fails) rfl rfl rfl (by decide +kernel) ⟨Nat.le_of_ble_eq_true rfl, Nat.le_of_ble_eq_true rfl⟩) ⟨Pz_blind, va_recv hK hP (ci := 6) rfl e34, Pz_at hP hK hD hz hM hS⟩ rfl rfl hl.1 rfl (lv_room (Nat.le_of_ble_eq_true rfl)) d_M_keep_38 ⟨Nat.le_of_ble_eq_true rfl, Nat.le_of_ble_eq_true rfl⟩) hS (fun q _ h => h) (fun q h => h) (fun r8 w7 t9 H locs ht hvm hp hB hz1 hk1 hS => ?_)
      obtain ⟨hP, hK9, hD, -⟩ := hB
      rw [ht] at hP
      clear hK9
      obtain ⟨hr9, hC9, kf34⟩ := hp
      subst hr9
      have e34 : w7[34]? = some (mm, .inr (6, [.ref mb, .ref ms9, .int 1, .int 1, .ref mn, .ref ml, .ref mk9, .ref mq, .int 0, .int 0, .int 0, .int 0, .int 0, .int 0, .int 4, .int 0, .int 1])) := kf34
      have hC := hC.trans hC9
      refine lv_if_eq (tgt := 45) hx hb d_M_keep_41 rfl (fun h => absurd h (by decide)) (fun _ => ?_)
      exact W.vret hx hb hr (fun t9 ht hW => ⟨⟨w7, rfl, ⟨hC.sub (by decide), e34⟩, ⟨by rw [ht]; exact hP, va_K.moved hW.alike hK, hD, by rw [ht]; exact Nat.le_trans hz hS.1⟩⟩, hS.F ht⟩) hS.2.2 d_M_keep_44
