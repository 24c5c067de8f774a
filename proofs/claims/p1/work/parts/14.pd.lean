set_option maxHeartbeats 4000000 in
set_option maxRecDepth 100000 in
theorem c_S_endTransaction {l : Launch} {D : va_G} {t : Nat → ClassId} {z : Nat} {sa : Nat → Nat} {ws : va_W} {x xf xj xl fu xr fb l0 lb he : Nat} {gl : Nat → Option Nat} {pb : Int32} {f0 : Nat → Int32} {on op mk ct la : Int32} (e0 : ws[0]? = some (x, .inr (5, [.ref xf, .ref xj, .ref xl, .ref fu, .ref xr, .int on, .int op, .int mk, .int ct, .int la]))) (e1 : ws[1]? = some (xf, .inr (3, [.ref fb, .int 0]))) (e7 : ws[7]? = some (xl, .inl (t 3, 6, .inr (.inr (.inr (.inr gl)))))) (e10 : ws[10]? = some (l0, .inr (4, [.ref lb, .ref he, .int pb]))) (e13 : ws[13]? = some (he, .inl (t 1, 768, .inl f0))) (hg0 : gl 0 = some l0) : Met l y_S_endTransaction (Cond.code y_S_endTransaction b_S_endTransaction 1 (.none : Option Jvm.ClassFile.FieldType) :: WS) ({ frames := 2, cells := 0, slots := 0, locals := 40 }) (Pz D t z sa ws [.ref x]) (va_Qv (fun u : va_W => Ch ws u [0, 10, 13] ∧ u[0]? = some (x, .inr (5, [.ref xf, .ref xj, .ref xl, .ref fu, .ref xr, .int on, .int 0, .int 0, .int 0, .int la]))) (fun u U => Wd D t z u U) (Az z)) 0 0 (Az z) := by
  refine Met.ofW (cc := b_S_endTransaction) (maxL := 1) (ret := (.none : Option Jvm.ClassFile.FieldType)) (by decide) rfl ?_
  intro p e s m args below meth c s₁ B hml hv
  obtain ⟨rfl, ⟨hP, hK, hD, hz⟩, hM⟩ := hv
  have hx := B.exec
  have hb := B.bytes
  have hr := B.returns
  have hts : ∀ w ∈ WS, w.before [.ref x].toArray s = true := fun w h => atoms_spec B.pre w (List.mem_cons_of_mem _ h)
  have hown : s.vm.findClass R_S = some m.cls := findClass_of_methodNamed B.named
  have hlocks := B.notSynchronized
  have hA : ∀ q, s.heap.size ≤ q → Az z q := fun q h => Nat.le_trans hz h
  have hS : va_S (Az z) s.heap s.heap [] := va_S.rf
  have hC : Ch ws ws [] := Ch.rf
  have hl := lv_entry ([.ref x]) (n := 1) (Nat.le_of_ble_eq_true rfl)
  rw [lg_entry_eq]
  generalize (lg_sl ([.ref x]) ++ List.replicate (1 - (lg_sl ([.ref x])).length) Slot.unset).toArray = ls at hl ⊢
  have hl : lv_has ls 1 [(0, .ref x)] := hl
  refine lv_aload_n hx hb d_S_endTransaction_0 rfl (lv_at hl 0 rfl) ?_
  refine lv_iconst (v := 0) hx hb d_S_endTransaction_1 (by decide) ?_
  refine va_put (D := D) (ci := 5) (v := .int 0) (ty := .boolean) (C := R_S) (T := F_S) (N := 10) hx hb hts ws_S t_S ok_S n_S hown hK hP hD hS 0 e0 rfl 6 (by decide) (hts _ fl_S_44) (fun _ h9 => h9) rfl (by decide +kernel) rfl rfl (Nat.le_of_ble_eq_true rfl) d_S_endTransaction_2 (fun H locs hP hD hS => ?_)
  obtain ⟨w1, hw⟩ : ∃ q, q = ws.set 0 (x, .inr (5, [.ref xf, .ref xj, .ref xl, .ref fu, .ref xr, .int on, .int 0, .int mk, .int ct, .int la])) := ⟨_, rfl⟩
  have hP : va_P D Cl (ws.set 0 (x, .inr (5, [.ref xf, .ref xj, .ref xl, .ref fu, .ref xr, .int on, .int 0, .int mk, .int ct, .int la]))) H := hP
  have hD : va_D (Az z) (ws.set 0 (x, .inr (5, [.ref xf, .ref xj, .ref xl, .ref fu, .ref xr, .int on, .int 0, .int mk, .int ct, .int la]))) := hD
  rw [← hw] at hP hD
  have hC := hC.put (p := 0) (c := (x, .inr (5, [.ref xf, .ref xj, .ref xl, .ref fu, .ref xr, .int on, .int 0, .int mk, .int ct, .int la])))
  rw [← hw] at hC
  have e0 : w1[0]? = some (x, .inr (5, [.ref xf, .ref xj, .ref xl, .ref fu, .ref xr, .int on, .int 0, .int mk, .int ct, .int la])) := by rw [hw]; exact lk_set e0
  have e1 : w1[1]? = some (xf, .inr (3, [.ref fb, .int 0])) := by rw [hw]; exact lk_ne e1 (by decide)
  have e7 : w1[7]? = some (xl, .inl (t 3, 6, .inr (.inr (.inr (.inr gl))))) := by rw [hw]; exact lk_ne e7 (by decide)
  have e10 : w1[10]? = some (l0, .inr (4, [.ref lb, .ref he, .int pb])) := by rw [hw]; exact lk_ne e10 (by decide)
  have e13 : w1[13]? = some (he, .inl (t 1, 768, .inl f0)) := by rw [hw]; exact lk_ne e13 (by decide)
  clear hw
  refine lv_aload_n hx hb d_S_endTransaction_5 rfl (lv_at hl 0 rfl) ?_
  refine lv_iconst (v := 0) hx hb d_S_endTransaction_6 (by decide) ?_
  refine va_put (D := D) (ci := 5) (v := .int 0) (ty := .int) (C := R_S) (T := F_S) (N := 10) hx hb hts ws_S t_S ok_S n_S hown hK hP hD hS 0 e0 rfl 7 (by decide) (hts _ fl_S_47) (fun _ h9 => h9) rfl (by decide +kernel) rfl rfl (Nat.le_of_ble_eq_true rfl) d_S_endTransaction_7 (fun H locs hP hD hS => ?_)
  obtain ⟨w2, hw⟩ : ∃ q, q = w1.set 0 (x, .inr (5, [.ref xf, .ref xj, .ref xl, .ref fu, .ref xr, .int on, .int 0, .int 0, .int ct, .int la])) := ⟨_, rfl⟩
  have hP : va_P D Cl (w1.set 0 (x, .inr (5, [.ref xf, .ref xj, .ref xl, .ref fu, .ref xr, .int on, .int 0, .int 0, .int ct, .int la]))) H := hP
  have hD : va_D (Az z) (w1.set 0 (x, .inr (5, [.ref xf, .ref xj, .ref xl, .ref fu, .ref xr, .int on, .int 0, .int 0, .int ct, .int la]))) := hD
  rw [← hw] at hP hD
  have hC := hC.put (p := 0) (c := (x, .inr (5, [.ref xf, .ref xj, .ref xl, .ref fu, .ref xr, .int on, .int 0, .int 0, .int ct, .int la])))
  rw [← hw] at hC
  have e0 : w2[0]? = some (x, .inr (5, [.ref xf, .ref xj, .ref xl, .ref fu, .ref xr, .int on, .int 0, .int 0, .int ct, .int la])) := by rw [hw]; exact lk_set e0
  have e1 : w2[1]? = some (xf, .inr (3, [.ref fb, .int 0])) := by rw [hw]; exact lk_ne e1 (by decide)
  have e7 : w2[7]? = some (xl, .inl (t 3, 6, .inr (.inr (.inr (.inr gl))))) := by rw [hw]; exact lk_ne e7 (by decide)
  have e10 : w2[10]? = some (l0, .inr (4, [.ref lb, .ref he, .int pb])) := by rw [hw]; exact lk_ne e10 (by decide)
  have e13 : w2[13]? = some (he, .inl (t 1, 768, .inl f0)) := by rw [hw]; exact lk_ne e13 (by decide)
  clear hw
  refine lv_aload_n hx hb d_S_endTransaction_10 rfl (lv_at hl 0 rfl) ?_
  refine lv_aload_n hx hb d_S_endTransaction_11 rfl (lv_at hl 0 rfl) ?_
  refine va_calli (va_runV (As := []) (rest := [.ref x]) ⟨hx, hb, hml, hown, hts⟩ (c_S_pagesInFile (D := D) (t := t) (z := z) (sa := sa) (ws := w2)  e0 e1) (cwV 0 hts (gd_V ml_S_195 im_S_pagesInFile se_S_pagesInFile in_S cd_S_pagesInFile) rfl rfl rfl (by decide +kernel) ⟨Nat.le_of_ble_eq_true rfl, Nat.le_of_ble_eq_true rfl⟩) ⟨Pz_blind, va_recv hK hP (ci := 5) rfl e0, Pz_at hP hK hD hz hM hS⟩ rfl rfl hl.1 rfl (lv_room (Nat.le_of_ble_eq_true rfl)) d_S_endTransaction_12 ⟨Nat.le_of_ble_eq_true rfl, Nat.le_of_ble_eq_true rfl⟩) hS (fun q _ h => h) (fun q h => h) (fun r4 w3 t9 H locs ht hvm hp hB hz1 hk1 hS => ?_)
  obtain ⟨hP, hK9, hD, -⟩ := hB
  rw [ht] at hP
  clear hK9
  obtain ⟨hr9, hw9⟩ := hp
  rw [hw9] at hP hD
  clear hw9
  subst hr9
  refine va_put (D := D) (ci := 5) (v := .int 0) (ty := .int) (C := R_S) (T := F_S) (N := 10) hx hb hts ws_S t_S ok_S n_S hown hK hP hD hS 0 e0 rfl 8 (by decide) (hts _ fl_S_51) (fun _ h9 => h9) rfl (by decide +kernel) rfl rfl (Nat.le_of_ble_eq_true rfl) d_S_endTransaction_15 (fun H locs hP hD hS => ?_)
  obtain ⟨w5, hw⟩ : ∃ q, q = w2.set 0 (x, .inr (5, [.ref xf, .ref xj, .ref xl, .ref fu, .ref xr, .int on, .int 0, .int 0, .int 0, .int la])) := ⟨_, rfl⟩
  have hP : va_P D Cl (w2.set 0 (x, .inr (5, [.ref xf, .ref xj, .ref xl, .ref fu, .ref xr, .int on, .int 0, .int 0, .int 0, .int la]))) H := hP
  have hD : va_D (Az z) (w2.set 0 (x, .inr (5, [.ref xf, .ref xj, .ref xl, .ref fu, .ref xr, .int on, .int 0, .int 0, .int 0, .int la]))) := hD
  rw [← hw] at hP hD
  have hC := hC.put (p := 0) (c := (x, .inr (5, [.ref xf, .ref xj, .ref xl, .ref fu, .ref xr, .int on, .int 0, .int 0, .int 0, .int la])))
  rw [← hw] at hC
  have e0 : w5[0]? = some (x, .inr (5, [.ref xf, .ref xj, .ref xl, .ref fu, .ref xr, .int on, .int 0, .int 0, .int 0, .int la])) := by rw [hw]; exact lk_set e0
  have e1 : w5[1]? = some (xf, .inr (3, [.ref fb, .int 0])) := by rw [hw]; exact lk_ne e1 (by decide)
  have e7 : w5[7]? = some (xl, .inl (t 3, 6, .inr (.inr (.inr (.inr gl))))) := by rw [hw]; exact lk_ne e7 (by decide)
  have e10 : w5[10]? = some (l0, .inr (4, [.ref lb, .ref he, .int pb])) := by rw [hw]; exact lk_ne e10 (by decide)
  have e13 : w5[13]? = some (he, .inl (t 1, 768, .inl f0)) := by rw [hw]; exact lk_ne e13 (by decide)
  clear hw
  refine lv_aload_n hx hb d_S_endTransaction_18 rfl (lv_at hl 0 rfl) ?_
  refine va_get (D := D) (ci := 5) (v := .ref xl) (C := R_S) (T := F_S) (N := 10) hx hb hts ws_S hown hK hP 0 e0 rfl 2 (by decide) (hts _ fl_S_25) (fun _ h9 => h9) rfl d_S_endTransaction_19 ?_
  refine lv_iconst (v := 0) hx hb d_S_endTransaction_22 (by decide) ?_
  refine va_aldq (D := D) hx hb hK hP 7 3 e7 rfl (i := 0) (by unfold vp_in; decide) d_S_endTransaction_23 ?_
  refine W.eq (g2 := F0 m 24 ls [.ref l0]) (by rw [show (0 : Int32).toNatClampNeg = 0 from by decide, hg0]; rfl) ?_
  refine lv_aload_n hx hb d_S_endTransaction_24 rfl (lv_at hl 0 rfl) ?_
  refine va_get (D := D) (ci := 5) (v := .int 0) (C := R_S) (T := F_S) (N := 10) hx hb hts ws_S hown hK hP 0 e0 rfl 8 (by decide) (hts _ fl_S_51) (fun _ h9 => h9) rfl d_S_endTransaction_25 ?_
  refine va_callv (va_runV (As := [.int 0]) (rest := []) ⟨hx, hb, hml, hown, hts⟩ (c_Z_lay (D := D) (t := t) (z := z) (sa := sa) (ws := w5) (bl := 0) e10 e13) (cwV 1 hts (gd_V ml_S_137 im_Z_lay se_Z_lay in_Z cd_Z_lay) rfl rfl rfl (by decide +kernel) ⟨Nat.le_of_ble_eq_true rfl, Nat.le_of_ble_eq_true rfl⟩) ⟨Pz_blind, va_recv hK hP (ci := 4) rfl e10, Pz_at hP hK hD hz hM hS⟩ rfl rfl hl.1 rfl (lv_room (Nat.le_of_ble_eq_true rfl)) d_S_endTransaction_28 ⟨Nat.le_of_ble_eq_true rfl, Nat.le_of_ble_eq_true rfl⟩) hS (fun q _ h => h) (fun q h => h) (fun w6 t9 H locs ht hvm hp hB hz1 hk1 hS => ?_)
  obtain ⟨hP, hK9, hD, -⟩ := hB
  rw [ht] at hP
  clear hK9
  obtain ⟨f9, hC9, kf10, kf13⟩ := hp
  have e0 : w6[0]? = some (x, .inr (5, [.ref xf, .ref xj, .ref xl, .ref fu, .ref xr, .int on, .int 0, .int 0, .int 0, .int la])) := hC9.keep e0 (by decide)
  have e1 : w6[1]? = some (xf, .inr (3, [.ref fb, .int 0])) := hC9.keep e1 (by decide)
  have e7 : w6[7]? = some (xl, .inl (t 3, 6, .inr (.inr (.inr (.inr gl))))) := hC9.keep e7 (by decide)
  have e10 : w6[10]? = some (l0, .inr (4, [.ref lb, .ref he, .int 0])) := kf10
  have e13 : w6[13]? = some (he, .inl (t 1, 768, .inl f9)) := kf13
  have hC := hC.trans hC9
  exact W.vret hx hb hr (fun t9 ht hW => ⟨⟨w6, rfl, ⟨hC.sub (by decide), e0⟩, ⟨by rw [ht]; exact hP, va_K.moved hW.alike hK, hD, by rw [ht]; exact Nat.le_trans hz hS.1⟩⟩, hS.F ht⟩) hS.2.2 d_S_endTransaction_31
set_option maxHeartbeats 4000000 in
set_option maxRecDepth 100000 in
theorem c_S_settle {l : Launch} {D : va_G} {t : Nat → ClassId} {z : Nat} {sa : Nat → Nat} {ws : va_W} {x xf xj xl fu xr fb l0 lb he : Nat} {gl : Nat → Option Nat} {pb : Int32} {f0 : Nat → Int32} {on op mk ct la u0 u1 u2 u3 : Int32} (e0 : ws[0]? = some (x, .inr (5, [.ref xf, .ref xj, .ref xl, .ref fu, .ref xr, .int on, .int op, .int mk, .int ct, .int la]))) (e1 : ws[1]? = some (xf, .inr (3, [.ref fb, .int 0]))) (e7 : ws[7]? = some (xl, .inl (t 3, 6, .inr (.inr (.inr (.inr gl)))))) (e8 : ws[8]? = some (fu, .inr (2, [.int u0, .int u1, .int u2, .int u3]))) (e10 : ws[10]? = some (l0, .inr (4, [.ref lb, .ref he, .int pb]))) (e13 : ws[13]? = some (he, .inl (t 1, 768, .inl f0))) (hg0 : gl 0 = some l0) : Met l y_S_settle (Cond.code y_S_settle b_S_settle 2 (.none : Option Jvm.ClassFile.FieldType) :: WS) ({ frames := 3, cells := 0, slots := 0, locals := 60 }) (Pz D t z sa ws [.ref x, .int 1]) (va_Qv (fun u : va_W => Ch ws u [0, 8, 10, 13] ∧ u[0]? = some (x, .inr (5, [.ref xf, .ref xj, .ref xl, .ref fu, .ref xr, .int 1, .int 0, .int 0, .int 0, .int la]))) (fun u U => Wd D t z u U) (Az z)) 0 0 (Az z) := by
  refine Met.ofW (cc := b_S_settle) (maxL := 2) (ret := (.none : Option Jvm.ClassFile.FieldType)) (by decide) rfl ?_
  intro p e s m args below meth c s₁ B hml hv
  obtain ⟨rfl, ⟨hP, hK, hD, hz⟩, hM⟩ := hv
  have hx := B.exec
  have hb := B.bytes
  have hr := B.returns
  have hts : ∀ w ∈ WS, w.before [.ref x, .int 1].toArray s = true := fun w h => atoms_spec B.pre w (List.mem_cons_of_mem _ h)
  have hown : s.vm.findClass R_S = some m.cls := findClass_of_methodNamed B.named
  have hlocks := B.notSynchronized
  have hA : ∀ q, s.heap.size ≤ q → Az z q := fun q h => Nat.le_trans hz h
  have hS : va_S (Az z) s.heap s.heap [] := va_S.rf
  have hC : Ch ws ws [] := Ch.rf
  have hl := lv_entry ([.ref x, .int 1]) (n := 2) (Nat.le_of_ble_eq_true rfl)
  rw [lg_entry_eq]
  generalize (lg_sl ([.ref x, .int 1]) ++ List.replicate (2 - (lg_sl ([.ref x, .int 1])).length) Slot.unset).toArray = ls at hl ⊢
  have hl : lv_has ls 2 [(0, .ref x), (1, .int 1)] := hl
  refine lv_aload_n hx hb d_S_settle_0 rfl (lv_at hl 0 rfl) ?_
  refine va_get (D := D) (ci := 5) (v := .ref fu) (C := R_S) (T := F_S) (N := 10) hx hb hts ws_S hown hK hP 0 e0 rfl 3 (by decide) (hts _ fl_S_32) (fun _ h9 => h9) rfl d_S_settle_1 ?_
  refine va_callv (va_runV (As := []) (rest := []) ⟨hx, hb, hml, hown, hts⟩ (c_U_forget (D := D) (t := t) (z := z) (sa := sa) (ws := ws)  e8) (cwV 0 hts (gd_V ml_S_198 im_U_forget se_U_forget in_U cd_U_forget) rfl rfl rfl (by decide +kernel) ⟨Nat.le_of_ble_eq_true rfl, Nat.le_of_ble_eq_true rfl⟩) ⟨Pz_blind, va_recv hK hP (ci := 2) rfl e8, Pz_at hP hK hD hz hM hS⟩ rfl rfl hl.1 rfl (lv_room (Nat.le_of_ble_eq_true rfl)) d_S_settle_4 ⟨Nat.le_of_ble_eq_true rfl, Nat.le_of_ble_eq_true rfl⟩) hS (fun q _ h => h) (fun q h => h) (fun w1 t9 H locs ht hvm hp hB hz1 hk1 hS => ?_)
  obtain ⟨hP, hK9, hD, -⟩ := hB
  rw [ht] at hP
  clear hK9
  obtain ⟨hC9, kf8⟩ := hp
  have e0 : w1[0]? = some (x, .inr (5, [.ref xf, .ref xj, .ref xl, .ref fu, .ref xr, .int on, .int op, .int mk, .int ct, .int la])) := hC9.keep e0 (by decide)
  have e1 : w1[1]? = some (xf, .inr (3, [.ref fb, .int 0])) := hC9.keep e1 (by decide)
  have e7 : w1[7]? = some (xl, .inl (t 3, 6, .inr (.inr (.inr (.inr gl))))) := hC9.keep e7 (by decide)
  have e8 : w1[8]? = some (fu, .inr (2, [.int 4, .int 0, .int 0, .int 0])) := kf8
  have e10 : w1[10]? = some (l0, .inr (4, [.ref lb, .ref he, .int pb])) := hC9.keep e10 (by decide)
  have e13 : w1[13]? = some (he, .inl (t 1, 768, .inl f0)) := hC9.keep e13 (by decide)
  have hC := hC.trans hC9
  refine lv_aload_n hx hb d_S_settle_7 rfl (lv_at hl 0 rfl) ?_
  refine va_callv (va_runV (As := []) (rest := []) ⟨hx, hb, hml, hown, hts⟩ (c_S_endTransaction (D := D) (t := t) (z := z) (sa := sa) (ws := w1)  e0 e1 e7 e10 e13 hg0) (cwV 0 hts (gd_V ml_S_132 im_S_endTransaction se_S_endTransaction in_S cd_S_endTransaction) rfl rfl rfl (by decide +kernel) ⟨Nat.le_of_ble_eq_true rfl, Nat.le_of_ble_eq_true rfl⟩) ⟨Pz_blind, va_recv hK hP (ci := 5) rfl e0, Pz_at hP hK hD hz hM hS⟩ rfl rfl hl.1 rfl (lv_room (Nat.le_of_ble_eq_true rfl)) d_S_settle_8 ⟨Nat.le_of_ble_eq_true rfl, Nat.le_of_ble_eq_true rfl⟩) hS (fun q _ h => h) (fun q h => h) (fun w3 t9 H locs ht hvm hp hB hz1 hk1 hS => ?_)
  obtain ⟨hP, hK9, hD, -⟩ := hB
  rw [ht] at hP
  clear hK9
  obtain ⟨hC9, kf0⟩ := hp
  have e0 : w3[0]? = some (x, .inr (5, [.ref xf, .ref xj, .ref xl, .ref fu, .ref xr, .int on, .int 0, .int 0, .int 0, .int la])) := kf0
  have e1 : w3[1]? = some (xf, .inr (3, [.ref fb, .int 0])) := hC9.keep e1 (by decide)
  have e7 : w3[7]? = some (xl, .inl (t 3, 6, .inr (.inr (.inr (.inr gl))))) := hC9.keep e7 (by decide)
  have e8 : w3[8]? = some (fu, .inr (2, [.int 4, .int 0, .int 0, .int 0])) := hC9.keep e8 (by decide)
  have hC := hC.trans hC9
  refine lv_aload_n hx hb d_S_settle_11 rfl (lv_at hl 0 rfl) ?_
  refine lv_iload_n hx hb d_S_settle_12 rfl (lv_at hl 1 rfl) ?_
  refine va_put (D := D) (ci := 5) (v := .int 1) (ty := .boolean) (C := R_S) (T := F_S) (N := 10) hx hb hts ws_S t_S ok_S n_S hown hK hP hD hS 0 e0 rfl 5 (by decide) (hts _ fl_S_40) (fun _ h9 => h9) rfl (by decide +kernel) rfl rfl (Nat.le_of_ble_eq_true rfl) d_S_settle_13 (fun H locs hP hD hS => ?_)
  obtain ⟨w5, hw⟩ : ∃ q, q = w3.set 0 (x, .inr (5, [.ref xf, .ref xj, .ref xl, .ref fu, .ref xr, .int 1, .int 0, .int 0, .int 0, .int la])) := ⟨_, rfl⟩
  have hP : va_P D Cl (w3.set 0 (x, .inr (5, [.ref xf, .ref xj, .ref xl, .ref fu, .ref xr, .int 1, .int 0, .int 0, .int 0, .int la]))) H := hP
  have hD : va_D (Az z) (w3.set 0 (x, .inr (5, [.ref xf, .ref xj, .ref xl, .ref fu, .ref xr, .int 1, .int 0, .int 0, .int 0, .int la]))) := hD
  rw [← hw] at hP hD
  have hC := hC.put (p := 0) (c := (x, .inr (5, [.ref xf, .ref xj, .ref xl, .ref fu, .ref xr, .int 1, .int 0, .int 0, .int 0, .int la])))
  rw [← hw] at hC
  have e0 : w5[0]? = some (x, .inr (5, [.ref xf, .ref xj, .ref xl, .ref fu, .ref xr, .int 1, .int 0, .int 0, .int 0, .int la])) := by rw [hw]; exact lk_set e0
  have e1 : w5[1]? = some (xf, .inr (3, [.ref fb, .int 0])) := by rw [hw]; exact lk_ne e1 (by decide)
  have e7 : w5[7]? = some (xl, .inl (t 3, 6, .inr (.inr (.inr (.inr gl))))) := by rw [hw]; exact lk_ne e7 (by decide)
  have e8 : w5[8]? = some (fu, .inr (2, [.int 4, .int 0, .int 0, .int 0])) := by rw [hw]; exact lk_ne e8 (by decide)
  clear hw
  refine lv_iload_n hx hb d_S_settle_16 rfl (lv_at hl 1 rfl) ?_
  refine lv_if_ne (tgt := 30) hx hb d_S_settle_17 rfl (fun _ => ?_) (fun h => absurd h (by decide))
  exact W.vret hx hb hr (fun t9 ht hW => ⟨⟨w5, rfl, ⟨hC.sub (by decide), e0⟩, ⟨by rw [ht]; exact hP, va_K.moved hW.alike hK, hD, by rw [ht]; exact Nat.le_trans hz hS.1⟩⟩, hS.F ht⟩) hS.2.2 d_S_settle_30
set_option maxHeartbeats 4000000 in
set_option maxRecDepth 100000 in
theorem c_S_reopen {l : Launch} {D : va_G} {t : Nat → ClassId} {z : Nat} {sa : Nat → Nat} {ws : va_W} {x xf xj xl fu xr fb l0 lb he : Nat} {gl : Nat → Option Nat} {pb : Int32} {f0 : Nat → Int32} {jb : Nat} {on op mk ct la u1 u2 u3 : Int32} (e0 : ws[0]? = some (x, .inr (5, [.ref xf, .ref xj, .ref xl, .ref fu, .ref xr, .int on, .int op, .int mk, .int ct, .int la]))) (e1 : ws[1]? = some (xf, .inr (3, [.ref fb, .int 0]))) (e4 : ws[4]? = some (xj, .inr (3, [.ref jb, .int 0]))) (e7 : ws[7]? = some (xl, .inl (t 3, 6, .inr (.inr (.inr (.inr gl)))))) (e8 : ws[8]? = some (fu, .inr (2, [.int 4, .int u1, .int u2, .int u3]))) (e10 : ws[10]? = some (l0, .inr (4, [.ref lb, .ref he, .int pb]))) (e13 : ws[13]? = some (he, .inl (t 1, 768, .inl f0))) (hg0 : gl 0 = some l0) : Met l y_S_reopen (Cond.code y_S_reopen b_S_reopen 2 (some .int) :: WS) ({ frames := 4, cells := 0, slots := 0, locals := 81 }) (Pz D t z sa ws [.ref x]) (va_Qi (fun (r : Int32) (u : va_W) => r = 0 ∧ Ch ws u [0, 4, 8, 10, 13] ∧ u[0]? = some (x, .inr (5, [.ref xf, .ref xj, .ref xl, .ref fu, .ref xr, .int 1, .int 0, .int 0, .int 0, .int la]))) (fun u U => Wd D t z u U) (Az z)) 0 0 (Az z) := by
  refine Met.ofW (cc := b_S_reopen) (maxL := 2) (ret := (some .int)) (by decide) rfl ?_
  intro p e s m args below meth c s₁ B hml hv
  obtain ⟨rfl, ⟨hP, hK, hD, hz⟩, hM⟩ := hv
  have hx := B.exec
  have hb := B.bytes
  have hr := B.returns
  have hts : ∀ w ∈ WS, w.before [.ref x].toArray s = true := fun w h => atoms_spec B.pre w (List.mem_cons_of_mem _ h)
  have hown : s.vm.findClass R_S = some m.cls := findClass_of_methodNamed B.named
  have hlocks := B.notSynchronized
  have hA : ∀ q, s.heap.size ≤ q → Az z q := fun q h => Nat.le_trans hz h
  have hS : va_S (Az z) s.heap s.heap [] := va_S.rf
  have hC : Ch ws ws [] := Ch.rf
  have hl := lv_entry ([.ref x]) (n := 2) (Nat.le_of_ble_eq_true rfl)
  rw [lg_entry_eq]
  generalize (lg_sl ([.ref x]) ++ List.replicate (2 - (lg_sl ([.ref x])).length) Slot.unset).toArray = ls at hl ⊢
  have hl : lv_has ls 2 [(0, .ref x)] := hl
  refine lv_aload_n hx hb d_S_reopen_0 rfl (lv_at hl 0 rfl) ?_
  refine va_calli (va_runV (As := []) (rest := []) ⟨hx, hb, hml, hown, hts⟩ (c_S_undo (D := D) (t := t) (z := z) (sa := sa) (ws := ws)  e0 e4) (cwV 0 hts (gd_V ml_S_160 im_S_undo se_S_undo in_S cd_S_undo) rfl rfl rfl (by decide +kernel) ⟨Nat.le_of_ble_eq_true rfl, Nat.le_of_ble_eq_true rfl⟩) ⟨Pz_blind, va_recv hK hP (ci := 5) rfl e0, Pz_at hP hK hD hz hM hS⟩ rfl rfl hl.1 rfl (lv_room (Nat.le_of_ble_eq_true rfl)) d_S_reopen_1 ⟨Nat.le_of_ble_eq_true rfl, Nat.le_of_ble_eq_true rfl⟩) hS (fun q _ h => h) (fun q h => h) (fun r2 w1 t9 H locs ht hvm hp hB hz1 hk1 hS => ?_)
  obtain ⟨hP, hK9, hD, -⟩ := hB
  rw [ht] at hP
  clear hK9
  obtain ⟨hr9, hw9⟩ := hp
  rw [hw9] at hP hD
  clear hw9
  subst hr9
  refine lv_if_eq (tgt := 21) hx hb d_S_reopen_4 rfl (fun h => absurd h (by decide)) (fun _ => ?_)
  refine lv_aload_n hx hb d_S_reopen_7 rfl (lv_at hl 0 rfl) ?_
  refine va_get (D := D) (ci := 5) (v := .ref fu) (C := R_S) (T := F_S) (N := 10) hx hb hts ws_S hown hK hP 0 e0 rfl 3 (by decide) (hts _ fl_S_32) (fun _ h9 => h9) rfl d_S_reopen_8 ?_
  refine va_calli (va_runV (As := []) (rest := []) ⟨hx, hb, hml, hown, hts⟩ (c_U_blowsInReopen (D := D) (t := t) (z := z) (sa := sa) (ws := ws)  e8) (cwV 0 hts (gd_V ml_S_163 im_U_blowsInReopen se_U_blowsInReopen in_U cd_U_blowsInReopen) rfl rfl rfl (by decide +kernel) ⟨Nat.le_of_ble_eq_true rfl, Nat.le_of_ble_eq_true rfl⟩) ⟨Pz_blind, va_recv hK hP (ci := 2) rfl e8, Pz_at hP hK hD hz hM hS⟩ rfl rfl hl.1 rfl (lv_room (Nat.le_of_ble_eq_true rfl)) d_S_reopen_11 ⟨Nat.le_of_ble_eq_true rfl, Nat.le_of_ble_eq_true rfl⟩) hS (fun q _ h => h) (fun q h => h) (fun r4 w3 t9 H locs ht hvm hp hB hz1 hk1 hS => ?_)
  obtain ⟨hP, hK9, hD, -⟩ := hB
  rw [ht] at hP
  clear hK9
  obtain ⟨hr9, hw9⟩ := hp
  rw [hw9] at hP hD
  clear hw9
  subst hr9
  refine lv_if_ne (tgt := 21) hx hb d_S_reopen_14 rfl (fun h => absurd h (by decide)) (fun _ => ?_)
  refine lv_iconst (v := 1) hx hb d_S_reopen_17 (by decide) ?_
  refine lv_goto (tgt := 22) hx hb d_S_reopen_18 rfl ?_
  refine lv_istore_n (lv' := [(1, .int 1), (0, .ref x)]) hx hb d_S_reopen_22 rfl hl (by decide) rfl (fun ls hl => ?_)
  refine lv_iload_n hx hb d_S_reopen_23 rfl (lv_at hl 0 rfl) ?_
  refine lv_if_eq (tgt := 35) hx hb d_S_reopen_24 rfl (fun h => absurd h (by decide)) (fun _ => ?_)
  refine lv_aload_n hx hb d_S_reopen_27 rfl (lv_at hl 1 rfl) ?_
  refine va_get (D := D) (ci := 5) (v := .ref xj) (C := R_S) (T := F_S) (N := 10) hx hb hts ws_S hown hK hP 0 e0 rfl 1 (by decide) (hts _ fl_S_20) (fun _ h9 => h9) rfl d_S_reopen_28 ?_
  refine lv_iconst (v := 0) hx hb d_S_reopen_31 (by decide) ?_
  refine va_callv (va_runV (As := [.int 0]) (rest := []) ⟨hx, hb, hml, hown, hts⟩ (c_Y_cutTo_j (D := D) (t := t) (z := z) (sa := sa) (ws := ws)  e4) (cwV 1 hts (gd_V ml_S_122 im_Y_cutTo se_Y_cutTo in_Y cd_Y_cutTo) rfl rfl rfl (by decide +kernel) ⟨Nat.le_of_ble_eq_true rfl, Nat.le_of_ble_eq_true rfl⟩) ⟨Pz_blind, va_recv hK hP (ci := 3) rfl e4, Pz_at hP hK hD hz hM hS⟩ rfl rfl hl.1 rfl (lv_room (Nat.le_of_ble_eq_true rfl)) d_S_reopen_32 ⟨Nat.le_of_ble_eq_true rfl, Nat.le_of_ble_eq_true rfl⟩) hS (fun q _ h => h) (fun q h => h) (fun w5 t9 H locs ht hvm hp hB hz1 hk1 hS => ?_)
  obtain ⟨hP, hK9, hD, -⟩ := hB
  rw [ht] at hP
  clear hK9
  obtain ⟨hC9, kf4⟩ := hp
  have e0 : w5[0]? = some (x, .inr (5, [.ref xf, .ref xj, .ref xl, .ref fu, .ref xr, .int on, .int op, .int mk, .int ct, .int la])) := hC9.keep e0 (by decide)
  have e1 : w5[1]? = some (xf, .inr (3, [.ref fb, .int 0])) := hC9.keep e1 (by decide)
  have e4 : w5[4]? = some (xj, .inr (3, [.ref jb, .int 0])) := kf4
  have e7 : w5[7]? = some (xl, .inl (t 3, 6, .inr (.inr (.inr (.inr gl))))) := hC9.keep e7 (by decide)
  have e8 : w5[8]? = some (fu, .inr (2, [.int 4, .int u1, .int u2, .int u3])) := hC9.keep e8 (by decide)
  have e10 : w5[10]? = some (l0, .inr (4, [.ref lb, .ref he, .int pb])) := hC9.keep e10 (by decide)
  have e13 : w5[13]? = some (he, .inl (t 1, 768, .inl f0)) := hC9.keep e13 (by decide)
  have hC := hC.trans hC9
  refine lv_aload_n hx hb d_S_reopen_35 rfl (lv_at hl 1 rfl) ?_
  refine lv_iload_n hx hb d_S_reopen_36 rfl (lv_at hl 0 rfl) ?_
  refine va_callv (va_runV (As := [.int 1]) (rest := []) ⟨hx, hb, hml, hown, hts⟩ (c_S_settle (D := D) (t := t) (z := z) (sa := sa) (ws := w5)  e0 e1 e7 e8 e10 e13 hg0) (cwV 1 hts (gd_V ml_S_128 im_S_settle se_S_settle in_S cd_S_settle) rfl rfl rfl (by decide +kernel) ⟨Nat.le_of_ble_eq_true rfl, Nat.le_of_ble_eq_true rfl⟩) ⟨Pz_blind, va_recv hK hP (ci := 5) rfl e0, Pz_at hP hK hD hz hM hS⟩ rfl rfl hl.1 rfl (lv_room (Nat.le_of_ble_eq_true rfl)) d_S_reopen_37 ⟨Nat.le_of_ble_eq_true rfl, Nat.le_of_ble_eq_true rfl⟩) hS (fun q _ h => h) (fun q h => h) (fun w7 t9 H locs ht hvm hp hB hz1 hk1 hS => ?_)
  obtain ⟨hP, hK9, hD, -⟩ := hB
  rw [ht] at hP
  clear hK9
  obtain ⟨hC9, kf0⟩ := hp
  have e0 : w7[0]? = some (x, .inr (5, [.ref xf, .ref xj, .ref xl, .ref fu, .ref xr, .int 1, .int 0, .int 0, .int 0, .int la])) := kf0
  have e1 : w7[1]? = some (xf, .inr (3, [.ref fb, .int 0])) := hC9.keep e1 (by decide)
  have e4 : w7[4]? = some (xj, .inr (3, [.ref jb, .int 0])) := hC9.keep e4 (by decide)
  have e7 : w7[7]? = some (xl, .inl (t 3, 6, .inr (.inr (.inr (.inr gl))))) := hC9.keep e7 (by decide)
  have hC := hC.trans hC9
  refine lv_aload_n hx hb d_S_reopen_40 rfl (lv_at hl 1 rfl) ?_
  refine va_get (D := D) (ci := 5) (v := .int 0) (C := R_S) (T := F_S) (N := 10) hx hb hts ws_S hown hK hP 0 e0 rfl 8 (by decide) (hts _ fl_S_51) (fun _ h9 => h9) rfl d_S_reopen_41 ?_
  exact W.iret (v := 0) hx hb hr (fun t9 ht hW => ⟨⟨0, w7, rfl, ⟨rfl, hC.sub (by decide), e0⟩, ⟨by rw [ht]; exact hP, va_K.moved hW.alike hK, hD, by rw [ht]; exact Nat.le_trans hz hS.1⟩⟩, hS.F ht⟩) hS.2.2 d_S_reopen_44
