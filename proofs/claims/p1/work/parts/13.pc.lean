theorem mm_st : Cond.static Lib.Math.min.name ∈ WS := by decide +kernel
theorem mm_cd : Cond.code Lib.Math.min.name Lib.Math.min.code 2 (some .int) ∈ WS := by decide +kernel
theorem lp_Z_lay {p : Program} {l : Launch} {e : Env} {R : Room} {s : State} {m : MethodId} {args : Array Value} {below : List Frame} {meth : Method} {c : Code} {cells slots : Nat} {Q : State → Prop} {D : va_G} {t : Nat → ClassId} {z : Nat} {ws : va_W} {l0 lb he : Nat} {pb bl : Int32}
  (hx : p.tables.exec = Jvm.exec) (hb : c.code = b_Z_lay) (hts : ∀ w ∈ WS, w.before args s = true) (hown : s.vm.findClass R_Z = some m.cls) (hK : va_K D Cl (Ty t) s)
  (kx : ∀ (w : va_W) (f : Nat → Int32) (H : Heap) (locs : List Loc) (ls : Array Slot), va_P D Cl w H → va_D (Az z) w → va_S (Az z) s.heap H locs → Ch ws w [13] → w[10]? = some (l0, .inr (4, [.ref lb, .ref he, .int pb])) → w[13]? = some (he, .inl (t 1, 768, .inl f)) → lv_has ls 3 [(2, .int (nI 768)), (0, .ref l0), (1, .int bl)] → W p l e R s m args below meth c H locs cells slots Q (F0 m 22 ls [])) :
  ∀ (n i : Nat) (w : va_W) (f : Nat → Int32) (H : Heap) (locs : List Loc) (ls : Array Slot), i + n = 768 → va_P D Cl w H → va_D (Az z) w → va_S (Az z) s.heap H locs → Ch ws w [13] → w[10]? = some (l0, .inr (4, [.ref lb, .ref he, .int pb])) → w[13]? = some (he, .inl (t 1, 768, .inl f)) → lv_has ls 3 [(2, .int (nI i)), (0, .ref l0), (1, .int bl)] → W p l e R s m args below meth c H locs cells slots Q (F0 m 2 ls []) := by
  intro n
  induction n with
  | zero =>
    intro i w f H locs ls hi hP hD hS hC e10 e13 hl
    have hi : i = 768 := by omega
    subst hi
    refine lv_iload_n hx hb d_Z_lay_2 rfl (lv_at hl 0 rfl) ?_
    refine lv_sipush (v := 768) hx hb d_Z_lay_3 (by decide) ?_
    refine lv_icmp_ge (tgt := 22) hx hb d_Z_lay_6 rfl (fun _ => ?_) (fun h => absurd (show (768 : Int32) ≤ nI 768 by decide) h)
    exact kx w f H locs ls hP hD hS hC e10 e13 hl
  | succ n ih =>
    intro i w f H locs ls hi hP hD hS hC e10 e13 hl
    refine lv_iload_n hx hb d_Z_lay_2 rfl (lv_at hl 0 rfl) ?_
    refine lv_sipush (v := 768) hx hb d_Z_lay_3 (by decide) ?_
    refine lv_icmp_ge (tgt := 22) hx hb d_Z_lay_6 rfl (fun h => absurd h (nI_ge (a := i) (b := 768) (by omega) (by decide))) (fun _ => ?_)
    refine lv_aload_n hx hb d_Z_lay_9 rfl (lv_at hl 1 rfl) ?_
    refine va_get (D := D) (ci := 4) (v := .ref he) (C := R_Z) (T := F_Z) (N := 3) hx hb hts ws_Z hown hK hP 10 e10 rfl 1 (by decide) (hts _ fl_Z_20) (fun _ h9 => h9) rfl d_Z_lay_10 ?_
    refine lv_iload_n hx hb d_Z_lay_13 rfl (lv_at hl 0 rfl) ?_
    refine lv_iconst (v := 0) hx hb d_Z_lay_14 (by decide) ?_
    refine va_zast (D := D) hx hb hK hP hD hS 13 1 e13 rfl (x := 0) (i := nI i) (vp_in_nI (by omega) (by decide)) d_Z_lay_15 (fun H locs hP hD hS => ?_)
    generalize upd f (nI i).toNatClampNeg (vp_nar .boolean 0) = f1 at hP hD
    obtain ⟨w1, hw⟩ : ∃ q, q = w.set 13 (he, .inl (t 1, 768, .inl f1)) := ⟨_, rfl⟩
    have hP : va_P D Cl (w.set 13 (he, .inl (t 1, 768, .inl f1))) H := hP
    have hD : va_D (Az z) (w.set 13 (he, .inl (t 1, 768, .inl f1))) := hD
    rw [← hw] at hP hD
    have hC := hC.put (p := 13) (c := (he, .inl (t 1, 768, .inl f1)))
    rw [← hw] at hC
    have e10 : w1[10]? = some (l0, .inr (4, [.ref lb, .ref he, .int pb])) := by rw [hw]; exact lk_ne e10 (by decide)
    have e13 : w1[13]? = some (he, .inl (t 1, 768, .inl f1)) := by rw [hw]; exact lk_set e13
    refine lv_iinc (k := 0) (v := nI (i + 1)) (lv' := [(2, .int (nI (i + 1))), (0, .ref l0), (1, .int bl)]) hx hb d_Z_lay_16 hl rfl (nI_1 i) (by decide) rfl (fun ls hl => ?_)
    refine lv_goto (tgt := 2) hx hb d_Z_lay_19 rfl ?_
    exact ih (i + 1) w1 f1 H locs ls (by omega) hP hD hS (hC.sub (by decide)) e10 e13 hl
set_option maxHeartbeats 4000000 in
set_option maxRecDepth 100000 in
theorem c_Z_lay {l : Launch} {D : va_G} {t : Nat → ClassId} {z : Nat} {sa : Nat → Nat} {ws : va_W} {l0 lb he : Nat} {pb bl : Int32} {f0 : Nat → Int32} (e10 : ws[10]? = some (l0, .inr (4, [.ref lb, .ref he, .int pb]))) (e13 : ws[13]? = some (he, .inl (t 1, 768, .inl f0)))  : Met l y_Z_lay (Cond.code y_Z_lay b_Z_lay 3 (.none : Option Jvm.ClassFile.FieldType) :: WS) ({ frames := 0, cells := 0, slots := 0, locals := 0 }) (Pz D t z sa ws [.ref l0, .int bl]) (va_Qv (fun u : va_W => ∃ f9 : Nat → Int32, Ch ws u [10, 13] ∧ u[10]? = some (l0, .inr (4, [.ref lb, .ref he, .int bl])) ∧ u[13]? = some (he, .inl (t 1, 768, .inl f9))) (fun u U => Wd D t z u U) (Az z)) 0 0 (Az z) := by
  refine Met.ofW (cc := b_Z_lay) (maxL := 3) (ret := (.none : Option Jvm.ClassFile.FieldType)) (by decide) rfl ?_
  intro p e s m args below meth c s₁ B hml hv
  obtain ⟨rfl, ⟨hP, hK, hD, hz⟩, hM⟩ := hv
  have hx := B.exec
  have hb := B.bytes
  have hr := B.returns
  have hts : ∀ w ∈ WS, w.before [.ref l0, .int bl].toArray s = true := fun w h => atoms_spec B.pre w (List.mem_cons_of_mem _ h)
  have hown : s.vm.findClass R_Z = some m.cls := findClass_of_methodNamed B.named
  have hlocks := B.notSynchronized
  have hA : ∀ q, s.heap.size ≤ q → Az z q := fun q h => Nat.le_trans hz h
  have hS : va_S (Az z) s.heap s.heap [] := va_S.rf
  have hC : Ch ws ws [] := Ch.rf
  have hl := lv_entry ([.ref l0, .int bl]) (n := 3) (Nat.le_of_ble_eq_true rfl)
  rw [lg_entry_eq]
  generalize (lg_sl ([.ref l0, .int bl]) ++ List.replicate (3 - (lg_sl ([.ref l0, .int bl])).length) Slot.unset).toArray = ls at hl ⊢
  have hl : lv_has ls 3 [(0, .ref l0), (1, .int bl)] := hl
  refine lv_iconst (v := 0) hx hb d_Z_lay_0 (by decide) ?_
  refine lv_istore_n (lv' := [(2, .int 0), (0, .ref l0), (1, .int bl)]) hx hb d_Z_lay_1 rfl hl (by decide) rfl (fun ls hl => ?_)
  refine lp_Z_lay (ws := ws) (pb := pb) (bl := bl) hx hb hts hown hK (fun w1 f1 H locs ls hP hD hS hC e10 e13 hl => ?_) 768 0 _ _ _ _ _ rfl hP hD hS (hC.sub (by decide)) e10 e13 hl
  refine lv_aload_n hx hb d_Z_lay_22 rfl (lv_at hl 1 rfl) ?_
  refine lv_iload_n hx hb d_Z_lay_23 rfl (lv_at hl 2 rfl) ?_
  refine va_put (D := D) (ci := 4) (v := .int bl) (ty := .int) (C := R_Z) (T := F_Z) (N := 3) hx hb hts ws_Z t_Z ok_Z n_Z hown hK hP hD hS 10 e10 rfl 2 (by decide) (hts _ fl_Z_24) (fun _ h9 => h9) rfl (by decide +kernel) rfl rfl (Nat.le_of_ble_eq_true rfl) d_Z_lay_24 (fun H locs hP hD hS => ?_)
  obtain ⟨w2, hw⟩ : ∃ q, q = w1.set 10 (l0, .inr (4, [.ref lb, .ref he, .int bl])) := ⟨_, rfl⟩
  have hP : va_P D Cl (w1.set 10 (l0, .inr (4, [.ref lb, .ref he, .int bl]))) H := hP
  have hD : va_D (Az z) (w1.set 10 (l0, .inr (4, [.ref lb, .ref he, .int bl]))) := hD
  rw [← hw] at hP hD
  have hC := hC.put (p := 10) (c := (l0, .inr (4, [.ref lb, .ref he, .int bl])))
  rw [← hw] at hC
  have e10 : w2[10]? = some (l0, .inr (4, [.ref lb, .ref he, .int bl])) := by rw [hw]; exact lk_set e10
  have e13 : w2[13]? = some (he, .inl (t 1, 768, .inl f1)) := by rw [hw]; exact lk_ne e13 (by decide)
  clear hw
  exact W.vret hx hb hr (fun t9 ht hW => ⟨⟨w2, rfl, ⟨f1, hC.sub (by decide), e10, e13⟩, ⟨by rw [ht]; exact hP, va_K.moved hW.alike hK, hD, by rw [ht]; exact Nat.le_trans hz hS.1⟩⟩, hS.F ht⟩) hS.2.2 d_Z_lay_27
set_option maxHeartbeats 4000000 in
set_option maxRecDepth 100000 in
theorem c_Y_length_f {l : Launch} {D : va_G} {t : Nat → ClassId} {z : Nat} {sa : Nat → Nat} {ws : va_W} {yf yb : Nat} {ln : Int32} (e1 : ws[1]? = some (yf, .inr (3, [.ref yb, .int ln])))  : Met l y_Y_length (Cond.code y_Y_length b_Y_length 1 (some .int) :: WS) ({ frames := 0, cells := 0, slots := 0, locals := 0 }) (Pz D t z sa ws [.ref yf]) (va_Qi (fun (r : Int32) (u : va_W) => r = ln ∧ u = ws) (fun u U => Wd D t z u U) (Az z)) 0 0 (Az z) := by
  refine Met.ofW (cc := b_Y_length) (maxL := 1) (ret := (some .int)) (by decide) rfl ?_
  intro p e s m args below meth c s₁ B hml hv
  obtain ⟨rfl, ⟨hP, hK, hD, hz⟩, hM⟩ := hv
  have hx := B.exec
  have hb := B.bytes
  have hr := B.returns
  have hts : ∀ w ∈ WS, w.before [.ref yf].toArray s = true := fun w h => atoms_spec B.pre w (List.mem_cons_of_mem _ h)
  have hown : s.vm.findClass R_Y = some m.cls := findClass_of_methodNamed B.named
  have hlocks := B.notSynchronized
  have hA : ∀ q, s.heap.size ≤ q → Az z q := fun q h => Nat.le_trans hz h
  have hS : va_S (Az z) s.heap s.heap [] := va_S.rf
  have hC : Ch ws ws [] := Ch.rf
  have hl := lv_entry ([.ref yf]) (n := 1) (Nat.le_of_ble_eq_true rfl)
  rw [lg_entry_eq]
  generalize (lg_sl ([.ref yf]) ++ List.replicate (1 - (lg_sl ([.ref yf])).length) Slot.unset).toArray = ls at hl ⊢
  have hl : lv_has ls 1 [(0, .ref yf)] := hl
  refine lv_aload_n hx hb d_Y_length_0 rfl (lv_at hl 0 rfl) ?_
  refine va_get (D := D) (ci := 3) (v := .int ln) (C := R_Y) (T := F_Y) (N := 2) hx hb hts ws_Y hown hK hP 1 e1 rfl 1 (by decide) (hts _ fl_Y_9) (fun _ h9 => h9) rfl d_Y_length_1 ?_
  exact W.iret (v := ln) hx hb hr (fun t9 ht hW => ⟨⟨ln, ws, rfl, ⟨rfl, rfl⟩, ⟨by rw [ht]; exact hP, va_K.moved hW.alike hK, hD, by rw [ht]; exact Nat.le_trans hz hS.1⟩⟩, hS.F ht⟩) hS.2.2 d_Y_length_4
set_option maxHeartbeats 4000000 in
set_option maxRecDepth 100000 in
theorem c_Y_length_j {l : Launch} {D : va_G} {t : Nat → ClassId} {z : Nat} {sa : Nat → Nat} {ws : va_W} {yf yb : Nat} {ln : Int32} (e4 : ws[4]? = some (yf, .inr (3, [.ref yb, .int ln])))  : Met l y_Y_length (Cond.code y_Y_length b_Y_length 1 (some .int) :: WS) ({ frames := 0, cells := 0, slots := 0, locals := 0 }) (Pz D t z sa ws [.ref yf]) (va_Qi (fun (r : Int32) (u : va_W) => r = ln ∧ u = ws) (fun u U => Wd D t z u U) (Az z)) 0 0 (Az z) := by
  refine Met.ofW (cc := b_Y_length) (maxL := 1) (ret := (some .int)) (by decide) rfl ?_
  intro p e s m args below meth c s₁ B hml hv
  obtain ⟨rfl, ⟨hP, hK, hD, hz⟩, hM⟩ := hv
  have hx := B.exec
  have hb := B.bytes
  have hr := B.returns
  have hts : ∀ w ∈ WS, w.before [.ref yf].toArray s = true := fun w h => atoms_spec B.pre w (List.mem_cons_of_mem _ h)
  have hown : s.vm.findClass R_Y = some m.cls := findClass_of_methodNamed B.named
  have hlocks := B.notSynchronized
  have hA : ∀ q, s.heap.size ≤ q → Az z q := fun q h => Nat.le_trans hz h
  have hS : va_S (Az z) s.heap s.heap [] := va_S.rf
  have hC : Ch ws ws [] := Ch.rf
  have hl := lv_entry ([.ref yf]) (n := 1) (Nat.le_of_ble_eq_true rfl)
  rw [lg_entry_eq]
  generalize (lg_sl ([.ref yf]) ++ List.replicate (1 - (lg_sl ([.ref yf])).length) Slot.unset).toArray = ls at hl ⊢
  have hl : lv_has ls 1 [(0, .ref yf)] := hl
  refine lv_aload_n hx hb d_Y_length_0 rfl (lv_at hl 0 rfl) ?_
  refine va_get (D := D) (ci := 3) (v := .int ln) (C := R_Y) (T := F_Y) (N := 2) hx hb hts ws_Y hown hK hP 4 e4 rfl 1 (by decide) (hts _ fl_Y_9) (fun _ h9 => h9) rfl d_Y_length_1 ?_
  exact W.iret (v := ln) hx hb hr (fun t9 ht hW => ⟨⟨ln, ws, rfl, ⟨rfl, rfl⟩, ⟨by rw [ht]; exact hP, va_K.moved hW.alike hK, hD, by rw [ht]; exact Nat.le_trans hz hS.1⟩⟩, hS.F ht⟩) hS.2.2 d_Y_length_4
set_option maxHeartbeats 4000000 in
set_option maxRecDepth 100000 in
theorem c_U_blowsInReopen {l : Launch} {D : va_G} {t : Nat → ClassId} {z : Nat} {sa : Nat → Nat} {ws : va_W} {fu : Nat} {u1 u2 u3 : Int32} (e8 : ws[8]? = some (fu, .inr (2, [.int 4, .int u1, .int u2, .int u3])))  : Met l y_U_blowsInReopen (Cond.code y_U_blowsInReopen b_U_blowsInReopen 1 (some .boolean) :: WS) ({ frames := 0, cells := 0, slots := 0, locals := 0 }) (Pz D t z sa ws [.ref fu]) (va_Qi (fun (r : Int32) (u : va_W) => r = 0 ∧ u = ws) (fun u U => Wd D t z u U) (Az z)) 0 0 (Az z) := by
  refine Met.ofW (cc := b_U_blowsInReopen) (maxL := 1) (ret := (some .boolean)) (by decide) rfl ?_
  intro p e s m args below meth c s₁ B hml hv
  obtain ⟨rfl, ⟨hP, hK, hD, hz⟩, hM⟩ := hv
  have hx := B.exec
  have hb := B.bytes
  have hr := B.returns
  have hts : ∀ w ∈ WS, w.before [.ref fu].toArray s = true := fun w h => atoms_spec B.pre w (List.mem_cons_of_mem _ h)
  have hown : s.vm.findClass R_U = some m.cls := findClass_of_methodNamed B.named
  have hlocks := B.notSynchronized
  have hA : ∀ q, s.heap.size ≤ q → Az z q := fun q h => Nat.le_trans hz h
  have hS : va_S (Az z) s.heap s.heap [] := va_S.rf
  have hC : Ch ws ws [] := Ch.rf
  have hl := lv_entry ([.ref fu]) (n := 1) (Nat.le_of_ble_eq_true rfl)
  rw [lg_entry_eq]
  generalize (lg_sl ([.ref fu]) ++ List.replicate (1 - (lg_sl ([.ref fu])).length) Slot.unset).toArray = ls at hl ⊢
  have hl : lv_has ls 1 [(0, .ref fu)] := hl
  refine lv_aload_n hx hb d_U_blowsInReopen_0 rfl (lv_at hl 0 rfl) ?_
  refine va_get (D := D) (ci := 2) (v := .int 4) (C := R_U) (T := F_U) (N := 4) hx hb hts ws_U hown hK hP 8 e8 rfl 0 (by decide) (hts _ fl_U_9) (fun _ h9 => h9) rfl d_U_blowsInReopen_1 ?_
  refine lv_iconst (v := 3) hx hb d_U_blowsInReopen_4 (by decide) ?_
  refine lv_icmp_ne (tgt := 12) hx hb d_U_blowsInReopen_5 rfl (fun _ => ?_) (fun h => absurd h (by decide))
  refine lv_iconst (v := 0) hx hb d_U_blowsInReopen_12 (by decide) ?_
  exact W.zret (v := 0) (ty := .boolean) hx hb hr rfl (fun t9 ht hW => ⟨⟨0, ws, rfl, ⟨rfl, rfl⟩, ⟨by rw [ht]; exact hP, va_K.moved hW.alike hK, hD, by rw [ht]; exact Nat.le_trans hz hS.1⟩⟩, hS.F ht⟩) hS.2.2 d_U_blowsInReopen_13
set_option maxHeartbeats 4000000 in
set_option maxRecDepth 100000 in
theorem c_U_forget {l : Launch} {D : va_G} {t : Nat → ClassId} {z : Nat} {sa : Nat → Nat} {ws : va_W} {fu : Nat} {u0 u1 u2 u3 : Int32} (e8 : ws[8]? = some (fu, .inr (2, [.int u0, .int u1, .int u2, .int u3])))  : Met l y_U_forget (Cond.code y_U_forget b_U_forget 1 (.none : Option Jvm.ClassFile.FieldType) :: WS) ({ frames := 1, cells := 0, slots := 0, locals := 23 }) (Pz D t z sa ws [.ref fu]) (va_Qv (fun u : va_W => Ch ws u [8] ∧ u[8]? = some (fu, .inr (2, [.int 4, .int 0, .int 0, .int 0]))) (fun u U => Wd D t z u U) (Az z)) 0 0 (Az z) := by
  refine Met.ofW (cc := b_U_forget) (maxL := 1) (ret := (.none : Option Jvm.ClassFile.FieldType)) (by decide) rfl ?_
  intro p e s m args below meth c s₁ B hml hv
  obtain ⟨rfl, ⟨hP, hK, hD, hz⟩, hM⟩ := hv
  have hx := B.exec
  have hb := B.bytes
  have hr := B.returns
  have hts : ∀ w ∈ WS, w.before [.ref fu].toArray s = true := fun w h => atoms_spec B.pre w (List.mem_cons_of_mem _ h)
  have hown : s.vm.findClass R_U = some m.cls := findClass_of_methodNamed B.named
  have hlocks := B.notSynchronized
  have hA : ∀ q, s.heap.size ≤ q → Az z q := fun q h => Nat.le_trans hz h
  have hS : va_S (Az z) s.heap s.heap [] := va_S.rf
  have hC : Ch ws ws [] := Ch.rf
  have hl := lv_entry ([.ref fu]) (n := 1) (Nat.le_of_ble_eq_true rfl)
  rw [lg_entry_eq]
  generalize (lg_sl ([.ref fu]) ++ List.replicate (1 - (lg_sl ([.ref fu])).length) Slot.unset).toArray = ls at hl ⊢
  have hl : lv_has ls 1 [(0, .ref fu)] := hl
  refine lv_aload_n hx hb d_U_forget_0 rfl (lv_at hl 0 rfl) ?_
  refine lv_iconst (v := 4) hx hb d_U_forget_1 (by decide) ?_
  refine lv_iconst (v := 0) hx hb d_U_forget_2 (by decide) ?_
  refine lv_iconst (v := 0) hx hb d_U_forget_3 (by decide) ?_
  refine va_callv (va_runV (As := [.int 4, .int 0, .int 0]) (rest := []) ⟨hx, hb, hml, hown, hts⟩ (c_U_set (D := D) (t := t) (z := z) (sa := sa) (ws := ws) (a0 := 4) (a1 := 0) (a2 := 0) e8) (cwV 3 hts (gd_V ml_U_25 im_U_set se_U_set in_U cd_U_set) rfl rfl rfl (by decide +kernel) ⟨Nat.le_of_ble_eq_true rfl, Nat.le_of_ble_eq_true rfl⟩) ⟨Pz_blind, va_recv hK hP (ci := 2) rfl e8, Pz_at hP hK hD hz hM hS⟩ rfl rfl hl.1 rfl (lv_room (Nat.le_of_ble_eq_true rfl)) d_U_forget_4 ⟨Nat.le_of_ble_eq_true rfl, Nat.le_of_ble_eq_true rfl⟩) hS (fun q _ h => h) (fun q h => h) (fun w1 t9 H locs ht hvm hp hB hz1 hk1 hS => ?_)
  obtain ⟨hP, hK9, hD, -⟩ := hB
  rw [ht] at hP
  clear hK9
  obtain ⟨hC9, kf8⟩ := hp
  have e8 : w1[8]? = some (fu, .inr (2, [.int 4, .int 0, .int 0, .int 0])) := kf8
  have hC := hC.trans hC9
  exact W.vret hx hb hr (fun t9 ht hW => ⟨⟨w1, rfl, ⟨hC.sub (by decide), e8⟩, ⟨by rw [ht]; exact hP, va_K.moved hW.alike hK, hD, by rw [ht]; exact Nat.le_trans hz hS.1⟩⟩, hS.F ht⟩) hS.2.2 d_U_forget_7
set_option maxHeartbeats 4000000 in
set_option maxRecDepth 100000 in
theorem c_Y_cutTo_j {l : Launch} {D : va_G} {t : Nat → ClassId} {z : Nat} {sa : Nat → Nat} {ws : va_W} {yf yb : Nat} (e4 : ws[4]? = some (yf, .inr (3, [.ref yb, .int 0])))  : Met l y_Y_cutTo (Cond.code y_Y_cutTo b_Y_cutTo 2 (.none : Option Jvm.ClassFile.FieldType) :: WS) ({ frames := 1, cells := 0, slots := 0, locals := 14 }) (Pz D t z sa ws [.ref yf, .int 0]) (va_Qv (fun u : va_W => Ch ws u [4] ∧ u[4]? = some (yf, .inr (3, [.ref yb, .int 0]))) (fun u U => Wd D t z u U) (Az z)) 0 0 (Az z) := by
  refine Met.ofW (cc := b_Y_cutTo) (maxL := 2) (ret := (.none : Option Jvm.ClassFile.FieldType)) (by decide) rfl ?_
  intro p e s m args below meth c s₁ B hml hv
  obtain ⟨rfl, ⟨hP, hK, hD, hz⟩, hM⟩ := hv
  have hx := B.exec
  have hb := B.bytes
  have hr := B.returns
  have hts : ∀ w ∈ WS, w.before [.ref yf, .int 0].toArray s = true := fun w h => atoms_spec B.pre w (List.mem_cons_of_mem _ h)
  have hown : s.vm.findClass R_Y = some m.cls := findClass_of_methodNamed B.named
  have hlocks := B.notSynchronized
  have hA : ∀ q, s.heap.size ≤ q → Az z q := fun q h => Nat.le_trans hz h
  have hS : va_S (Az z) s.heap s.heap [] := va_S.rf
  have hC : Ch ws ws [] := Ch.rf
  have hl := lv_entry ([.ref yf, .int 0]) (n := 2) (Nat.le_of_ble_eq_true rfl)
  rw [lg_entry_eq]
  generalize (lg_sl ([.ref yf, .int 0]) ++ List.replicate (2 - (lg_sl ([.ref yf, .int 0])).length) Slot.unset).toArray = ls at hl ⊢
  have hl : lv_has ls 2 [(0, .ref yf), (1, .int 0)] := hl
  refine lv_aload_n hx hb d_Y_cutTo_0 rfl (lv_at hl 0 rfl) ?_
  refine lv_aload_n hx hb d_Y_cutTo_1 rfl (lv_at hl 0 rfl) ?_
  refine va_get (D := D) (ci := 3) (v := .int 0) (C := R_Y) (T := F_Y) (N := 2) hx hb hts ws_Y hown hK hP 4 e4 rfl 1 (by decide) (hts _ fl_Y_9) (fun _ h9 => h9) rfl d_Y_cutTo_2 ?_
  refine lv_iload_n hx hb d_Y_cutTo_5 rfl (lv_at hl 1 rfl) ?_
  refine va_mmin hx hb (hml.trans hl.1.symm) hown (hts _ ml_Y_34) (hts _ mm_st) (hts _ in_Math) (hts _ mm_cd) (Nat.le_of_ble_eq_true rfl) (Nat.le_of_ble_eq_true rfl) (Nat.le_of_ble_eq_true rfl) (Nat.le_of_ble_eq_true rfl) d_Y_cutTo_6 ?_
  refine lv_topi (fun v1 hv1 => ?_)
  have hv1 : v1 = 0 := hv1.trans (by decide)
  subst hv1
  refine va_put (D := D) (ci := 3) (v := .int 0) (ty := .int) (C := R_Y) (T := F_Y) (N := 2) hx hb hts ws_Y t_Y ok_Y n_Y hown hK hP hD hS 4 e4 rfl 1 (by decide) (hts _ fl_Y_9) (fun _ h9 => h9) rfl (by decide +kernel) rfl rfl (Nat.le_of_ble_eq_true rfl) d_Y_cutTo_9 (fun H locs hP hD hS => ?_)
  obtain ⟨w2, hw⟩ : ∃ q, q = ws.set 4 (yf, .inr (3, [.ref yb, .int 0])) := ⟨_, rfl⟩
  have hP : va_P D Cl (ws.set 4 (yf, .inr (3, [.ref yb, .int 0]))) H := hP
  have hD : va_D (Az z) (ws.set 4 (yf, .inr (3, [.ref yb, .int 0]))) := hD
  rw [← hw] at hP hD
  have hC := hC.put (p := 4) (c := (yf, .inr (3, [.ref yb, .int 0])))
  rw [← hw] at hC
  have e4 : w2[4]? = some (yf, .inr (3, [.ref yb, .int 0])) := by rw [hw]; exact lk_set e4
  clear hw
  exact W.vret hx hb hr (fun t9 ht hW => ⟨⟨w2, rfl, ⟨hC.sub (by decide), e4⟩, ⟨by rw [ht]; exact hP, va_K.moved hW.alike hK, hD, by rw [ht]; exact Nat.le_trans hz hS.1⟩⟩, hS.F ht⟩) hS.2.2 d_Y_cutTo_12
set_option maxHeartbeats 4000000 in
set_option maxRecDepth 100000 in
theorem c_S_pagesInFile {l : Launch} {D : va_G} {t : Nat → ClassId} {z : Nat} {sa : Nat → Nat} {ws : va_W} {x xf xj xl fu xr fb : Nat} {on op mk ct la : Int32} (e0 : ws[0]? = some (x, .inr (5, [.ref xf, .ref xj, .ref xl, .ref fu, .ref xr, .int on, .int op, .int mk, .int ct, .int la]))) (e1 : ws[1]? = some (xf, .inr (3, [.ref fb, .int 0])))  : Met l y_S_pagesInFile (Cond.code y_S_pagesInFile b_S_pagesInFile 1 (some .int) :: WS) ({ frames := 1, cells := 0, slots := 0, locals := 20 }) (Pz D t z sa ws [.ref x]) (va_Qi (fun (r : Int32) (u : va_W) => r = 0 ∧ u = ws) (fun u U => Wd D t z u U) (Az z)) 0 0 (Az z) := by
  refine Met.ofW (cc := b_S_pagesInFile) (maxL := 1) (ret := (some .int)) (by decide) rfl ?_
  intro p e s m args below meth c s₁ B hml hv
  obtain ⟨rfl, ⟨hP, hK, hD, hz⟩, hM⟩ := hv
  have hx := B.exec
  have hb := B.bytes
  have hr := B.returns
  have hts : ∀ w ∈ WS, w.before [.ref x].toArray s = true := fun w h => atoms_spec B.pre w (List.mem_cons_of_mem _ h)
  have hown : s.vm.findClass R_S = some m.cls := findClass_of_methodNamed B.named
  have hlocks := B.notSynchronized
  have hA : ∀ q, s.heap.size ≤ q → Az z q := fun q h => Nat.le_trans hz h
  have hS : va_S (Az z) s.heap s.heap [] := va_S.rf
  have hC : Ch ws ws [] := Ch.rf
  have hl := lv_entry ([.ref x]) (n := 1) (Nat.le_of_ble_eq_true rfl)
  rw [lg_entry_eq]
  generalize (lg_sl ([.ref x]) ++ List.replicate (1 - (lg_sl ([.ref x])).length) Slot.unset).toArray = ls at hl ⊢
  have hl : lv_has ls 1 [(0, .ref x)] := hl
  refine lv_aload_n hx hb d_S_pagesInFile_0 rfl (lv_at hl 0 rfl) ?_
  refine va_get (D := D) (ci := 5) (v := .ref xf) (C := R_S) (T := F_S) (N := 10) hx hb hts ws_S hown hK hP 0 e0 rfl 0 (by decide) (hts _ fl_S_15) (fun _ h9 => h9) rfl d_S_pagesInFile_1 ?_
  refine va_calli (va_runV (As := []) (rest := []) ⟨hx, hb, hml, hown, hts⟩ (c_Y_length_f (D := D) (t := t) (z := z) (sa := sa) (ws := ws) (ln := 0) e1) (cwV 0 hts (gd_V ml_S_206 im_Y_length se_Y_length in_Y cd_Y_length) rfl rfl rfl (by decide +kernel) ⟨Nat.le_of_ble_eq_true rfl, Nat.le_of_ble_eq_true rfl⟩) ⟨Pz_blind, va_recv hK hP (ci := 3) rfl e1, Pz_at hP hK hD hz hM hS⟩ rfl rfl hl.1 rfl (lv_room (Nat.le_of_ble_eq_true rfl)) d_S_pagesInFile_4 ⟨Nat.le_of_ble_eq_true rfl, Nat.le_of_ble_eq_true rfl⟩) hS (fun q _ h => h) (fun q h => h) (fun r2 w1 t9 H locs ht hvm hp hB hz1 hk1 hS => ?_)
  obtain ⟨hP, hK9, hD, -⟩ := hB
  rw [ht] at hP
  clear hK9
  obtain ⟨hr9, hw9⟩ := hp
  rw [hw9] at hP hD
  clear hw9
  subst hr9
  refine lv_sipush (v := 256) hx hb d_S_pagesInFile_7 (by decide) ?_
  refine lv_idiv hx hb d_S_pagesInFile_10 (by decide) ?_
  refine lv_topi (fun v3 hv3 => ?_)
  have hv3 : v3 = 0 := hv3.trans (by decide)
  subst hv3
  exact W.iret (v := 0) hx hb hr (fun t9 ht hW => ⟨⟨0, ws, rfl, ⟨rfl, rfl⟩, ⟨by rw [ht]; exact hP, va_K.moved hW.alike hK, hD, by rw [ht]; exact Nat.le_trans hz hS.1⟩⟩, hS.F ht⟩) hS.2.2 d_S_pagesInFile_11
set_option maxHeartbeats 4000000 in
set_option maxRecDepth 100000 in
theorem c_S_undo {l : Launch} {D : va_G} {t : Nat → ClassId} {z : Nat} {sa : Nat → Nat} {ws : va_W} {x xf xj xl fu xr jb : Nat} {on op mk ct la : Int32} (e0 : ws[0]? = some (x, .inr (5, [.ref xf, .ref xj, .ref xl, .ref fu, .ref xr, .int on, .int op, .int mk, .int ct, .int la]))) (e4 : ws[4]? = some (xj, .inr (3, [.ref jb, .int 0])))  : Met l y_S_undo (Cond.code y_S_undo b_S_undo 7 (some .boolean) :: WS) ({ frames := 1, cells := 0, slots := 0, locals := 20 }) (Pz D t z sa ws [.ref x]) (va_Qi (fun (r : Int32) (u : va_W) => r = 1 ∧ u = ws) (fun u U => Wd D t z u U) (Az z)) 0 0 (Az z) := by
  refine Met.ofW (cc := b_S_undo) (maxL := 7) (ret := (some .boolean)) (by decide) rfl ?_
  intro p e s m args below meth c s₁ B hml hv
  obtain ⟨rfl, ⟨hP, hK, hD, hz⟩, hM⟩ := hv
  have hx := B.exec
  have hb := B.bytes
  have hr := B.returns
  have hts : ∀ w ∈ WS, w.before [.ref x].toArray s = true := fun w h => atoms_spec B.pre w (List.mem_cons_of_mem _ h)
  have hown : s.vm.findClass R_S = some m.cls := findClass_of_methodNamed B.named
  have hlocks := B.notSynchronized
  have hA : ∀ q, s.heap.size ≤ q → Az z q := fun q h => Nat.le_trans hz h
  have hS : va_S (Az z) s.heap s.heap [] := va_S.rf
  have hC : Ch ws ws [] := Ch.rf
  have hl := lv_entry ([.ref x]) (n := 7) (Nat.le_of_ble_eq_true rfl)
  rw [lg_entry_eq]
  generalize (lg_sl ([.ref x]) ++ List.replicate (7 - (lg_sl ([.ref x])).length) Slot.unset).toArray = ls at hl ⊢
  have hl : lv_has ls 7 [(0, .ref x)] := hl
  refine lv_aload_n hx hb d_S_undo_0 rfl (lv_at hl 0 rfl) ?_
  refine va_get (D := D) (ci := 5) (v := .ref xj) (C := R_S) (T := F_S) (N := 10) hx hb hts ws_S hown hK hP 0 e0 rfl 1 (by decide) (hts _ fl_S_20) (fun _ h9 => h9) rfl d_S_undo_1 ?_
  refine va_calli (va_runV (As := []) (rest := []) ⟨hx, hb, hml, hown, hts⟩ (c_Y_length_j (D := D) (t := t) (z := z) (sa := sa) (ws := ws) (ln := 0) e4) (cwV 0 hts (gd_V ml_S_206 im_Y_length se_Y_length in_Y cd_Y_length) rfl rfl rfl (by decide +kernel) ⟨Nat.le_of_ble_eq_true rfl, Nat.le_of_ble_eq_true rfl⟩) ⟨Pz_blind, va_recv hK hP (ci := 3) rfl e4, Pz_at hP hK hD hz hM hS⟩ rfl rfl hl.1 rfl (lv_room (Nat.le_of_ble_eq_true rfl)) d_S_undo_4 ⟨Nat.le_of_ble_eq_true rfl, Nat.le_of_ble_eq_true rfl⟩) hS (fun q _ h => h) (fun q h => h) (fun r2 w1 t9 H locs ht hvm hp hB hz1 hk1 hS => ?_)
  obtain ⟨hP, hK9, hD, -⟩ := hB
  rw [ht] at hP
  clear hK9
  obtain ⟨hr9, hw9⟩ := hp
  rw [hw9] at hP hD
  clear hw9
  subst hr9
  refine lv_iconst (v := 4) hx hb d_S_undo_7 (by decide) ?_
  refine lv_icmp_ge (tgt := 13) hx hb d_S_undo_8 rfl (fun h => absurd h (by decide)) (fun _ => ?_)
  refine lv_iconst (v := 1) hx hb d_S_undo_11 (by decide) ?_
  exact W.zret (v := 1) (ty := .boolean) hx hb hr rfl (fun t9 ht hW => ⟨⟨1, ws, rfl, ⟨rfl, rfl⟩, ⟨by rw [ht]; exact hP, va_K.moved hW.alike hK, hD, by rw [ht]; exact Nat.le_trans hz hS.1⟩⟩, hS.F ht⟩) hS.2.2 d_S_undo_12
