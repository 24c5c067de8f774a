set_option maxHeartbeats 4000000 in
set_option maxRecDepth 100000 in
theorem c_S_init {l : Launch} {D : va_G} {t : Nat → ClassId} {z : Nat} {sa : Nat → Nat} {ws : va_W} {x : Nat} (hn : ws.length = 1) (e0 : ws[0]? = some (x, .inr (5, [.null, .null, .null, .null, .null, .int 0, .int 0, .int 0, .int 0, .int 0])))  : Met l y_S_init (Cond.code y_S_init b_S_init 2 (.none : Option Jvm.ClassFile.FieldType) :: WS) ({ frames := 3, cells := 33, slots := 11065, locals := 54 }) (Pz D t z sa ws [.ref x]) (va_Qv (fun u : va_W => ∃ (x1 x2 x3 x4 x5 x6 x7 x8 x9 x10 x11 x12 x13 x14 x15 x16 x17 x18 x19 x20 x21 x22 x23 x24 x25 x26 x27 x28 x29 x30 x31 x32 x33 : Nat) (gl : Nat → Option Nat), Ch ws u [0, 1, 2, 3, 4, 5, 6, 7, 8, 9, 10, 11, 12, 13, 14, 15, 16, 17, 18, 19, 20, 21, 22, 23, 24, 25, 26, 27, 28, 29, 30, 31, 32, 33] ∧ u.length = 34 ∧ u[0]? = some (x, .inr (5, [.ref x1, .ref x4, .ref x7, .ref x8, .ref x9, .int 1, .int 0, .int 0, .int 0, .int 0])) ∧ u[1]? = some (x1, .inr (3, [.ref x2, .int 0])) ∧ u[2]? = some (x2, .inr (1, [.ref x3])) ∧ u[3]? = some (x3, .inl (t 2, 768, .inr (.inr (.inr (.inr (fun _ => none)))))) ∧ u[4]? = some (x4, .inr (3, [.ref x5, .int 0])) ∧ u[5]? = some (x5, .inr (1, [.ref x6])) ∧ u[6]? = some (x6, .inl (t 2, 781, .inr (.inr (.inr (.inr (fun _ => none)))))) ∧ u[7]? = some (x7, .inl (t 3, 6, .inr (.inr (.inr (.inr gl))))) ∧ u[8]? = some (x8, .inr (2, [.int 4, .int 0, .int 0, .int 0])) ∧ u[9]? = some (x9, .inl (t 0, 260, .inl (fun _ => 0))) ∧ u[10]? = some (x10, .inr (4, [.ref x11, .ref x13, .int 0])) ∧ u[11]? = some (x11, .inr (1, [.ref x12])) ∧ u[12]? = some (x12, .inl (t 2, 768, .inr (.inr (.inr (.inr (fun _ => none)))))) ∧ u[13]? = some (x13, .inl (t 1, 768, .inl (fun _ => 0))) ∧ u[14]? = some (x14, .inr (4, [.ref x15, .ref x17, .int 0])) ∧ u[15]? = some (x15, .inr (1, [.ref x16])) ∧ u[16]? = some (x16, .inl (t 2, 768, .inr (.inr (.inr (.inr (fun _ => none)))))) ∧ u[17]? = some (x17, .inl (t 1, 768, .inl (fun _ => 0))) ∧ u[18]? = some (x18, .inr (4, [.ref x19, .ref x21, .int 0])) ∧ u[19]? = some (x19, .inr (1, [.ref x20])) ∧ u[20]? = some (x20, .inl (t 2, 768, .inr (.inr (.inr (.inr (fun _ => none)))))) ∧ u[21]? = some (x21, .inl (t 1, 768, .inl (fun _ => 0))) ∧ u[22]? = some (x22, .inr (4, [.ref x23, .ref x25, .int 0])) ∧ u[23]? = some (x23, .inr (1, [.ref x24])) ∧ u[24]? = some (x24, .inl (t 2, 768, .inr (.inr (.inr (.inr (fun _ => none)))))) ∧ u[25]? = some (x25, .inl (t 1, 768, .inl (fun _ => 0))) ∧ u[26]? = some (x26, .inr (4, [.ref x27, .ref x29, .int 0])) ∧ u[27]? = some (x27, .inr (1, [.ref x28])) ∧ u[28]? = some (x28, .inl (t 2, 768, .inr (.inr (.inr (.inr (fun _ => none)))))) ∧ u[29]? = some (x29, .inl (t 1, 768, .inl (fun _ => 0))) ∧ u[30]? = some (x30, .inr (4, [.ref x31, .ref x33, .int 0])) ∧ u[31]? = some (x31, .inr (1, [.ref x32])) ∧ u[32]? = some (x32, .inl (t 2, 768, .inr (.inr (.inr (.inr (fun _ => none)))))) ∧ u[33]? = some (x33, .inl (t 1, 768, .inl (fun _ => 0))) ∧ gl 0 = some x10 ∧ gl 1 = some x14 ∧ gl 2 = some x18 ∧ gl 3 = some x22 ∧ gl 4 = some x26 ∧ gl 5 = some x30) (fun u U => Wd D t z u U) (Az z)) 33 11065 (Az z) := by
  refine Met.ofW (cc := b_S_init) (maxL := 2) (ret := (.none : Option Jvm.ClassFile.FieldType)) (by decide) rfl ?_
  intro p e s m args below meth c s₁ B hml hv
  obtain ⟨rfl, ⟨hP, hK, hD, hz⟩, hM⟩ := hv
  have hx := B.exec
  have hb := B.bytes
  have hr := B.returns
  have hts : ∀ w ∈ WS, w.before [.ref x].toArray s = true := fun w h => atoms_spec B.pre w (List.mem_cons_of_mem _ h)
  have hown : s.vm.findClass R_S = some m.cls := findClass_of_methodNamed B.named
  have hlocks := B.notSynchronized
  have hin : meth.name = "<init>" := (name_of_methodNamed B.named B.method).1
  have hA : ∀ q, s.heap.size ≤ q → Az z q := fun q h => Nat.le_trans hz h
  have hS : va_S (Az z) s.heap s.heap [] := va_S.rf
  have hC : Ch ws ws [] := Ch.rf
  have hl := lv_entry ([.ref x]) (n := 2) (Nat.le_of_ble_eq_true rfl)
  rw [lg_entry_eq]
  generalize (lg_sl ([.ref x]) ++ List.replicate (2 - (lg_sl ([.ref x])).length) Slot.unset).toArray = ls at hl ⊢
  have hl : lv_has ls 2 [(0, .ref x)] := hl
  refine lv_aload_n hx hb d_S_init_0 rfl (lv_at hl 0 rfl) ?_
  refine W.objInit hx hb hown (hts _ ml_S_3) (hts _ oi_im) (hts _ oi_cd) rfl (by rw [hml]; exact hl.1) rfl d_S_init_1 (Nat.le_of_ble_eq_true rfl) (Nat.le_of_ble_eq_true rfl) ?_
  refine W.eq (g2 := F0 m 4 ls []) rfl ?_
  refine lv_aload_n hx hb d_S_init_4 rfl (lv_at hl 0 rfl) ?_
  refine va_new (ci := 3) (fs := [.null, .int 0]) (C := R_Y) (T := F_Y) (N := 2) hx hb hts ws_Y t_Y ok_Y hown (hts _ cl_S_9) (hts _ ib_Y) (hts _ in_Y) hK hP hD hS hA rfl (fun j hj => by rcases (show j = 0 ∨ j = 1 by omega) with rfl | rfl <;> rfl) (Nat.le_of_ble_eq_true rfl) (Nat.le_of_ble_eq_true rfl) d_S_init_5 (fun q1 H hP hD hS => ?_)
  obtain ⟨w2, hw⟩ : ∃ q, q = ws ++ [(q1, .inr (3, [.null, .int 0]))] := ⟨_, rfl⟩
  have hP : va_P D Cl (ws ++ [(q1, .inr (3, [.null, .int 0]))]) H := hP
  have hD : va_D (Az z) (ws ++ [(q1, .inr (3, [.null, .int 0]))]) := hD
  rw [← hw] at hP hD
  have hC := hC.push (c := [(q1, .inr (3, [.null, .int 0]))])
  rw [← hw] at hC
  have e0 : w2[0]? = some (x, .inr (5, [.null, .null, .null, .null, .null, .int 0, .int 0, .int 0, .int 0, .int 0])) := by rw [hw]; exact lk_push e0
  have e1 : w2[1]? = some (q1, .inr (3, [.null, .int 0])) := by rw [hw]; exact lk_new hn
  have hn : w2.length = 2 := by rw [hw, List.length_append, hn]; rfl
  clear hw
  refine lv_dup hx hb d_S_init_8 rfl ?_
  refine lv_ldc (v := 196608) hx hb hown (hts _ co_S_11) d_S_init_9 ?_
  refine va_callv (va_runI (As := [.int 196608]) (rest := [.ref q1, .ref x]) ⟨hx, hb, hml, hown, hts⟩ (c_Y_init_f (D := D) (t := t) (z := z) (sa := sa) (ws := w2)  hn e1) (cwI 1 hts (gd_I cd_Y_init) rfl rfl rfl (hts _ in_Y) (hts _ ml_S_12) (hts _ im_Y_init) rfl (by decide +kernel) ⟨Nat.le_of_ble_eq_true rfl, Nat.le_of_ble_eq_true rfl⟩) ⟨Pz_blind, Pz_at hP hK hD hz hM hS⟩ rfl rfl hl.1 rfl (lv_room (Nat.le_of_ble_eq_true rfl)) d_S_init_11 ⟨Nat.le_of_ble_eq_true rfl, Nat.le_of_ble_eq_true rfl⟩) hS (fun q _ h => h) (fun q h => h) (fun w3 t9 H locs ht hvm hp hB hz1 hk1 hS => ?_)
  obtain ⟨hP, hK9, hD, -⟩ := hB
  rw [ht] at hP
  clear hK9
  obtain ⟨b1, a1, hC9, hn9, kf1, kf2, kf3⟩ := hp
  have e0 : w3[0]? = some (x, .inr (5, [.null, .null, .null, .null, .null, .int 0, .int 0, .int 0, .int 0, .int 0])) := hC9.keep e0 (by decide)
  have e1 : w3[1]? = some (q1, .inr (3, [.ref b1, .int 0])) := kf1
  have e2 : w3[2]? = some (b1, .inr (1, [.ref a1])) := kf2
  have e3 : w3[3]? = some (a1, .inl (t 2, 768, .inr (.inr (.inr (.inr (fun _ => none)))))) := kf3
  have hC := hC.trans hC9
  have hn : w3.length = 4 := hn9
  refine va_putF (D := D) (ci := 5) (v := .ref q1) (ty := (.object "PageStore$LastingBytes")) (C := R_S) (T := F_S) (N := 10) hx hb hts ws_S t_S ok_S n_S hown hK hP hD hS 0 e0 rfl 0 (by decide) (hts _ fl_S_15) (fun _ h9 => h9) rfl hin rfl (by decide +kernel) rfl rfl (Nat.le_of_ble_eq_true rfl) d_S_init_14 (fun H locs hP hD hS => ?_)
  obtain ⟨w5, hw⟩ : ∃ q, q = w3.set 0 (x, .inr (5, [.ref q1, .null, .null, .null, .null, .int 0, .int 0, .int 0, .int 0, .int 0])) := ⟨_, rfl⟩
  have hP : va_P D Cl (w3.set 0 (x, .inr (5, [.ref q1, .null, .null, .null, .null, .int 0, .int 0, .int 0, .int 0, .int 0]))) H := hP
  have hD : va_D (Az z) (w3.set 0 (x, .inr (5, [.ref q1, .null, .null, .null, .null, .int 0, .int 0, .int 0, .int 0, .int 0]))) := hD
  rw [← hw] at hP hD
  have hC := hC.put (p := 0) (c := (x, .inr (5, [.ref q1, .null, .null, .null, .null, .int 0, .int 0, .int 0, .int 0, .int 0])))
  rw [← hw] at hC
  have e0 : w5[0]? = some (x, .inr (5, [.ref q1, .null, .null, .null, .null, .int 0, .int 0, .int 0, .int 0, .int 0])) := by rw [hw]; exact lk_set e0
  have e1 : w5[1]? = some (q1, .inr (3, [.ref b1, .int 0])) := by rw [hw]; exact lk_ne e1 (by decide)
  have e2 : w5[2]? = some (b1, .inr (1, [.ref a1])) := by rw [hw]; exact lk_ne e2 (by decide)
  have e3 : w5[3]? = some (a1, .inl (t 2, 768, .inr (.inr (.inr (.inr (fun _ => none)))))) := by rw [hw]; exact lk_ne e3 (by decide)
  have hn : w5.length = 4 := by rw [hw, List.length_set]; exact hn
  clear hw
  refine lv_aload_n hx hb d_S_init_17 rfl (lv_at hl 0 rfl) ?_
  refine va_new (ci := 3) (fs := [.null, .int 0]) (C := R_Y) (T := F_Y) (N := 2) hx hb hts ws_Y t_Y ok_Y hown (hts _ cl_S_9) (hts _ ib_Y) (hts _ in_Y) hK hP hD hS hA rfl (fun j hj => by rcases (show j = 0 ∨ j = 1 by omega) with rfl | rfl <;> rfl) (Nat.le_of_ble_eq_true rfl) (Nat.le_of_ble_eq_true rfl) d_S_init_18 (fun q6 H hP hD hS => ?_)
  obtain ⟨w7, hw⟩ : ∃ q, q = w5 ++ [(q6, .inr (3, [.null, .int 0]))] := ⟨_, rfl⟩
  have hP : va_P D Cl (w5 ++ [(q6, .inr (3, [.null, .int 0]))]) H := hP
  have hD : va_D (Az z) (w5 ++ [(q6, .inr (3, [.null, .int 0]))]) := hD
  rw [← hw] at hP hD
  have hC := hC.push (c := [(q6, .inr (3, [.null, .int 0]))])
  rw [← hw] at hC
  have e0 : w7[0]? = some (x, .inr (5, [.ref q1, .null, .null, .null, .null, .int 0, .int 0, .int 0, .int 0, .int 0])) := by rw [hw]; exact lk_push e0
  have e1 : w7[1]? = some (q1, .inr (3, [.ref b1, .int 0])) := by rw [hw]; exact lk_push e1
  have e2 : w7[2]? = some (b1, .inr (1, [.ref a1])) := by rw [hw]; exact lk_push e2
  have e3 : w7[3]? = some (a1, .inl (t 2, 768, .inr (.inr (.inr (.inr (fun _ => none)))))) := by rw [hw]; exact lk_push e3
  have e4 : w7[4]? = some (q6, .inr (3, [.null, .int 0])) := by rw [hw]; exact lk_new hn
  have hn : w7.length = 5 := by rw [hw, List.length_append, hn]; rfl
  clear hw
  refine lv_dup hx hb d_S_init_21 rfl ?_
  refine lv_ldc (v := 199684) hx hb hown (hts _ co_S_19) d_S_init_22 ?_
  refine va_callv (va_runI (As := [.int 199684]) (rest := [.ref q6, .ref x]) ⟨hx, hb, hml, hown, hts⟩ (c_Y_init_j (D := D) (t := t) (z := z) (sa := sa) (ws := w7)  hn e4) (cwI 1 hts (gd_I cd_Y_init) rfl rfl rfl (hts _ in_Y) (hts _ ml_S_12) (hts _ im_Y_init) rfl (by decide +kernel) ⟨Nat.le_of_ble_eq_true rfl, Nat.le_of_ble_eq_true rfl⟩) ⟨Pz_blind, Pz_at hP hK hD hz hM hS⟩ rfl rfl hl.1 rfl (lv_room (Nat.le_of_ble_eq_true rfl)) d_S_init_24 ⟨Nat.le_of_ble_eq_true rfl, Nat.le_of_ble_eq_true rfl⟩) hS (fun q _ h => h) (fun q h => h) (fun w8 t9 H locs ht hvm hp hB hz1 hk1 hS => ?_)
  obtain ⟨hP, hK9, hD, -⟩ := hB
  rw [ht] at hP
  clear hK9
  obtain ⟨b4, a4, hC9, hn9, kf4, kf5, kf6⟩ := hp
  have e0 : w8[0]? = some (x, .inr (5, [.ref q1, .null, .null, .null, .null, .int 0, .int 0, .int 0, .int 0, .int 0])) := hC9.keep e0 (by decide)
  have e1 : w8[1]? = some (q1, .inr (3, [.ref b1, .int 0])) := hC9.keep e1 (by decide)
  have e2 : w8[2]? = some (b1, .inr (1, [.ref a1])) := hC9.keep e2 (by decide)
  have e3 : w8[3]? = some (a1, .inl (t 2, 768, .inr (.inr (.inr (.inr (fun _ => none)))))) := hC9.keep e3 (by decide)
  have e4 : w8[4]? = some (q6, .inr (3, [.ref b4, .int 0])) := kf4
  have e5 : w8[5]? = some (b4, .inr (1, [.ref a4])) := kf5
  have e6 : w8[6]? = some (a4, .inl (t 2, 781, .inr (.inr (.inr (.inr (fun _ => none)))))) := kf6
  have hC := hC.trans hC9
  have hn : w8.length = 7 := hn9
  refine va_putF (D := D) (ci := 5) (v := .ref q6) (ty := (.object "PageStore$LastingBytes")) (C := R_S) (T := F_S) (N := 10) hx hb hts ws_S t_S ok_S n_S hown hK hP hD hS 0 e0 rfl 1 (by decide) (hts _ fl_S_20) (fun _ h9 => h9) rfl hin rfl (by decide +kernel) rfl rfl (Nat.le_of_ble_eq_true rfl) d_S_init_27 (fun H locs hP hD hS => ?_)
  obtain ⟨w10, hw⟩ : ∃ q, q = w8.set 0 (x, .inr (5, [.ref q1, .ref q6, .null, .null, .null, .int 0, .int 0, .int 0, .int 0, .int 0])) := ⟨_, rfl⟩
  have hP : va_P D Cl (w8.set 0 (x, .inr (5, [.ref q1, .ref q6, .null, .null, .null, .int 0, .int 0, .int 0, .int 0, .int 0]))) H := hP
  have hD : va_D (Az z) (w8.set 0 (x, .inr (5, [.ref q1, .ref q6, .null, .null, .null, .int 0, .int 0, .int 0, .int 0, .int 0]))) := hD
  rw [← hw] at hP hD
  have hC := hC.put (p := 0) (c := (x, .inr (5, [.ref q1, .ref q6, .null, .null, .null, .int 0, .int 0, .int 0, .int 0, .int 0])))
  rw [← hw] at hC
  have e0 : w10[0]? = some (x, .inr (5, [.ref q1, .ref q6, .null, .null, .null, .int 0, .int 0, .int 0, .int 0, .int 0])) := by rw [hw]; exact lk_set e0
  have e1 : w10[1]? = some (q1, .inr (3, [.ref b1, .int 0])) := by rw [hw]; exact lk_ne e1 (by decide)
  have e2 : w10[2]? = some (b1, .inr (1, [.ref a1])) := by rw [hw]; exact lk_ne e2 (by decide)
  have e3 : w10[3]? = some (a1, .inl (t 2, 768, .inr (.inr (.inr (.inr (fun _ => none)))))) := by rw [hw]; exact lk_ne e3 (by decide)
  have e4 : w10[4]? = some (q6, .inr (3, [.ref b4, .int 0])) := by rw [hw]; exact lk_ne e4 (by decide)
  have e5 : w10[5]? = some (b4, .inr (1, [.ref a4])) := by rw [hw]; exact lk_ne e5 (by decide)
  have e6 : w10[6]? = some (a4, .inl (t 2, 781, .inr (.inr (.inr (.inr (fun _ => none)))))) := by rw [hw]; exact lk_ne e6 (by decide)
  have hn : w10.length = 7 := by rw [hw, List.length_set]; exact hn
  clear hw
  refine lv_aload_n hx hb d_S_init_30 rfl (lv_at hl 0 rfl) ?_
  refine lv_bipush (v := 6) hx hb d_S_init_31 (by decide) ?_
  refine va_newq (D := D) hx hb hown (hts _ cl_S_23) hM.2.2.2.2.2.1 hK hP hD hS hA (N' := 6) (by decide) (by decide) (by decide) (Nat.le_of_ble_eq_true rfl) (Nat.le_of_ble_eq_true rfl) d_S_init_33 (fun q11 cA H hK2 hP hD hS => ?_)
  have hcA : cA = t 3 := ra_obj (hK2.2 6 (cA, .object "PageStore$Layer") rfl).2 (hK.2 3 (t 3, .object "PageStore$Layer") rfl).2
  rw [hcA] at hP hD
  clear hK2 hcA
  obtain ⟨w12, hw⟩ : ∃ q, q = w10 ++ [(q11, .inl (t 3, 6, .inr (.inr (.inr (.inr (fun _ => none))))))] := ⟨_, rfl⟩
  have hP : va_P D Cl (w10 ++ [(q11, .inl (t 3, 6, .inr (.inr (.inr (.inr (fun _ => none))))))]) H := hP
  have hD : va_D (Az z) (w10 ++ [(q11, .inl (t 3, 6, .inr (.inr (.inr (.inr (fun _ => none))))))]) := hD
  rw [← hw] at hP hD
  have hC := hC.push (c := [(q11, .inl (t 3, 6, .inr (.inr (.inr (.inr (fun _ => none))))))])
  rw [← hw] at hC
  have e0 : w12[0]? = some (x, .inr (5, [.ref q1, .ref q6, .null, .null, .null, .int 0, .int 0, .int 0, .int 0, .int 0])) := by rw [hw]; exact lk_push e0
  have e1 : w12[1]? = some (q1, .inr (3, [.ref b1, .int 0])) := by rw [hw]; exact lk_push e1
  have e2 : w12[2]? = some (b1, .inr (1, [.ref a1])) := by rw [hw]; exact lk_push e2
  have e3 : w12[3]? = some (a1, .inl (t 2, 768, .inr (.inr (.inr (.inr (fun _ => none)))))) := by rw [hw]; exact lk_push e3
  have e4 : w12[4]? = some (q6, .inr (3, [.ref b4, .int 0])) := by rw [hw]; exact lk_push e4
  have e5 : w12[5]? = some (b4, .inr (1, [.ref a4])) := by rw [hw]; exact lk_push e5
  have e6 : w12[6]? = some (a4, .inl (t 2, 781, .inr (.inr (.inr (.inr (fun _ => none)))))) := by rw [hw]; exact lk_push e6
  have e7 : w12[7]? = some (q11, .inl (t 3, 6, .inr (.inr (.inr (.inr (fun _ => none)))))) := by rw [hw]; exact lk_new hn
  have hn : w12.length = 8 := by rw [hw, List.length_append, hn]; rfl
  clear hw
  refine va_putF (D := D) (ci := 5) (v := .ref q11) (ty := (.array (.object "PageStore$Layer"))) (C := R_S) (T := F_S) (N := 10) hx hb hts ws_S t_S ok_S n_S hown hK hP hD hS 0 e0 rfl 2 (by decide) (hts _ fl_S_25) (fun _ h9 => h9) rfl hin rfl (by decide +kernel) rfl rfl (Nat.le_of_ble_eq_true rfl) d_S_init_36 (fun H locs hP hD hS => ?_)
  obtain ⟨w13, hw⟩ : ∃ q, q = w12.set 0 (x, .inr (5, [.ref q1, .ref q6, .ref q11, .null, .null, .int 0, .int 0, .int 0, .int 0, .int 0])) := ⟨_, rfl⟩
  have hP : va_P D Cl (w12.set 0 (x, .inr (5, [.ref q1, .ref q6, .ref q11, .null, .null, .int 0, .int 0, .int 0, .int 0, .int 0]))) H := hP
  have hD : va_D (Az z) (w12.set 0 (x, .inr (5, [.ref q1, .ref q6, .ref q11, .null, .null, .int 0, .int 0, .int 0, .int 0, .int 0]))) := hD
  rw [← hw] at hP hD
  have hC := hC.put (p := 0) (c := (x, .inr (5, [.ref q1, .ref q6, .ref q11, .null, .null, .int 0, .int 0, .int 0, .int 0, .int 0])))
  rw [← hw] at hC
  have e0 : w13[0]? = some (x, .inr (5, [.ref q1, .ref q6, .ref q11, .null, .null, .int 0, .int 0, .int 0, .int 0, .int 0])) := by rw [hw]; exact lk_set e0
  have e1 : w13[1]? = some (q1, .inr (3, [.ref b1, .int 0])) := by rw [hw]; exact lk_ne e1 (by decide)
  have e2 : w13[2]? = some (b1, .inr (1, [.ref a1])) := by rw [hw]; exact lk_ne e2 (by decide)
  have e3 : w13[3]? = some (a1, .inl (t 2, 768, .inr (.inr (.inr (.inr (fun _ => none)))))) := by rw [hw]; exact lk_ne e3 (by decide)
  have e4 : w13[4]? = some (q6, .inr (3, [.ref b4, .int 0])) := by rw [hw]; exact lk_ne e4 (by decide)
  have e5 : w13[5]? = some (b4, .inr (1, [.ref a4])) := by rw [hw]; exact lk_ne e5 (by decide)
  have e6 : w13[6]? = some (a4, .inl (t 2, 781, .inr (.inr (.inr (.inr (fun _ => none)))))) := by rw [hw]; exact lk_ne e6 (by decide)
  have e7 : w13[7]? = some (q11, .inl (t 3, 6, .inr (.inr (.inr (.inr (fun _ => none)))))) := by rw [hw]; exact lk_ne e7 (by decide)
  have hn : w13.length = 8 := by rw [hw, List.length_set]; exact hn
  clear hw
  refine lv_aload_n hx hb d_S_init_39 rfl (lv_at hl 0 rfl) ?_
  refine va_new (ci := 2) (fs := [.int 0, .int 0, .int 0, .int 0]) (C := R_U) (T := F_U) (N := 4) hx hb hts ws_U t_U ok_U hown (hts _ cl_S_29) (hts _ ib_U) (hts _ in_U) hK hP hD hS hA rfl (fun j hj => by rcases (show j = 0 ∨ j = 1 ∨ j = 2 ∨ j = 3 by omega) with rfl | rfl | rfl | rfl <;> rfl) (Nat.le_of_ble_eq_true rfl) (Nat.le_of_ble_eq_true rfl) d_S_init_40 (fun q14 H hP hD hS => ?_)
  obtain ⟨w15, hw⟩ : ∃ q, q = w13 ++ [(q14, .inr (2, [.int 0, .int 0, .int 0, .int 0]))] := ⟨_, rfl⟩
  have hP : va_P D Cl (w13 ++ [(q14, .inr (2, [.int 0, .int 0, .int 0, .int 0]))]) H := hP
  have hD : va_D (Az z) (w13 ++ [(q14, .inr (2, [.int 0, .int 0, .int 0, .int 0]))]) := hD
  rw [← hw] at hP hD
  have hC := hC.push (c := [(q14, .inr (2, [.int 0, .int 0, .int 0, .int 0]))])
  rw [← hw] at hC
  have e0 : w15[0]? = some (x, .inr (5, [.ref q1, .ref q6, .ref q11, .null, .null, .int 0, .int 0, .int 0, .int 0, .int 0])) := by rw [hw]; exact lk_push e0
  have e1 : w15[1]? = some (q1, .inr (3, [.ref b1, .int 0])) := by rw [hw]; exact lk_push e1
  have e2 : w15[2]? = some (b1, .inr (1, [.ref a1])) := by rw [hw]; exact lk_push e2
  have e3 : w15[3]? = some (a1, .inl (t 2, 768, .inr (.inr (.inr (.inr (fun _ => none)))))) := by rw [hw]; exact lk_push e3
  have e4 : w15[4]? = some (q6, .inr (3, [.ref b4, .int 0])) := by rw [hw]; exact lk_push e4
  have e5 : w15[5]? = some (b4, .inr (1, [.ref a4])) := by rw [hw]; exact lk_push e5
  have e6 : w15[6]? = some (a4, .inl (t 2, 781, .inr (.inr (.inr (.inr (fun _ => none)))))) := by rw [hw]; exact lk_push e6
  have e7 : w15[7]? = some (q11, .inl (t 3, 6, .inr (.inr (.inr (.inr (fun _ => none)))))) := by rw [hw]; exact lk_push e7
  have e8 : w15[8]? = some (q14, .inr (2, [.int 0, .int 0, .int 0, .int 0])) := by rw [hw]; exact lk_new hn
  have hn : w15.length = 9 := by rw [hw, List.length_append, hn]; rfl
  clear hw
  refine lv_dup hx hb d_S_init_43 rfl ?_
  refine va_callv (va_runIN (As := []) (rest := [.ref q14, .ref x]) ⟨hx, hb, hml, hown, hts⟩ (c_U_init (D := D) (t := t) (z := z) (sa := sa) (ws := w15)  hn e8) ⟨va_cnB 0 hts (gd_I cd_U_init) rfl rfl rfl hM.1 (hts _ in_U) (by decide +kernel) ⟨Nat.le_of_ble_eq_true rfl, Nat.le_of_ble_eq_true rfl⟩, rfl, hts _ im_U_init⟩ ⟨Pz_blind, Pz_at hP hK hD hz hM hS⟩ rfl rfl hl.1 rfl (lv_room (Nat.le_of_ble_eq_true rfl)) d_S_init_44 ⟨Nat.le_of_ble_eq_true rfl, Nat.le_of_ble_eq_true rfl⟩) hS (fun q _ h => h) (fun q h => h) (fun w16 t9 H locs ht hvm hp hB hz1 hk1 hS => ?_)
  obtain ⟨hP, hK9, hD, -⟩ := hB
  rw [ht] at hP
  clear hK9
  obtain ⟨hC9, hn9, kf8⟩ := hp
  have e0 : w16[0]? = some (x, .inr (5, [.ref q1, .ref q6, .ref q11, .null, .null, .int 0, .int 0, .int 0, .int 0, .int 0])) := hC9.keep e0 (by decide)
  have e1 : w16[1]? = some (q1, .inr (3, [.ref b1, .int 0])) := hC9.keep e1 (by decide)
  have e2 : w16[2]? = some (b1, .inr (1, [.ref a1])) := hC9.keep e2 (by decide)
  have e3 : w16[3]? = some (a1, .inl (t 2, 768, .inr (.inr (.inr (.inr (fun _ => none)))))) := hC9.keep e3 (by decide)
  have e4 : w16[4]? = some (q6, .inr (3, [.ref b4, .int 0])) := hC9.keep e4 (by decide)
  have e5 : w16[5]? = some (b4, .inr (1, [.ref a4])) := hC9.keep e5 (by decide)
  have e6 : w16[6]? = some (a4, .inl (t 2, 781, .inr (.inr (.inr (.inr (fun _ => none)))))) := hC9.keep e6 (by decide)
  have e7 : w16[7]? = some (q11, .inl (t 3, 6, .inr (.inr (.inr (.inr (fun _ => none)))))) := hC9.keep e7 (by decide)
  have e8 : w16[8]? = some (q14, .inr (2, [.int 4, .int 0, .int 0, .int 0])) := kf8
  have hC := hC.trans hC9
  have hn : w16.length = 9 := hn9
  refine va_putF (D := D) (ci := 5) (v := .ref q14) (ty := (.object "PageStore$Fuse")) (C := R_S) (T := F_S) (N := 10) hx hb hts ws_S t_S ok_S n_S hown hK hP hD hS 0 e0 rfl 3 (by decide) (hts _ fl_S_32) (fun _ h9 => h9) rfl hin rfl (by decide +kernel) rfl rfl (Nat.le_of_ble_eq_true rfl) d_S_init_47 (fun H locs hP hD hS => ?_)
  obtain ⟨w18, hw⟩ : ∃ q, q = w16.set 0 (x, .inr (5, [.ref q1, .ref q6, .ref q11, .ref q14, .null, .int 0, .int 0, .int 0, .int 0, .int 0])) := ⟨_, rfl⟩
  have hP : va_P D Cl (w16.set 0 (x, .inr (5, [.ref q1, .ref q6, .ref q11, .ref q14, .null, .int 0, .int 0, .int 0, .int 0, .int 0]))) H := hP
  have hD : va_D (Az z) (w16.set 0 (x, .inr (5, [.ref q1, .ref q6, .ref q11, .ref q14, .null, .int 0, .int 0, .int 0, .int 0, .int 0]))) := hD
  rw [← hw] at hP hD
  have hC := hC.put (p := 0) (c := (x, .inr (5, [.ref q1, .ref q6, .ref q11, .ref q14, .null, .int 0, .int 0, .int 0, .int 0, .int 0])))
  rw [← hw] at hC
  have e0 : w18[0]? = some (x, .inr (5, [.ref q1, .ref q6, .ref q11, .ref q14, .null, .int 0, .int 0, .int 0, .int 0, .int 0])) := by rw [hw]; exact lk_set e0
  have e1 : w18[1]? = some (q1, .inr (3, [.ref b1, .int 0])) := by rw [hw]; exact lk_ne e1 (by decide)
  have e2 : w18[2]? = some (b1, .inr (1, [.ref a1])) := by rw [hw]; exact lk_ne e2 (by decide)
  have e3 : w18[3]? = some (a1, .inl (t 2, 768, .inr (.inr (.inr (.inr (fun _ => none)))))) := by rw [hw]; exact lk_ne e3 (by decide)
  have e4 : w18[4]? = some (q6, .inr (3, [.ref b4, .int 0])) := by rw [hw]; exact lk_ne e4 (by decide)
  have e5 : w18[5]? = some (b4, .inr (1, [.ref a4])) := by rw [hw]; exact lk_ne e5 (by decide)
  have e6 : w18[6]? = some (a4, .inl (t 2, 781, .inr (.inr (.inr (.inr (fun _ => none)))))) := by rw [hw]; exact lk_ne e6 (by decide)
  have e7 : w18[7]? = some (q11, .inl (t 3, 6, .inr (.inr (.inr (.inr (fun _ => none)))))) := by rw [hw]; exact lk_ne e7 (by decide)
  have e8 : w18[8]? = some (q14, .inr (2, [.int 4, .int 0, .int 0, .int 0])) := by rw [hw]; exact lk_ne e8 (by decide)
  have hn : w18.length = 9 := by rw [hw, List.length_set]; exact hn
  clear hw
  refine lv_aload_n hx hb d_S_init_50 rfl (lv_at hl 0 rfl) ?_
  refine lv_sipush (v := 260) hx hb d_S_init_51 (by decide) ?_
  refine va_newa (D := D) (atype := .byte) hx hb (hts _ ac_byte) (ty := .byte) rfl hK hP hD hS hA (N' := 260) (a0 := (260, .inl (fun _ => 0))) (fun cA => rfl) (by decide) (by decide) (by decide) (Nat.le_of_ble_eq_true rfl) (Nat.le_of_ble_eq_true rfl) d_S_init_54 (fun q19 cA H hK2 hP hD hS => ?_)
  have hcA : cA = t 0 := Option.some.inj ((hK2.2 6 (cA, .byte) rfl).2.symm.trans (hK.2 0 (t 0, .byte) rfl).2)
  rw [hcA] at hP hD
  clear hK2 hcA
  obtain ⟨w20, hw⟩ : ∃ q, q = w18 ++ [(q19, .inl (t 0, 260, .inl (fun _ => 0)))] := ⟨_, rfl⟩
  have hP : va_P D Cl (w18 ++ [(q19, .inl (t 0, 260, .inl (fun _ => 0)))]) H := hP
  have hD : va_D (Az z) (w18 ++ [(q19, .inl (t 0, 260, .inl (fun _ => 0)))]) := hD
  rw [← hw] at hP hD
  have hC := hC.push (c := [(q19, .inl (t 0, 260, .inl (fun _ => 0)))])
  rw [← hw] at hC
  have e0 : w20[0]? = some (x, .inr (5, [.ref q1, .ref q6, .ref q11, .ref q14, .null, .int 0, .int 0, .int 0, .int 0, .int 0])) := by rw [hw]; exact lk_push e0
  have e1 : w20[1]? = some (q1, .inr (3, [.ref b1, .int 0])) := by rw [hw]; exact lk_push e1
  have e2 : w20[2]? = some (b1, .inr (1, [.ref a1])) := by rw [hw]; exact lk_push e2
  have e3 : w20[3]? = some (a1, .inl (t 2, 768, .inr (.inr (.inr (.inr (fun _ => none)))))) := by rw [hw]; exact lk_push e3
  have e4 : w20[4]? = some (q6, .inr (3, [.ref b4, .int 0])) := by rw [hw]; exact lk_push e4
  have e5 : w20[5]? = some (b4, .inr (1, [.ref a4])) := by rw [hw]; exact lk_push e5
  have e6 : w20[6]? = some (a4, .inl (t 2, 781, .inr (.inr (.inr (.inr (fun _ => none)))))) := by rw [hw]; exact lk_push e6
  have e7 : w20[7]? = some (q11, .inl (t 3, 6, .inr (.inr (.inr (.inr (fun _ => none)))))) := by rw [hw]; exact lk_push e7
  have e8 : w20[8]? = some (q14, .inr (2, [.int 4, .int 0, .int 0, .int 0])) := by rw [hw]; exact lk_push e8
  have e9 : w20[9]? = some (q19, .inl (t 0, 260, .inl (fun _ => 0))) := by rw [hw]; exact lk_new hn
  have hn : w20.length = 10 := by rw [hw, List.length_append, hn]; rfl
  clear hw
  refine va_putF (D := D) (ci := 5) (v := .ref q19) (ty := (.array .byte)) (C := R_S) (T := F_S) (N := 10) hx hb hts ws_S t_S ok_S n_S hown hK hP hD hS 0 e0 rfl 4 (by decide) (hts _ fl_S_36) (fun _ h9 => h9) rfl hin rfl (by decide +kernel) rfl rfl (Nat.le_of_ble_eq_true rfl) d_S_init_56 (fun H locs hP hD hS => ?_)
  obtain ⟨w21, hw⟩ : ∃ q, q = w20.set 0 (x, .inr (5, [.ref q1, .ref q6, .ref q11, .ref q14, .ref q19, .int 0, .int 0, .int 0, .int 0, .int 0])) := ⟨_, rfl⟩
  have hP : va_P D Cl (w20.set 0 (x, .inr (5, [.ref q1, .ref q6, .ref q11, .ref q14, .ref q19, .int 0, .int 0, .int 0, .int 0, .int 0]))) H := hP
  have hD : va_D (Az z) (w20.set 0 (x, .inr (5, [.ref q1, .ref q6, .ref q11, .ref q14, .ref q19, .int 0, .int 0, .int 0, .int 0, .int 0]))) := hD
  rw [← hw] at hP hD
  have hC := hC.put (p := 0) (c := (x, .inr (5, [.ref q1, .ref q6, .ref q11, .ref q14, .ref q19, .int 0, .int 0, .int 0, .int 0, .int 0])))
  rw [← hw] at hC
  have e0 : w21[0]? = some (x, .inr (5, [.ref q1, .ref q6, .ref q11, .ref q14, .ref q19, .int 0, .int 0, .int 0, .int 0, .int 0])) := by rw [hw]; exact lk_set e0
  have e1 : w21[1]? = some (q1, .inr (3, [.ref b1, .int 0])) := by rw [hw]; exact lk_ne e1 (by decide)
  have e2 : w21[2]? = some (b1, .inr (1, [.ref a1])) := by rw [hw]; exact lk_ne e2 (by decide)
  have e3 : w21[3]? = some (a1, .inl (t 2, 768, .inr (.inr (.inr (.inr (fun _ => none)))))) := by rw [hw]; exact lk_ne e3 (by decide)
  have e4 : w21[4]? = some (q6, .inr (3, [.ref b4, .int 0])) := by rw [hw]; exact lk_ne e4 (by decide)
  have e5 : w21[5]? = some (b4, .inr (1, [.ref a4])) := by rw [hw]; exact lk_ne e5 (by decide)
  have e6 : w21[6]? = some (a4, .inl (t 2, 781, .inr (.inr (.inr (.inr (fun _ => none)))))) := by rw [hw]; exact lk_ne e6 (by decide)
  have e7 : w21[7]? = some (q11, .inl (t 3, 6, .inr (.inr (.inr (.inr (fun _ => none)))))) := by rw [hw]; exact lk_ne e7 (by decide)
  have e8 : w21[8]? = some (q14, .inr (2, [.int 4, .int 0, .int 0, .int 0])) := by rw [hw]; exact lk_ne e8 (by decide)
  have e9 : w21[9]? = some (q19, .inl (t 0, 260, .inl (fun _ => 0))) := by rw [hw]; exact lk_ne e9 (by decide)
  have hn : w21.length = 10 := by rw [hw, List.length_set]; exact hn
  clear hw
  refine lv_aload_n hx hb d_S_init_59 rfl (lv_at hl 0 rfl) ?_
  refine lv_iconst (v := 1) hx hb d_S_init_60 (by decide) ?_
  refine va_put (D := D) (ci := 5) (v := .int 1) (ty := .boolean) (C := R_S) (T := F_S) (N := 10) hx hb hts ws_S t_S ok_S n_S hown hK hP hD hS 0 e0 rfl 5 (by decide) (hts _ fl_S_40) (fun _ h9 => h9) rfl (by decide +kernel) rfl rfl (Nat.le_of_ble_eq_true rfl) d_S_init_61 (fun H locs hP hD hS => ?_)
  obtain ⟨w22, hw⟩ : ∃ q, q = w21.set 0 (x, .inr (5, [.ref q1, .ref q6, .ref q11, .ref q14, .ref q19, .int 1, .int 0, .int 0, .int 0, .int 0])) := ⟨_, rfl⟩
  have hP : va_P D Cl (w21.set 0 (x, .inr (5, [.ref q1, .ref q6, .ref q11, .ref q14, .ref q19, .int 1, .int 0, .int 0, .int 0, .int 0]))) H := hP
  have hD : va_D (Az z) (w21.set 0 (x, .inr (5, [.ref q1, .ref q6, .ref q11, .ref q14, .ref q19, .int 1, .int 0, .int 0, .int 0, .int 0]))) := hD
  rw [← hw] at hP hD
  have hC := hC.put (p := 0) (c := (x, .inr (5, [.ref q1, .ref q6, .ref q11, .ref q14, .ref q19, .int 1, .int 0, .int 0, .int 0, .int 0])))
  rw [← hw] at hC
  have e0 : w22[0]? = some (x, .inr (5, [.ref q1, .ref q6, .ref q11, .ref q14, .ref q19, .int 1, .int 0, .int 0, .int 0, .int 0])) := by rw [hw]; exact lk_set e0
  have e1 : w22[1]? = some (q1, .inr (3, [.ref b1, .int 0])) := by rw [hw]; exact lk_ne e1 (by decide)
  have e2 : w22[2]? = some (b1, .inr (1, [.ref a1])) := by rw [hw]; exact lk_ne e2 (by decide)
  have e3 : w22[3]? = some (a1, .inl (t 2, 768, .inr (.inr (.inr (.inr (fun _ => none)))))) := by rw [hw]; exact lk_ne e3 (by decide)
  have e4 : w22[4]? = some (q6, .inr (3, [.ref b4, .int 0])) := by rw [hw]; exact lk_ne e4 (by decide)
  have e5 : w22[5]? = some (b4, .inr (1, [.ref a4])) := by rw [hw]; exact lk_ne e5 (by decide)
  have e6 : w22[6]? = some (a4, .inl (t 2, 781, .inr (.inr (.inr (.inr (fun _ => none)))))) := by rw [hw]; exact lk_ne e6 (by decide)
  have e7 : w22[7]? = some (q11, .inl (t 3, 6, .inr (.inr (.inr (.inr (fun _ => none)))))) := by rw [hw]; exact lk_ne e7 (by decide)
  have e8 : w22[8]? = some (q14, .inr (2, [.int 4, .int 0, .int 0, .int 0])) := by rw [hw]; exact lk_ne e8 (by decide)
  have e9 : w22[9]? = some (q19, .inl (t 0, 260, .inl (fun _ => 0))) := by rw [hw]; exact lk_ne e9 (by decide)
  have hn : w22.length = 10 := by rw [hw, List.length_set]; exact hn
  clear hw
  refine lv_aload_n hx hb d_S_init_64 rfl (lv_at hl 0 rfl) ?_
  refine lv_iconst (v := 0) hx hb d_S_init_65 (by decide) ?_
  refine va_put (D := D) (ci := 5) (v := .int 0) (ty := .boolean) (C := R_S) (T := F_S) (N := 10) hx hb hts ws_S t_S ok_S n_S hown hK hP hD hS 0 e0 rfl 6 (by decide) (hts _ fl_S_44) (fun _ h9 => h9) rfl (by decide +kernel) rfl rfl (Nat.le_of_ble_eq_true rfl) d_S_init_66 (fun H locs hP hD hS => ?_)
  obtain ⟨w23, hw⟩ : ∃ q, q = w22.set 0 (x, .inr (5, [.ref q1, .ref q6, .ref q11, .ref q14, .ref q19, .int 1, .int 0, .int 0, .int 0, .int 0])) := ⟨_, rfl⟩
  have hP : va_P D Cl (w22.set 0 (x, .inr (5, [.ref q1, .ref q6, .ref q11, .ref q14, .ref q19, .int 1, .int 0, .int 0, .int 0, .int 0]))) H := hP
  have hD : va_D (Az z) (w22.set 0 (x, .inr (5, [.ref q1, .ref q6, .ref q11, .ref q14, .ref q19, .int 1, .int 0, .int 0, .int 0, .int 0]))) := hD
  rw [← hw] at hP hD
  have hC := hC.put (p := 0) (c := (x, .inr (5, [.ref q1, .ref q6, .ref q11, .ref q14, .ref q19, .int 1, .int 0, .int 0, .int 0, .int 0])))
  rw [← hw] at hC
  have e0 : w23[0]? = some (x, .inr (5, [.ref q1, .ref q6, .ref q11, .ref q14, .ref q19, .int 1, .int 0, .int 0, .int 0, .int 0])) := by rw [hw]; exact lk_set e0
  have e1 : w23[1]? = some (q1, .inr (3, [.ref b1, .int 0])) := by rw [hw]; exact lk_ne e1 (by decide)
  have e2 : w23[2]? = some (b1, .inr (1, [.ref a1])) := by rw [hw]; exact lk_ne e2 (by decide)
  have e3 : w23[3]? = some (a1, .inl (t 2, 768, .inr (.inr (.inr (.inr (fun _ => none)))))) := by rw [hw]; exact lk_ne e3 (by decide)
  have e4 : w23[4]? = some (q6, .inr (3, [.ref b4, .int 0])) := by rw [hw]; exact lk_ne e4 (by decide)
  have e5 : w23[5]? = some (b4, .inr (1, [.ref a4])) := by rw [hw]; exact lk_ne e5 (by decide)
  have e6 : w23[6]? = some (a4, .inl (t 2, 781, .inr (.inr (.inr (.inr (fun _ => none)))))) := by rw [hw]; exact lk_ne e6 (by decide)
  have e7 : w23[7]? = some (q11, .inl (t 3, 6, .inr (.inr (.inr (.inr (fun _ => none)))))) := by rw [hw]; exact lk_ne e7 (by decide)
  have e8 : w23[8]? = some (q14, .inr (2, [.int 4, .int 0, .int 0, .int 0])) := by rw [hw]; exact lk_ne e8 (by decide)
  have e9 : w23[9]? = some (q19, .inl (t 0, 260, .inl (fun _ => 0))) := by rw [hw]; exact lk_ne e9 (by decide)
  have hn : w23.length = 10 := by rw [hw, List.length_set]; exact hn
  clear hw
  refine lv_aload_n hx hb d_S_init_69 rfl (lv_at hl 0 rfl) ?_
  refine lv_iconst (v := 0) hx hb d_S_init_70 (by decide) ?_
  refine va_put (D := D) (ci := 5) (v := .int 0) (ty := .int) (C := R_S) (T := F_S) (N := 10) hx hb hts ws_S t_S ok_S n_S hown hK hP hD hS 0 e0 rfl 7 (by decide) (hts _ fl_S_47) (fun _ h9 => h9) rfl (by decide +kernel) rfl rfl (Nat.le_of_ble_eq_true rfl) d_S_init_71 (fun H locs hP hD hS => ?_)
  obtain ⟨w24, hw⟩ : ∃ q, q = w23.set 0 (x, .inr (5, [.ref q1, .ref q6, .ref q11, .ref q14, .ref q19, .int 1, .int 0, .int 0, .int 0, .int 0])) := ⟨_, rfl⟩
  have hP : va_P D Cl (w23.set 0 (x, .inr (5, [.ref q1, .ref q6, .ref q11, .ref q14, .ref q19, .int 1, .int 0, .int 0, .int 0, .int 0]))) H := hP
  have hD : va_D (Az z) (w23.set 0 (x, .inr (5, [.ref q1, .ref q6, .ref q11, .ref q14, .ref q19, .int 1, .int 0, .int 0, .int 0, .int 0]))) := hD
  rw [← hw] at hP hD
  have hC := hC.put (p := 0) (c := (x, .inr (5, [.ref q1, .ref q6, .ref q11, .ref q14, .ref q19, .int 1, .int 0, .int 0, .int 0, .int 0])))
  rw [← hw] at hC
  have e0 : w24[0]? = some (x, .inr (5, [.ref q1, .ref q6, .ref q11, .ref q14, .ref q19, .int 1, .int 0, .int 0, .int 0, .int 0])) := by rw [hw]; exact lk_set e0
  have e1 : w24[1]? = some (q1, .inr (3, [.ref b1, .int 0])) := by rw [hw]; exact lk_ne e1 (by decide)
  have e2 : w24[2]? = some (b1, .inr (1, [.ref a1])) := by rw [hw]; exact lk_ne e2 (by decide)
  have e3 : w24[3]? = some (a1, .inl (t 2, 768, .inr (.inr (.inr (.inr (fun _ => none)))))) := by rw [hw]; exact lk_ne e3 (by decide)
  have e4 : w24[4]? = some (q6, .inr (3, [.ref b4, .int 0])) := by rw [hw]; exact lk_ne e4 (by decide)
  have e5 : w24[5]? = some (b4, .inr (1, [.ref a4])) := by rw [hw]; exact lk_ne e5 (by decide)
  have e6 : w24[6]? = some (a4, .inl (t 2, 781, .inr (.inr (.inr (.inr (fun _ => none)))))) := by rw [hw]; exact lk_ne e6 (by decide)
  have e7 : w24[7]? = some (q11, .inl (t 3, 6, .inr (.inr (.inr (.inr (fun _ => none)))))) := by rw [hw]; exact lk_ne e7 (by decide)
  have e8 : w24[8]? = some (q14, .inr (2, [.int 4, .int 0, .int 0, .int 0])) := by rw [hw]; exact lk_ne e8 (by decide)
  have e9 : w24[9]? = some (q19, .inl (t 0, 260, .inl (fun _ => 0))) := by rw [hw]; exact lk_ne e9 (by decide)
  have hn : w24.length = 10 := by rw [hw, List.length_set]; exact hn
  clear hw
  refine lv_aload_n hx hb d_S_init_74 rfl (lv_at hl 0 rfl) ?_
  refine lv_iconst (v := 0) hx hb d_S_init_75 (by decide) ?_
  refine va_put (D := D) (ci := 5) (v := .int 0) (ty := .int) (C := R_S) (T := F_S) (N := 10) hx hb hts ws_S t_S ok_S n_S hown hK hP hD hS 0 e0 rfl 8 (by decide) (hts _ fl_S_51) (fun _ h9 => h9) rfl (by decide +kernel) rfl rfl (Nat.le_of_ble_eq_true rfl) d_S_init_76 (fun H locs hP hD hS => ?_)
  obtain ⟨w25, hw⟩ : ∃ q, q = w24.set 0 (x, .inr (5, [.ref q1, .ref q6, .ref q11, .ref q14, .ref q19, .int 1, .int 0, .int 0, .int 0, .int 0])) := ⟨_, rfl⟩
  have hP : va_P D Cl (w24.set 0 (x, .inr (5, [.ref q1, .ref q6, .ref q11, .ref q14, .ref q19, .int 1, .int 0, .int 0, .int 0, .int 0]))) H := hP
  have hD : va_D (Az z) (w24.set 0 (x, .inr (5, [.ref q1, .ref q6, .ref q11, .ref q14, .ref q19, .int 1, .int 0, .int 0, .int 0, .int 0]))) := hD
  rw [← hw] at hP hD
  have hC := hC.put (p := 0) (c := (x, .inr (5, [.ref q1, .ref q6, .ref q11, .ref q14, .ref q19, .int 1, .int 0, .int 0, .int 0, .int 0])))
  rw [← hw] at hC
  have e0 : w25[0]? = some (x, .inr (5, [.ref q1, .ref q6, .ref q11, .ref q14, .ref q19, .int 1, .int 0, .int 0, .int 0, .int 0])) := by rw [hw]; exact lk_set e0
  have e1 : w25[1]? = some (q1, .inr (3, [.ref b1, .int 0])) := by rw [hw]; exact lk_ne e1 (by decide)
  have e2 : w25[2]? = some (b1, .inr (1, [.ref a1])) := by rw [hw]; exact lk_ne e2 (by decide)
  have e3 : w25[3]? = some (a1, .inl (t 2, 768, .inr (.inr (.inr (.inr (fun _ => none)))))) := by rw [hw]; exact lk_ne e3 (by decide)
  have e4 : w25[4]? = some (q6, .inr (3, [.ref b4, .int 0])) := by rw [hw]; exact lk_ne e4 (by decide)
  have e5 : w25[5]? = some (b4, .inr (1, [.ref a4])) := by rw [hw]; exact lk_ne e5 (by decide)
  have e6 : w25[6]? = some (a4, .inl (t 2, 781, .inr (.inr (.inr (.inr (fun _ => none)))))) := by rw [hw]; exact lk_ne e6 (by decide)
  have e7 : w25[7]? = some (q11, .inl (t 3, 6, .inr (.inr (.inr (.inr (fun _ => none)))))) := by rw [hw]; exact lk_ne e7 (by decide)
  have e8 : w25[8]? = some (q14, .inr (2, [.int 4, .int 0, .int 0, .int 0])) := by rw [hw]; exact lk_ne e8 (by decide)
  have e9 : w25[9]? = some (q19, .inl (t 0, 260, .inl (fun _ => 0))) := by rw [hw]; exact lk_ne e9 (by decide)
  have hn : w25.length = 10 := by rw [hw, List.length_set]; exact hn
  clear hw
  refine lv_aload_n hx hb d_S_init_79 rfl (lv_at hl 0 rfl) ?_
  refine lv_iconst (v := 0) hx hb d_S_init_80 (by decide) ?_
  refine va_put (D := D) (ci := 5) (v := .int 0) (ty := .int) (C := R_S) (T := F_S) (N := 10) hx hb hts ws_S t_S ok_S n_S hown hK hP hD hS 0 e0 rfl 9 (by decide) (hts _ fl_S_54) (fun _ h9 => h9) rfl (by decide +kernel) rfl rfl (Nat.le_of_ble_eq_true rfl) d_S_init_81 (fun H locs hP hD hS => ?_)
  obtain ⟨w26, hw⟩ : ∃ q, q = w25.set 0 (x, .inr (5, [.ref q1, .ref q6, .ref q11, .ref q14, .ref q19, .int 1, .int 0, .int 0, .int 0, .int 0])) := ⟨_, rfl⟩
  have hP : va_P D Cl (w25.set 0 (x, .inr (5, [.ref q1, .ref q6, .ref q11, .ref q14, .ref q19, .int 1, .int 0, .int 0, .int 0, .int 0]))) H := hP
  have hD : va_D (Az z) (w25.set 0 (x, .inr (5, [.ref q1, .ref q6, .ref q11, .ref q14, .ref q19, .int 1, .int 0, .int 0, .int 0, .int 0]))) := hD
  rw [← hw] at hP hD
  have hC := hC.put (p := 0) (c := (x, .inr (5, [.ref q1, .ref q6, .ref q11, .ref q14, .ref q19, .int 1, .int 0, .int 0, .int 0, .int 0])))
  rw [← hw] at hC
  have e0 : w26[0]? = some (x, .inr (5, [.ref q1, .ref q6, .ref q11, .ref q14, .ref q19, .int 1, .int 0, .int 0, .int 0, .int 0])) := by rw [hw]; exact lk_set e0
  have e1 : w26[1]? = some (q1, .inr (3, [.ref b1, .int 0])) := by rw [hw]; exact lk_ne e1 (by decide)
  have e2 : w26[2]? = some (b1, .inr (1, [.ref a1])) := by rw [hw]; exact lk_ne e2 (by decide)
  have e3 : w26[3]? = some (a1, .inl (t 2, 768, .inr (.inr (.inr (.inr (fun _ => none)))))) := by rw [hw]; exact lk_ne e3 (by decide)
  have e4 : w26[4]? = some (q6, .inr (3, [.ref b4, .int 0])) := by rw [hw]; exact lk_ne e4 (by decide)
  have e5 : w26[5]? = some (b4, .inr (1, [.ref a4])) := by rw [hw]; exact lk_ne e5 (by decide)
  have e6 : w26[6]? = some (a4, .inl (t 2, 781, .inr (.inr (.inr (.inr (fun _ => none)))))) := by rw [hw]; exact lk_ne e6 (by decide)
  have e7 : w26[7]? = some (q11, .inl (t 3, 6, .inr (.inr (.inr (.inr (fun _ => none)))))) := by rw [hw]; exact lk_ne e7 (by decide)
  have e8 : w26[8]? = some (q14, .inr (2, [.int 4, .int 0, .int 0, .int 0])) := by rw [hw]; exact lk_ne e8 (by decide)
  have e9 : w26[9]? = some (q19, .inl (t 0, 260, .inl (fun _ => 0))) := by rw [hw]; exact lk_ne e9 (by decide)
  have hn : w26.length = 10 := by rw [hw, List.length_set]; exact hn
  clear hw
  refine lv_iconst (v := 0) hx hb d_S_init_84 (by decide) ?_
  refine lv_istore_n (lv' := [(1, .int 0), (0, .ref x)]) hx hb d_S_init_85 rfl hl (by decide) rfl (fun ls hl => ?_)
  refine lv_iload_n hx hb d_S_init_86 rfl (lv_at hl 0 rfl) ?_
  refine lv_iconst (v := 5) hx hb d_S_init_87 (by decide) ?_
  refine lv_icmp_gt (tgt := 110) hx hb d_S_init_88 rfl (fun h => absurd h (by decide)) (fun _ => ?_)
  refine lv_aload_n hx hb d_S_init_91 rfl (lv_at hl 1 rfl) ?_
  refine va_get (D := D) (ci := 5) (v := .ref q11) (C := R_S) (T := F_S) (N := 10) hx hb hts ws_S hown hK hP 0 e0 rfl 2 (by decide) (hts _ fl_S_25) (fun _ h9 => h9) rfl d_S_init_92 ?_
  refine lv_iload_n hx hb d_S_init_95 rfl (lv_at hl 0 rfl) ?_
  refine va_new (ci := 4) (fs := [.null, .null, .int 0]) (C := R_Z) (T := F_Z) (N := 3) hx hb hts ws_Z t_Z ok_Z hown (hts _ cl_S_23) (hts _ ib_Z) (hts _ in_Z) hK hP hD hS hA rfl (fun j hj => by rcases (show j = 0 ∨ j = 1 ∨ j = 2 by omega) with rfl | rfl | rfl <;> rfl) (Nat.le_of_ble_eq_true rfl) (Nat.le_of_ble_eq_true rfl) d_S_init_96 (fun q27 H hP hD hS => ?_)
  obtain ⟨w28, hw⟩ : ∃ q, q = w26 ++ [(q27, .inr (4, [.null, .null, .int 0]))] := ⟨_, rfl⟩
  have hP : va_P D Cl (w26 ++ [(q27, .inr (4, [.null, .null, .int 0]))]) H := hP
  have hD : va_D (Az z) (w26 ++ [(q27, .inr (4, [.null, .null, .int 0]))]) := hD
  rw [← hw] at hP hD
  have hC := hC.push (c := [(q27, .inr (4, [.null, .null, .int 0]))])
  rw [← hw] at hC
  have e0 : w28[0]? = some (x, .inr (5, [.ref q1, .ref q6, .ref q11, .ref q14, .ref q19, .int 1, .int 0, .int 0, .int 0, .int 0])) := by rw [hw]; exact lk_push e0
  have e1 : w28[1]? = some (q1, .inr (3, [.ref b1, .int 0])) := by rw [hw]; exact lk_push e1
  have e2 : w28[2]? = some (b1, .inr (1, [.ref a1])) := by rw [hw]; exact lk_push e2
  have e3 : w28[3]? = some (a1, .inl (t 2, 768, .inr (.inr (.inr (.inr (fun _ => none)))))) := by rw [hw]; exact lk_push e3
  have e4 : w28[4]? = some (q6, .inr (3, [.ref b4, .int 0])) := by rw [hw]; exact lk_push e4
  have e5 : w28[5]? = some (b4, .inr (1, [.ref a4])) := by rw [hw]; exact lk_push e5
  have e6 : w28[6]? = some (a4, .inl (t 2, 781, .inr (.inr (.inr (.inr (fun _ => none)))))) := by rw [hw]; exact lk_push e6
  have e7 : w28[7]? = some (q11, .inl (t 3, 6, .inr (.inr (.inr (.inr (fun _ => none)))))) := by rw [hw]; exact lk_push e7
  have e8 : w28[8]? = some (q14, .inr (2, [.int 4, .int 0, .int 0, .int 0])) := by rw [hw]; exact lk_push e8
  have e9 : w28[9]? = some (q19, .inl (t 0, 260, .inl (fun _ => 0))) := by rw [hw]; exact lk_push e9
  have e10 : w28[10]? = some (q27, .inr (4, [.null, .null, .int 0])) := by rw [hw]; exact lk_new hn
  have hn : w28.length = 11 := by rw [hw, List.length_append, hn]; rfl
  clear hw
  refine lv_dup hx hb d_S_init_99 rfl ?_
  refine va_callv (va_runIN (As := []) (rest := [.ref q27, .int 0, .ref q11]) ⟨hx, hb, hml, hown, hts⟩ (c_Z_init_10 (D := D) (t := t) (z := z) (sa := sa) (ws := w28)  hn e10) ⟨va_cnB 0 hts (gd_I cd_Z_init) rfl rfl rfl hM.2.1 (hts _ in_Z) (by decide +kernel) ⟨Nat.le_of_ble_eq_true rfl, Nat.le_of_ble_eq_true rfl⟩, rfl, hts _ im_Z_init⟩ ⟨Pz_blind, Pz_at hP hK hD hz hM hS⟩ rfl rfl hl.1 rfl (lv_room (Nat.le_of_ble_eq_true rfl)) d_S_init_100 ⟨Nat.le_of_ble_eq_true rfl, Nat.le_of_ble_eq_true rfl⟩) hS (fun q _ h => h) (fun q h => h) (fun w29 t9 H locs ht hvm hp hB hz1 hk1 hS => ?_)
  obtain ⟨hP, hK9, hD, -⟩ := hB
  rw [ht] at hP
  clear hK9
  obtain ⟨b10, a10, h10, hC9, hn9, kf10, kf11, kf12, kf13⟩ := hp
  have e0 : w29[0]? = some (x, .inr (5, [.ref q1, .ref q6, .ref q11, .ref q14, .ref q19, .int 1, .int 0, .int 0, .int 0, .int 0])) := hC9.keep e0 (by decide)
  have e1 : w29[1]? = some (q1, .inr (3, [.ref b1, .int 0])) := hC9.keep e1 (by decide)
  have e2 : w29[2]? = some (b1, .inr (1, [.ref a1])) := hC9.keep e2 (by decide)
  have e3 : w29[3]? = some (a1, .inl (t 2, 768, .inr (.inr (.inr (.inr (fun _ => none)))))) := hC9.keep e3 (by decide)
  have e4 : w29[4]? = some (q6, .inr (3, [.ref b4, .int 0])) := hC9.keep e4 (by decide)
  have e5 : w29[5]? = some (b4, .inr (1, [.ref a4])) := hC9.keep e5 (by decide)
  have e6 : w29[6]? = some (a4, .inl (t 2, 781, .inr (.inr (.inr (.inr (fun _ => none)))))) := hC9.keep e6 (by decide)
  have e7 : w29[7]? = some (q11, .inl (t 3, 6, .inr (.inr (.inr (.inr (fun _ => none)))))) := hC9.keep e7 (by decide)
  have e8 : w29[8]? = some (q14, .inr (2, [.int 4, .int 0, .int 0, .int 0])) := hC9.keep e8 (by decide)
  have e9 : w29[9]? = some (q19, .inl (t 0, 260, .inl (fun _ => 0))) := hC9.keep e9 (by decide)
  have e10 : w29[10]? = some (q27, .inr (4, [.ref b10, .ref h10, .int 0])) := kf10
  have e11 : w29[11]? = some (b10, .inr (1, [.ref a10])) := kf11
  have e12 : w29[12]? = some (a10, .inl (t 2, 768, .inr (.inr (.inr (.inr (fun _ => none)))))) := kf12
  have e13 : w29[13]? = some (h10, .inl (t 1, 768, .inl (fun _ => 0))) := kf13
  have hC := hC.trans hC9
  have hn : w29.length = 14 := hn9
  refine va_astq (D := D) hx hb hK hP hD hS 7 3 10 4 (r := (R_Z, F_Z, 3)) e7 rfl e10 rfl (i := 0) (by unfold vp_in; decide) d_S_init_103 (fun H locs hP hD hS => ?_)
  obtain ⟨w31, hw⟩ : ∃ q, q = w29.set 7 (q11, .inl (t 3, 6, .inr (.inr (.inr (.inr (va_up (fun _ => none) 0 (some q27))))))) := ⟨_, rfl⟩
  have hP : va_P D Cl (w29.set 7 (q11, .inl (t 3, 6, .inr (.inr (.inr (.inr (va_up (fun _ => none) 0 (some q27)))))))) H := hP
  have hD : va_D (Az z) (w29.set 7 (q11, .inl (t 3, 6, .inr (.inr (.inr (.inr (va_up (fun _ => none) 0 (some q27)))))))) := hD
  rw [← hw] at hP hD
  have hC := hC.put (p := 7) (c := (q11, .inl (t 3, 6, .inr (.inr (.inr (.inr (va_up (fun _ => none) 0 (some q27))))))))
  rw [← hw] at hC
  have e0 : w31[0]? = some (x, .inr (5, [.ref q1, .ref q6, .ref q11, .ref q14, .ref q19, .int 1, .int 0, .int 0, .int 0, .int 0])) := by rw [hw]; exact lk_ne e0 (by decide)
  have e1 : w31[1]? = some (q1, .inr (3, [.ref b1, .int 0])) := by rw [hw]; exact lk_ne e1 (by decide)
  have e2 : w31[2]? = some (b1, .inr (1, [.ref a1])) := by rw [hw]; exact lk_ne e2 (by decide)
  have e3 : w31[3]? = some (a1, .inl (t 2, 768, .inr (.inr (.inr (.inr (fun _ => none)))))) := by rw [hw]; exact lk_ne e3 (by decide)
  have e4 : w31[4]? = some (q6, .inr (3, [.ref b4, .int 0])) := by rw [hw]; exact lk_ne e4 (by decide)
  have e5 : w31[5]? = some (b4, .inr (1, [.ref a4])) := by rw [hw]; exact lk_ne e5 (by decide)
  have e6 : w31[6]? = some (a4, .inl (t 2, 781, .inr (.inr (.inr (.inr (fun _ => none)))))) := by rw [hw]; exact lk_ne e6 (by decide)
  have e7 : w31[7]? = some (q11, .inl (t 3, 6, .inr (.inr (.inr (.inr (va_up (fun _ => none) 0 (some q27))))))) := by rw [hw]; exact lk_set e7
  have e8 : w31[8]? = some (q14, .inr (2, [.int 4, .int 0, .int 0, .int 0])) := by rw [hw]; exact lk_ne e8 (by decide)
  have e9 : w31[9]? = some (q19, .inl (t 0, 260, .inl (fun _ => 0))) := by rw [hw]; exact lk_ne e9 (by decide)
  have e10 : w31[10]? = some (q27, .inr (4, [.ref b10, .ref h10, .int 0])) := by rw [hw]; exact lk_ne e10 (by decide)
  have e11 : w31[11]? = some (b10, .inr (1, [.ref a10])) := by rw [hw]; exact lk_ne e11 (by decide)
  have e12 : w31[12]? = some (a10, .inl (t 2, 768, .inr (.inr (.inr (.inr (fun _ => none)))))) := by rw [hw]; exact lk_ne e12 (by decide)
  have e13 : w31[13]? = some (h10, .inl (t 1, 768, .inl (fun _ => 0))) := by rw [hw]; exact lk_ne e13 (by decide)
  have hn : w31.length = 14 := by rw [hw, List.length_set]; exact hn
  clear hw
  refine lv_iinc (k := 0) (v := 1) (lv' := [(1, .int 1), (0, .ref x)]) hx hb d_S_init_104 hl rfl (by decide) (by decide) rfl (fun ls hl => ?_)
  refine lv_goto (tgt := 86) hx hb d_S_init_107 rfl ?_
  refine lv_iload_n hx hb d_S_init_86 rfl (lv_at hl 0 rfl) ?_
  refine lv_iconst (v := 5) hx hb d_S_init_87 (by decide) ?_
  refine lv_icmp_gt (tgt := 110) hx hb d_S_init_88 rfl (fun h => absurd h (by decide)) (fun _ => ?_)
  refine lv_aload_n hx hb d_S_init_91 rfl (lv_at hl 1 rfl) ?_
  refine va_get (D := D) (ci := 5) (v := .ref q11) (C := R_S) (T := F_S) (N := 10) hx hb hts ws_S hown hK hP 0 e0 rfl 2 (by decide) (hts _ fl_S_25) (fun _ h9 => h9) rfl d_S_init_92 ?_
  refine lv_iload_n hx hb d_S_init_95 rfl (lv_at hl 0 rfl) ?_
  refine va_new (ci := 4) (fs := [.null, .null, .int 0]) (C := R_Z) (T := F_Z) (N := 3) hx hb hts ws_Z t_Z ok_Z hown (hts _ cl_S_23) (hts _ ib_Z) (hts _ in_Z) hK hP hD hS hA rfl (fun j hj => by rcases (show j = 0 ∨ j = 1 ∨ j = 2 by omega) with rfl | rfl | rfl <;> rfl) (Nat.le_of_ble_eq_true rfl) (Nat.le_of_ble_eq_true rfl) d_S_init_96 (fun q32 H hP hD hS => ?_)
  obtain ⟨w33, hw⟩ : ∃ q, q = w31 ++ [(q32, .inr (4, [.null, .null, .int 0]))] := ⟨_, rfl⟩
  have hP : va_P D Cl (w31 ++ [(q32, .inr (4, [.null, .null, .int 0]))]) H := hP
  have hD : va_D (Az z) (w31 ++ [(q32, .inr (4, [.null, .null, .int 0]))]) := hD
  rw [← hw] at hP hD
  have hC := hC.push (c := [(q32, .inr (4, [.null, .null, .int 0]))])
  rw [← hw] at hC
  have e0 : w33[0]? = some (x, .inr (5, [.ref q1, .ref q6, .ref q11, .ref q14, .ref q19, .int 1, .int 0, .int 0, .int 0, .int 0])) := by rw [hw]; exact lk_push e0
  have e1 : w33[1]? = some (q1, .inr (3, [.ref b1, .int 0])) := by rw [hw]; exact lk_push e1
  have e2 : w33[2]? = some (b1, .inr (1, [.ref a1])) := by rw [hw]; exact lk_push e2
  have e3 : w33[3]? = some (a1, .inl (t 2, 768, .inr (.inr (.inr (.inr (fun _ => none)))))) := by rw [hw]; exact lk_push e3
  have e4 : w33[4]? = some (q6, .inr (3, [.ref b4, .int 0])) := by rw [hw]; exact lk_push e4
  have e5 : w33[5]? = some (b4, .inr (1, [.ref a4])) := by rw [hw]; exact lk_push e5
  have e6 : w33[6]? = some (a4, .inl (t 2, 781, .inr (.inr (.inr (.inr (fun _ => none)))))) := by rw [hw]; exact lk_push e6
  have e7 : w33[7]? = some (q11, .inl (t 3, 6, .inr (.inr (.inr (.inr (va_up (fun _ => none) 0 (some q27))))))) := by rw [hw]; exact lk_push e7
  have e8 : w33[8]? = some (q14, .inr (2, [.int 4, .int 0, .int 0, .int 0])) := by rw [hw]; exact lk_push e8
  have e9 : w33[9]? = some (q19, .inl (t 0, 260, .inl (fun _ => 0))) := by rw [hw]; exact lk_push e9
  have e10 : w33[10]? = some (q27, .inr (4, [.ref b10, .ref h10, .int 0])) := by rw [hw]; exact lk_push e10
  have e11 : w33[11]? = some (b10, .inr (1, [.ref a10])) := by rw [hw]; exact lk_push e11
  have e12 : w33[12]? = some (a10, .inl (t 2, 768, .inr (.inr (.inr (.inr (fun _ => none)))))) := by rw [hw]; exact lk_push e12
  have e13 : w33[13]? = some (h10, .inl (t 1, 768, .inl (fun _ => 0))) := by rw [hw]; exact lk_push e13
  have e14 : w33[14]? = some (q32, .inr (4, [.null, .null, .int 0])) := by rw [hw]; exact lk_new hn
  have hn : w33.length = 15 := by rw [hw, List.length_append, hn]; rfl
  clear hw
  refine lv_dup hx hb d_S_init_99 rfl ?_
  refine va_callv (va_runIN (As := []) (rest := [.ref q32, .int 1, .ref q11]) ⟨hx, hb, hml, hown, hts⟩ (c_Z_init_14 (D := D) (t := t) (z := z) (sa := sa) (ws := w33)  hn e14) ⟨va_cnB 0 hts (gd_I cd_Z_init) rfl rfl rfl hM.2.1 (hts _ in_Z) (by decide +kernel) ⟨Nat.le_of_ble_eq_true rfl, Nat.le_of_ble_eq_true rfl⟩, rfl, hts _ im_Z_init⟩ ⟨Pz_blind, Pz_at hP hK hD hz hM hS⟩ rfl rfl hl.1 rfl (lv_room (Nat.le_of_ble_eq_true rfl)) d_S_init_100 ⟨Nat.le_of_ble_eq_true rfl, Nat.le_of_ble_eq_true rfl⟩) hS (fun q _ h => h) (fun q h => h) (fun w34 t9 H locs ht hvm hp hB hz1 hk1 hS => ?_)
  obtain ⟨hP, hK9, hD, -⟩ := hB
  rw [ht] at hP
  clear hK9
  obtain ⟨b14, a14, h14, hC9, hn9, kf14, kf15, kf16, kf17⟩ := hp
  have e0 : w34[0]? = some (x, .inr (5, [.ref q1, .ref q6, .ref q11, .ref q14, .ref q19, .int 1, .int 0, .int 0, .int 0, .int 0])) := hC9.keep e0 (by decide)
  have e1 : w34[1]? = some (q1, .inr (3, [.ref b1, .int 0])) := hC9.keep e1 (by decide)
  have e2 : w34[2]? = some (b1, .inr (1, [.ref a1])) := hC9.keep e2 (by decide)
  have e3 : w34[3]? = some (a1, .inl (t 2, 768, .inr (.inr (.inr (.inr (fun _ => none)))))) := hC9.keep e3 (by decide)
  have e4 : w34[4]? = some (q6, .inr (3, [.ref b4, .int 0])) := hC9.keep e4 (by decide)
  have e5 : w34[5]? = some (b4, .inr (1, [.ref a4])) := hC9.keep e5 (by decide)
  have e6 : w34[6]? = some (a4, .inl (t 2, 781, .inr (.inr (.inr (.inr (fun _ => none)))))) := hC9.keep e6 (by decide)
  have e7 : w34[7]? = some (q11, .inl (t 3, 6, .inr (.inr (.inr (.inr (va_up (fun _ => none) 0 (some q27))))))) := hC9.keep e7 (by decide)
  have e8 : w34[8]? = some (q14, .inr (2, [.int 4, .int 0, .int 0, .int 0])) := hC9.keep e8 (by decide)
  have e9 : w34[9]? = some (q19, .inl (t 0, 260, .inl (fun _ => 0))) := hC9.keep e9 (by decide)
  have e10 : w34[10]? = some (q27, .inr (4, [.ref b10, .ref h10, .int 0])) := hC9.keep e10 (by decide)
  have e11 : w34[11]? = some (b10, .inr (1, [.ref a10])) := hC9.keep e11 (by decide)
  have e12 : w34[12]? = some (a10, .inl (t 2, 768, .inr (.inr (.inr (.inr (fun _ => none)))))) := hC9.keep e12 (by decide)
  have e13 : w34[13]? = some (h10, .inl (t 1, 768, .inl (fun _ => 0))) := hC9.keep e13 (by decide)
  have e14 : w34[14]? = some (q32, .inr (4, [.ref b14, .ref h14, .int 0])) := kf14
  have e15 : w34[15]? = some (b14, .inr (1, [.ref a14])) := kf15
  have e16 : w34[16]? = some (a14, .inl (t 2, 768, .inr (.inr (.inr (.inr (fun _ => none)))))) := kf16
  have e17 : w34[17]? = some (h14, .inl (t 1, 768, .inl (fun _ => 0))) := kf17
  have hC := hC.trans hC9
  have hn : w34.length = 18 := hn9
  refine va_astq (D := D) hx hb hK hP hD hS 7 3 14 4 (r := (R_Z, F_Z, 3)) e7 rfl e14 rfl (i := 1) (by unfold vp_in; decide) d_S_init_103 (fun H locs hP hD hS => ?_)
  obtain ⟨w36, hw⟩ : ∃ q, q = w34.set 7 (q11, .inl (t 3, 6, .inr (.inr (.inr (.inr (va_up (va_up (fun _ => none) 0 (some q27)) 1 (some q32))))))) := ⟨_, rfl⟩
  have hP : va_P D Cl (w34.set 7 (q11, .inl (t 3, 6, .inr (.inr (.inr (.inr (va_up (va_up (fun _ => none) 0 (some q27)) 1 (some q32)))))))) H := hP
  have hD : va_D (Az z) (w34.set 7 (q11, .inl (t 3, 6, .inr (.inr (.inr (.inr (va_up (va_up (fun _ => none) 0 (some q27)) 1 (some q32)))))))) := hD
  rw [← hw] at hP hD
  have hC := hC.put (p := 7) (c := (q11, .inl (t 3, 6, .inr (.inr (.inr (.inr (va_up (va_up (fun _ => none) 0 (some q27)) 1 (some q32))))))))
  rw [← hw] at hC
  have e0 : w36[0]? = some (x, .inr (5, [.ref q1, .ref q6, .ref q11, .ref q14, .ref q19, .int 1, .int 0, .int 0, .int 0, .int 0])) := by rw [hw]; exact lk_ne e0 (by decide)
  have e1 : w36[1]? = some (q1, .inr (3, [.ref b1, .int 0])) := by rw [hw]; exact lk_ne e1 (by decide)
  have e2 : w36[2]? = some (b1, .inr (1, [.ref a1])) := by rw [hw]; exact lk_ne e2 (by decide)
  have e3 : w36[3]? = some (a1, .inl (t 2, 768, .inr (.inr (.inr (.inr (fun _ => none)))))) := by rw [hw]; exact lk_ne e3 (by decide)
  have e4 : w36[4]? = some (q6, .inr (3, [.ref b4, .int 0])) := by rw [hw]; exact lk_ne e4 (by decide)
  have e5 : w36[5]? = some (b4, .inr (1, [.ref a4])) := by rw [hw]; exact lk_ne e5 (by decide)
  have e6 : w36[6]? = some (a4, .inl (t 2, 781, .inr (.inr (.inr (.inr (fun _ => none)))))) := by rw [hw]; exact lk_ne e6 (by decide)
  have e7 : w36[7]? = some (q11, .inl (t 3, 6, .inr (.inr (.inr (.inr (va_up (va_up (fun _ => none) 0 (some q27)) 1 (some q32))))))) := by rw [hw]; exact lk_set e7
  have e8 : w36[8]? = some (q14, .inr (2, [.int 4, .int 0, .int 0, .int 0])) := by rw [hw]; exact lk_ne e8 (by decide)
  have e9 : w36[9]? = some (q19, .inl (t 0, 260, .inl (fun _ => 0))) := by rw [hw]; exact lk_ne e9 (by decide)
  have e10 : w36[10]? = some (q27, .inr (4, [.ref b10, .ref h10, .int 0])) := by rw [hw]; exact lk_ne e10 (by decide)
  have e11 : w36[11]? = some (b10, .inr (1, [.ref a10])) := by rw [hw]; exact lk_ne e11 (by decide)
  have e12 : w36[12]? = some (a10, .inl (t 2, 768, .inr (.inr (.inr (.inr (fun _ => none)))))) := by rw [hw]; exact lk_ne e12 (by decide)
  have e13 : w36[13]? = some (h10, .inl (t 1, 768, .inl (fun _ => 0))) := by rw [hw]; exact lk_ne e13 (by decide)
  have e14 : w36[14]? = some (q32, .inr (4, [.ref b14, .ref h14, .int 0])) := by rw [hw]; exact lk_ne e14 (by decide)
  have e15 : w36[15]? = some (b14, .inr (1, [.ref a14])) := by rw [hw]; exact lk_ne e15 (by decide)
  have e16 : w36[16]? = some (a14, .inl (t 2, 768, .inr (.inr (.inr (.inr (fun _ => none)))))) := by rw [hw]; exact lk_ne e16 (by decide)
  have e17 : w36[17]? = some (h14, .inl (t 1, 768, .inl (fun _ => 0))) := by rw [hw]; exact lk_ne e17 (by decide)
  have hn : w36.length = 18 := by rw [hw, List.length_set]; exact hn
  clear hw
  refine lv_iinc (k := 0) (v := 2) (lv' := [(1, .int 2), (0, .ref x)]) hx hb d_S_init_104 hl rfl (by decide) (by decide) rfl (fun ls hl => ?_)
  refine lv_goto (tgt := 86) hx hb d_S_init_107 rfl ?_
  refine lv_iload_n hx hb d_S_init_86 rfl (lv_at hl 0 rfl) ?_
  refine lv_iconst (v := 5) hx hb d_S_init_87 (by decide) ?_
  refine lv_icmp_gt (tgt := 110) hx hb d_S_init_88 rfl (fun h => absurd h (by decide)) (fun _ => ?_)
  refine lv_aload_n hx hb d_S_init_91 rfl (lv_at hl 1 rfl) ?_
  refine va_get (D := D) (ci := 5) (v := .ref q11) (C := R_S) (T := F_S) (N := 10) hx hb hts ws_S hown hK hP 0 e0 rfl 2 (by decide) (hts _ fl_S_25) (fun _ h9 => h9) rfl d_S_init_92 ?_
  refine lv_iload_n hx hb d_S_init_95 rfl (lv_at hl 0 rfl) ?_
  refine va_new (ci := 4) (fs := [.null, .null, .int 0]) (C := R_Z) (T := F_Z) (N := 3) hx hb hts ws_Z t_Z ok_Z hown (hts _ cl_S_23) (hts _ ib_Z) (hts _ in_Z) hK hP hD hS hA rfl (fun j hj => by rcases (show j = 0 ∨ j = 1 ∨ j = 2 by omega) with rfl | rfl | rfl <;> rfl) (Nat.le_of_ble_eq_true rfl) (Nat.le_of_ble_eq_true rfl) d_S_init_96 (fun q37 H hP hD hS => ?_)
  obtain ⟨w38, hw⟩ : ∃ q, q = w36 ++ [(q37, .inr (4, [.null, .null, .int 0]))] := ⟨_, rfl⟩
  have hP : va_P D Cl (w36 ++ [(q37, .inr (4, [.null, .null, .int 0]))]) H := hP
  have hD : va_D (Az z) (w36 ++ [(q37, .inr (4, [.null, .null, .int 0]))]) := hD
  rw [← hw] at hP hD
  have hC := hC.push (c := [(q37, .inr (4, [.null, .null, .int 0]))])
  rw [← hw] at hC
  have e0 : w38[0]? = some (x, .inr (5, [.ref q1, .ref q6, .ref q11, .ref q14, .ref q19, .int 1, .int 0, .int 0, .int 0, .int 0])) := by rw [hw]; exact lk_push e0
  have e1 : w38[1]? = some (q1, .inr (3, [.ref b1, .int 0])) := by rw [hw]; exact lk_push e1
  have e2 : w38[2]? = some (b1, .inr (1, [.ref a1])) := by rw [hw]; exact lk_push e2
  have e3 : w38[3]? = some (a1, .inl (t 2, 768, .inr (.inr (.inr (.inr (fun _ => none)))))) := by rw [hw]; exact lk_push e3
  have e4 : w38[4]? = some (q6, .inr (3, [.ref b4, .int 0])) := by rw [hw]; exact lk_push e4
  have e5 : w38[5]? = some (b4, .inr (1, [.ref a4])) := by rw [hw]; exact lk_push e5
  have e6 : w38[6]? = some (a4, .inl (t 2, 781, .inr (.inr (.inr (.inr (fun _ => none)))))) := by rw [hw]; exact lk_push e6
  have e7 : w38[7]? = some (q11, .inl (t 3, 6, .inr (.inr (.inr (.inr (va_up (va_up (fun _ => none) 0 (some q27)) 1 (some q32))))))) := by rw [hw]; exact lk_push e7
  have e8 : w38[8]? = some (q14, .inr (2, [.int 4, .int 0, .int 0, .int 0])) := by rw [hw]; exact lk_push e8
  have e9 : w38[9]? = some (q19, .inl (t 0, 260, .inl (fun _ => 0))) := by rw [hw]; exact lk_push e9
  have e10 : w38[10]? = some (q27, .inr (4, [.ref b10, .ref h10, .int 0])) := by rw [hw]; exact lk_push e10
  have e11 : w38[11]? = some (b10, .inr (1, [.ref a10])) := by rw [hw]; exact lk_push e11
  have e12 : w38[12]? = some (a10, .inl (t 2, 768, .inr (.inr (.inr (.inr (fun _ => none)))))) := by rw [hw]; exact lk_push e12
  have e13 : w38[13]? = some (h10, .inl (t 1, 768, .inl (fun _ => 0))) := by rw [hw]; exact lk_push e13
  have e14 : w38[14]? = some (q32, .inr (4, [.ref b14, .ref h14, .int 0])) := by rw [hw]; exact lk_push e14
  have e15 : w38[15]? = some (b14, .inr (1, [.ref a14])) := by rw [hw]; exact lk_push e15
  have e16 : w38[16]? = some (a14, .inl (t 2, 768, .inr (.inr (.inr (.inr (fun _ => none)))))) := by rw [hw]; exact lk_push e16
  have e17 : w38[17]? = some (h14, .inl (t 1, 768, .inl (fun _ => 0))) := by rw [hw]; exact lk_push e17
  have e18 : w38[18]? = some (q37, .inr (4, [.null, .null, .int 0])) := by rw [hw]; exact lk_new hn
  have hn : w38.length = 19 := by rw [hw, List.length_append, hn]; rfl
  clear hw
  refine lv_dup hx hb d_S_init_99 rfl ?_
  refine va_callv (va_runIN (As := []) (rest := [.ref q37, .int 2, .ref q11]) ⟨hx, hb, hml, hown, hts⟩ (c_Z_init_18 (D := D) (t := t) (z := z) (sa := sa) (ws := w38)  hn e18) ⟨va_cnB 0 hts (gd_I cd_Z_init) rfl rfl rfl hM.2.1 (hts _ in_Z) (by decide +kernel) ⟨Nat.le_of_ble_eq_true rfl, Nat.le_of_ble_eq_true rfl⟩, rfl, hts _ im_Z_init⟩ ⟨Pz_blind, Pz_at hP hK hD hz hM hS⟩ rfl rfl hl.1 rfl (lv_room (Nat.le_of_ble_eq_true rfl)) d_S_init_100 ⟨Nat.le_of_ble_eq_true rfl, Nat.le_of_ble_eq_true rfl⟩) hS (fun q _ h => h) (fun q h => h) (fun w39 t9 H locs ht hvm hp hB hz1 hk1 hS => ?_)
  obtain ⟨hP, hK9, hD, -⟩ := hB
  rw [ht] at hP
  clear hK9
  obtain ⟨b18, a18, h18, hC9, hn9, kf18, kf19, kf20, kf21⟩ := hp
  have e0 : w39[0]? = some (x, .inr (5, [.ref q1, .ref q6, .ref q11, .ref q14, .ref q19, .int 1, .int 0, .int 0, .int 0, .int 0])) := hC9.keep e0 (by decide)
  have e1 : w39[1]? = some (q1, .inr (3, [.ref b1, .int 0])) := hC9.keep e1 (by decide)
  have e2 : w39[2]? = some (b1, .inr (1, [.ref a1])) := hC9.keep e2 (by decide)
  have e3 : w39[3]? = some (a1, .inl (t 2, 768, .inr (.inr (.inr (.inr (fun _ => none)))))) := hC9.keep e3 (by decide)
  have e4 : w39[4]? = some (q6, .inr (3, [.ref b4, .int 0])) := hC9.keep e4 (by decide)
  have e5 : w39[5]? = some (b4, .inr (1, [.ref a4])) := hC9.keep e5 (by decide)
  have e6 : w39[6]? = some (a4, .inl (t 2, 781, .inr (.inr (.inr (.inr (fun _ => none)))))) := hC9.keep e6 (by decide)
  have e7 : w39[7]? = some (q11, .inl (t 3, 6, .inr (.inr (.inr (.inr (va_up (va_up (fun _ => none) 0 (some q27)) 1 (some q32))))))) := hC9.keep e7 (by decide)
  have e8 : w39[8]? = some (q14, .inr (2, [.int 4, .int 0, .int 0, .int 0])) := hC9.keep e8 (by decide)
  have e9 : w39[9]? = some (q19, .inl (t 0, 260, .inl (fun _ => 0))) := hC9.keep e9 (by decide)
  have e10 : w39[10]? = some (q27, .inr (4, [.ref b10, .ref h10, .int 0])) := hC9.keep e10 (by decide)
  have e11 : w39[11]? = some (b10, .inr (1, [.ref a10])) := hC9.keep e11 (by decide)
  have e12 : w39[12]? = some (a10, .inl (t 2, 768, .inr (.inr (.inr (.inr (fun _ => none)))))) := hC9.keep e12 (by decide)
  have e13 : w39[13]? = some (h10, .inl (t 1, 768, .inl (fun _ => 0))) := hC9.keep e13 (by decide)
  have e14 : w39[14]? = some (q32, .inr (4, [.ref b14, .ref h14, .int 0])) := hC9.keep e14 (by decide)
  have e15 : w39[15]? = some (b14, .inr (1, [.ref a14])) := hC9.keep e15 (by decide)
  have e16 : w39[16]? = some (a14, .inl (t 2, 768, .inr (.inr (.inr (.inr (fun _ => none)))))) := hC9.keep e16 (by decide)
  have e17 : w39[17]? = some (h14, .inl (t 1, 768, .inl (fun _ => 0))) := hC9.keep e17 (by decide)
  have e18 : w39[18]? = some (q37, .inr (4, [.ref b18, .ref h18, .int 0])) := kf18
  have e19 : w39[19]? = some (b18, .inr (1, [.ref a18])) := kf19
  have e20 : w39[20]? = some (a18, .inl (t 2, 768, .inr (.inr (.inr (.inr (fun _ => none)))))) := kf20
  have e21 : w39[21]? = some (h18, .inl (t 1, 768, .inl (fun _ => 0))) := kf21
  have hC := hC.trans hC9
  have hn : w39.length = 22 := hn9
  refine va_astq (D := D) hx hb hK hP hD hS 7 3 18 4 (r := (R_Z, F_Z, 3)) e7 rfl e18 rfl (i := 2) (by unfold vp_in; decide) d_S_init_103 (fun H locs hP hD hS => ?_)
  obtain ⟨w41, hw⟩ : ∃ q, q = w39.set 7 (q11, .inl (t 3, 6, .inr (.inr (.inr (.inr (va_up (va_up (va_up (fun _ => none) 0 (some q27)) 1 (some q32)) 2 (some q37))))))) := ⟨_, rfl⟩
  have hP : va_P D Cl (w39.set 7 (q11, .inl (t 3, 6, .inr (.inr (.inr (.inr (va_up (va_up (va_up (fun _ => none) 0 (some q27)) 1 (some q32)) 2 (some q37)))))))) H := hP
  have hD : va_D (Az z) (w39.set 7 (q11, .inl (t 3, 6, .inr (.inr (.inr (.inr (va_up (va_up (va_up (fun _ => none) 0 (some q27)) 1 (some q32)) 2 (some q37)))))))) := hD
  rw [← hw] at hP hD
  have hC := hC.put (p := 7) (c := (q11, .inl (t 3, 6, .inr (.inr (.inr (.inr (va_up (va_up (va_up (fun _ => none) 0 (some q27)) 1 (some q32)) 2 (some q37))))))))
  rw [← hw] at hC
  have e0 : w41[0]? = some (x, .inr (5, [.ref q1, .ref q6, .ref q11, .ref q14, .ref q19, .int 1, .int 0, .int 0, .int 0, .int 0])) := by rw [hw]; exact lk_ne e0 (by decide)
  have e1 : w41[1]? = some (q1, .inr (3, [.ref b1, .int 0])) := by rw [hw]; exact lk_ne e1 (by decide)
  have e2 : w41[2]? = some (b1, .inr (1, [.ref a1])) := by rw [hw]; exact lk_ne e2 (by decide)
  have e3 : w41[3]? = some (a1, .inl (t 2, 768, .inr (.inr (.inr (.inr (fun _ => none)))))) := by rw [hw]; exact lk_ne e3 (by decide)
  have e4 : w41[4]? = some (q6, .inr (3, [.ref b4, .int 0])) := by rw [hw]; exact lk_ne e4 (by decide)
  have e5 : w41[5]? = some (b4, .inr (1, [.ref a4])) := by rw [hw]; exact lk_ne e5 (by decide)
  have e6 : w41[6]? = some (a4, .inl (t 2, 781, .inr (.inr (.inr (.inr (fun _ => none)))))) := by rw [hw]; exact lk_ne e6 (by decide)
  have e7 : w41[7]? = some (q11, .inl (t 3, 6, .inr (.inr (.inr (.inr (va_up (va_up (va_up (fun _ => none) 0 (some q27)) 1 (some q32)) 2 (some q37))))))) := by rw [hw]; exact lk_set e7
  have e8 : w41[8]? = some (q14, .inr (2, [.int 4, .int 0, .int 0, .int 0])) := by rw [hw]; exact lk_ne e8 (by decide)
  have e9 : w41[9]? = some (q19, .inl (t 0, 260, .inl (fun _ => 0))) := by rw [hw]; exact lk_ne e9 (by decide)
  have e10 : w41[10]? = some (q27, .inr (4, [.ref b10, .ref h10, .int 0])) := by rw [hw]; exact lk_ne e10 (by decide)
  have e11 : w41[11]? = some (b10, .inr (1, [.ref a10])) := by rw [hw]; exact lk_ne e11 (by decide)
  have e12 : w41[12]? = some (a10, .inl (t 2, 768, .inr (.inr (.inr (.inr (fun _ => none)))))) := by rw [hw]; exact lk_ne e12 (by decide)
  have e13 : w41[13]? = some (h10, .inl (t 1, 768, .inl (fun _ => 0))) := by rw [hw]; exact lk_ne e13 (by decide)
  have e14 : w41[14]? = some (q32, .inr (4, [.ref b14, .ref h14, .int 0])) := by rw [hw]; exact lk_ne e14 (by decide)
  have e15 : w41[15]? = some (b14, .inr (1, [.ref a14])) := by rw [hw]; exact lk_ne e15 (by decide)
  have e16 : w41[16]? = some (a14, .inl (t 2, 768, .inr (.inr (.inr (.inr (fun _ => none)))))) := by rw [hw]; exact lk_ne e16 (by decide)
  have e17 : w41[17]? = some (h14, .inl (t 1, 768, .inl (fun _ => 0))) := by rw [hw]; exact lk_ne e17 (by decide)
  have e18 : w41[18]? = some (q37, .inr (4, [.ref b18, .ref h18, .int 0])) := by rw [hw]; exact lk_ne e18 (by decide)
  have e19 : w41[19]? = some (b18, .inr (1, [.ref a18])) := by rw [hw]; exact lk_ne e19 (by decide)
  have e20 : w41[20]? = some (a18, .inl (t 2, 768, .inr (.inr (.inr (.inr (fun _ => none)))))) := by rw [hw]; exact lk_ne e20 (by decide)
  have e21 : w41[21]? = some (h18, .inl (t 1, 768, .inl (fun _ => 0))) := by rw [hw]; exact lk_ne e21 (by decide)
  have hn : w41.length = 22 := by rw [hw, List.length_set]; exact hn
  clear hw
  refine lv_iinc (k := 0) (v := 3) (lv' := [(1, .int 3), (0, .ref x)]) hx hb d_S_init_104 hl rfl (by decide) (by decide) rfl (fun ls hl => ?_)
  refine lv_goto (tgt := 86) hx hb d_S_init_107 rfl ?_
  refine lv_iload_n hx hb d_S_init_86 rfl (lv_at hl 0 rfl) ?_
  refine lv_iconst (v := 5) hx hb d_S_init_87 (by decide) ?_
  refine lv_icmp_gt (tgt := 110) hx hb d_S_init_88 rfl (fun h => absurd h (by decide)) (fun _ => ?_)
  refine lv_aload_n hx hb d_S_init_91 rfl (lv_at hl 1 rfl) ?_
  refine va_get (D := D) (ci := 5) (v := .ref q11) (C := R_S) (T := F_S) (N := 10) hx hb hts ws_S hown hK hP 0 e0 rfl 2 (by decide) (hts _ fl_S_25) (fun _ h9 => h9) rfl d_S_init_92 ?_
  refine lv_iload_n hx hb d_S_init_95 rfl (lv_at hl 0 rfl) ?_
  refine va_new (ci := 4) (fs := [.null, .null, .int 0]) (C := R_Z) (T := F_Z) (N := 3) hx hb hts ws_Z t_Z ok_Z hown (hts _ cl_S_23) (hts _ ib_Z) (hts _ in_Z) hK hP hD hS hA rfl (fun j hj => by rcases (show j = 0 ∨ j = 1 ∨ j = 2 by omega) with rfl | rfl | rfl <;> rfl) (Nat.le_of_ble_eq_true rfl) (Nat.le_of_ble_eq_true rfl) d_S_init_96 (fun q42 H hP hD hS => ?_)
  obtain ⟨w43, hw⟩ : ∃ q, q = w41 ++ [(q42, .inr (4, [.null, .null, .int 0]))] := ⟨_, rfl⟩
  have hP : va_P D Cl (w41 ++ [(q42, .inr (4, [.null, .null, .int 0]))]) H := hP
  have hD : va_D (Az z) (w41 ++ [(q42, .inr (4, [.null, .null, .int 0]))]) := hD
  rw [← hw] at hP hD
  have hC := hC.push (c := [(q42, .inr (4, [.null, .null, .int 0]))])
  rw [← hw] at hC
  have e0 : w43[0]? = some (x, .inr (5, [.ref q1, .ref q6, .ref q11, .ref q14, .ref q19, .int 1, .int 0, .int 0, .int 0, .int 0])) := by rw [hw]; exact lk_push e0
  have e1 : w43[1]? = some (q1, .inr (3, [.ref b1, .int 0])) := by rw [hw]; exact lk_push e1
  have e2 : w43[2]? = some (b1, .inr (1, [.ref a1])) := by rw [hw]; exact lk_push e2
  have e3 : w43[3]? = some (a1, .inl (t 2, 768, .inr (.inr (.inr (.inr (fun _ => none)))))) := by rw [hw]; exact lk_push e3
  have e4 : w43[4]? = some (q6, .inr (3, [.ref b4, .int 0])) := by rw [hw]; exact lk_push e4
  have e5 : w43[5]? = some (b4, .inr (1, [.ref a4])) := by rw [hw]; exact lk_push e5
  have e6 : w43[6]? = some (a4, .inl (t 2, 781, .inr (.inr (.inr (.inr (fun _ => none)))))) := by rw [hw]; exact lk_push e6
  have e7 : w43[7]? = some (q11, .inl (t 3, 6, .inr (.inr (.inr (.inr (va_up (va_up (va_up (fun _ => none) 0 (some q27)) 1 (some q32)) 2 (some q37))))))) := by rw [hw]; exact lk_push e7
  have e8 : w43[8]? = some (q14, .inr (2, [.int 4, .int 0, .int 0, .int 0])) := by rw [hw]; exact lk_push e8
  have e9 : w43[9]? = some (q19, .inl (t 0, 260, .inl (fun _ => 0))) := by rw [hw]; exact lk_push e9
  have e10 : w43[10]? = some (q27, .inr (4, [.ref b10, .ref h10, .int 0])) := by rw [hw]; exact lk_push e10
  have e11 : w43[11]? = some (b10, .inr (1, [.ref a10])) := by rw [hw]; exact lk_push e11
  have e12 : w43[12]? = some (a10, .inl (t 2, 768, .inr (.inr (.inr (.inr (fun _ => none)))))) := by rw [hw]; exact lk_push e12
  have e13 : w43[13]? = some (h10, .inl (t 1, 768, .inl (fun _ => 0))) := by rw [hw]; exact lk_push e13
  have e14 : w43[14]? = some (q32, .inr (4, [.ref b14, .ref h14, .int 0])) := by rw [hw]; exact lk_push e14
  have e15 : w43[15]? = some (b14, .inr (1, [.ref a14])) := by rw [hw]; exact lk_push e15
  have e16 : w43[16]? = some (a14, .inl (t 2, 768, .inr (.inr (.inr (.inr (fun _ => none)))))) := by rw [hw]; exact lk_push e16
  have e17 : w43[17]? = some (h14, .inl (t 1, 768, .inl (fun _ => 0))) := by rw [hw]; exact lk_push e17
  have e18 : w43[18]? = some (q37, .inr (4, [.ref b18, .ref h18, .int 0])) := by rw [hw]; exact lk_push e18
  have e19 : w43[19]? = some (b18, .inr (1, [.ref a18])) := by rw [hw]; exact lk_push e19
  have e20 : w43[20]? = some (a18, .inl (t 2, 768, .inr (.inr (.inr (.inr (fun _ => none)))))) := by rw [hw]; exact lk_push e20
  have e21 : w43[21]? = some (h18, .inl (t 1, 768, .inl (fun _ => 0))) := by rw [hw]; exact lk_push e21
  have e22 : w43[22]? = some (q42, .inr (4, [.null, .null, .int 0])) := by rw [hw]; exact lk_new hn
  have hn : w43.length = 23 := by rw [hw, List.length_append, hn]; rfl
  clear hw
  refine lv_dup hx hb d_S_init_99 rfl ?_
  refine va_callv (va_runIN (As := []) (rest := [.ref q42, .int 3, .ref q11]) ⟨hx, hb, hml, hown, hts⟩ (c_Z_init_22 (D := D) (t := t) (z := z) (sa := sa) (ws := w43)  hn e22) ⟨va_cnB 0 hts (gd_I cd_Z_init) rfl rfl rfl hM.2.1 (hts _ in_Z) (by decide +kernel) ⟨Nat.le_of_ble_eq_true rfl, Nat.le_of_ble_eq_true rfl⟩, rfl, hts _ im_Z_init⟩ ⟨Pz_blind, Pz_at hP hK hD hz hM hS⟩ rfl rfl hl.1 rfl (lv_room (Nat.le_of_ble_eq_true rfl)) d_S_init_100 ⟨Nat.le_of_ble_eq_true rfl, Nat.le_of_ble_eq_true rfl⟩) hS (fun q _ h => h) (fun q h => h) (fun w44 t9 H locs ht hvm hp hB hz1 hk1 hS => ?_)
  obtain ⟨hP, hK9, hD, -⟩ := hB
  rw [ht] at hP
  clear hK9
  obtain ⟨b22, a22, h22, hC9, hn9, kf22, kf23, kf24, kf25⟩ := hp
  have e0 : w44[0]? = some (x, .inr (5, [.ref q1, .ref q6, .ref q11, .ref q14, .ref q19, .int 1, .int 0, .int 0, .int 0, .int 0])) := hC9.keep e0 (by decide)
  have e1 : w44[1]? = some (q1, .inr (3, [.ref b1, .int 0])) := hC9.keep e1 (by decide)
  have e2 : w44[2]? = some (b1, .inr (1, [.ref a1])) := hC9.keep e2 (by decide)
  have e3 : w44[3]? = some (a1, .inl (t 2, 768, .inr (.inr (.inr (.inr (fun _ => none)))))) := hC9.keep e3 (by decide)
  have e4 : w44[4]? = some (q6, .inr (3, [.ref b4, .int 0])) := hC9.keep e4 (by decide)
  have e5 : w44[5]? = some (b4, .inr (1, [.ref a4])) := hC9.keep e5 (by decide)
  have e6 : w44[6]? = some (a4, .inl (t 2, 781, .inr (.inr (.inr (.inr (fun _ => none)))))) := hC9.keep e6 (by decide)
  have e7 : w44[7]? = some (q11, .inl (t 3, 6, .inr (.inr (.inr (.inr (va_up (va_up (va_up (fun _ => none) 0 (some q27)) 1 (some q32)) 2 (some q37))))))) := hC9.keep e7 (by decide)
  have e8 : w44[8]? = some (q14, .inr (2, [.int 4, .int 0, .int 0, .int 0])) := hC9.keep e8 (by decide)
  have e9 : w44[9]? = some (q19, .inl (t 0, 260, .inl (fun _ => 0))) := hC9.keep e9 (by decide)
  have e10 : w44[10]? = some (q27, .inr (4, [.ref b10, .ref h10, .int 0])) := hC9.keep e10 (by decide)
  have e11 : w44[11]? = some (b10, .inr (1, [.ref a10])) := hC9.keep e11 (by decide)
  have e12 : w44[12]? = some (a10, .inl (t 2, 768, .inr (.inr (.inr (.inr (fun _ => none)))))) := hC9.keep e12 (by decide)
  have e13 : w44[13]? = some (h10, .inl (t 1, 768, .inl (fun _ => 0))) := hC9.keep e13 (by decide)
  have e14 : w44[14]? = some (q32, .inr (4, [.ref b14, .ref h14, .int 0])) := hC9.keep e14 (by decide)
  have e15 : w44[15]? = some (b14, .inr (1, [.ref a14])) := hC9.keep e15 (by decide)
  have e16 : w44[16]? = some (a14, .inl (t 2, 768, .inr (.inr (.inr (.inr (fun _ => none)))))) := hC9.keep e16 (by decide)
  have e17 : w44[17]? = some (h14, .inl (t 1, 768, .inl (fun _ => 0))) := hC9.keep e17 (by decide)
  have e18 : w44[18]? = some (q37, .inr (4, [.ref b18, .ref h18, .int 0])) := hC9.keep e18 (by decide)
  have e19 : w44[19]? = some (b18, .inr (1, [.ref a18])) := hC9.keep e19 (by decide)
  have e20 : w44[20]? = some (a18, .inl (t 2, 768, .inr (.inr (.inr (.inr (fun _ => none)))))) := hC9.keep e20 (by decide)
  have e21 : w44[21]? = some (h18, .inl (t 1, 768, .inl (fun _ => 0))) := hC9.keep e21 (by decide)
  have e22 : w44[22]? = some (q42, .inr (4, [.ref b22, .ref h22, .int 0])) := kf22
  have e23 : w44[23]? = some (b22, .inr (1, [.ref a22])) := kf23
  have e24 : w44[24]? = some (a22, .inl (t 2, 768, .inr (.inr (.inr (.inr (fun _ => none)))))) := kf24
  have e25 : w44[25]? = some (h22, .inl (t 1, 768, .inl (fun _ => 0))) := kf25
  have hC := hC.trans hC9
  have hn : w44.length = 26 := hn9
  refine va_astq (D := D) hx hb hK hP hD hS 7 3 22 4 (r := (R_Z, F_Z, 3)) e7 rfl e22 rfl (i := 3) (by unfold vp_in; decide) d_S_init_103 (fun H locs hP hD hS => ?_)
  obtain ⟨w46, hw⟩ : ∃ q, q = w44.set 7 (q11, .inl (t 3, 6, .inr (.inr (.inr (.inr (va_up (va_up (va_up (va_up (fun _ => none) 0 (some q27)) 1 (some q32)) 2 (some q37)) 3 (some q42))))))) := ⟨_, rfl⟩
  have hP : va_P D Cl (w44.set 7 (q11, .inl (t 3, 6, .inr (.inr (.inr (.inr (va_up (va_up (va_up (va_up (fun _ => none) 0 (some q27)) 1 (some q32)) 2 (some q37)) 3 (some q42)))))))) H := hP
  have hD : va_D (Az z) (w44.set 7 (q11, .inl (t 3, 6, .inr (.inr (.inr (.inr (va_up (va_up (va_up (va_up (fun _ => none) 0 (some q27)) 1 (some q32)) 2 (some q37)) 3 (some q42)))))))) := hD
  rw [← hw] at hP hD
  have hC := hC.put (p := 7) (c := (q11, .inl (t 3, 6, .inr (.inr (.inr (.inr (va_up (va_up (va_up (va_up (fun _ => none) 0 (some q27)) 1 (some q32)) 2 (some q37)) 3 (some q42))))))))
  rw [← hw] at hC
  have e0 : w46[0]? = some (x, .inr (5, [.ref q1, .ref q6, .ref q11, .ref q14, .ref q19, .int 1, .int 0, .int 0, .int 0, .int 0])) := by rw [hw]; exact lk_ne e0 (by decide)
  have e1 : w46[1]? = some (q1, .inr (3, [.ref b1, .int 0])) := by rw [hw]; exact lk_ne e1 (by decide)
  have e2 : w46[2]? = some (b1, .inr (1, [.ref a1])) := by rw [hw]; exact lk_ne e2 (by decide)
  have e3 : w46[3]? = some (a1, .inl (t 2, 768, .inr (.inr (.inr (.inr (fun _ => none)))))) := by rw [hw]; exact lk_ne e3 (by decide)
  have e4 : w46[4]? = some (q6, .inr (3, [.ref b4, .int 0])) := by rw [hw]; exact lk_ne e4 (by decide)
  have e5 : w46[5]? = some (b4, .inr (1, [.ref a4])) := by rw [hw]; exact lk_ne e5 (by decide)
  have e6 : w46[6]? = some (a4, .inl (t 2, 781, .inr (.inr (.inr (.inr (fun _ => none)))))) := by rw [hw]; exact lk_ne e6 (by decide)
  have e7 : w46[7]? = some (q11, .inl (t 3, 6, .inr (.inr (.inr (.inr (va_up (va_up (va_up (va_up (fun _ => none) 0 (some q27)) 1 (some q32)) 2 (some q37)) 3 (some q42))))))) := by rw [hw]; exact lk_set e7
  have e8 : w46[8]? = some (q14, .inr (2, [.int 4, .int 0, .int 0, .int 0])) := by rw [hw]; exact lk_ne e8 (by decide)
  have e9 : w46[9]? = some (q19, .inl (t 0, 260, .inl (fun _ => 0))) := by rw [hw]; exact lk_ne e9 (by decide)
  have e10 : w46[10]? = some (q27, .inr (4, [.ref b10, .ref h10, .int 0])) := by rw [hw]; exact lk_ne e10 (by decide)
  have e11 : w46[11]? = some (b10, .inr (1, [.ref a10])) := by rw [hw]; exact lk_ne e11 (by decide)
  have e12 : w46[12]? = some (a10, .inl (t 2, 768, .inr (.inr (.inr (.inr (fun _ => none)))))) := by rw [hw]; exact lk_ne e12 (by decide)
  have e13 : w46[13]? = some (h10, .inl (t 1, 768, .inl (fun _ => 0))) := by rw [hw]; exact lk_ne e13 (by decide)
  have e14 : w46[14]? = some (q32, .inr (4, [.ref b14, .ref h14, .int 0])) := by rw [hw]; exact lk_ne e14 (by decide)
  have e15 : w46[15]? = some (b14, .inr (1, [.ref a14])) := by rw [hw]; exact lk_ne e15 (by decide)
  have e16 : w46[16]? = some (a14, .inl (t 2, 768, .inr (.inr (.inr (.inr (fun _ => none)))))) := by rw [hw]; exact lk_ne e16 (by decide)
  have e17 : w46[17]? = some (h14, .inl (t 1, 768, .inl (fun _ => 0))) := by rw [hw]; exact lk_ne e17 (by decide)
  have e18 : w46[18]? = some (q37, .inr (4, [.ref b18, .ref h18, .int 0])) := by rw [hw]; exact lk_ne e18 (by decide)
  have e19 : w46[19]? = some (b18, .inr (1, [.ref a18])) := by rw [hw]; exact lk_ne e19 (by decide)
  have e20 : w46[20]? = some (a18, .inl (t 2, 768, .inr (.inr (.inr (.inr (fun _ => none)))))) := by rw [hw]; exact lk_ne e20 (by decide)
  have e21 : w46[21]? = some (h18, .inl (t 1, 768, .inl (fun _ => 0))) := by rw [hw]; exact lk_ne e21 (by decide)
  have e22 : w46[22]? = some (q42, .inr (4, [.ref b22, .ref h22, .int 0])) := by rw [hw]; exact lk_ne e22 (by decide)
  have e23 : w46[23]? = some (b22, .inr (1, [.ref a22])) := by rw [hw]; exact lk_ne e23 (by decide)
  have e24 : w46[24]? = some (a22, .inl (t 2, 768, .inr (.inr (.inr (.inr (fun _ => none)))))) := by rw [hw]; exact lk_ne e24 (by decide)
  have e25 : w46[25]? = some (h22, .inl (t 1, 768, .inl (fun _ => 0))) := by rw [hw]; exact lk_ne e25 (by decide)
  have hn : w46.length = 26 := by rw [hw, List.length_set]; exact hn
  clear hw
  refine lv_iinc (k := 0) (v := 4) (lv' := [(1, .int 4), (0, .ref x)]) hx hb d_S_init_104 hl rfl (by decide) (by decide) rfl (fun ls hl => ?_)
  refine lv_goto (tgt := 86) hx hb d_S_init_107 rfl ?_
  refine lv_iload_n hx hb d_S_init_86 rfl (lv_at hl 0 rfl) ?_
  refine lv_iconst (v := 5) hx hb d_S_init_87 (by decide) ?_
  refine lv_icmp_gt (tgt := 110) hx hb d_S_init_88 rfl (fun h => absurd h (by decide)) (fun _ => ?_)
  refine lv_aload_n hx hb d_S_init_91 rfl (lv_at hl 1 rfl) ?_
  refine va_get (D := D) (ci := 5) (v := .ref q11) (C := R_S) (T := F_S) (N := 10) hx hb hts ws_S hown hK hP 0 e0 rfl 2 (by decide) (hts _ fl_S_25) (fun _ h9 => h9) rfl d_S_init_92 ?_
  refine lv_iload_n hx hb d_S_init_95 rfl (lv_at hl 0 rfl) ?_
  refine va_new (ci := 4) (fs := [.null, .null, .int 0]) (C := R_Z) (T := F_Z) (N := 3) hx hb hts ws_Z t_Z ok_Z hown (hts _ cl_S_23) (hts _ ib_Z) (hts _ in_Z) hK hP hD hS hA rfl (fun j hj => by rcases (show j = 0 ∨ j = 1 ∨ j = 2 by omega) with rfl | rfl | rfl <;> rfl) (Nat.le_of_ble_eq_true rfl) (Nat.le_of_ble_eq_true rfl) d_S_init_96 (fun q47 H hP hD hS => ?_)
  obtain ⟨w48, hw⟩ : ∃ q, q = w46 ++ [(q47, .inr (4, [.null, .null, .int 0]))] := ⟨_, rfl⟩
  have hP : va_P D Cl (w46 ++ [(q47, .inr (4, [.null, .null, .int 0]))]) H := hP
  have hD : va_D (Az z) (w46 ++ [(q47, .inr (4, [.null, .null, .int 0]))]) := hD
  rw [← hw] at hP hD
  have hC := hC.push (c := [(q47, .inr (4, [.null, .null, .int 0]))])
  rw [← hw] at hC
  have e0 : w48[0]? = some (x, .inr (5, [.ref q1, .ref q6, .ref q11, .ref q14, .ref q19, .int 1, .int 0, .int 0, .int 0, .int 0])) := by rw [hw]; exact lk_push e0
  have e1 : w48[1]? = some (q1, .inr (3, [.ref b1, .int 0])) := by rw [hw]; exact lk_push e1
  have e2 : w48[2]? = some (b1, .inr (1, [.ref a1])) := by rw [hw]; exact lk_push e2
  have e3 : w48[3]? = some (a1, .inl (t 2, 768, .inr (.inr (.inr (.inr (fun _ => none)))))) := by rw [hw]; exact lk_push e3
  have e4 : w48[4]? = some (q6, .inr (3, [.ref b4, .int 0])) := by rw [hw]; exact lk_push e4
  have e5 : w48[5]? = some (b4, .inr (1, [.ref a4])) := by rw [hw]; exact lk_push e5
  have e6 : w48[6]? = some (a4, .inl (t 2, 781, .inr (.inr (.inr (.inr (fun _ => none)))))) := by rw [hw]; exact lk_push e6
  have e7 : w48[7]? = some (q11, .inl (t 3, 6, .inr (.inr (.inr (.inr (va_up (va_up (va_up (va_up (fun _ => none) 0 (some q27)) 1 (some q32)) 2 (some q37)) 3 (some q42))))))) := by rw [hw]; exact lk_push e7
  have e8 : w48[8]? = some (q14, .inr (2, [.int 4, .int 0, .int 0, .int 0])) := by rw [hw]; exact lk_push e8
  have e9 : w48[9]? = some (q19, .inl (t 0, 260, .inl (fun _ => 0))) := by rw [hw]; exact lk_push e9
  have e10 : w48[10]? = some (q27, .inr (4, [.ref b10, .ref h10, .int 0])) := by rw [hw]; exact lk_push e10
  have e11 : w48[11]? = some (b10, .inr (1, [.ref a10])) := by rw [hw]; exact lk_push e11
  have e12 : w48[12]? = some (a10, .inl (t 2, 768, .inr (.inr (.inr (.inr (fun _ => none)))))) := by rw [hw]; exact lk_push e12
  have e13 : w48[13]? = some (h10, .inl (t 1, 768, .inl (fun _ => 0))) := by rw [hw]; exact lk_push e13
  have e14 : w48[14]? = some (q32, .inr (4, [.ref b14, .ref h14, .int 0])) := by rw [hw]; exact lk_push e14
  have e15 : w48[15]? = some (b14, .inr (1, [.ref a14])) := by rw [hw]; exact lk_push e15
  have e16 : w48[16]? = some (a14, .inl (t 2, 768, .inr (.inr (.inr (.inr (fun _ => none)))))) := by rw [hw]; exact lk_push e16
  have e17 : w48[17]? = some (h14, .inl (t 1, 768, .inl (fun _ => 0))) := by rw [hw]; exact lk_push e17
  have e18 : w48[18]? = some (q37, .inr (4, [.ref b18, .ref h18, .int 0])) := by rw [hw]; exact lk_push e18
  have e19 : w48[19]? = some (b18, .inr (1, [.ref a18])) := by rw [hw]; exact lk_push e19
  have e20 : w48[20]? = some (a18, .inl (t 2, 768, .inr (.inr (.inr (.inr (fun _ => none)))))) := by rw [hw]; exact lk_push e20
  have e21 : w48[21]? = some (h18, .inl (t 1, 768, .inl (fun _ => 0))) := by rw [hw]; exact lk_push e21
  have e22 : w48[22]? = some (q42, .inr (4, [.ref b22, .ref h22, .int 0])) := by rw [hw]; exact lk_push e22
  have e23 : w48[23]? = some (b22, .inr (1, [.ref a22])) := by rw [hw]; exact lk_push e23
  have e24 : w48[24]? = some (a22, .inl (t 2, 768, .inr (.inr (.inr (.inr (fun _ => none)))))) := by rw [hw]; exact lk_push e24
  have e25 : w48[25]? = some (h22, .inl (t 1, 768, .inl (fun _ => 0))) := by rw [hw]; exact lk_push e25
  have e26 : w48[26]? = some (q47, .inr (4, [.null, .null, .int 0])) := by rw [hw]; exact lk_new hn
  have hn : w48.length = 27 := by rw [hw, List.length_append, hn]; rfl
  clear hw
  refine lv_dup hx hb d_S_init_99 rfl ?_
  refine va_callv (va_runIN (As := []) (rest := [.ref q47, .int 4, .ref q11]) ⟨hx, hb, hml, hown, hts⟩ (c_Z_init_26 (D := D) (t := t) (z := z) (sa := sa) (ws := w48)  hn e26) ⟨va_cnB 0 hts (gd_I cd_Z_init) rfl rfl rfl hM.2.1 (hts _ in_Z) (by decide +kernel) ⟨Nat.le_of_ble_eq_true rfl, Nat.le_of_ble_eq_true rfl⟩, rfl, hts _ im_Z_init⟩ ⟨Pz_blind, Pz_at hP hK hD hz hM hS⟩ rfl rfl hl.1 rfl (lv_room (Nat.le_of_ble_eq_true rfl)) d_S_init_100 ⟨Nat.le_of_ble_eq_true rfl, Nat.le_of_ble_eq_true rfl⟩) hS (fun q _ h => h) (fun q h => h) (fun w49 t9 H locs ht hvm hp hB hz1 hk1 hS => ?_)
  obtain ⟨hP, hK9, hD, -⟩ := hB
  rw [ht] at hP
  clear hK9
  obtain ⟨b26, a26, h26, hC9, hn9, kf26, kf27, kf28, kf29⟩ := hp
  have e0 : w49[0]? = some (x, .inr (5, [.ref q1, .ref q6, .ref q11, .ref q14, .ref q19, .int 1, .int 0, .int 0, .int 0, .int 0])) := hC9.keep e0 (by decide)
  have e1 : w49[1]? = some (q1, .inr (3, [.ref b1, .int 0])) := hC9.keep e1 (by decide)
  have e2 : w49[2]? = some (b1, .inr (1, [.ref a1])) := hC9.keep e2 (by decide)
  have e3 : w49[3]? = some (a1, .inl (t 2, 768, .inr (.inr (.inr (.inr (fun _ => none)))))) := hC9.keep e3 (by decide)
  have e4 : w49[4]? = some (q6, .inr (3, [.ref b4, .int 0])) := hC9.keep e4 (by decide)
  have e5 : w49[5]? = some (b4, .inr (1, [.ref a4])) := hC9.keep e5 (by decide)
  have e6 : w49[6]? = some (a4, .inl (t 2, 781, .inr (.inr (.inr (.inr (fun _ => none)))))) := hC9.keep e6 (by decide)
  have e7 : w49[7]? = some (q11, .inl (t 3, 6, .inr (.inr (.inr (.inr (va_up (va_up (va_up (va_up (fun _ => none) 0 (some q27)) 1 (some q32)) 2 (some q37)) 3 (some q42))))))) := hC9.keep e7 (by decide)
  have e8 : w49[8]? = some (q14, .inr (2, [.int 4, .int 0, .int 0, .int 0])) := hC9.keep e8 (by decide)
  have e9 : w49[9]? = some (q19, .inl (t 0, 260, .inl (fun _ => 0))) := hC9.keep e9 (by decide)
  have e10 : w49[10]? = some (q27, .inr (4, [.ref b10, .ref h10, .int 0])) := hC9.keep e10 (by decide)
  have e11 : w49[11]? = some (b10, .inr (1, [.ref a10])) := hC9.keep e11 (by decide)
  have e12 : w49[12]? = some (a10, .inl (t 2, 768, .inr (.inr (.inr (.inr (fun _ => none)))))) := hC9.keep e12 (by decide)
  have e13 : w49[13]? = some (h10, .inl (t 1, 768, .inl (fun _ => 0))) := hC9.keep e13 (by decide)
  have e14 : w49[14]? = some (q32, .inr (4, [.ref b14, .ref h14, .int 0])) := hC9.keep e14 (by decide)
  have e15 : w49[15]? = some (b14, .inr (1, [.ref a14])) := hC9.keep e15 (by decide)
  have e16 : w49[16]? = some (a14, .inl (t 2, 768, .inr (.inr (.inr (.inr (fun _ => none)))))) := hC9.keep e16 (by decide)
  have e17 : w49[17]? = some (h14, .inl (t 1, 768, .inl (fun _ => 0))) := hC9.keep e17 (by decide)
  have e18 : w49[18]? = some (q37, .inr (4, [.ref b18, .ref h18, .int 0])) := hC9.keep e18 (by decide)
  have e19 : w49[19]? = some (b18, .inr (1, [.ref a18])) := hC9.keep e19 (by decide)
  have e20 : w49[20]? = some (a18, .inl (t 2, 768, .inr (.inr (.inr (.inr (fun _ => none)))))) := hC9.keep e20 (by decide)
  have e21 : w49[21]? = some (h18, .inl (t 1, 768, .inl (fun _ => 0))) := hC9.keep e21 (by decide)
  have e22 : w49[22]? = some (q42, .inr (4, [.ref b22, .ref h22, .int 0])) := hC9.keep e22 (by decide)
  have e23 : w49[23]? = some (b22, .inr (1, [.ref a22])) := hC9.keep e23 (by decide)
  have e24 : w49[24]? = some (a22, .inl (t 2, 768, .inr (.inr (.inr (.inr (fun _ => none)))))) := hC9.keep e24 (by decide)
  have e25 : w49[25]? = some (h22, .inl (t 1, 768, .inl (fun _ => 0))) := hC9.keep e25 (by decide)
  have e26 : w49[26]? = some (q47, .inr (4, [.ref b26, .ref h26, .int 0])) := kf26
  have e27 : w49[27]? = some (b26, .inr (1, [.ref a26])) := kf27
  have e28 : w49[28]? = some (a26, .inl (t 2, 768, .inr (.inr (.inr (.inr (fun _ => none)))))) := kf28
  have e29 : w49[29]? = some (h26, .inl (t 1, 768, .inl (fun _ => 0))) := kf29
  have hC := hC.trans hC9
  have hn : w49.length = 30 := hn9
  refine va_astq (D := D) hx hb hK hP hD hS 7 3 26 4 (r := (R_Z, F_Z, 3)) e7 rfl e26 rfl (i := 4) (by unfold vp_in; decide) d_S_init_103 (fun H locs hP hD hS => ?_)
  obtain ⟨w51, hw⟩ : ∃ q, q = w49.set 7 (q11, .inl (t 3, 6, .inr (.inr (.inr (.inr (va_up (va_up (va_up (va_up (va_up (fun _ => none) 0 (some q27)) 1 (some q32)) 2 (some q37)) 3 (some q42)) 4 (some q47))))))) := ⟨_, rfl⟩
  have hP : va_P D Cl (w49.set 7 (q11, .inl (t 3, 6, .inr (.inr (.inr (.inr (va_up (va_up (va_up (va_up (va_up (fun _ => none) 0 (some q27)) 1 (some q32)) 2 (some q37)) 3 (some q42)) 4 (some q47)))))))) H := hP
  have hD : va_D (Az z) (w49.set 7 (q11, .inl (t 3, 6, .inr (.inr (.inr (.inr (va_up (va_up (va_up (va_up (va_up (fun _ => none) 0 (some q27)) 1 (some q32)) 2 (some q37)) 3 (some q42)) 4 (some q47)))))))) := hD
  rw [← hw] at hP hD
  have hC := hC.put (p := 7) (c := (q11, .inl (t 3, 6, .inr (.inr (.inr (.inr (va_up (va_up (va_up (va_up (va_up (fun _ => none) 0 (some q27)) 1 (some q32)) 2 (some q37)) 3 (some q42)) 4 (some q47))))))))
  rw [← hw] at hC
  have e0 : w51[0]? = some (x, .inr (5, [.ref q1, .ref q6, .ref q11, .ref q14, .ref q19, .int 1, .int 0, .int 0, .int 0, .int 0])) := by rw [hw]; exact lk_ne e0 (by decide)
  have e1 : w51[1]? = some (q1, .inr (3, [.ref b1, .int 0])) := by rw [hw]; exact lk_ne e1 (by decide)
  have e2 : w51[2]? = some (b1, .inr (1, [.ref a1])) := by rw [hw]; exact lk_ne e2 (by decide)
  have e3 : w51[3]? = some (a1, .inl (t 2, 768, .inr (.inr (.inr (.inr (fun _ => none)))))) := by rw [hw]; exact lk_ne e3 (by decide)
  have e4 : w51[4]? = some (q6, .inr (3, [.ref b4, .int 0])) := by rw [hw]; exact lk_ne e4 (by decide)
  have e5 : w51[5]? = some (b4, .inr (1, [.ref a4])) := by rw [hw]; exact lk_ne e5 (by decide)
  have e6 : w51[6]? = some (a4, .inl (t 2, 781, .inr (.inr (.inr (.inr (fun _ => none)))))) := by rw [hw]; exact lk_ne e6 (by decide)
  have e7 : w51[7]? = some (q11, .inl (t 3, 6, .inr (.inr (.inr (.inr (va_up (va_up (va_up (va_up (va_up (fun _ => none) 0 (some q27)) 1 (some q32)) 2 (some q37)) 3 (some q42)) 4 (some q47))))))) := by rw [hw]; exact lk_set e7
  have e8 : w51[8]? = some (q14, .inr (2, [.int 4, .int 0, .int 0, .int 0])) := by rw [hw]; exact lk_ne e8 (by decide)
  have e9 : w51[9]? = some (q19, .inl (t 0, 260, .inl (fun _ => 0))) := by rw [hw]; exact lk_ne e9 (by decide)
  have e10 : w51[10]? = some (q27, .inr (4, [.ref b10, .ref h10, .int 0])) := by rw [hw]; exact lk_ne e10 (by decide)
  have e11 : w51[11]? = some (b10, .inr (1, [.ref a10])) := by rw [hw]; exact lk_ne e11 (by decide)
  have e12 : w51[12]? = some (a10, .inl (t 2, 768, .inr (.inr (.inr (.inr (fun _ => none)))))) := by rw [hw]; exact lk_ne e12 (by decide)
  have e13 : w51[13]? = some (h10, .inl (t 1, 768, .inl (fun _ => 0))) := by rw [hw]; exact lk_ne e13 (by decide)
  have e14 : w51[14]? = some (q32, .inr (4, [.ref b14, .ref h14, .int 0])) := by rw [hw]; exact lk_ne e14 (by decide)
  have e15 : w51[15]? = some (b14, .inr (1, [.ref a14])) := by rw [hw]; exact lk_ne e15 (by decide)
  have e16 : w51[16]? = some (a14, .inl (t 2, 768, .inr (.inr (.inr (.inr (fun _ => none)))))) := by rw [hw]; exact lk_ne e16 (by decide)
  have e17 : w51[17]? = some (h14, .inl (t 1, 768, .inl (fun _ => 0))) := by rw [hw]; exact lk_ne e17 (by decide)
  have e18 : w51[18]? = some (q37, .inr (4, [.ref b18, .ref h18, .int 0])) := by rw [hw]; exact lk_ne e18 (by decide)
  have e19 : w51[19]? = some (b18, .inr (1, [.ref a18])) := by rw [hw]; exact lk_ne e19 (by decide)
  have e20 : w51[20]? = some (a18, .inl (t 2, 768, .inr (.inr (.inr (.inr (fun _ => none)))))) := by rw [hw]; exact lk_ne e20 (by decide)
  have e21 : w51[21]? = some (h18, .inl (t 1, 768, .inl (fun _ => 0))) := by rw [hw]; exact lk_ne e21 (by decide)
  have e22 : w51[22]? = some (q42, .inr (4, [.ref b22, .ref h22, .int 0])) := by rw [hw]; exact lk_ne e22 (by decide)
  have e23 : w51[23]? = some (b22, .inr (1, [.ref a22])) := by rw [hw]; exact lk_ne e23 (by decide)
  have e24 : w51[24]? = some (a22, .inl (t 2, 768, .inr (.inr (.inr (.inr (fun _ => none)))))) := by rw [hw]; exact lk_ne e24 (by decide)
  have e25 : w51[25]? = some (h22, .inl (t 1, 768, .inl (fun _ => 0))) := by rw [hw]; exact lk_ne e25 (by decide)
  have e26 : w51[26]? = some (q47, .inr (4, [.ref b26, .ref h26, .int 0])) := by rw [hw]; exact lk_ne e26 (by decide)
  have e27 : w51[27]? = some (b26, .inr (1, [.ref a26])) := by rw [hw]; exact lk_ne e27 (by decide)
  have e28 : w51[28]? = some (a26, .inl (t 2, 768, .inr (.inr (.inr (.inr (fun _ => none)))))) := by rw [hw]; exact lk_ne e28 (by decide)
  have e29 : w51[29]? = some (h26, .inl (t 1, 768, .inl (fun _ => 0))) := by rw [hw]; exact lk_ne e29 (by decide)
  have hn : w51.length = 30 := by rw [hw, List.length_set]; exact hn
  clear hw
  refine lv_iinc (k := 0) (v := 5) (lv' := [(1, .int 5), (0, .ref x)]) hx hb d_S_init_104 hl rfl (by decide) (by decide) rfl (fun ls hl => ?_)
  refine lv_goto (tgt := 86) hx hb d_S_init_107 rfl ?_
  refine lv_iload_n hx hb d_S_init_86 rfl (lv_at hl 0 rfl) ?_
  refine lv_iconst (v := 5) hx hb d_S_init_87 (by decide) ?_
  refine lv_icmp_gt (tgt := 110) hx hb d_S_init_88 rfl (fun h => absurd h (by decide)) (fun _ => ?_)
  refine lv_aload_n hx hb d_S_init_91 rfl (lv_at hl 1 rfl) ?_
  refine va_get (D := D) (ci := 5) (v := .ref q11) (C := R_S) (T := F_S) (N := 10) hx hb hts ws_S hown hK hP 0 e0 rfl 2 (by decide) (hts _ fl_S_25) (fun _ h9 => h9) rfl d_S_init_92 ?_
  refine lv_iload_n hx hb d_S_init_95 rfl (lv_at hl 0 rfl) ?_
  refine va_new (ci := 4) (fs := [.null, .null, .int 0]) (C := R_Z) (T := F_Z) (N := 3) hx hb hts ws_Z t_Z ok_Z hown (hts _ cl_S_23) (hts _ ib_Z) (hts _ in_Z) hK hP hD hS hA rfl (fun j hj => by rcases (show j = 0 ∨ j = 1 ∨ j = 2 by omega) with rfl | rfl | rfl <;> rfl) (Nat.le_of_ble_eq_true rfl) (Nat.le_of_ble_eq_true rfl) d_S_init_96 (fun q52 H hP hD hS => ?_)
  obtain ⟨w53, hw⟩ : ∃ q, q = w51 ++ [(q52, .inr (4, [.null, .null, .int 0]))] := ⟨_, rfl⟩
  have hP : va_P D Cl (w51 ++ [(q52, .inr (4, [.null, .null, .int 0]))]) H := hP
  have hD : va_D (Az z) (w51 ++ [(q52, .inr (4, [.null, .null, .int 0]))]) := hD
  rw [← hw] at hP hD
  have hC := hC.push (c := [(q52, .inr (4, [.null, .null, .int 0]))])
  rw [← hw] at hC
  have e0 : w53[0]? = some (x, .inr (5, [.ref q1, .ref q6, .ref q11, .ref q14, .ref q19, .int 1, .int 0, .int 0, .int 0, .int 0])) := by rw [hw]; exact lk_push e0
  have e1 : w53[1]? = some (q1, .inr (3, [.ref b1, .int 0])) := by rw [hw]; exact lk_push e1
  have e2 : w53[2]? = some (b1, .inr (1, [.ref a1])) := by rw [hw]; exact lk_push e2
  have e3 : w53[3]? = some (a1, .inl (t 2, 768, .inr (.inr (.inr (.inr (fun _ => none)))))) := by rw [hw]; exact lk_push e3
  have e4 : w53[4]? = some (q6, .inr (3, [.ref b4, .int 0])) := by rw [hw]; exact lk_push e4
  have e5 : w53[5]? = some (b4, .inr (1, [.ref a4])) := by rw [hw]; exact lk_push e5
  have e6 : w53[6]? = some (a4, .inl (t 2, 781, .inr (.inr (.inr (.inr (fun _ => none)))))) := by rw [hw]; exact lk_push e6
  have e7 : w53[7]? = some (q11, .inl (t 3, 6, .inr (.inr (.inr (.inr (va_up (va_up (va_up (va_up (va_up (fun _ => none) 0 (some q27)) 1 (some q32)) 2 (some q37)) 3 (some q42)) 4 (some q47))))))) := by rw [hw]; exact lk_push e7
  have e8 : w53[8]? = some (q14, .inr (2, [.int 4, .int 0, .int 0, .int 0])) := by rw [hw]; exact lk_push e8
  have e9 : w53[9]? = some (q19, .inl (t 0, 260, .inl (fun _ => 0))) := by rw [hw]; exact lk_push e9
  have e10 : w53[10]? = some (q27, .inr (4, [.ref b10, .ref h10, .int 0])) := by rw [hw]; exact lk_push e10
  have e11 : w53[11]? = some (b10, .inr (1, [.ref a10])) := by rw [hw]; exact lk_push e11
  have e12 : w53[12]? = some (a10, .inl (t 2, 768, .inr (.inr (.inr (.inr (fun _ => none)))))) := by rw [hw]; exact lk_push e12
  have e13 : w53[13]? = some (h10, .inl (t 1, 768, .inl (fun _ => 0))) := by rw [hw]; exact lk_push e13
  have e14 : w53[14]? = some (q32, .inr (4, [.ref b14, .ref h14, .int 0])) := by rw [hw]; exact lk_push e14
  have e15 : w53[15]? = some (b14, .inr (1, [.ref a14])) := by rw [hw]; exact lk_push e15
  have e16 : w53[16]? = some (a14, .inl (t 2, 768, .inr (.inr (.inr (.inr (fun _ => none)))))) := by rw [hw]; exact lk_push e16
  have e17 : w53[17]? = some (h14, .inl (t 1, 768, .inl (fun _ => 0))) := by rw [hw]; exact lk_push e17
  have e18 : w53[18]? = some (q37, .inr (4, [.ref b18, .ref h18, .int 0])) := by rw [hw]; exact lk_push e18
  have e19 : w53[19]? = some (b18, .inr (1, [.ref a18])) := by rw [hw]; exact lk_push e19
  have e20 : w53[20]? = some (a18, .inl (t 2, 768, .inr (.inr (.inr (.inr (fun _ => none)))))) := by rw [hw]; exact lk_push e20
  have e21 : w53[21]? = some (h18, .inl (t 1, 768, .inl (fun _ => 0))) := by rw [hw]; exact lk_push e21
  have e22 : w53[22]? = some (q42, .inr (4, [.ref b22, .ref h22, .int 0])) := by rw [hw]; exact lk_push e22
  have e23 : w53[23]? = some (b22, .inr (1, [.ref a22])) := by rw [hw]; exact lk_push e23
  have e24 : w53[24]? = some (a22, .inl (t 2, 768, .inr (.inr (.inr (.inr (fun _ => none)))))) := by rw [hw]; exact lk_push e24
  have e25 : w53[25]? = some (h22, .inl (t 1, 768, .inl (fun _ => 0))) := by rw [hw]; exact lk_push e25
  have e26 : w53[26]? = some (q47, .inr (4, [.ref b26, .ref h26, .int 0])) := by rw [hw]; exact lk_push e26
  have e27 : w53[27]? = some (b26, .inr (1, [.ref a26])) := by rw [hw]; exact lk_push e27
  have e28 : w53[28]? = some (a26, .inl (t 2, 768, .inr (.inr (.inr (.inr (fun _ => none)))))) := by rw [hw]; exact lk_push e28
  have e29 : w53[29]? = some (h26, .inl (t 1, 768, .inl (fun _ => 0))) := by rw [hw]; exact lk_push e29
  have e30 : w53[30]? = some (q52, .inr (4, [.null, .null, .int 0])) := by rw [hw]; exact lk_new hn
  have hn : w53.length = 31 := by rw [hw, List.length_append, hn]; rfl
  clear hw
  refine lv_dup hx hb d_S_init_99 rfl ?_
  refine va_callv (va_runIN (As := []) (rest := [.ref q52, .int 5, .ref q11]) ⟨hx, hb, hml, hown, hts⟩ (c_Z_init_30 (D := D) (t := t) (z := z) (sa := sa) (ws := w53)  hn e30) ⟨va_cnB 0 hts (gd_I cd_Z_init) rfl rfl rfl hM.2.1 (hts _ in_Z) (by decide +kernel) ⟨Nat.le_of_ble_eq_true rfl, Nat.le_of_ble_eq_true rfl⟩, rfl, hts _ im_Z_init⟩ ⟨Pz_blind, Pz_at hP hK hD hz hM hS⟩ rfl rfl hl.1 rfl (lv_room (Nat.le_of_ble_eq_true rfl)) d_S_init_100 ⟨Nat.le_of_ble_eq_true rfl, Nat.le_of_ble_eq_true rfl⟩) hS (fun q _ h => h) (fun q h => h) (fun w54 t9 H locs ht hvm hp hB hz1 hk1 hS => ?_)
  obtain ⟨hP, hK9, hD, -⟩ := hB
  rw [ht] at hP
  clear hK9
  obtain ⟨b30, a30, h30, hC9, hn9, kf30, kf31, kf32, kf33⟩ := hp
  have e0 : w54[0]? = some (x, .inr (5, [.ref q1, .ref q6, .ref q11, .ref q14, .ref q19, .int 1, .int 0, .int 0, .int 0, .int 0])) := hC9.keep e0 (by decide)
  have e1 : w54[1]? = some (q1, .inr (3, [.ref b1, .int 0])) := hC9.keep e1 (by decide)
  have e2 : w54[2]? = some (b1, .inr (1, [.ref a1])) := hC9.keep e2 (by decide)
  have e3 : w54[3]? = some (a1, .inl (t 2, 768, .inr (.inr (.inr (.inr (fun _ => none)))))) := hC9.keep e3 (by decide)
  have e4 : w54[4]? = some (q6, .inr (3, [.ref b4, .int 0])) := hC9.keep e4 (by decide)
  have e5 : w54[5]? = some (b4, .inr (1, [.ref a4])) := hC9.keep e5 (by decide)
  have e6 : w54[6]? = some (a4, .inl (t 2, 781, .inr (.inr (.inr (.inr (fun _ => none)))))) := hC9.keep e6 (by decide)
  have e7 : w54[7]? = some (q11, .inl (t 3, 6, .inr (.inr (.inr (.inr (va_up (va_up (va_up (va_up (va_up (fun _ => none) 0 (some q27)) 1 (some q32)) 2 (some q37)) 3 (some q42)) 4 (some q47))))))) := hC9.keep e7 (by decide)
  have e8 : w54[8]? = some (q14, .inr (2, [.int 4, .int 0, .int 0, .int 0])) := hC9.keep e8 (by decide)
  have e9 : w54[9]? = some (q19, .inl (t 0, 260, .inl (fun _ => 0))) := hC9.keep e9 (by decide)
  have e10 : w54[10]? = some (q27, .inr (4, [.ref b10, .ref h10, .int 0])) := hC9.keep e10 (by decide)
  have e11 : w54[11]? = some (b10, .inr (1, [.ref a10])) := hC9.keep e11 (by decide)
  have e12 : w54[12]? = some (a10, .inl (t 2, 768, .inr (.inr (.inr (.inr (fun _ => none)))))) := hC9.keep e12 (by decide)
  have e13 : w54[13]? = some (h10, .inl (t 1, 768, .inl (fun _ => 0))) := hC9.keep e13 (by decide)
  have e14 : w54[14]? = some (q32, .inr (4, [.ref b14, .ref h14, .int 0])) := hC9.keep e14 (by decide)
  have e15 : w54[15]? = some (b14, .inr (1, [.ref a14])) := hC9.keep e15 (by decide)
  have e16 : w54[16]? = some (a14, .inl (t 2, 768, .inr (.inr (.inr (.inr (fun _ => none)))))) := hC9.keep e16 (by decide)
  have e17 : w54[17]? = some (h14, .inl (t 1, 768, .inl (fun _ => 0))) := hC9.keep e17 (by decide)
  have e18 : w54[18]? = some (q37, .inr (4, [.ref b18, .ref h18, .int 0])) := hC9.keep e18 (by decide)
  have e19 : w54[19]? = some (b18, .inr (1, [.ref a18])) := hC9.keep e19 (by decide)
  have e20 : w54[20]? = some (a18, .inl (t 2, 768, .inr (.inr (.inr (.inr (fun _ => none)))))) := hC9.keep e20 (by decide)
  have e21 : w54[21]? = some (h18, .inl (t 1, 768, .inl (fun _ => 0))) := hC9.keep e21 (by decide)
  have e22 : w54[22]? = some (q42, .inr (4, [.ref b22, .ref h22, .int 0])) := hC9.keep e22 (by decide)
  have e23 : w54[23]? = some (b22, .inr (1, [.ref a22])) := hC9.keep e23 (by decide)
  have e24 : w54[24]? = some (a22, .inl (t 2, 768, .inr (.inr (.inr (.inr (fun _ => none)))))) := hC9.keep e24 (by decide)
  have e25 : w54[25]? = some (h22, .inl (t 1, 768, .inl (fun _ => 0))) := hC9.keep e25 (by decide)
  have e26 : w54[26]? = some (q47, .inr (4, [.ref b26, .ref h26, .int 0])) := hC9.keep e26 (by decide)
  have e27 : w54[27]? = some (b26, .inr (1, [.ref a26])) := hC9.keep e27 (by decide)
  have e28 : w54[28]? = some (a26, .inl (t 2, 768, .inr (.inr (.inr (.inr (fun _ => none)))))) := hC9.keep e28 (by decide)
  have e29 : w54[29]? = some (h26, .inl (t 1, 768, .inl (fun _ => 0))) := hC9.keep e29 (by decide)
  have e30 : w54[30]? = some (q52, .inr (4, [.ref b30, .ref h30, .int 0])) := kf30
  have e31 : w54[31]? = some (b30, .inr (1, [.ref a30])) := kf31
  have e32 : w54[32]? = some (a30, .inl (t 2, 768, .inr (.inr (.inr (.inr (fun _ => none)))))) := kf32
  have e33 : w54[33]? = some (h30, .inl (t 1, 768, .inl (fun _ => 0))) := kf33
  have hC := hC.trans hC9
  have hn : w54.length = 34 := hn9
  refine va_astq (D := D) hx hb hK hP hD hS 7 3 30 4 (r := (R_Z, F_Z, 3)) e7 rfl e30 rfl (i := 5) (by unfold vp_in; decide) d_S_init_103 (fun H locs hP hD hS => ?_)
  obtain ⟨w56, hw⟩ : ∃ q, q = w54.set 7 (q11, .inl (t 3, 6, .inr (.inr (.inr (.inr (va_up (va_up (va_up (va_up (va_up (va_up (fun _ => none) 0 (some q27)) 1 (some q32)) 2 (some q37)) 3 (some q42)) 4 (some q47)) 5 (some q52))))))) := ⟨_, rfl⟩
  have hP : va_P D Cl (w54.set 7 (q11, .inl (t 3, 6, .inr (.inr (.inr (.inr (va_up (va_up (va_up (va_up (va_up (va_up (fun _ => none) 0 (some q27)) 1 (some q32)) 2 (some q37)) 3 (some q42)) 4 (some q47)) 5 (some q52)))))))) H := hP
  have hD : va_D (Az z) (w54.set 7 (q11, .inl (t 3, 6, .inr (.inr (.inr (.inr (va_up (va_up (va_up (va_up (va_up (va_up (fun _ => none) 0 (some q27)) 1 (some q32)) 2 (some q37)) 3 (some q42)) 4 (some q47)) 5 (some q52)))))))) := hD
  rw [← hw] at hP hD
  have hC := hC.put (p := 7) (c := (q11, .inl (t 3, 6, .inr (.inr (.inr (.inr (va_up (va_up (va_up (va_up (va_up (va_up (fun _ => none) 0 (some q27)) 1 (some q32)) 2 (some q37)) 3 (some q42)) 4 (some q47)) 5 (some q52))))))))
  rw [← hw] at hC
  have e0 : w56[0]? = some (x, .inr (5, [.ref q1, .ref q6, .ref q11, .ref q14, .ref q19, .int 1, .int 0, .int 0, .int 0, .int 0])) := by rw [hw]; exact lk_ne e0 (by decide)
  have e1 : w56[1]? = some (q1, .inr (3, [.ref b1, .int 0])) := by rw [hw]; exact lk_ne e1 (by decide)
  have e2 : w56[2]? = some (b1, .inr (1, [.ref a1])) := by rw [hw]; exact lk_ne e2 (by decide)
  have e3 : w56[3]? = some (a1, .inl (t 2, 768, .inr (.inr (.inr (.inr (fun _ => none)))))) := by rw [hw]; exact lk_ne e3 (by decide)
  have e4 : w56[4]? = some (q6, .inr (3, [.ref b4, .int 0])) := by rw [hw]; exact lk_ne e4 (by decide)
  have e5 : w56[5]? = some (b4, .inr (1, [.ref a4])) := by rw [hw]; exact lk_ne e5 (by decide)
  have e6 : w56[6]? = some (a4, .inl (t 2, 781, .inr (.inr (.inr (.inr (fun _ => none)))))) := by rw [hw]; exact lk_ne e6 (by decide)
  have e7 : w56[7]? = some (q11, .inl (t 3, 6, .inr (.inr (.inr (.inr (va_up (va_up (va_up (va_up (va_up (va_up (fun _ => none) 0 (some q27)) 1 (some q32)) 2 (some q37)) 3 (some q42)) 4 (some q47)) 5 (some q52))))))) := by rw [hw]; exact lk_set e7
  have e8 : w56[8]? = some (q14, .inr (2, [.int 4, .int 0, .int 0, .int 0])) := by rw [hw]; exact lk_ne e8 (by decide)
  have e9 : w56[9]? = some (q19, .inl (t 0, 260, .inl (fun _ => 0))) := by rw [hw]; exact lk_ne e9 (by decide)
  have e10 : w56[10]? = some (q27, .inr (4, [.ref b10, .ref h10, .int 0])) := by rw [hw]; exact lk_ne e10 (by decide)
  have e11 : w56[11]? = some (b10, .inr (1, [.ref a10])) := by rw [hw]; exact lk_ne e11 (by decide)
  have e12 : w56[12]? = some (a10, .inl (t 2, 768, .inr (.inr (.inr (.inr (fun _ => none)))))) := by rw [hw]; exact lk_ne e12 (by decide)
  have e13 : w56[13]? = some (h10, .inl (t 1, 768, .inl (fun _ => 0))) := by rw [hw]; exact lk_ne e13 (by decide)
  have e14 : w56[14]? = some (q32, .inr (4, [.ref b14, .ref h14, .int 0])) := by rw [hw]; exact lk_ne e14 (by decide)
  have e15 : w56[15]? = some (b14, .inr (1, [.ref a14])) := by rw [hw]; exact lk_ne e15 (by decide)
  have e16 : w56[16]? = some (a14, .inl (t 2, 768, .inr (.inr (.inr (.inr (fun _ => none)))))) := by rw [hw]; exact lk_ne e16 (by decide)
  have e17 : w56[17]? = some (h14, .inl (t 1, 768, .inl (fun _ => 0))) := by rw [hw]; exact lk_ne e17 (by decide)
  have e18 : w56[18]? = some (q37, .inr (4, [.ref b18, .ref h18, .int 0])) := by rw [hw]; exact lk_ne e18 (by decide)
  have e19 : w56[19]? = some (b18, .inr (1, [.ref a18])) := by rw [hw]; exact lk_ne e19 (by decide)
  have e20 : w56[20]? = some (a18, .inl (t 2, 768, .inr (.inr (.inr (.inr (fun _ => none)))))) := by rw [hw]; exact lk_ne e20 (by decide)
  have e21 : w56[21]? = some (h18, .inl (t 1, 768, .inl (fun _ => 0))) := by rw [hw]; exact lk_ne e21 (by decide)
  have e22 : w56[22]? = some (q42, .inr (4, [.ref b22, .ref h22, .int 0])) := by rw [hw]; exact lk_ne e22 (by decide)
  have e23 : w56[23]? = some (b22, .inr (1, [.ref a22])) := by rw [hw]; exact lk_ne e23 (by decide)
  have e24 : w56[24]? = some (a22, .inl (t 2, 768, .inr (.inr (.inr (.inr (fun _ => none)))))) := by rw [hw]; exact lk_ne e24 (by decide)
  have e25 : w56[25]? = some (h22, .inl (t 1, 768, .inl (fun _ => 0))) := by rw [hw]; exact lk_ne e25 (by decide)
  have e26 : w56[26]? = some (q47, .inr (4, [.ref b26, .ref h26, .int 0])) := by rw [hw]; exact lk_ne e26 (by decide)
  have e27 : w56[27]? = some (b26, .inr (1, [.ref a26])) := by rw [hw]; exact lk_ne e27 (by decide)
  have e28 : w56[28]? = some (a26, .inl (t 2, 768, .inr (.inr (.inr (.inr (fun _ => none)))))) := by rw [hw]; exact lk_ne e28 (by decide)
  have e29 : w56[29]? = some (h26, .inl (t 1, 768, .inl (fun _ => 0))) := by rw [hw]; exact lk_ne e29 (by decide)
  have e30 : w56[30]? = some (q52, .inr (4, [.ref b30, .ref h30, .int 0])) := by rw [hw]; exact lk_ne e30 (by decide)
  have e31 : w56[31]? = some (b30, .inr (1, [.ref a30])) := by rw [hw]; exact lk_ne e31 (by decide)
  have e32 : w56[32]? = some (a30, .inl (t 2, 768, .inr (.inr (.inr (.inr (fun _ => none)))))) := by rw [hw]; exact lk_ne e32 (by decide)
  have e33 : w56[33]? = some (h30, .inl (t 1, 768, .inl (fun _ => 0))) := by rw [hw]; exact lk_ne e33 (by decide)
  have hn : w56.length = 34 := by rw [hw, List.length_set]; exact hn
  clear hw
  refine lv_iinc (k := 0) (v := 6) (lv' := [(1, .int 6), (0, .ref x)]) hx hb d_S_init_104 hl rfl (by decide) (by decide) rfl (fun ls hl => ?_)
  refine lv_goto (tgt := 86) hx hb d_S_init_107 rfl ?_
  refine lv_iload_n hx hb d_S_init_86 rfl (lv_at hl 0 rfl) ?_
  refine lv_iconst (v := 5) hx hb d_S_init_87 (by decide) ?_
  refine lv_icmp_gt (tgt := 110) hx hb d_S_init_88 rfl (fun _ => ?_) (fun h => absurd h (by decide))
  exact W.vret hx hb hr (fun t9 ht hW => ⟨⟨w56, rfl, ⟨q1, b1, a1, q6, b4, a4, q11, q14, q19, q27, b10, a10, h10, q32, b14, a14, h14, q37, b18, a18, h18, q42, b22, a22, h22, q47, b26, a26, h26, q52, b30, a30, h30, _, hC.sub (by decide), hn, e0, e1, e2, e3, e4, e5, e6, e7, e8, e9, e10, e11, e12, e13, e14, e15, e16, e17, e18, e19, e20, e21, e22, e23, e24, e25, e26, e27, e28, e29, e30, e31, e32, e33, ⟨rfl, rfl, rfl, rfl, rfl, rfl⟩⟩, ⟨by rw [ht]; exact hP, va_K.moved hW.alike hK, hD, by rw [ht]; exact Nat.le_trans hz hS.1⟩⟩, hS.F ht⟩) hS.2.2 d_S_init_110
