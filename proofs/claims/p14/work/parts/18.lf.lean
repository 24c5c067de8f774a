theorem c_K_bytesOf' {l : Launch} {D : va_G} {t : Nat → ClassId} {z : Nat} {sa : Nat → Nat} {ws : va_W} {a : Nat → Nat} {k0 : Nat} {v : Nat → Int32} {pk pm i kk : Nat} {x9 : Int32} (hI : Iv a t k0 v ws) (ek : ws[pk]? = some (kk, .inr (1, [.ref (a pm)]))) (hp : pm ∈ Mds) (hi : i < Nn pm) (hxi : x9 = nI i) :
    Mu l y_K_bytesOf (Cond.code y_K_bytesOf b_K_bytesOf 2 (some (.array .byte)) :: WS) ({ frames := 2, cells := 2 * nul ws + 1, slots := 257 * nul ws + 6, locals := 33 }) D t z sa ws [.ref kk, .int x9] (Bp a t k0 pm i v ws) Xno (Kc ws) (Ks ws) := by
  subst hxi
  exact c_K_bytesOf hI ek hp hi
theorem Nn_j {j : Nat} : Nn (12 + 4 * j) = 768 := by unfold Nn; rw [if_neg (by omega)]
set_option maxHeartbeats 4000000 in
set_option maxRecDepth 100000 in
theorem c_Y_length_f {l : Launch} {D : va_G} {t : Nat → ClassId} {z : Nat} {sa : Nat → Nat} {ws : va_W} {a : Nat → Nat} {k0 : Nat} {v : Nat → Int32}  (hI : Iv a t k0 v ws)  : Mu l y_Y_length (Cond.code y_Y_length b_Y_length 1 (some .int) :: WS) ({ frames := 0, cells := 2 * nul ws + 1, slots := 257 * nul ws + 6, locals := 0 }) D t z sa ws [.ref (a 1)] (fun r u => r = some (.int (v 5)) ∧ u = ws) Xno (Kc ws) (Ks ws) := by
  refine mu_ofW (cc := b_Y_length) (maxL := 1) (ret := (some .int)) (by decide) rfl ?_
  intro p e s m args below meth c s₁ B hml hno hv
  obtain ⟨rfl, ⟨hP, hK, hD, hz⟩, hM⟩ := hv
  have hx := B.exec
  have hb := B.bytes
  have hr := B.returns
  have hts : ∀ w ∈ WS, w.before [.ref (a 1)].toArray s = true := fun w h => atoms_spec B.pre w (List.mem_cons_of_mem _ h)
  have hown : s.vm.findClass R_Y = some m.cls := findClass_of_methodNamed B.named
  have hlocks := B.notSynchronized
  have hA : ∀ q, s.heap.size ≤ q → Az z q := fun q h => Nat.le_trans hz h
  have hS : va_S (Az z) s.heap s.heap [] := va_S.rf
  have hF : Fr t ws ws := Fr.rf
  have hn : nul ws ≤ nul ws := Nat.le_refl _
  have hl := lv_entry ([.ref (a 1)]) (n := 1) (Nat.le_of_ble_eq_true rfl)
  rw [lg_entry_eq]
  generalize (lg_sl ([.ref (a 1)]) ++ List.replicate (1 - (lg_sl ([.ref (a 1)])).length) Slot.unset).toArray = ls at hl ⊢
  have hl : lv_has ls 1 [(0, .ref (a 1))] := hl
  refine W.widen (k := Kc ws ws) (n := Ks ws ws) (Nat.zero_le _) (Nat.zero_le _) ?_
  refine lv_aload_n hx hb d_Y_length_0 rfl (lv_at hl 0 rfl) ?_
  refine va_get (D := D) (ci := 3) (v := .int (v 5)) (C := R_Y) (T := F_Y) (N := 2) hx hb hts ws_Y hown hK hP 1 hI.y1 rfl 1 (by decide) (hts _ fl_Y_9) (fun _ h9 => h9) rfl d_Y_length_1 ?_
  refine mu_end (u := ws) (v := (some (.int (v 5)))) ⟨rfl, rfl⟩ (Nat.le_refl _) (Nat.le_refl _) ?_
  exact W.iret (v := (v 5)) hx hb hr (fun t9 ht hW => ⟨rfl, ⟨by rw [ht]; exact hP, va_K.moved hW.alike hK, hD, by rw [ht]; exact Nat.le_trans hz hS.1⟩, hS.F ht⟩) hS.2.2 d_Y_length_4
set_option maxHeartbeats 4000000 in
set_option maxRecDepth 100000 in
theorem c_Y_length_j {l : Launch} {D : va_G} {t : Nat → ClassId} {z : Nat} {sa : Nat → Nat} {ws : va_W} {a : Nat → Nat} {k0 : Nat} {v : Nat → Int32}  (hI : Iv a t k0 v ws)  : Mu l y_Y_length (Cond.code y_Y_length b_Y_length 1 (some .int) :: WS) ({ frames := 0, cells := 2 * nul ws + 1, slots := 257 * nul ws + 6, locals := 0 }) D t z sa ws [.ref (a 4)] (fun r u => r = some (.int (v 6)) ∧ u = ws) Xno (Kc ws) (Ks ws) := by
  refine mu_ofW (cc := b_Y_length) (maxL := 1) (ret := (some .int)) (by decide) rfl ?_
  intro p e s m args below meth c s₁ B hml hno hv
  obtain ⟨rfl, ⟨hP, hK, hD, hz⟩, hM⟩ := hv
  have hx := B.exec
  have hb := B.bytes
  have hr := B.returns
  have hts : ∀ w ∈ WS, w.before [.ref (a 4)].toArray s = true := fun w h => atoms_spec B.pre w (List.mem_cons_of_mem _ h)
  have hown : s.vm.findClass R_Y = some m.cls := findClass_of_methodNamed B.named
  have hlocks := B.notSynchronized
  have hA : ∀ q, s.heap.size ≤ q → Az z q := fun q h => Nat.le_trans hz h
  have hS : va_S (Az z) s.heap s.heap [] := va_S.rf
  have hF : Fr t ws ws := Fr.rf
  have hn : nul ws ≤ nul ws := Nat.le_refl _
  have hl := lv_entry ([.ref (a 4)]) (n := 1) (Nat.le_of_ble_eq_true rfl)
  rw [lg_entry_eq]
  generalize (lg_sl ([.ref (a 4)]) ++ List.replicate (1 - (lg_sl ([.ref (a 4)])).length) Slot.unset).toArray = ls at hl ⊢
  have hl : lv_has ls 1 [(0, .ref (a 4))] := hl
  refine W.widen (k := Kc ws ws) (n := Ks ws ws) (Nat.zero_le _) (Nat.zero_le _) ?_
  refine lv_aload_n hx hb d_Y_length_0 rfl (lv_at hl 0 rfl) ?_
  refine va_get (D := D) (ci := 3) (v := .int (v 6)) (C := R_Y) (T := F_Y) (N := 2) hx hb hts ws_Y hown hK hP 4 hI.y4 rfl 1 (by decide) (hts _ fl_Y_9) (fun _ h9 => h9) rfl d_Y_length_1 ?_
  refine mu_end (u := ws) (v := (some (.int (v 6)))) ⟨rfl, rfl⟩ (Nat.le_refl _) (Nat.le_refl _) ?_
  exact W.iret (v := (v 6)) hx hb hr (fun t9 ht hW => ⟨rfl, ⟨by rw [ht]; exact hP, va_K.moved hW.alike hK, hD, by rw [ht]; exact Nat.le_trans hz hS.1⟩, hS.F ht⟩) hS.2.2 d_Y_length_4
set_option maxHeartbeats 4000000 in
set_option maxRecDepth 100000 in
theorem c_Z_pagesBelow {l : Launch} {D : va_G} {t : Nat → ClassId} {z : Nat} {sa : Nat → Nat} {ws : va_W} {a : Nat → Nat} {k0 : Nat} {v : Nat → Int32} {j : Nat} (hI : Iv a t k0 v ws) (hj : j < 6) : Mu l y_Z_pagesBelow (Cond.code y_Z_pagesBelow b_Z_pagesBelow 1 (some .int) :: WS) ({ frames := 0, cells := 2 * nul ws + 1, slots := 257 * nul ws + 6, locals := 0 }) D t z sa ws [.ref (a (10 + 4 * j))] (fun r u => r = some (.int (v (11 + j))) ∧ u = ws) Xno (Kc ws) (Ks ws) := by
  refine mu_ofW (cc := b_Z_pagesBelow) (maxL := 1) (ret := (some .int)) (by decide) rfl ?_
  intro p e s m args below meth c s₁ B hml hno hv
  obtain ⟨rfl, ⟨hP, hK, hD, hz⟩, hM⟩ := hv
  have hx := B.exec
  have hb := B.bytes
  have hr := B.returns
  have hts : ∀ w ∈ WS, w.before [.ref (a (10 + 4 * j))].toArray s = true := fun w h => atoms_spec B.pre w (List.mem_cons_of_mem _ h)
  have hown : s.vm.findClass R_Z = some m.cls := findClass_of_methodNamed B.named
  have hlocks := B.notSynchronized
  have hA : ∀ q, s.heap.size ≤ q → Az z q := fun q h => Nat.le_trans hz h
  have hS : va_S (Az z) s.heap s.heap [] := va_S.rf
  have hF : Fr t ws ws := Fr.rf
  have hn : nul ws ≤ nul ws := Nat.le_refl _
  have hl := lv_entry ([.ref (a (10 + 4 * j))]) (n := 1) (Nat.le_of_ble_eq_true rfl)
  rw [lg_entry_eq]
  generalize (lg_sl ([.ref (a (10 + 4 * j))]) ++ List.replicate (1 - (lg_sl ([.ref (a (10 + 4 * j))])).length) Slot.unset).toArray = ls at hl ⊢
  have hl : lv_has ls 1 [(0, .ref (a (10 + 4 * j)))] := hl
  refine W.widen (k := Kc ws ws) (n := Ks ws ws) (Nat.zero_le _) (Nat.zero_le _) ?_
  refine lv_aload_n hx hb d_Z_pagesBelow_0 rfl (lv_at hl 0 rfl) ?_
  refine va_get (D := D) (ci := 4) (v := .int (v (11 + j))) (C := R_Z) (T := F_Z) (N := 3) hx hb hts ws_Z hown hK hP (10 + 4 * j) (hI.z hj) rfl 2 (by decide) (hts _ fl_Z_24) (fun _ h9 => h9) rfl d_Z_pagesBelow_1 ?_
  refine mu_end (u := ws) (v := (some (.int (v (11 + j))))) ⟨rfl, rfl⟩ (Nat.le_refl _) (Nat.le_refl _) ?_
  exact W.iret (v := (v (11 + j))) hx hb hr (fun t9 ht hW => ⟨rfl, ⟨by rw [ht]; exact hP, va_K.moved hW.alike hK, hD, by rw [ht]; exact Nat.le_trans hz hS.1⟩, hS.F ht⟩) hS.2.2 d_Z_pagesBelow_4
set_option maxHeartbeats 4000000 in
set_option maxRecDepth 100000 in
theorem c_Z_bytesOf {l : Launch} {D : va_G} {t : Nat → ClassId} {z : Nat} {sa : Nat → Nat} {ws : va_W} {a : Nat → Nat} {k0 : Nat} {v : Nat → Int32} {j : Nat} {i : Nat} {x9 : Int32} (hI : Iv a t k0 v ws) (hj : j < 6) (hi : i < Nn (12 + 4 * j)) (hxi : x9 = nI i) : Mu l y_Z_bytesOf (Cond.code y_Z_bytesOf b_Z_bytesOf 2 (some (.array .byte)) :: WS) ({ frames := 3, cells := 2 * nul ws + 1, slots := 257 * nul ws + 6, locals := 54 }) D t z sa ws [.ref (a (10 + 4 * j)), .int x9] (fun r u => Bp a t k0 (12 + 4 * j) i v ws r u) Xno (Kc ws) (Ks ws) := by
  refine mu_ofW (cc := b_Z_bytesOf) (maxL := 2) (ret := (some (.array .byte))) (by decide) rfl ?_
  intro p e s m args below meth c s₁ B hml hno hv
  obtain ⟨rfl, ⟨hP, hK, hD, hz⟩, hM⟩ := hv
  have hx := B.exec
  have hb := B.bytes
  have hr := B.returns
  have hts : ∀ w ∈ WS, w.before [.ref (a (10 + 4 * j)), .int x9].toArray s = true := fun w h => atoms_spec B.pre w (List.mem_cons_of_mem _ h)
  have hown : s.vm.findClass R_Z = some m.cls := findClass_of_methodNamed B.named
  have hlocks := B.notSynchronized
  have hA : ∀ q, s.heap.size ≤ q → Az z q := fun q h => Nat.le_trans hz h
  have hS : va_S (Az z) s.heap s.heap [] := va_S.rf
  have hF : Fr t ws ws := Fr.rf
  have hn : nul ws ≤ nul ws := Nat.le_refl _
  have hl := lv_entry ([.ref (a (10 + 4 * j)), .int x9]) (n := 2) (Nat.le_of_ble_eq_true rfl)
  rw [lg_entry_eq]
  generalize (lg_sl ([.ref (a (10 + 4 * j)), .int x9]) ++ List.replicate (2 - (lg_sl ([.ref (a (10 + 4 * j)), .int x9])).length) Slot.unset).toArray = ls at hl ⊢
  have hl : lv_has ls 2 [(0, .ref (a (10 + 4 * j))), (1, .int x9)] := hl
  refine W.widen (k := Kc ws ws) (n := Ks ws ws) (Nat.zero_le _) (Nat.zero_le _) ?_
  refine lv_aload_n hx hb d_Z_bytesOf_0 rfl (lv_at hl 0 rfl) ?_
  refine va_get (D := D) (ci := 4) (v := .ref (a (11 + 4 * j))) (C := R_Z) (T := F_Z) (N := 3) hx hb hts ws_Z hown hK hP (10 + 4 * j) (hI.z hj) rfl 0 (by decide) (hts _ fl_Z_14) (fun _ h9 => h9) rfl d_Z_bytesOf_1 ?_
  refine lv_iload_n hx hb d_Z_bytesOf_4 rfl (lv_at hl 1 rfl) ?_
  refine mu_V (n := 1) (As := [.int x9]) (rest := []) ⟨hx, hb, hml, hown, hts⟩ (c_K_bytesOf' (D := D) (t := t) (z := z) (sa := sa) (ws := ws) (pm := (12 + 4 * j)) (i := i) hI (hI.zk hj) (mds_j hj) hi hxi) ml_Z_28 im_K_bytesOf se_K_bytesOf in_K cd_K_bytesOf (by decide +kernel) ⟨Nat.le_of_ble_eq_true rfl, Nat.le_of_ble_eq_true rfl⟩ (va_recv hK hP (ci := 1) rfl (hI.zk hj)) (Pz_at hP hK hD hz hM hS) rfl hl.1 rfl (Nat.le_of_ble_eq_true rfl) d_Z_bytesOf_5 ⟨by show 2 * (nul ws - nul ws) + (2 * nul ws + 1) ≤ 2 * nul ws + 1; omega, by show 257 * (nul ws - nul ws) + (257 * nul ws + 6) ≤ 257 * nul ws + 6; omega⟩ hS (fun _ _ _ _ _ _ h => h.elim) (fun r9 u1 H locs hp hP hD hS => ?_)
  have hp0 := hp
  obtain ⟨c2, j3, k4, f5, hr9, hk42, hkc, hsp, hI, hF9, hn9, hj9, hq9⟩ := hp
  subst hr9
  have hF := hF.trans hF9
  have hp := hp0
  have hn : nul u1 ≤ nul ws := by omega
  refine W.widen (k := Kc ws u1) (n := Ks ws u1) (by show 2 * (nul ws - nul ws) + 2 * (nul ws - nul u1) ≤ 2 * (nul ws - nul u1); omega) (by show 257 * (nul ws - nul ws) + 257 * (nul ws - nul u1) ≤ 257 * (nul ws - nul u1); omega) ?_
  refine W.eq (g2 := F0 m 8 ls [.ref c2]) rfl ?_
  refine mu_end (u := u1) (v := (some (.ref c2))) hp0 (Nat.le_refl _) (Nat.le_refl _) ?_
  exact W.aret (v := .ref c2) (rt := .array .byte) hx hb hr (Or.inr ⟨_, rfl⟩) (Or.inr ⟨_, rfl⟩) (fun t9 ht hW => ⟨rfl, ⟨by rw [ht]; exact hP, va_K.moved hW.alike hK, hD, by rw [ht]; exact Nat.le_trans hz hS.1⟩, hS.F ht⟩) hS.2.2 d_Z_bytesOf_8
set_option maxHeartbeats 4000000 in
set_option maxRecDepth 100000 in
theorem c_Y_block_f {l : Launch} {D : va_G} {t : Nat → ClassId} {z : Nat} {sa : Nat → Nat} {ws : va_W} {a : Nat → Nat} {k0 : Nat} {v : Nat → Int32}  {i : Nat} {x9 : Int32} (hI : Iv a t k0 v ws)  (hi : i < Nn 3) (hxi : x9 = nI i) : Mu l y_Y_block (Cond.code y_Y_block b_Y_block 2 (some (.array .byte)) :: WS) ({ frames := 3, cells := 2 * nul ws + 1, slots := 257 * nul ws + 6, locals := 54 }) D t z sa ws [.ref (a 1), .int x9] (fun r u => Bp a t k0 3 i v ws r u) Xno (Kc ws) (Ks ws) := by
  refine mu_ofW (cc := b_Y_block) (maxL := 2) (ret := (some (.array .byte))) (by decide) rfl ?_
  intro p e s m args below meth c s₁ B hml hno hv
  obtain ⟨rfl, ⟨hP, hK, hD, hz⟩, hM⟩ := hv
  have hx := B.exec
  have hb := B.bytes
  have hr := B.returns
  have hts : ∀ w ∈ WS, w.before [.ref (a 1), .int x9].toArray s = true := fun w h => atoms_spec B.pre w (List.mem_cons_of_mem _ h)
  have hown : s.vm.findClass R_Y = some m.cls := findClass_of_methodNamed B.named
  have hlocks := B.notSynchronized
  have hA : ∀ q, s.heap.size ≤ q → Az z q := fun q h => Nat.le_trans hz h
  have hS : va_S (Az z) s.heap s.heap [] := va_S.rf
  have hF : Fr t ws ws := Fr.rf
  have hn : nul ws ≤ nul ws := Nat.le_refl _
  have hl := lv_entry ([.ref (a 1), .int x9]) (n := 2) (Nat.le_of_ble_eq_true rfl)
  rw [lg_entry_eq]
  generalize (lg_sl ([.ref (a 1), .int x9]) ++ List.replicate (2 - (lg_sl ([.ref (a 1), .int x9])).length) Slot.unset).toArray = ls at hl ⊢
  have hl : lv_has ls 2 [(0, .ref (a 1)), (1, .int x9)] := hl
  refine W.widen (k := Kc ws ws) (n := Ks ws ws) (Nat.zero_le _) (Nat.zero_le _) ?_
  refine lv_aload_n hx hb d_Y_block_0 rfl (lv_at hl 0 rfl) ?_
  refine va_get (D := D) (ci := 3) (v := .ref (a 2)) (C := R_Y) (T := F_Y) (N := 2) hx hb hts ws_Y hown hK hP 1 hI.y1 rfl 0 (by decide) (hts _ fl_Y_20) (fun _ h9 => h9) rfl d_Y_block_1 ?_
  refine lv_iload_n hx hb d_Y_block_4 rfl (lv_at hl 1 rfl) ?_
  refine mu_V (n := 1) (As := [.int x9]) (rest := []) ⟨hx, hb, hml, hown, hts⟩ (c_K_bytesOf' (D := D) (t := t) (z := z) (sa := sa) (ws := ws) (pm := 3) (i := i) hI hI.k2 (by decide) hi hxi) ml_Y_24 im_K_bytesOf se_K_bytesOf in_K cd_K_bytesOf (by decide +kernel) ⟨Nat.le_of_ble_eq_true rfl, Nat.le_of_ble_eq_true rfl⟩ (va_recv hK hP (ci := 1) rfl hI.k2) (Pz_at hP hK hD hz hM hS) rfl hl.1 rfl (Nat.le_of_ble_eq_true rfl) d_Y_block_5 ⟨by show 2 * (nul ws - nul ws) + (2 * nul ws + 1) ≤ 2 * nul ws + 1; omega, by show 257 * (nul ws - nul ws) + (257 * nul ws + 6) ≤ 257 * nul ws + 6; omega⟩ hS (fun _ _ _ _ _ _ h => h.elim) (fun r9 u1 H locs hp hP hD hS => ?_)
  have hp0 := hp
  obtain ⟨c2, j3, k4, f5, hr9, hk42, hkc, hsp, hI, hF9, hn9, hj9, hq9⟩ := hp
  subst hr9
  have hF := hF.trans hF9
  have hp := hp0
  have hn : nul u1 ≤ nul ws := by omega
  refine W.widen (k := Kc ws u1) (n := Ks ws u1) (by show 2 * (nul ws - nul ws) + 2 * (nul ws - nul u1) ≤ 2 * (nul ws - nul u1); omega) (by show 257 * (nul ws - nul ws) + 257 * (nul ws - nul u1) ≤ 257 * (nul ws - nul u1); omega) ?_
  refine W.eq (g2 := F0 m 8 ls [.ref c2]) rfl ?_
  refine mu_end (u := u1) (v := (some (.ref c2))) hp0 (Nat.le_refl _) (Nat.le_refl _) ?_
  exact W.aret (v := .ref c2) (rt := .array .byte) hx hb hr (Or.inr ⟨_, rfl⟩) (Or.inr ⟨_, rfl⟩) (fun t9 ht hW => ⟨rfl, ⟨by rw [ht]; exact hP, va_K.moved hW.alike hK, hD, by rw [ht]; exact Nat.le_trans hz hS.1⟩, hS.F ht⟩) hS.2.2 d_Y_block_8
