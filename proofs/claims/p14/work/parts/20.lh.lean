theorem mm_st : Cond.static Lib.Math.min.name ∈ WS := by decide +kernel
theorem mm_cd : Cond.code Lib.Math.min.name Lib.Math.min.code 2 (some .int) ∈ WS := by decide +kernel
theorem mx_st : Cond.static Lib.Math.max.name ∈ WS := by decide +kernel
theorem mx_cd : Cond.code Lib.Math.max.name Lib.Math.max.code 2 (some .int) ∈ WS := by decide +kernel
theorem mn_nat {m n : Nat} (hm : m < 2 ^ 31) (hn : n < 2 ^ 31) : (if nI n < nI m then nI n else nI m) = nI (min m n) := by
  by_cases h : n < m
  · rw [if_pos ((nI_ltI hn hm).mpr h), Nat.min_eq_right (Nat.le_of_lt h)]
  · rw [if_neg (fun q => h ((nI_ltI hn hm).mp q)), Nat.min_eq_left (Nat.not_lt.mp h)]
set_option maxHeartbeats 4000000 in
set_option maxRecDepth 100000 in
theorem c_U_bytesThrough {l : Launch} {D : va_G} {t : Nat → ClassId} {z : Nat} {sa : Nat → Nat} {ws : va_W} {a : Nat → Nat} {k0 : Nat} {v : Nat → Int32} {x9 y9 : Int32} {n : Nat} (hI : Iv a t k0 v ws) (hn9 : y9 = nI n) (hn31 : n < 2 ^ 31) : Mu l y_U_bytesThrough (Cond.code y_U_bytesThrough b_U_bytesThrough 3 (some .int) :: WS) ({ frames := 1, cells := 2 * nul ws + 1, slots := 257 * nul ws + 6, locals := 13 }) D t z sa ws [.ref (a 8), .int x9, .int y9] (fun r u => ∃ v1, Iv a t k0 v1 u ∧ Fr t ws u ∧ nul u ≤ nul ws ∧ (∃ m : Nat, m ≤ n ∧ r = some (.int (nI m))) ∧ (∀ i, i ≠ 8 → i ≠ 10 → v1 i = v i)) Xno (Kc ws) (Ks ws) := by
  refine mu_ofW (cc := b_U_bytesThrough) (maxL := 3) (ret := (some .int)) (by decide) rfl ?_
  intro p e s m args below meth c s₁ B hml hno hv
  obtain ⟨rfl, ⟨hP, hK, hD, hz⟩, hM⟩ := hv
  have hx := B.exec
  have hb := B.bytes
  have hr := B.returns
  have hts : ∀ w ∈ WS, w.before [.ref (a 8), .int x9, .int y9].toArray s = true := fun w h => atoms_spec B.pre w (List.mem_cons_of_mem _ h)
  have hown : s.vm.findClass R_U = some m.cls := findClass_of_methodNamed B.named
  have hlocks := B.notSynchronized
  have hA : ∀ q, s.heap.size ≤ q → Az z q := fun q h => Nat.le_trans hz h
  have hS : va_S (Az z) s.heap s.heap [] := va_S.rf
  have hF : Fr t ws ws := Fr.rf
  have hn : nul ws ≤ nul ws := Nat.le_refl _
  have hl := lv_entry ([.ref (a 8), .int x9, .int y9]) (n := 3) (Nat.le_of_ble_eq_true rfl)
  rw [lg_entry_eq]
  generalize (lg_sl ([.ref (a 8), .int x9, .int y9]) ++ List.replicate (3 - (lg_sl ([.ref (a 8), .int x9, .int y9])).length) Slot.unset).toArray = ls at hl ⊢
  have hl : lv_has ls 3 [(0, .ref (a 8)), (1, .int x9), (2, .int y9)] := hl
  refine W.widen (k := Kc ws ws) (n := Ks ws ws) (Nat.zero_le _) (Nat.zero_le _) ?_
  refine lv_aload_n hx hb d_U_bytesThrough_0 rfl (lv_at hl 0 rfl) ?_
  refine va_get (D := D) (ci := 2) (v := .int (v 7)) (C := R_U) (T := F_U) (N := 4) hx hb hts ws_U hown hK hP 8 hI.u8 rfl 0 (by decide) (hts _ fl_U_9) (fun _ h9 => h9) rfl d_U_bytesThrough_1 ?_
  refine lv_iload_n hx hb d_U_bytesThrough_4 rfl (lv_at hl 1 rfl) ?_
  refine lv_icmp_eq (tgt := 10) hx hb d_U_bytesThrough_5 rfl (fun q1 => ?_) (fun q1 => ?_)
  · skip
    refine lv_aload_n hx hb d_U_bytesThrough_10 rfl (lv_at hl 0 rfl) ?_
    refine va_get (D := D) (ci := 2) (v := .int (v 8)) (C := R_U) (T := F_U) (N := 4) hx hb hts ws_U hown hK hP 8 hI.u8 rfl 1 (by decide) (hts _ fl_U_15) (fun _ h9 => h9) rfl d_U_bytesThrough_11 ?_
    refine lv_if_le (tgt := 29) hx hb d_U_bytesThrough_14 rfl (fun q2 => ?_) (fun q2 => ?_)
    · skip
      refine lv_aload_n hx hb d_U_bytesThrough_29 rfl (lv_at hl 0 rfl) ?_
      refine lv_iconst (v := 1) hx hb d_U_bytesThrough_30 (by decide) ?_
      refine va_put (D := D) (ci := 2) (v := .int 1) (ty := .boolean) (C := R_U) (T := F_U) (N := 4) hx hb hts ws_U t_U ok_U n_U hown hK hP hD hS 8 hI.u8 rfl 3 (by decide) (hts _ fl_U_21) (fun _ h9 => h9) rfl (by decide +kernel) rfl rfl (Nat.le_of_ble_eq_true rfl) d_U_bytesThrough_31 (fun H locs hP hD hS => ?_)
      obtain ⟨v3, hv3⟩ : ∃ q : Nat → Int32, q = upd v 10 1 := ⟨_, rfl⟩
      have gv3 : v3 10 = 1 := by rw [hv3]; exact pk_us
      have nv3 : ∀ i, i ≠ 10 → v3 i = v i := fun i hi => by rw [hv3]; exact pk_un hi
      have hP : va_P D Cl (ws.set 8 (cU a v3)) H := by rw [hv3]; exact hP
      have hD : va_D (Az z) (ws.set 8 (cU a v3)) := by rw [hv3]; exact hD
      obtain ⟨w4, hw⟩ : ∃ q, q = ws.set 8 (cU a v3) := ⟨_, rfl⟩
      have hP : va_P D Cl (ws.set 8 (cU a v3)) H := hP
      have hD : va_D (Az z) (ws.set 8 (cU a v3)) := hD
      have hF : Fr t ws (ws.set 8 (cU a v3)) := hF.set (by decide) (by decide)
      have hI := hI.setU (v' := v3) (fun i hi => nv3 i (by omega)) (by rw [nv3 9 (by decide)]; exact hI.bd.2.2.2.2.1) (by rw [gv3]; decide)
      have hq9 : nul (ws.set 8 (cU a v3)) = nul ws := nul_set (by decide)
      rw [← hw] at hP hD hF hI hq9
      clear hw
      have hn : nul w4 ≤ nul ws := by omega
      refine W.widen (k := Kc ws w4) (n := Ks ws w4) (by show 2 * (nul ws - nul ws) ≤ 2 * (nul ws - nul w4); omega) (by show 257 * (nul ws - nul ws) ≤ 257 * (nul ws - nul w4); omega) ?_
      refine lv_aload_n hx hb d_U_bytesThrough_34 rfl (lv_at hl 0 rfl) ?_
      refine va_get (D := D) (ci := 2) (v := .int (v3 9)) (C := R_U) (T := F_U) (N := 4) hx hb hts ws_U hown hK hP 8 hI.u8 rfl 2 (by decide) (hts _ fl_U_18) (fun _ h9 => h9) rfl d_U_bytesThrough_35 ?_
      refine lv_iload_n hx hb d_U_bytesThrough_38 rfl (lv_at hl 2 rfl) ?_
      refine va_mmin hx hb (hml.trans hl.1.symm) hown (hts _ ml_U_29) (hts _ mm_st) (hts _ in_Math) (hts _ mm_cd) (Nat.le_of_ble_eq_true rfl) (Nat.le_of_ble_eq_true rfl) (by show 2 * (nul ws - nul w4) ≤ 2 * nul ws + 1; omega) (by show 257 * (nul ws - nul w4) ≤ 257 * nul ws + 6; omega) d_U_bytesThrough_39 ?_
      refine lv_topi (fun y5 hy5 => ?_)
      obtain ⟨B9, hB1, hB2⟩ := hI.bd.2.2.2.2.1
      have hy59 : y5 = nI (min B9 n) := by rw [hy5, hB2, hn9]; exact mn_nat (by omega) hn31
      refine mu_end (u := w4) (v := (some (.int y5))) ⟨_, hI, hF, hn, ⟨min B9 n, Nat.min_le_right _ _, by rw [hy59]⟩, (fun i h8 h10 => by rw [nv3 i (by omega)])⟩ (Nat.le_refl _) (Nat.le_refl _) ?_
      exact W.iret (v := y5) hx hb hr (fun t9 ht hW => ⟨rfl, ⟨by rw [ht]; exact hP, va_K.moved hW.alike hK, hD, by rw [ht]; exact Nat.le_trans hz hS.1⟩, hS.F ht⟩) hS.2.2 d_U_bytesThrough_42
    · skip
      refine lv_aload_n hx hb d_U_bytesThrough_17 rfl (lv_at hl 0 rfl) ?_
      refine lv_dup hx hb d_U_bytesThrough_18 rfl ?_
      refine va_get (D := D) (ci := 2) (v := .int (v 8)) (C := R_U) (T := F_U) (N := 4) hx hb hts ws_U hown hK hP 8 hI.u8 rfl 1 (by decide) (hts _ fl_U_15) (fun _ h9 => h9) rfl d_U_bytesThrough_19 ?_
      refine lv_iconst (v := 1) hx hb d_U_bytesThrough_22 (by decide) ?_
      refine lv_isub hx hb d_U_bytesThrough_23 ?_
      refine lv_topi (fun v6 hv6 => ?_)
      refine va_put (D := D) (ci := 2) (v := .int v6) (ty := .int) (C := R_U) (T := F_U) (N := 4) hx hb hts ws_U t_U ok_U n_U hown hK hP hD hS 8 hI.u8 rfl 1 (by decide) (hts _ fl_U_15) (fun _ h9 => h9) rfl (by decide +kernel) rfl rfl (Nat.le_of_ble_eq_true rfl) d_U_bytesThrough_24 (fun H locs hP hD hS => ?_)
      obtain ⟨v7, hv7⟩ : ∃ q : Nat → Int32, q = upd v 8 v6 := ⟨_, rfl⟩
      have gv7 : v7 8 = v6 := by rw [hv7]; exact pk_us
      have nv7 : ∀ i, i ≠ 8 → v7 i = v i := fun i hi => by rw [hv7]; exact pk_un hi
      have hP : va_P D Cl (ws.set 8 (cU a v7)) H := by rw [hv7]; exact hP
      have hD : va_D (Az z) (ws.set 8 (cU a v7)) := by rw [hv7]; exact hD
      obtain ⟨w8, hw⟩ : ∃ q, q = ws.set 8 (cU a v7) := ⟨_, rfl⟩
      have hP : va_P D Cl (ws.set 8 (cU a v7)) H := hP
      have hD : va_D (Az z) (ws.set 8 (cU a v7)) := hD
      have hF : Fr t ws (ws.set 8 (cU a v7)) := hF.set (by decide) (by decide)
      have hI := hI.setU (v' := v7) (fun i hi => nv7 i (by omega)) (by rw [nv7 9 (by decide)]; exact hI.bd.2.2.2.2.1) (by rw [nv7 10 (by decide)]; exact hI.bd.2.2.2.2.2.2)
      have hq9 : nul (ws.set 8 (cU a v7)) = nul ws := nul_set (by decide)
      rw [← hw] at hP hD hF hI hq9
      clear hw
      have hn : nul w8 ≤ nul ws := by omega
      refine W.widen (k := Kc ws w8) (n := Ks ws w8) (by show 2 * (nul ws - nul ws) ≤ 2 * (nul ws - nul w8); omega) (by show 257 * (nul ws - nul ws) ≤ 257 * (nul ws - nul w8); omega) ?_
      refine lv_iload_n hx hb d_U_bytesThrough_27 rfl (lv_at hl 2 rfl) ?_
      refine mu_end (u := w8) (v := (some (.int y9))) ⟨_, hI, hF, hn, ⟨n, Nat.le_refl _, by rw [hn9]⟩, (fun i h8 h10 => by rw [nv7 i (by omega)])⟩ (Nat.le_refl _) (Nat.le_refl _) ?_
      exact W.iret (v := y9) hx hb hr (fun t9 ht hW => ⟨rfl, ⟨by rw [ht]; exact hP, va_K.moved hW.alike hK, hD, by rw [ht]; exact Nat.le_trans hz hS.1⟩, hS.F ht⟩) hS.2.2 d_U_bytesThrough_28
  · skip
    refine lv_iload_n hx hb d_U_bytesThrough_8 rfl (lv_at hl 2 rfl) ?_
    refine mu_end (u := ws) (v := (some (.int y9))) ⟨_, hI, hF, hn, ⟨n, Nat.le_refl _, by rw [hn9]⟩, (fun i _ _ => rfl)⟩ (Nat.le_refl _) (Nat.le_refl _) ?_
    exact W.iret (v := y9) hx hb hr (fun t9 ht hW => ⟨rfl, ⟨by rw [ht]; exact hP, va_K.moved hW.alike hK, hD, by rw [ht]; exact Nat.le_trans hz hS.1⟩, hS.F ht⟩) hS.2.2 d_U_bytesThrough_9
set_option maxHeartbeats 4000000 in
set_option maxRecDepth 100000 in
theorem c_Y_cutTo_f {l : Launch} {D : va_G} {t : Nat → ClassId} {z : Nat} {sa : Nat → Nat} {ws : va_W} {a : Nat → Nat} {k0 : Nat} {v : Nat → Int32} {x9 : Int32} {n : Nat} (hI : Iv a t k0 v ws) (hn9 : x9 = nI n) (hn31 : n < 2 ^ 31) : Mu l y_Y_cutTo (Cond.code y_Y_cutTo b_Y_cutTo 2 (.none : Option Jvm.ClassFile.FieldType) :: WS) ({ frames := 1, cells := 2 * nul ws + 1, slots := 257 * nul ws + 6, locals := 14 }) D t z sa ws [.ref (a 1), .int x9] (fun r u => ∃ v1, Iv a t k0 v1 u ∧ Fr t ws u ∧ nul u ≤ nul ws ∧ r = none ∧ (∀ i, i ≠ 5 → v1 i = v i)) Xno (Kc ws) (Ks ws) := by
  refine mu_ofW (cc := b_Y_cutTo) (maxL := 2) (ret := (.none : Option Jvm.ClassFile.FieldType)) (by decide) rfl ?_
  intro p e s m args below meth c s₁ B hml hno hv
  obtain ⟨rfl, ⟨hP, hK, hD, hz⟩, hM⟩ := hv
  have hx := B.exec
  have hb := B.bytes
  have hr := B.returns
  have hts : ∀ w ∈ WS, w.before [.ref (a 1), .int x9].toArray s = true := fun w h => atoms_spec B.pre w (List.mem_cons_of_mem _ h)
  have hown : s.vm.findClass R_Y = some m.cls := findClass_of_methodNamed B.named
  have hlocks := B.notSynchronized
  have hA : ∀ q, s.heap.size ≤ q → Az z q := fun q h => Nat.le_trans hz h
  have hS : va_S (Az z) s.heap s.heap [] := va_S.rf
  have hF : Fr t ws ws := Fr.rf
  have hn : nul ws ≤ nul ws := Nat.le_refl _
  have hl := lv_entry ([.ref (a 1), .int x9]) (n := 2) (Nat.le_of_ble_eq_true rfl)
  rw [lg_entry_eq]
  generalize (lg_sl ([.ref (a 1), .int x9]) ++ List.replicate (2 - (lg_sl ([.ref (a 1), .int x9])).length) Slot.unset).toArray = ls at hl ⊢
  have hl : lv_has ls 2 [(0, .ref (a 1)), (1, .int x9)] := hl
  refine W.widen (k := Kc ws ws) (n := Ks ws ws) (Nat.zero_le _) (Nat.zero_le _) ?_
  refine lv_aload_n hx hb d_Y_cutTo_0 rfl (lv_at hl 0 rfl) ?_
  refine lv_aload_n hx hb d_Y_cutTo_1 rfl (lv_at hl 0 rfl) ?_
  refine va_get (D := D) (ci := 3) (v := .int (v 5)) (C := R_Y) (T := F_Y) (N := 2) hx hb hts ws_Y hown hK hP 1 hI.y1 rfl 1 (by decide) (hts _ fl_Y_9) (fun _ h9 => h9) rfl d_Y_cutTo_2 ?_
  refine lv_iload_n hx hb d_Y_cutTo_5 rfl (lv_at hl 1 rfl) ?_
  refine va_mmin hx hb (hml.trans hl.1.symm) hown (hts _ ml_Y_34) (hts _ mm_st) (hts _ in_Math) (hts _ mm_cd) (Nat.le_of_ble_eq_true rfl) (Nat.le_of_ble_eq_true rfl) (by show 2 * (nul ws - nul ws) ≤ 2 * nul ws + 1; omega) (by show 257 * (nul ws - nul ws) ≤ 257 * nul ws + 6; omega) d_Y_cutTo_6 ?_
  refine lv_topi (fun y1 hy1 => ?_)
  obtain ⟨F9, hF1, hF2⟩ := hI.bd.2.2.1
  have hy19 : y1 = nI (min F9 n) := by rw [hy1, hF2, hn9]; exact mn_nat (by omega) hn31
  refine va_put (D := D) (ci := 3) (v := .int y1) (ty := .int) (C := R_Y) (T := F_Y) (N := 2) hx hb hts ws_Y t_Y ok_Y n_Y hown hK hP hD hS 1 hI.y1 rfl 1 (by decide) (hts _ fl_Y_9) (fun _ h9 => h9) rfl (by decide +kernel) rfl rfl (Nat.le_of_ble_eq_true rfl) d_Y_cutTo_9 (fun H locs hP hD hS => ?_)
  obtain ⟨v2, hv2⟩ : ∃ q : Nat → Int32, q = upd v 5 y1 := ⟨_, rfl⟩
  have gv2 : v2 5 = y1 := by rw [hv2]; exact pk_us
  have nv2 : ∀ i, i ≠ 5 → v2 i = v i := fun i hi => by rw [hv2]; exact pk_un hi
  have hP : va_P D Cl (ws.set 1 (cY1 a v2)) H := by rw [hv2]; exact hP
  have hD : va_D (Az z) (ws.set 1 (cY1 a v2)) := by rw [hv2]; exact hD
  obtain ⟨w3, hw⟩ : ∃ q, q = ws.set 1 (cY1 a v2) := ⟨_, rfl⟩
  have hP : va_P D Cl (ws.set 1 (cY1 a v2)) H := hP
  have hD : va_D (Az z) (ws.set 1 (cY1 a v2)) := hD
  have hF : Fr t ws (ws.set 1 (cY1 a v2)) := hF.set (by decide) (by decide)
  have hI := (by have h9 := hI.setF (F := min F9 n) (by omega); rw [show upd v 5 (nI (min F9 n)) = v2 from by rw [hv2, hy19]] at h9; exact h9)
  have hq9 : nul (ws.set 1 (cY1 a v2)) = nul ws := nul_set (by decide)
  rw [← hw] at hP hD hF hI hq9
  clear hw
  have hn : nul w3 ≤ nul ws := by omega
  refine W.widen (k := Kc ws w3) (n := Ks ws w3) (by show 2 * (nul ws - nul ws) ≤ 2 * (nul ws - nul w3); omega) (by show 257 * (nul ws - nul ws) ≤ 257 * (nul ws - nul w3); omega) ?_
  refine mu_end (u := w3) (v := (none)) ⟨_, hI, hF, hn, rfl, nv2⟩ (Nat.le_refl _) (Nat.le_refl _) ?_
  exact W.vret hx hb hr (fun t9 ht hW => ⟨rfl, ⟨by rw [ht]; exact hP, va_K.moved hW.alike hK, hD, by rw [ht]; exact Nat.le_trans hz hS.1⟩, hS.F ht⟩) hS.2.2 d_Y_cutTo_12
set_option maxHeartbeats 4000000 in
set_option maxRecDepth 100000 in
theorem c_Y_cutTo_j {l : Launch} {D : va_G} {t : Nat → ClassId} {z : Nat} {sa : Nat → Nat} {ws : va_W} {a : Nat → Nat} {k0 : Nat} {v : Nat → Int32}  (hI : Iv a t k0 v ws)  : Mu l y_Y_cutTo (Cond.code y_Y_cutTo b_Y_cutTo 2 (.none : Option Jvm.ClassFile.FieldType) :: WS) ({ frames := 1, cells := 2 * nul ws + 1, slots := 257 * nul ws + 6, locals := 14 }) D t z sa ws [.ref (a 4), .int 0] (fun r u => ∃ v1, Iv a t k0 v1 u ∧ Fr t ws u ∧ nul u ≤ nul ws ∧ r = none ∧ (∀ i, i ≠ 6 → v1 i = v i) ∧ v1 6 = 0) Xno (Kc ws) (Ks ws) := by
  refine mu_ofW (cc := b_Y_cutTo) (maxL := 2) (ret := (.none : Option Jvm.ClassFile.FieldType)) (by decide) rfl ?_
  intro p e s m args below meth c s₁ B hml hno hv
  obtain ⟨rfl, ⟨hP, hK, hD, hz⟩, hM⟩ := hv
  have hx := B.exec
  have hb := B.bytes
  have hr := B.returns
  have hts : ∀ w ∈ WS, w.before [.ref (a 4), .int 0].toArray s = true := fun w h => atoms_spec B.pre w (List.mem_cons_of_mem _ h)
  have hown : s.vm.findClass R_Y = some m.cls := findClass_of_methodNamed B.named
  have hlocks := B.notSynchronized
  have hA : ∀ q, s.heap.size ≤ q → Az z q := fun q h => Nat.le_trans hz h
  have hS : va_S (Az z) s.heap s.heap [] := va_S.rf
  have hF : Fr t ws ws := Fr.rf
  have hn : nul ws ≤ nul ws := Nat.le_refl _
  have hl := lv_entry ([.ref (a 4), .int 0]) (n := 2) (Nat.le_of_ble_eq_true rfl)
  rw [lg_entry_eq]
  generalize (lg_sl ([.ref (a 4), .int 0]) ++ List.replicate (2 - (lg_sl ([.ref (a 4), .int 0])).length) Slot.unset).toArray = ls at hl ⊢
  have hl : lv_has ls 2 [(0, .ref (a 4)), (1, .int 0)] := hl
  refine W.widen (k := Kc ws ws) (n := Ks ws ws) (Nat.zero_le _) (Nat.zero_le _) ?_
  refine lv_aload_n hx hb d_Y_cutTo_0 rfl (lv_at hl 0 rfl) ?_
  refine lv_aload_n hx hb d_Y_cutTo_1 rfl (lv_at hl 0 rfl) ?_
  refine va_get (D := D) (ci := 3) (v := .int (v 6)) (C := R_Y) (T := F_Y) (N := 2) hx hb hts ws_Y hown hK hP 4 hI.y4 rfl 1 (by decide) (hts _ fl_Y_9) (fun _ h9 => h9) rfl d_Y_cutTo_2 ?_
  refine lv_iload_n hx hb d_Y_cutTo_5 rfl (lv_at hl 1 rfl) ?_
  refine va_mmin hx hb (hml.trans hl.1.symm) hown (hts _ ml_Y_34) (hts _ mm_st) (hts _ in_Math) (hts _ mm_cd) (Nat.le_of_ble_eq_true rfl) (Nat.le_of_ble_eq_true rfl) (by show 2 * (nul ws - nul ws) ≤ 2 * nul ws + 1; omega) (by show 257 * (nul ws - nul ws) ≤ 257 * nul ws + 6; omega) d_Y_cutTo_6 ?_
  refine lv_topi (fun y1 hy1 => ?_)
  obtain ⟨J9, hJ1, hJ2⟩ := hI.bd.2.2.2.1
  have hy19 : y1 = nI (min J9 0) := by rw [hy1, hJ2]; exact mn_nat (n := 0) (by omega) (by decide)
  rw [Nat.min_zero] at hy19
  refine va_put (D := D) (ci := 3) (v := .int y1) (ty := .int) (C := R_Y) (T := F_Y) (N := 2) hx hb hts ws_Y t_Y ok_Y n_Y hown hK hP hD hS 4 hI.y4 rfl 1 (by decide) (hts _ fl_Y_9) (fun _ h9 => h9) rfl (by decide +kernel) rfl rfl (Nat.le_of_ble_eq_true rfl) d_Y_cutTo_9 (fun H locs hP hD hS => ?_)
  obtain ⟨v2, hv2⟩ : ∃ q : Nat → Int32, q = upd v 6 y1 := ⟨_, rfl⟩
  have gv2 : v2 6 = y1 := by rw [hv2]; exact pk_us
  have nv2 : ∀ i, i ≠ 6 → v2 i = v i := fun i hi => by rw [hv2]; exact pk_un hi
  have hP : va_P D Cl (ws.set 4 (cY4 a v2)) H := by rw [hv2]; exact hP
  have hD : va_D (Az z) (ws.set 4 (cY4 a v2)) := by rw [hv2]; exact hD
  obtain ⟨w3, hw⟩ : ∃ q, q = ws.set 4 (cY4 a v2) := ⟨_, rfl⟩
  have hP : va_P D Cl (ws.set 4 (cY4 a v2)) H := hP
  have hD : va_D (Az z) (ws.set 4 (cY4 a v2)) := hD
  have hF : Fr t ws (ws.set 4 (cY4 a v2)) := hF.set (by decide) (by decide)
  have hI := (by have h9 := hI.setJ (J := 0) (by decide) (fun h => absurd h (by decide)); rw [show upd v 6 (nI 0) = v2 from by rw [hv2, hy19]] at h9; exact h9)
  have hq9 : nul (ws.set 4 (cY4 a v2)) = nul ws := nul_set (by decide)
  rw [← hw] at hP hD hF hI hq9
  clear hw
  have hn : nul w3 ≤ nul ws := by omega
  refine W.widen (k := Kc ws w3) (n := Ks ws w3) (by show 2 * (nul ws - nul ws) ≤ 2 * (nul ws - nul w3); omega) (by show 257 * (nul ws - nul ws) ≤ 257 * (nul ws - nul w3); omega) ?_
  refine mu_end (u := w3) (v := (none)) ⟨_, hI, hF, hn, rfl, nv2, by rw [gv2, hy19]; rfl⟩ (Nat.le_refl _) (Nat.le_refl _) ?_
  exact W.vret hx hb hr (fun t9 ht hW => ⟨rfl, ⟨by rw [ht]; exact hP, va_K.moved hW.alike hK, hD, by rw [ht]; exact Nat.le_trans hz hS.1⟩, hS.F ht⟩) hS.2.2 d_Y_cutTo_12
