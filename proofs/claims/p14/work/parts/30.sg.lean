set_option maxHeartbeats 4000000 in
set_option maxRecDepth 100000 in
theorem c_S_foldMarks {l : Launch} {D : va_G} {t : Nat → ClassId} {z : Nat} {sa : Nat → Nat} {ws : va_W} {a : Nat → Nat} {k0 : Nat} {v : Nat → Int32} {j1 : Nat} {x9 : Int32} (hI : Iv a t k0 v ws) (hj1 : j1 < 6) (hxi : x9 = nI (j1 + 1)) : Mu l y_S_foldMarks (Cond.code y_S_foldMarks b_S_foldMarks 3 (.none : Option Jvm.ClassFile.FieldType) :: WS) ({ frames := 2, cells := 2 * nul ws + 1, slots := 257 * nul ws + 6, locals := 45 }) D t z sa ws [.ref (a 0), .int x9] (fun r u => ∃ v1, Iv a t k0 v1 u ∧ Fr t ws u ∧ nul u ≤ nul ws ∧ r = none ∧ (∀ i, i ≠ 2 → v1 i = v i)) Xno (Kc ws) (Ks ws) := by
  refine mu_ofW (cc := b_S_foldMarks) (maxL := 3) (ret := (.none : Option Jvm.ClassFile.FieldType)) (by decide) rfl ?_
  intro p e s m args below meth c s₁ B hml hno hv
  obtain ⟨rfl, ⟨hP, hK, hD, hz⟩, hM⟩ := hv
  have hx := B.exec
  have hb := B.bytes
  have hr := B.returns
  have hts : ∀ w ∈ WS, w.before [.ref (a 0), .int x9].toArray s = true := fun w h => atoms_spec B.pre w (List.mem_cons_of_mem _ h)
  have hown : s.vm.findClass R_S = some m.cls := findClass_of_methodNamed B.named
  have hlocks := B.notSynchronized
  have hA : ∀ q, s.heap.size ≤ q → Az z q := fun q h => Nat.le_trans hz h
  have hS : va_S (Az z) s.heap s.heap [] := va_S.rf
  have hF : Fr t ws ws := Fr.rf
  have hn : nul ws ≤ nul ws := Nat.le_refl _
  have hl := lv_entry ([.ref (a 0), .int x9]) (n := 3) (Nat.le_of_ble_eq_true rfl)
  rw [lg_entry_eq]
  generalize (lg_sl ([.ref (a 0), .int x9]) ++ List.replicate (3 - (lg_sl ([.ref (a 0), .int x9])).length) Slot.unset).toArray = ls at hl ⊢
  have hl : lv_has ls 3 [(0, .ref (a 0)), (1, .int x9)] := hl
  refine W.widen (k := Kc ws ws) (n := Ks ws ws) (Nat.zero_le _) (Nat.zero_le _) ?_
  refine lv_iload_n hx hb d_S_foldMarks_0 rfl (lv_at hl 1 rfl) ?_
  refine lv_istore_n (lv' := [(2, .int x9), (0, .ref (a 0)), (1, .int x9)]) hx hb d_S_foldMarks_1 rfl hl (by decide) rfl (fun ls hl => ?_)
  obtain ⟨M9, hM1, hM2⟩ := hI.bd.1
  have key : ∀ (n9 i2 : Nat) (w9 : va_W) (H : Heap) (locs : List Loc) (ls : Array Slot), M9 < i2 + n9 → j1 + 1 ≤ i2 → i2 ≤ 6 → va_P D Cl w9 H → va_D (Az z) w9 → va_S (Az z) s.heap H locs → Iv a t k0 v w9 → Fr t ws w9 → nul w9 ≤ nul ws → lv_has ls 3 [(2, .int (nI i2)), (0, .ref (a 0)), (1, .int x9)] → W p l e (headSpec (Cond.code y_S_foldMarks b_S_foldMarks 3 (.none : Option Jvm.ClassFile.FieldType) :: WS) ({ frames := 2, cells := 2 * nul ws + 1, slots := 257 * nul ws + 6, locals := 45 })).room s m [.ref (a 0), .int x9].toArray below meth c H locs (Kc ws w9) (Ks ws w9) (mu_MQ below D t z (fun r u => ∃ v1, Iv a t k0 v1 u ∧ Fr t ws u ∧ nul u ≤ nul ws ∧ r = none ∧ (∀ i, i ≠ 2 → v1 i = v i)) Xno (Kc ws) (Ks ws) [.ref (a 0), .int x9].toArray s) (F0 m 2 ls []) := by
    intro n9
    induction n9 with
    | zero =>
      intro i2 w9 H locs ls hi9 hge hle hP hD hS hI hF hn hl
      refine lv_iload_n hx hb d_S_foldMarks_2 rfl (lv_at hl 0 rfl) ?_
      refine lv_aload_n hx hb d_S_foldMarks_3 rfl (lv_at hl 1 rfl) ?_
      refine va_get (D := D) (ci := 5) (v := .int (v 2)) (C := R_S) (T := F_S) (N := 10) hx hb hts ws_S hown hK hP 0 hI.x rfl 7 (by decide) (hts _ fl_S_47) (fun _ h9 => h9) rfl d_S_foldMarks_4 ?_
      refine lv_icmp_gt (tgt := 33) hx hb d_S_foldMarks_7 rfl (fun _ => ?_) (fun q9 => ?_)
      · skip
        refine lv_aload_n hx hb d_S_foldMarks_33 rfl (lv_at hl 1 rfl) ?_
        refine lv_iload_n hx hb d_S_foldMarks_34 rfl (lv_at hl 2 rfl) ?_
        refine lv_iconst (v := 1) hx hb d_S_foldMarks_35 (by decide) ?_
        refine lv_isub hx hb d_S_foldMarks_36 ?_
        refine lv_topi (fun y1 hy1 => ?_)
        have hy1 : y1 = nI j1 := by rw [hy1, hxi]; exact nI_pred j1
        refine va_put (D := D) (ci := 5) (v := .int y1) (ty := .int) (C := R_S) (T := F_S) (N := 10) hx hb hts ws_S t_S ok_S n_S hown hK hP hD hS 0 hI.x rfl 7 (by decide) (hts _ fl_S_47) (fun _ h9 => h9) rfl (by decide +kernel) rfl rfl (Nat.le_of_ble_eq_true rfl) d_S_foldMarks_37 (fun H locs hP hD hS => ?_)
        obtain ⟨v2, hv2⟩ : ∃ q : Nat → Int32, q = upd v 2 y1 := ⟨_, rfl⟩
        have gv2 : v2 2 = y1 := by rw [hv2]; exact pk_us
        have nv2 : ∀ i, i ≠ 2 → v2 i = v i := fun i hi => by rw [hv2]; exact pk_un hi
        have hP : va_P D Cl (w9.set 0 (cX a v2)) H := by rw [hv2]; exact hP
        have hD : va_D (Az z) (w9.set 0 (cX a v2)) := by rw [hv2]; exact hD
        obtain ⟨w3, hw⟩ : ∃ q, q = w9.set 0 (cX a v2) := ⟨_, rfl⟩
        have hP : va_P D Cl (w9.set 0 (cX a v2)) H := hP
        have hD : va_D (Az z) (w9.set 0 (cX a v2)) := hD
        have hF : Fr t ws (w9.set 0 (cX a v2)) := hF.set (by decide) (by decide)
        have hI := hI.setX (v' := v2) (fun i hi => nv2 i (by omega)) ⟨j1, by omega, by rw [gv2]; exact hy1⟩ (by rw [nv2 3 (by decide)]; exact hI.bd.2.1)
        have hq9 : nul (w9.set 0 (cX a v2)) = nul w9 := nul_set (by decide)
        rw [← hw] at hP hD hF hI hq9
        clear hw
        have hn : nul w3 ≤ nul ws := by omega
        refine W.widen (k := Kc ws w3) (n := Ks ws w3) (by show 2 * (nul ws - nul w9) ≤ 2 * (nul ws - nul w3); omega) (by show 257 * (nul ws - nul w9) ≤ 257 * (nul ws - nul w3); omega) ?_
        refine mu_end (u := w3) (v := (none)) ⟨_, hI, hF, hn, rfl, nv2⟩ (Nat.le_refl _) (Nat.le_refl _) ?_
        exact W.vret hx hb hr (fun t9 ht hW => ⟨rfl, ⟨by rw [ht]; exact hP, va_K.moved hW.alike hK, hD, by rw [ht]; exact Nat.le_trans hz hS.1⟩, hS.F ht⟩) hS.2.2 d_S_foldMarks_40
      · have hi2M : i2 ≤ M9 := Nat.not_lt.mp (fun h => q9 (by rw [hM2]; exact nI_lt h (by omega)))
        omega
    | succ n9 ih =>
      intro i2 w9 H locs ls hi9 hge hle hP hD hS hI hF hn hl
      refine lv_iload_n hx hb d_S_foldMarks_2 rfl (lv_at hl 0 rfl) ?_
      refine lv_aload_n hx hb d_S_foldMarks_3 rfl (lv_at hl 1 rfl) ?_
      refine va_get (D := D) (ci := 5) (v := .int (v 2)) (C := R_S) (T := F_S) (N := 10) hx hb hts ws_S hown hK hP 0 hI.x rfl 7 (by decide) (hts _ fl_S_47) (fun _ h9 => h9) rfl d_S_foldMarks_4 ?_
      refine lv_icmp_gt (tgt := 33) hx hb d_S_foldMarks_7 rfl (fun _ => ?_) (fun q9 => ?_)
      · skip
        refine lv_aload_n hx hb d_S_foldMarks_33 rfl (lv_at hl 1 rfl) ?_
        refine lv_iload_n hx hb d_S_foldMarks_34 rfl (lv_at hl 2 rfl) ?_
        refine lv_iconst (v := 1) hx hb d_S_foldMarks_35 (by decide) ?_
        refine lv_isub hx hb d_S_foldMarks_36 ?_
        refine lv_topi (fun y4 hy4 => ?_)
        have hy4 : y4 = nI j1 := by rw [hy4, hxi]; exact nI_pred j1
        refine va_put (D := D) (ci := 5) (v := .int y4) (ty := .int) (C := R_S) (T := F_S) (N := 10) hx hb hts ws_S t_S ok_S n_S hown hK hP hD hS 0 hI.x rfl 7 (by decide) (hts _ fl_S_47) (fun _ h9 => h9) rfl (by decide +kernel) rfl rfl (Nat.le_of_ble_eq_true rfl) d_S_foldMarks_37 (fun H locs hP hD hS => ?_)
        obtain ⟨v5, hv5⟩ : ∃ q : Nat → Int32, q = upd v 2 y4 := ⟨_, rfl⟩
        have gv5 : v5 2 = y4 := by rw [hv5]; exact pk_us
        have nv5 : ∀ i, i ≠ 2 → v5 i = v i := fun i hi => by rw [hv5]; exact pk_un hi
        have hP : va_P D Cl (w9.set 0 (cX a v5)) H := by rw [hv5]; exact hP
        have hD : va_D (Az z) (w9.set 0 (cX a v5)) := by rw [hv5]; exact hD
        obtain ⟨w6, hw⟩ : ∃ q, q = w9.set 0 (cX a v5) := ⟨_, rfl⟩
        have hP : va_P D Cl (w9.set 0 (cX a v5)) H := hP
        have hD : va_D (Az z) (w9.set 0 (cX a v5)) := hD
        have hF : Fr t ws (w9.set 0 (cX a v5)) := hF.set (by decide) (by decide)
        have hI := hI.setX (v' := v5) (fun i hi => nv5 i (by omega)) ⟨j1, by omega, by rw [gv5]; exact hy4⟩ (by rw [nv5 3 (by decide)]; exact hI.bd.2.1)
        have hq9 : nul (w9.set 0 (cX a v5)) = nul w9 := nul_set (by decide)
        rw [← hw] at hP hD hF hI hq9
        clear hw
        have hn : nul w6 ≤ nul ws := by omega
        refine W.widen (k := Kc ws w6) (n := Ks ws w6) (by show 2 * (nul ws - nul w9) ≤ 2 * (nul ws - nul w6); omega) (by show 257 * (nul ws - nul w9) ≤ 257 * (nul ws - nul w6); omega) ?_
        refine mu_end (u := w6) (v := (none)) ⟨_, hI, hF, hn, rfl, nv5⟩ (Nat.le_refl _) (Nat.le_refl _) ?_
        exact W.vret hx hb hr (fun t9 ht hW => ⟨rfl, ⟨by rw [ht]; exact hP, va_K.moved hW.alike hK, hD, by rw [ht]; exact Nat.le_trans hz hS.1⟩, hS.F ht⟩) hS.2.2 d_S_foldMarks_40
      · have hi2M : i2 ≤ M9 := Nat.not_lt.mp (fun h => q9 (by rw [hM2]; exact nI_lt h (by omega)))
        have hi2 : i2 < 6 := by omega
        refine lv_aload_n hx hb d_S_foldMarks_10 rfl (lv_at hl 1 rfl) ?_
        refine va_get (D := D) (ci := 5) (v := .ref (a 7)) (C := R_S) (T := F_S) (N := 10) hx hb hts ws_S hown hK hP 0 hI.x rfl 2 (by decide) (hts _ fl_S_25) (fun _ h9 => h9) rfl d_S_foldMarks_11 ?_
        refine lv_iload_n hx hb d_S_foldMarks_14 rfl (lv_at hl 2 rfl) ?_
        refine lv_iconst (v := 1) hx hb d_S_foldMarks_15 (by decide) ?_
        refine lv_isub hx hb d_S_foldMarks_16 ?_
        refine lv_topi (fun y7 hy7 => ?_)
        have hy7 : y7 = nI j1 := by rw [hy7, hxi]; exact nI_pred j1
        obtain ⟨gl, e7, g7⟩ := hI.l7
        refine va_aldq (D := D) hx hb hK hP 7 3 e7 rfl (i := y7) (by rw [hy7]; exact vp_in_nI hj1 (by decide)) d_S_foldMarks_17 ?_
        refine W.eq (g2 := F0 m 18 ls [.ref (a (10 + 4 * j1))]) (by rw [show (y7 : Int32).toNatClampNeg = j1 from by rw [hy7]; exact nI_clamp (by omega), g7 j1 hj1]; rfl) ?_
        refine lv_aload_n hx hb d_S_foldMarks_18 rfl (lv_at hl 1 rfl) ?_
        refine va_get (D := D) (ci := 5) (v := .ref (a 7)) (C := R_S) (T := F_S) (N := 10) hx hb hts ws_S hown hK hP 0 hI.x rfl 2 (by decide) (hts _ fl_S_25) (fun _ h9 => h9) rfl d_S_foldMarks_19 ?_
        refine lv_iload_n hx hb d_S_foldMarks_22 rfl (lv_at hl 0 rfl) ?_
        obtain ⟨gl, e7, g7⟩ := hI.l7
        refine va_aldq (D := D) hx hb hK hP 7 3 e7 rfl (i := (nI i2)) (vp_in_nI hi2 (by decide)) d_S_foldMarks_23 ?_
        refine W.eq (g2 := F0 m 24 ls [.ref (a (10 + 4 * i2)), .ref (a (10 + 4 * j1))]) (by rw [show (nI i2).toNatClampNeg = i2 from nI_clamp (by omega), g7 i2 hi2]; rfl) ?_
        refine mu_V (n := 1) (As := [.ref (a (10 + 4 * i2))]) (rest := []) ⟨hx, hb, hml, hown, hts⟩ (c_Z_takeOver (D := D) (t := t) (z := z) (sa := sa) (ws := w9) (j1 := j1) (j2 := i2) hI hj1 hi2 (by omega)) ml_S_191 im_Z_takeOver se_Z_takeOver in_Z cd_Z_takeOver (by decide +kernel) ⟨Nat.le_of_ble_eq_true rfl, Nat.le_of_ble_eq_true rfl⟩ (va_recv hK hP (ci := 4) rfl (hI.z hj1)) (Pz_at hP hK hD hz hM hS) rfl hl.1 rfl (Nat.le_of_ble_eq_true rfl) d_S_foldMarks_24 ⟨by show 2 * (nul ws - nul w9) + (2 * nul w9 + 1) ≤ 2 * nul ws + 1; omega, by show 257 * (nul ws - nul w9) + (257 * nul w9 + 6) ≤ 257 * nul ws + 6; omega⟩ hS (fun _ _ _ _ _ _ h => h.elim) (fun r9 u8 H locs hp hP hD hS => ?_)
        obtain ⟨hI, hF9, hn9, hr9⟩ := hp
        subst hr9
        have hF := hF.trans hF9
        have hn : nul u8 ≤ nul ws := by omega
        refine W.widen (k := Kc ws u8) (n := Ks ws u8) (by show 2 * (nul ws - nul w9) + 2 * (nul w9 - nul u8) ≤ 2 * (nul ws - nul u8); omega) (by show 257 * (nul ws - nul w9) + 257 * (nul w9 - nul u8) ≤ 257 * (nul ws - nul u8); omega) ?_
        refine W.eq (g2 := F0 m 27 ls []) rfl ?_
        refine lv_iinc (k := 0) (v := nI (i2 + 1)) (lv' := [(2, .int (nI (i2 + 1))), (0, .ref (a 0)), (1, .int x9)]) hx hb d_S_foldMarks_27 hl rfl (nI_1 i2) (by decide) rfl (fun ls hl => ?_)
        refine lv_goto (tgt := 2) hx hb d_S_foldMarks_30 rfl ?_
        exact ih (i2 + 1) u8 H locs ls (by omega) (by omega) (by omega) hP hD hS hI hF hn hl
  exact key 6 (j1 + 1) ws _ _ _ (by omega) (Nat.le_refl _) (by omega) hP hD hS hI hF hn (by have h9 := hl; rw [← hxi]; exact h9)
set_option maxHeartbeats 4000000 in
set_option maxRecDepth 100000 in
theorem c_S_keep {l : Launch} {D : va_G} {t : Nat → ClassId} {z : Nat} {sa : Nat → Nat} {ws : va_W} {a : Nat → Nat} {k0 : Nat} {v : Nat → Int32} {x9 : Int32} (hl0 : l.stackTraces = false) (hI : Iv a t k0 v ws) (hc1 : C1 v)  : Mu l y_S_keep (Cond.code y_S_keep b_S_keep 2 (.none : Option Jvm.ClassFile.FieldType) :: WS) ({ frames := 8, cells := 2 * nul ws + 1, slots := 257 * nul ws + 6, locals := 122 }) D t z sa ws [.ref (a 0), .int x9] (fun r u => r = none ∧ So a t ws u) (fun E u => (E = xISE ∨ E = xIOB) ∧ u = ws) (Kc ws) (Ks ws) := by
  refine mu_ofW (cc := b_S_keep) (maxL := 2) (ret := (.none : Option Jvm.ClassFile.FieldType)) (by decide) rfl ?_
  intro p e s m args below meth c s₁ B hml hno hv
  obtain ⟨rfl, ⟨hP, hK, hD, hz⟩, hM⟩ := hv
  have hx := B.exec
  have hb := B.bytes
  have hr := B.returns
  have hts : ∀ w ∈ WS, w.before [.ref (a 0), .int x9].toArray s = true := fun w h => atoms_spec B.pre w (List.mem_cons_of_mem _ h)
  have hown : s.vm.findClass R_S = some m.cls := findClass_of_methodNamed B.named
  have hlocks := B.notSynchronized
  have hA : ∀ q, s.heap.size ≤ q → Az z q := fun q h => Nat.le_trans hz h
  have hS : va_S (Az z) s.heap s.heap [] := va_S.rf
  have hF : Fr t ws ws := Fr.rf
  have hn : nul ws ≤ nul ws := Nat.le_refl _
  have hl := lv_entry ([.ref (a 0), .int x9]) (n := 2) (Nat.le_of_ble_eq_true rfl)
  rw [lg_entry_eq]
  generalize (lg_sl ([.ref (a 0), .int x9]) ++ List.replicate (2 - (lg_sl ([.ref (a 0), .int x9])).length) Slot.unset).toArray = ls at hl ⊢
  have hl : lv_has ls 2 [(0, .ref (a 0)), (1, .int x9)] := hl
  refine W.widen (k := Kc ws ws) (n := Ks ws ws) (Nat.zero_le _) (Nat.zero_le _) ?_
  refine lv_aload_n hx hb d_S_keep_0 rfl (lv_at hl 0 rfl) ?_
  refine mu_V (n := 0) (As := []) (rest := []) ⟨hx, hb, hml, hown, hts⟩ (c_S_requireOpen (D := D) (t := t) (z := z) (sa := sa) (ws := ws)  hl0 hI ) ml_S_61 im_S_requireOpen se_S_requireOpen in_S cd_S_requireOpen (by decide +kernel) ⟨Nat.le_of_ble_eq_true rfl, Nat.le_of_ble_eq_true rfl⟩ (va_recv hK hP (ci := 5) rfl hI.x) (Pz_at hP hK hD hz hM hS) rfl hl.1 rfl (Nat.le_of_ble_eq_true rfl) d_S_keep_1 ⟨by show 2 * (nul ws - nul ws) + (2 * nul ws + 1) ≤ 2 * nul ws + 1; omega, by show 257 * (nul ws - nul ws) + (257 * nul ws + 6) ≤ 257 * nul ws + 6; omega⟩ hS (fun E ce q u H locs hxp hP hD hS h1 h2 h3 => by obtain ⟨hE, hu⟩ := hxp; rw [hu] at hP hD; exact mu_out (u := ws) hno hlocks h1 h2 h3 hP hK hD hz hS ⟨(by simp [hE]), rfl⟩ (by rw [hu]; show 2 * (nul ws - nul ws) + (2 * (nul ws - nul ws) + 1) ≤ 2 * (nul ws - nul ws) + 1; omega) (by rw [hu]; show 257 * (nul ws - nul ws) + (257 * (nul ws - nul ws) + 6) ≤ 257 * (nul ws - nul ws) + 6; omega)) (fun r9 u1 H locs hp hP hD hS => ?_)
  obtain ⟨hr9, hw9, h01⟩ := hp
  rw [hw9] at hP hD
  subst hr9
  refine W.widen (k := Kc ws ws) (n := Ks ws ws) (by rw [hw9]; show 2 * (nul ws - nul ws) + 2 * (nul ws - nul ws) ≤ 2 * (nul ws - nul ws); omega) (by rw [hw9]; show 257 * (nul ws - nul ws) + 257 * (nul ws - nul ws) ≤ 257 * (nul ws - nul ws); omega) ?_
  clear hw9
  refine W.eq (g2 := F0 m 4 ls []) rfl ?_
  refine lv_aload_n hx hb d_S_keep_4 rfl (lv_at hl 0 rfl) ?_
  refine lv_iload_n hx hb d_S_keep_5 rfl (lv_at hl 1 rfl) ?_
  refine mu_V (n := 1) (As := [.int x9]) (rest := []) ⟨hx, hb, hml, hown, hts⟩ (c_S_requireMark (D := D) (t := t) (z := z) (sa := sa) (ws := ws) (x9 := x9) hl0 hI ) ml_S_140 im_S_requireMark se_S_requireMark in_S cd_S_requireMark (by decide +kernel) ⟨Nat.le_of_ble_eq_true rfl, Nat.le_of_ble_eq_true rfl⟩ (va_recv hK hP (ci := 5) rfl hI.x) (Pz_at hP hK hD hz hM hS) rfl hl.1 rfl (Nat.le_of_ble_eq_true rfl) d_S_keep_6 ⟨by show 2 * (nul ws - nul ws) + (2 * nul ws + 1) ≤ 2 * nul ws + 1; omega, by show 257 * (nul ws - nul ws) + (257 * nul ws + 6) ≤ 257 * nul ws + 6; omega⟩ hS (fun E ce q u H locs hxp hP hD hS h1 h2 h3 => by obtain ⟨hE, hu⟩ := hxp; rw [hu] at hP hD; exact mu_out (u := ws) hno hlocks h1 h2 h3 hP hK hD hz hS ⟨(by simp [hE]), rfl⟩ (by rw [hu]; show 2 * (nul ws - nul ws) + (2 * (nul ws - nul ws) + 1) ≤ 2 * (nul ws - nul ws) + 1; omega) (by rw [hu]; show 257 * (nul ws - nul ws) + (257 * (nul ws - nul ws) + 6) ≤ 257 * (nul ws - nul ws) + 6; omega)) (fun r9 u2 H locs hp hP hD hS => ?_)
  obtain ⟨hr9, hw9, h02⟩ := hp
  rw [hw9] at hP hD
  subst hr9
  refine W.widen (k := Kc ws ws) (n := Ks ws ws) (by rw [hw9]; show 2 * (nul ws - nul ws) + 2 * (nul ws - nul ws) ≤ 2 * (nul ws - nul ws); omega) (by rw [hw9]; show 257 * (nul ws - nul ws) + 257 * (nul ws - nul ws) ≤ 257 * (nul ws - nul ws); omega) ?_
  clear hw9
  refine W.eq (g2 := F0 m 9 ls []) rfl ?_
  obtain ⟨M9, hM1, hM2⟩ := hI.bd.1
  obtain ⟨jm, hjm5, hvm⟩ := nI_of2 (M := nI M9) (n := M9) (x := x9) (nI_toInt (by omega)) (fun h => h02.1 (lt01 h)) (by rw [← hM2]; exact h02.2)
  have hjm : jm < 6 := by omega
  obtain ⟨j1, hj1e⟩ : ∃ q, jm = q + 1 := ⟨jm - 1, by have h9 : ¬ jm = 0 := fun h => h02.1 (by rw [hvm, h]; decide); omega⟩
  have hj1 : j1 < 6 := by omega
  rw [hj1e] at hvm
  refine lv_aload_n hx hb d_S_keep_9 rfl (lv_at hl 0 rfl) ?_
  refine lv_iload_n hx hb d_S_keep_10 rfl (lv_at hl 1 rfl) ?_
  refine mu_V (n := 1) (As := [.int x9]) (rest := []) ⟨hx, hb, hml, hown, hts⟩ (c_S_foldMarks (D := D) (t := t) (z := z) (sa := sa) (ws := ws) (j1 := j1) hI hj1 hvm) ml_S_109 im_S_foldMarks se_S_foldMarks in_S cd_S_foldMarks (by decide +kernel) ⟨Nat.le_of_ble_eq_true rfl, Nat.le_of_ble_eq_true rfl⟩ (va_recv hK hP (ci := 5) rfl hI.x) (Pz_at hP hK hD hz hM hS) rfl hl.1 rfl (Nat.le_of_ble_eq_true rfl) d_S_keep_11 ⟨by show 2 * (nul ws - nul ws) + (2 * nul ws + 1) ≤ 2 * nul ws + 1; omega, by show 257 * (nul ws - nul ws) + (257 * nul ws + 6) ≤ 257 * nul ws + 6; omega⟩ hS (fun _ _ _ _ _ _ h => h.elim) (fun r9 u3 H locs hp hP hD hS => ?_)
  obtain ⟨v4, hI, hF9, hn9, hr9, nv4⟩ := hp
  subst hr9
  have hF := hF.trans hF9
  have hn : nul u3 ≤ nul ws := by omega
  refine W.widen (k := Kc ws u3) (n := Ks ws u3) (by show 2 * (nul ws - nul ws) + 2 * (nul ws - nul u3) ≤ 2 * (nul ws - nul u3); omega) (by show 257 * (nul ws - nul ws) + 257 * (nul ws - nul u3) ≤ 257 * (nul ws - nul u3); omega) ?_
  refine W.eq (g2 := F0 m 14 ls []) rfl ?_
  refine mu_end (u := u3) (v := (none)) ⟨rfl, ⟨_, _, hI, hF, hn, hc1.eq (by rw [nv4 0 (by omega)]) (by rw [nv4 6 (by omega)])⟩⟩ (Nat.le_refl _) (Nat.le_refl _) ?_
  exact W.vret hx hb hr (fun t9 ht hW => ⟨rfl, ⟨by rw [ht]; exact hP, va_K.moved hW.alike hK, hD, by rw [ht]; exact Nat.le_trans hz hS.1⟩, hS.F ht⟩) hS.2.2 d_S_keep_14
set_option maxHeartbeats 4000000 in
set_option maxRecDepth 100000 in
theorem c_S_settle {l : Launch} {D : va_G} {t : Nat → ClassId} {z : Nat} {sa : Nat → Nat} {ws : va_W} {a : Nat → Nat} {k0 : Nat} {v : Nat → Int32} {p9 : Int32} (hl0 : l.stackTraces = false) (hI : Iv a t k0 v ws) (hp01 : p9 = 0 ∨ p9 = 1) : Mu l y_S_settle (Cond.code y_S_settle b_S_settle 2 (.none : Option Jvm.ClassFile.FieldType) :: WS) ({ frames := 6, cells := 2 * nul ws + 1, slots := 257 * nul ws + 6, locals := 82 }) D t z sa ws [.ref (a 0), .int p9] (fun r u => ∃ v1, Iv a t k0 v1 u ∧ Fr t ws u ∧ nul u ≤ nul ws ∧ r = none ∧ (∀ i, i = 5 ∨ i = 6 → v1 i = v i) ∧ ¬ p9 = 0) (fun E u => E = xAE ∧ p9 = 0 ∧ ∃ v1, Iv a t k0 v1 u ∧ Fr t ws u ∧ nul u ≤ nul ws ∧ v1 0 = 0) (Kc ws) (Ks ws) := by
  refine mu_ofW (cc := b_S_settle) (maxL := 2) (ret := (.none : Option Jvm.ClassFile.FieldType)) (by decide) rfl ?_
  intro p e s m args below meth c s₁ B hml hno hv
  obtain ⟨rfl, ⟨hP, hK, hD, hz⟩, hM⟩ := hv
  have hx := B.exec
  have hb := B.bytes
  have hr := B.returns
  have hts : ∀ w ∈ WS, w.before [.ref (a 0), .int p9].toArray s = true := fun w h => atoms_spec B.pre w (List.mem_cons_of_mem _ h)
  have hown : s.vm.findClass R_S = some m.cls := findClass_of_methodNamed B.named
  have hlocks := B.notSynchronized
  have hA : ∀ q, s.heap.size ≤ q → Az z q := fun q h => Nat.le_trans hz h
  have hS : va_S (Az z) s.heap s.heap [] := va_S.rf
  have hF : Fr t ws ws := Fr.rf
  have hn : nul ws ≤ nul ws := Nat.le_refl _
  have hl := lv_entry ([.ref (a 0), .int p9]) (n := 2) (Nat.le_of_ble_eq_true rfl)
  rw [lg_entry_eq]
  generalize (lg_sl ([.ref (a 0), .int p9]) ++ List.replicate (2 - (lg_sl ([.ref (a 0), .int p9])).length) Slot.unset).toArray = ls at hl ⊢
  have hl : lv_has ls 2 [(0, .ref (a 0)), (1, .int p9)] := hl
  refine W.widen (k := Kc ws ws) (n := Ks ws ws) (Nat.zero_le _) (Nat.zero_le _) ?_
  refine lv_aload_n hx hb d_S_settle_0 rfl (lv_at hl 0 rfl) ?_
  refine va_get (D := D) (ci := 5) (v := .ref (a 8)) (C := R_S) (T := F_S) (N := 10) hx hb hts ws_S hown hK hP 0 hI.x rfl 3 (by decide) (hts _ fl_S_32) (fun _ h9 => h9) rfl d_S_settle_1 ?_
  refine mu_V (n := 0) (As := []) (rest := []) ⟨hx, hb, hml, hown, hts⟩ (c_U_forget (D := D) (t := t) (z := z) (sa := sa) (ws := ws)  hI ) ml_S_198 im_U_forget se_U_forget in_U cd_U_forget (by decide +kernel) ⟨Nat.le_of_ble_eq_true rfl, Nat.le_of_ble_eq_true rfl⟩ (va_recv hK hP (ci := 2) rfl hI.u8) (Pz_at hP hK hD hz hM hS) rfl hl.1 rfl (Nat.le_of_ble_eq_true rfl) d_S_settle_4 ⟨by show 2 * (nul ws - nul ws) + (2 * nul ws + 1) ≤ 2 * nul ws + 1; omega, by show 257 * (nul ws - nul ws) + (257 * nul ws + 6) ≤ 257 * nul ws + 6; omega⟩ hS (fun _ _ _ _ _ _ h => h.elim) (fun r9 u1 H locs hp hP hD hS => ?_)
  obtain ⟨v2, hI, hF9, hn9, hr9, nv2, -⟩ := hp
  subst hr9
  have hF := hF.trans hF9
  have hn : nul u1 ≤ nul ws := by omega
  refine W.widen (k := Kc ws u1) (n := Ks ws u1) (by show 2 * (nul ws - nul ws) + 2 * (nul ws - nul u1) ≤ 2 * (nul ws - nul u1); omega) (by show 257 * (nul ws - nul ws) + 257 * (nul ws - nul u1) ≤ 257 * (nul ws - nul u1); omega) ?_
  refine W.eq (g2 := F0 m 7 ls []) rfl ?_
  refine lv_aload_n hx hb d_S_settle_7 rfl (lv_at hl 0 rfl) ?_
  refine mu_V (n := 0) (As := []) (rest := []) ⟨hx, hb, hml, hown, hts⟩ (c_S_endTransaction (D := D) (t := t) (z := z) (sa := sa) (ws := u1)  hI ) ml_S_132 im_S_endTransaction se_S_endTransaction in_S cd_S_endTransaction (by decide +kernel) ⟨Nat.le_of_ble_eq_true rfl, Nat.le_of_ble_eq_true rfl⟩ (va_recv hK hP (ci := 5) rfl hI.x) (Pz_at hP hK hD hz hM hS) rfl hl.1 rfl (Nat.le_of_ble_eq_true rfl) d_S_settle_8 ⟨by show 2 * (nul ws - nul u1) + (2 * nul u1 + 1) ≤ 2 * nul ws + 1; omega, by show 257 * (nul ws - nul u1) + (257 * nul u1 + 6) ≤ 257 * nul ws + 6; omega⟩ hS (fun _ _ _ _ _ _ h => h.elim) (fun r9 u3 H locs hp hP hD hS => ?_)
  obtain ⟨v4, hI, hF9, hn9, hr9, nv4⟩ := hp
  subst hr9
  have hF := hF.trans hF9
  have hn : nul u3 ≤ nul ws := by omega
  refine W.widen (k := Kc ws u3) (n := Ks ws u3) (by show 2 * (nul ws - nul u1) + 2 * (nul u1 - nul u3) ≤ 2 * (nul ws - nul u3); omega) (by show 257 * (nul ws - nul u1) + 257 * (nul u1 - nul u3) ≤ 257 * (nul ws - nul u3); omega) ?_
  refine W.eq (g2 := F0 m 11 ls []) rfl ?_
  refine lv_aload_n hx hb d_S_settle_11 rfl (lv_at hl 0 rfl) ?_
  refine lv_iload_n hx hb d_S_settle_12 rfl (lv_at hl 1 rfl) ?_
  refine va_put (D := D) (ci := 5) (v := .int p9) (ty := .boolean) (C := R_S) (T := F_S) (N := 10) hx hb hts ws_S t_S ok_S n_S hown hK hP hD hS 0 hI.x rfl 5 (by decide) (hts _ fl_S_40) (fun _ h9 => h9) rfl (by decide +kernel) (nar01 hp01) (fit01 hp01) (Nat.le_of_ble_eq_true rfl) d_S_settle_13 (fun H locs hP hD hS => ?_)
  obtain ⟨v5, hv5⟩ : ∃ q : Nat → Int32, q = upd v4 0 p9 := ⟨_, rfl⟩
  have gv5 : v5 0 = p9 := by rw [hv5]; exact pk_us
  have nv5 : ∀ i, i ≠ 0 → v5 i = v4 i := fun i hi => by rw [hv5]; exact pk_un hi
  have hP : va_P D Cl (u3.set 0 (cX a v5)) H := by rw [hv5]; exact hP
  have hD : va_D (Az z) (u3.set 0 (cX a v5)) := by rw [hv5]; exact hD
  obtain ⟨w6, hw⟩ : ∃ q, q = u3.set 0 (cX a v5) := ⟨_, rfl⟩
  have hP : va_P D Cl (u3.set 0 (cX a v5)) H := hP
  have hD : va_D (Az z) (u3.set 0 (cX a v5)) := hD
  have hF : Fr t ws (u3.set 0 (cX a v5)) := hF.set (by decide) (by decide)
  have hI := hI.setX (v' := v5) (fun i hi => nv5 i (by omega)) (by rw [nv5 2 (by decide)]; exact hI.bd.1) (by rw [nv5 3 (by decide)]; exact hI.bd.2.1)
  have hq9 : nul (u3.set 0 (cX a v5)) = nul u3 := nul_set (by decide)
  rw [← hw] at hP hD hF hI hq9
  clear hw
  have hn : nul w6 ≤ nul ws := by omega
  refine W.widen (k := Kc ws w6) (n := Ks ws w6) (by show 2 * (nul ws - nul u3) ≤ 2 * (nul ws - nul w6); omega) (by show 257 * (nul ws - nul u3) ≤ 257 * (nul ws - nul w6); omega) ?_
  refine lv_iload_n hx hb d_S_settle_16 rfl (lv_at hl 1 rfl) ?_
  refine lv_if_ne (tgt := 30) hx hb d_S_settle_17 rfl (fun q7 => ?_) (fun q7 => ?_)
  · skip
    refine mu_end (u := w6) (v := (none)) ⟨_, hI, hF, hn, rfl, (fun i hi => by rw [nv5 i (by omega), nv4 i (by omega), nv2 i (by omega)]), by assumption⟩ (Nat.le_refl _) (Nat.le_refl _) ?_
    exact W.vret hx hb hr (fun t9 ht hW => ⟨rfl, ⟨by rw [ht]; exact hP, va_K.moved hW.alike hK, hD, by rw [ht]; exact Nat.le_trans hz hS.1⟩, hS.F ht⟩) hS.2.2 d_S_settle_30
  · skip
    exact mu_th (u := w6) hx hb hl0 hown hts hlocks hno hP hK hD hz hM hS (hl.1.trans hml.symm) (site_201_203_205) d_S_settle_20 d_S_settle_23 d_S_settle_24 d_S_settle_26 d_S_settle_29 (Nat.le_of_ble_eq_true rfl) (Nat.le_of_ble_eq_true rfl) (by show 2 * (nul ws - nul w6) + 1 ≤ 2 * nul ws + 1; omega) (by show 257 * (nul ws - nul w6) + 6 ≤ 257 * nul ws + 6; omega) (Nat.le_refl _) (Nat.le_refl _) ⟨rfl, by assumption, _, hI, hF, hn, by rw [gv5]; assumption⟩
