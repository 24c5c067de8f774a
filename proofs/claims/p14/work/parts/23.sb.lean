theorem told_split (a : Int32) : a = 0 ∨ a = 1 ∨ a = 2 ∨ a = 3 ∨ (a.toInt < 0 ∨ 3 < a.toInt) := by
  by_cases h1 : a.toInt < 0
  · exact Or.inr (Or.inr (Or.inr (Or.inr (Or.inl h1))))
  · by_cases h2 : 3 < a.toInt
    · exact Or.inr (Or.inr (Or.inr (Or.inr (Or.inr h2))))
    · have h : a.toInt = 0 ∨ a.toInt = 1 ∨ a.toInt = 2 ∨ a.toInt = 3 := by omega
      rcases h with h | h | h | h
      · exact Or.inl (Int32.toInt_inj.mp h)
      · exact Or.inr (Or.inl (Int32.toInt_inj.mp h))
      · exact Or.inr (Or.inr (Or.inl (Int32.toInt_inj.mp h)))
      · exact Or.inr (Or.inr (Or.inr (Or.inl (Int32.toInt_inj.mp h))))
set_option maxHeartbeats 4000000 in
set_option maxRecDepth 100000 in
theorem c_S_told {l : Launch} {D : va_G} {t : Nat → ClassId} {z : Nat} {sa : Nat → Nat} {ws : va_W} {a : Nat → Nat} {k0 : Nat} {v : Nat → Int32} {x9 : Int32} (hl0 : l.stackTraces = false) (hI : Iv a t k0 v ws) (hc1 : C1 v) : Mu l y_S_told (Cond.code y_S_told b_S_told 2 (some .int) :: WS) ({ frames := 6, cells := 2 * nul ws + 1, slots := 257 * nul ws + 6, locals := 82 }) D t z sa ws [.ref (a 0), .int x9] (fun r u => (∃ y, r = some (.int y)) ∧ So a t ws u) (fun E u => E = xIAE ∧ u = ws) (Kc ws) (Ks ws) := by
  refine mu_ofW (cc := b_S_told) (maxL := 2) (ret := (some .int)) (by decide) rfl ?_
  intro p e s m args below meth c s₁ B hml hno hv
  obtain ⟨rfl, ⟨hP, hK, hD, hz⟩, hM⟩ := hv
  have hx := B.exec
  have hb := B.bytes
  have hr := B.returns
  have hts : ∀ w ∈ WS, w.before [.ref (a 0), .int x9].toArray s = true := fun w h => atoms_spec B.pre w (List.mem_cons_of_mem _ h)
  have hown : s.vm.findClass R_S = some m.cls := findClass_of_methodNamed B.named
  have hlocks := B.notSynchronized
  have hA : ∀ q, s.heap.size ≤ q → Az z q := fun q h => Nat.le_trans hz h
  have hS : va_S (Az z) s.heap s.heap [] := va_S.rf
  have hF : Fr t ws ws := Fr.rf
  have hn : nul ws ≤ nul ws := Nat.le_refl _
  have hl := lv_entry ([.ref (a 0), .int x9]) (n := 2) (Nat.le_of_ble_eq_true rfl)
  rw [lg_entry_eq]
  generalize (lg_sl ([.ref (a 0), .int x9]) ++ List.replicate (2 - (lg_sl ([.ref (a 0), .int x9])).length) Slot.unset).toArray = ls at hl ⊢
  have hl : lv_has ls 2 [(0, .ref (a 0)), (1, .int x9)] := hl
  refine W.widen (k := Kc ws ws) (n := Ks ws ws) (Nat.zero_le _) (Nat.zero_le _) ?_
  refine lv_iload_n hx hb d_S_told_0 rfl (lv_at hl 1 rfl) ?_
  have ht9 := told_split x9
  rcases ht9 with g | g | g | g | g
  · subst g
    refine lv_tableIn (off := 31) (tgt := 32) hx hb d_S_told_1 (by decide) (by decide) (by decide) rfl ?_
    refine lv_aload_n hx hb d_S_told_32 rfl (lv_at hl 0 rfl) ?_
    refine va_get (D := D) (ci := 5) (v := .int (v 0)) (C := R_S) (T := F_S) (N := 10) hx hb hts ws_S hown hK hP 0 hI.x rfl 5 (by decide) (hts _ fl_S_40) (fun _ h9 => h9) rfl d_S_told_33 ?_
    refine lv_if_eq (tgt := 43) hx hb d_S_told_36 rfl (fun q1 => ?_) (fun q1 => ?_)
    · skip
      refine lv_iconst (v := 0) hx hb d_S_told_43 (by decide) ?_
      refine mu_end (u := ws) (v := (some (.int 0))) ⟨⟨_, rfl⟩, ⟨_, _, hI, hF, hn, hc1.eq rfl rfl⟩⟩ (Nat.le_refl _) (Nat.le_refl _) ?_
      exact W.iret (v := 0) hx hb hr (fun t9 ht hW => ⟨rfl, ⟨by rw [ht]; exact hP, va_K.moved hW.alike hK, hD, by rw [ht]; exact Nat.le_trans hz hS.1⟩, hS.F ht⟩) hS.2.2 d_S_told_44
    · skip
      refine lv_iconst (v := 1) hx hb d_S_told_39 (by decide) ?_
      refine lv_goto (tgt := 44) hx hb d_S_told_40 rfl ?_
      refine mu_end (u := ws) (v := (some (.int 1))) ⟨⟨_, rfl⟩, ⟨_, _, hI, hF, hn, hc1.eq rfl rfl⟩⟩ (Nat.le_refl _) (Nat.le_refl _) ?_
      exact W.iret (v := 1) hx hb hr (fun t9 ht hW => ⟨rfl, ⟨by rw [ht]; exact hP, va_K.moved hW.alike hK, hD, by rw [ht]; exact Nat.le_trans hz hS.1⟩, hS.F ht⟩) hS.2.2 d_S_told_44
  · subst g
    refine lv_tableIn (off := 44) (tgt := 45) hx hb d_S_told_1 (by decide) (by decide) (by decide) rfl ?_
    refine lv_aload_n hx hb d_S_told_45 rfl (lv_at hl 0 rfl) ?_
    refine va_get (D := D) (ci := 5) (v := .int (v 1)) (C := R_S) (T := F_S) (N := 10) hx hb hts ws_S hown hK hP 0 hI.x rfl 6 (by decide) (hts _ fl_S_44) (fun _ h9 => h9) rfl d_S_told_46 ?_
    refine lv_if_eq (tgt := 56) hx hb d_S_told_49 rfl (fun q2 => ?_) (fun q2 => ?_)
    · skip
      refine lv_iconst (v := 0) hx hb d_S_told_56 (by decide) ?_
      refine mu_end (u := ws) (v := (some (.int 0))) ⟨⟨_, rfl⟩, ⟨_, _, hI, hF, hn, hc1.eq rfl rfl⟩⟩ (Nat.le_refl _) (Nat.le_refl _) ?_
      exact W.iret (v := 0) hx hb hr (fun t9 ht hW => ⟨rfl, ⟨by rw [ht]; exact hP, va_K.moved hW.alike hK, hD, by rw [ht]; exact Nat.le_trans hz hS.1⟩, hS.F ht⟩) hS.2.2 d_S_told_57
    · skip
      refine lv_iconst (v := 1) hx hb d_S_told_52 (by decide) ?_
      refine lv_goto (tgt := 57) hx hb d_S_told_53 rfl ?_
      refine mu_end (u := ws) (v := (some (.int 1))) ⟨⟨_, rfl⟩, ⟨_, _, hI, hF, hn, hc1.eq rfl rfl⟩⟩ (Nat.le_refl _) (Nat.le_refl _) ?_
      exact W.iret (v := 1) hx hb hr (fun t9 ht hW => ⟨rfl, ⟨by rw [ht]; exact hP, va_K.moved hW.alike hK, hD, by rw [ht]; exact Nat.le_trans hz hS.1⟩, hS.F ht⟩) hS.2.2 d_S_told_57
  · subst g
    refine lv_tableIn (off := 57) (tgt := 58) hx hb d_S_told_1 (by decide) (by decide) (by decide) rfl ?_
    refine lv_aload_n hx hb d_S_told_58 rfl (lv_at hl 0 rfl) ?_
    refine va_get (D := D) (ci := 5) (v := .int (v 2)) (C := R_S) (T := F_S) (N := 10) hx hb hts ws_S hown hK hP 0 hI.x rfl 7 (by decide) (hts _ fl_S_47) (fun _ h9 => h9) rfl d_S_told_59 ?_
    refine mu_end (u := ws) (v := (some (.int (v 2)))) ⟨⟨_, rfl⟩, ⟨_, _, hI, hF, hn, hc1.eq rfl rfl⟩⟩ (Nat.le_refl _) (Nat.le_refl _) ?_
    exact W.iret (v := (v 2)) hx hb hr (fun t9 ht hW => ⟨rfl, ⟨by rw [ht]; exact hP, va_K.moved hW.alike hK, hD, by rw [ht]; exact Nat.le_trans hz hS.1⟩, hS.F ht⟩) hS.2.2 d_S_told_62
  · subst g
    refine lv_tableIn (off := 62) (tgt := 63) hx hb d_S_told_1 (by decide) (by decide) (by decide) rfl ?_
    refine lv_aload_n hx hb d_S_told_63 rfl (lv_at hl 0 rfl) ?_
    refine va_get (D := D) (ci := 5) (v := .int (v 4)) (C := R_S) (T := F_S) (N := 10) hx hb hts ws_S hown hK hP 0 hI.x rfl 9 (by decide) (hts _ fl_S_54) (fun _ h9 => h9) rfl d_S_told_64 ?_
    refine mu_end (u := ws) (v := (some (.int (v 4)))) ⟨⟨_, rfl⟩, ⟨_, _, hI, hF, hn, hc1.eq rfl rfl⟩⟩ (Nat.le_refl _) (Nat.le_refl _) ?_
    exact W.iret (v := (v 4)) hx hb hr (fun t9 ht hW => ⟨rfl, ⟨by rw [ht]; exact hP, va_K.moved hW.alike hK, hD, by rw [ht]; exact Nat.le_trans hz hS.1⟩, hS.F ht⟩) hS.2.2 d_S_told_67
  · skip
    refine lv_tableOut (tgt := 68) hx hb d_S_told_1 g rfl ?_
    exact mu_th (u := ws) hx hb hl0 hown hts hlocks hno hP hK hD hz hM hS (hl.1.trans hml.symm) (site_147_166_151) d_S_told_68 d_S_told_71 d_S_told_72 d_S_told_74 d_S_told_77 (Nat.le_of_ble_eq_true rfl) (Nat.le_of_ble_eq_true rfl) (by show 2 * (nul ws - nul ws) + 1 ≤ 2 * nul ws + 1; omega) (by show 257 * (nul ws - nul ws) + 6 ≤ 257 * nul ws + 6; omega) (Nat.le_refl _) (Nat.le_refl _) ⟨rfl, rfl⟩
set_option maxHeartbeats 4000000 in
set_option maxRecDepth 100000 in
theorem c_S_pagesInFile {l : Launch} {D : va_G} {t : Nat → ClassId} {z : Nat} {sa : Nat → Nat} {ws : va_W} {a : Nat → Nat} {k0 : Nat} {v : Nat → Int32}  (hI : Iv a t k0 v ws)  : Mu l y_S_pagesInFile (Cond.code y_S_pagesInFile b_S_pagesInFile 1 (some .int) :: WS) ({ frames := 1, cells := 2 * nul ws + 1, slots := 257 * nul ws + 6, locals := 20 }) D t z sa ws [.ref (a 0)] (fun r u => ∃ y, r = some (.int y) ∧ u = ws ∧ ∃ C : Nat, C ≤ 768 ∧ y = nI C) Xno (Kc ws) (Ks ws) := by
  refine mu_ofW (cc := b_S_pagesInFile) (maxL := 1) (ret := (some .int)) (by decide) rfl ?_
  intro p e s m args below meth c s₁ B hml hno hv
  obtain ⟨rfl, ⟨hP, hK, hD, hz⟩, hM⟩ := hv
  have hx := B.exec
  have hb := B.bytes
  have hr := B.returns
  have hts : ∀ w ∈ WS, w.before [.ref (a 0)].toArray s = true := fun w h => atoms_spec B.pre w (List.mem_cons_of_mem _ h)
  have hown : s.vm.findClass R_S = some m.cls := findClass_of_methodNamed B.named
  have hlocks := B.notSynchronized
  have hA : ∀ q, s.heap.size ≤ q → Az z q := fun q h => Nat.le_trans hz h
  have hS : va_S (Az z) s.heap s.heap [] := va_S.rf
  have hF : Fr t ws ws := Fr.rf
  have hn : nul ws ≤ nul ws := Nat.le_refl _
  have hl := lv_entry ([.ref (a 0)]) (n := 1) (Nat.le_of_ble_eq_true rfl)
  rw [lg_entry_eq]
  generalize (lg_sl ([.ref (a 0)]) ++ List.replicate (1 - (lg_sl ([.ref (a 0)])).length) Slot.unset).toArray = ls at hl ⊢
  have hl : lv_has ls 1 [(0, .ref (a 0))] := hl
  refine W.widen (k := Kc ws ws) (n := Ks ws ws) (Nat.zero_le _) (Nat.zero_le _) ?_
  refine lv_aload_n hx hb d_S_pagesInFile_0 rfl (lv_at hl 0 rfl) ?_
  refine va_get (D := D) (ci := 5) (v := .ref (a 1)) (C := R_S) (T := F_S) (N := 10) hx hb hts ws_S hown hK hP 0 hI.x rfl 0 (by decide) (hts _ fl_S_15) (fun _ h9 => h9) rfl d_S_pagesInFile_1 ?_
  refine mu_V (n := 0) (As := []) (rest := []) ⟨hx, hb, hml, hown, hts⟩ (c_Y_length_f (D := D) (t := t) (z := z) (sa := sa) (ws := ws)  hI ) ml_S_206 im_Y_length se_Y_length in_Y cd_Y_length (by decide +kernel) ⟨Nat.le_of_ble_eq_true rfl, Nat.le_of_ble_eq_true rfl⟩ (va_recv hK hP (ci := 3) rfl hI.y1) (Pz_at hP hK hD hz hM hS) rfl hl.1 rfl (Nat.le_of_ble_eq_true rfl) d_S_pagesInFile_4 ⟨by show 2 * (nul ws - nul ws) + (2 * nul ws + 1) ≤ 2 * nul ws + 1; omega, by show 257 * (nul ws - nul ws) + (257 * nul ws + 6) ≤ 257 * nul ws + 6; omega⟩ hS (fun _ _ _ _ _ _ h => h.elim) (fun r9 u1 H locs hp hP hD hS => ?_)
  obtain ⟨hr9, hw9⟩ := hp
  rw [hw9] at hP hD
  subst hr9
  refine W.widen (k := Kc ws ws) (n := Ks ws ws) (by rw [hw9]; show 2 * (nul ws - nul ws) + 2 * (nul ws - nul ws) ≤ 2 * (nul ws - nul ws); omega) (by rw [hw9]; show 257 * (nul ws - nul ws) + 257 * (nul ws - nul ws) ≤ 257 * (nul ws - nul ws); omega) ?_
  clear hw9
  refine W.eq (g2 := F0 m 7 ls [.int (v 5)]) rfl ?_
  refine lv_sipush (v := 256) hx hb d_S_pagesInFile_7 (by decide) ?_
  refine lv_idiv hx hb d_S_pagesInFile_10 (by decide) ?_
  obtain ⟨F9, hF1, hF2⟩ := hI.bd.2.2.1
  refine lv_topi (fun y9 hy9 => ?_)
  have hy9 : y9 = nI (F9 / 256) := by rw [hy9, hF2]; exact div256 hF1
  refine mu_end (u := ws) (v := (some (.int y9))) ⟨_, rfl, rfl, F9 / 256, by omega, hy9⟩ (Nat.le_refl _) (Nat.le_refl _) ?_
  exact W.iret (v := y9) hx hb hr (fun t9 ht hW => ⟨rfl, ⟨by rw [ht]; exact hP, va_K.moved hW.alike hK, hD, by rw [ht]; exact Nat.le_trans hz hS.1⟩, hS.F ht⟩) hS.2.2 d_S_pagesInFile_11
set_option maxHeartbeats 4000000 in
set_option maxRecDepth 100000 in
theorem c_S_endTransaction {l : Launch} {D : va_G} {t : Nat → ClassId} {z : Nat} {sa : Nat → Nat} {ws : va_W} {a : Nat → Nat} {k0 : Nat} {v : Nat → Int32}  (hI : Iv a t k0 v ws)  : Mu l y_S_endTransaction (Cond.code y_S_endTransaction b_S_endTransaction 1 (.none : Option Jvm.ClassFile.FieldType) :: WS) ({ frames := 2, cells := 2 * nul ws + 1, slots := 257 * nul ws + 6, locals := 40 }) D t z sa ws [.ref (a 0)] (fun r u => ∃ v1, Iv a t k0 v1 u ∧ Fr t ws u ∧ nul u ≤ nul ws ∧ r = none ∧ (∀ i, i = 0 ∨ i = 4 ∨ (5 ≤ i ∧ i < 11) → v1 i = v i)) Xno (Kc ws) (Ks ws) := by
  refine mu_ofW (cc := b_S_endTransaction) (maxL := 1) (ret := (.none : Option Jvm.ClassFile.FieldType)) (by decide) rfl ?_
  intro p e s m args below meth c s₁ B hml hno hv
  obtain ⟨rfl, ⟨hP, hK, hD, hz⟩, hM⟩ := hv
  have hx := B.exec
  have hb := B.bytes
  have hr := B.returns
  have hts : ∀ w ∈ WS, w.before [.ref (a 0)].toArray s = true := fun w h => atoms_spec B.pre w (List.mem_cons_of_mem _ h)
  have hown : s.vm.findClass R_S = some m.cls := findClass_of_methodNamed B.named
  have hlocks := B.notSynchronized
  have hA : ∀ q, s.heap.size ≤ q → Az z q := fun q h => Nat.le_trans hz h
  have hS : va_S (Az z) s.heap s.heap [] := va_S.rf
  have hF : Fr t ws ws := Fr.rf
  have hn : nul ws ≤ nul ws := Nat.le_refl _
  have hl := lv_entry ([.ref (a 0)]) (n := 1) (Nat.le_of_ble_eq_true rfl)
  rw [lg_entry_eq]
  generalize (lg_sl ([.ref (a 0)]) ++ List.replicate (1 - (lg_sl ([.ref (a 0)])).length) Slot.unset).toArray = ls at hl ⊢
  have hl : lv_has ls 1 [(0, .ref (a 0))] := hl
  refine W.widen (k := Kc ws ws) (n := Ks ws ws) (Nat.zero_le _) (Nat.zero_le _) ?_
  refine lv_aload_n hx hb d_S_endTransaction_0 rfl (lv_at hl 0 rfl) ?_
  refine lv_iconst (v := 0) hx hb d_S_endTransaction_1 (by decide) ?_
  refine va_put (D := D) (ci := 5) (v := .int 0) (ty := .boolean) (C := R_S) (T := F_S) (N := 10) hx hb hts ws_S t_S ok_S n_S hown hK hP hD hS 0 hI.x rfl 6 (by decide) (hts _ fl_S_44) (fun _ h9 => h9) rfl (by decide +kernel) rfl rfl (Nat.le_of_ble_eq_true rfl) d_S_endTransaction_2 (fun H locs hP hD hS => ?_)
  obtain ⟨v1, hv1⟩ : ∃ q : Nat → Int32, q = upd v 1 0 := ⟨_, rfl⟩
  have gv1 : v1 1 = 0 := by rw [hv1]; exact pk_us
  have nv1 : ∀ i, i ≠ 1 → v1 i = v i := fun i hi => by rw [hv1]; exact pk_un hi
  have hP : va_P D Cl (ws.set 0 (cX a v1)) H := by rw [hv1]; exact hP
  have hD : va_D (Az z) (ws.set 0 (cX a v1)) := by rw [hv1]; exact hD
  obtain ⟨w2, hw⟩ : ∃ q, q = ws.set 0 (cX a v1) := ⟨_, rfl⟩
  have hP : va_P D Cl (ws.set 0 (cX a v1)) H := hP
  have hD : va_D (Az z) (ws.set 0 (cX a v1)) := hD
  have hF : Fr t ws (ws.set 0 (cX a v1)) := hF.set (by decide) (by decide)
  have hI := hI.setX (v' := v1) (fun i hi => nv1 i (by omega)) (by rw [nv1 2 (by decide)]; exact hI.bd.1) (by rw [nv1 3 (by decide)]; exact hI.bd.2.1)
  have hq9 : nul (ws.set 0 (cX a v1)) = nul ws := nul_set (by decide)
  rw [← hw] at hP hD hF hI hq9
  clear hw
  have hn : nul w2 ≤ nul ws := by omega
  refine W.widen (k := Kc ws w2) (n := Ks ws w2) (by show 2 * (nul ws - nul ws) ≤ 2 * (nul ws - nul w2); omega) (by show 257 * (nul ws - nul ws) ≤ 257 * (nul ws - nul w2); omega) ?_
  refine lv_aload_n hx hb d_S_endTransaction_5 rfl (lv_at hl 0 rfl) ?_
  refine lv_iconst (v := 0) hx hb d_S_endTransaction_6 (by decide) ?_
  refine va_put (D := D) (ci := 5) (v := .int 0) (ty := .int) (C := R_S) (T := F_S) (N := 10) hx hb hts ws_S t_S ok_S n_S hown hK hP hD hS 0 hI.x rfl 7 (by decide) (hts _ fl_S_47) (fun _ h9 => h9) rfl (by decide +kernel) rfl rfl (Nat.le_of_ble_eq_true rfl) d_S_endTransaction_7 (fun H locs hP hD hS => ?_)
  obtain ⟨v3, hv3⟩ : ∃ q : Nat → Int32, q = upd v1 2 0 := ⟨_, rfl⟩
  have gv3 : v3 2 = 0 := by rw [hv3]; exact pk_us
  have nv3 : ∀ i, i ≠ 2 → v3 i = v1 i := fun i hi => by rw [hv3]; exact pk_un hi
  have hP : va_P D Cl (w2.set 0 (cX a v3)) H := by rw [hv3]; exact hP
  have hD : va_D (Az z) (w2.set 0 (cX a v3)) := by rw [hv3]; exact hD
  obtain ⟨w4, hw⟩ : ∃ q, q = w2.set 0 (cX a v3) := ⟨_, rfl⟩
  have hP : va_P D Cl (w2.set 0 (cX a v3)) H := hP
  have hD : va_D (Az z) (w2.set 0 (cX a v3)) := hD
  have hF : Fr t ws (w2.set 0 (cX a v3)) := hF.set (by decide) (by decide)
  have hI := hI.setX (v' := v3) (fun i hi => nv3 i (by omega)) ⟨0, by decide, gv3⟩ (by rw [nv3 3 (by decide)]; exact hI.bd.2.1)
  have hq9 : nul (w2.set 0 (cX a v3)) = nul w2 := nul_set (by decide)
  rw [← hw] at hP hD hF hI hq9
  clear hw
  have hn : nul w4 ≤ nul ws := by omega
  refine W.widen (k := Kc ws w4) (n := Ks ws w4) (by show 2 * (nul ws - nul w2) ≤ 2 * (nul ws - nul w4); omega) (by show 257 * (nul ws - nul w2) ≤ 257 * (nul ws - nul w4); omega) ?_
  refine lv_aload_n hx hb d_S_endTransaction_10 rfl (lv_at hl 0 rfl) ?_
  refine lv_aload_n hx hb d_S_endTransaction_11 rfl (lv_at hl 0 rfl) ?_
  refine mu_V (n := 0) (As := []) (rest := [.ref (a 0)]) ⟨hx, hb, hml, hown, hts⟩ (c_S_pagesInFile (D := D) (t := t) (z := z) (sa := sa) (ws := w4)  hI ) ml_S_195 im_S_pagesInFile se_S_pagesInFile in_S cd_S_pagesInFile (by decide +kernel) ⟨Nat.le_of_ble_eq_true rfl, Nat.le_of_ble_eq_true rfl⟩ (va_recv hK hP (ci := 5) rfl hI.x) (Pz_at hP hK hD hz hM hS) rfl hl.1 rfl (Nat.le_of_ble_eq_true rfl) d_S_endTransaction_12 ⟨by show 2 * (nul ws - nul w4) + (2 * nul w4 + 1) ≤ 2 * nul ws + 1; omega, by show 257 * (nul ws - nul w4) + (257 * nul w4 + 6) ≤ 257 * nul ws + 6; omega⟩ hS (fun _ _ _ _ _ _ h => h.elim) (fun r9 u5 H locs hp hP hD hS => ?_)
  obtain ⟨yc, hr9, hw9, C9, hC8, hC9⟩ := hp
  rw [hw9] at hP hD
  subst hr9
  refine W.widen (k := Kc ws w4) (n := Ks ws w4) (by rw [hw9]; show 2 * (nul ws - nul w4) + 2 * (nul w4 - nul w4) ≤ 2 * (nul ws - nul w4); omega) (by rw [hw9]; show 257 * (nul ws - nul w4) + 257 * (nul w4 - nul w4) ≤ 257 * (nul ws - nul w4); omega) ?_
  clear hw9
  refine W.eq (g2 := F0 m 15 ls [.int yc, .ref (a 0)]) rfl ?_
  refine va_put (D := D) (ci := 5) (v := .int yc) (ty := .int) (C := R_S) (T := F_S) (N := 10) hx hb hts ws_S t_S ok_S n_S hown hK hP hD hS 0 hI.x rfl 8 (by decide) (hts _ fl_S_51) (fun _ h9 => h9) rfl (by decide +kernel) rfl rfl (Nat.le_of_ble_eq_true rfl) d_S_endTransaction_15 (fun H locs hP hD hS => ?_)
  obtain ⟨v6, hv6⟩ : ∃ q : Nat → Int32, q = upd v3 3 yc := ⟨_, rfl⟩
  have gv6 : v6 3 = yc := by rw [hv6]; exact pk_us
  have nv6 : ∀ i, i ≠ 3 → v6 i = v3 i := fun i hi => by rw [hv6]; exact pk_un hi
  have hP : va_P D Cl (w4.set 0 (cX a v6)) H := by rw [hv6]; exact hP
  have hD : va_D (Az z) (w4.set 0 (cX a v6)) := by rw [hv6]; exact hD
  obtain ⟨w7, hw⟩ : ∃ q, q = w4.set 0 (cX a v6) := ⟨_, rfl⟩
  have hP : va_P D Cl (w4.set 0 (cX a v6)) H := hP
  have hD : va_D (Az z) (w4.set 0 (cX a v6)) := hD
  have hF : Fr t ws (w4.set 0 (cX a v6)) := hF.set (by decide) (by decide)
  have hI := hI.setX (v' := v6) (fun i hi => nv6 i (by omega)) (by rw [nv6 2 (by decide)]; exact hI.bd.1) ⟨C9, hC8, by rw [gv6]; exact hC9⟩
  have hq9 : nul (w4.set 0 (cX a v6)) = nul w4 := nul_set (by decide)
  rw [← hw] at hP hD hF hI hq9
  clear hw
  have hn : nul w7 ≤ nul ws := by omega
  refine W.widen (k := Kc ws w7) (n := Ks ws w7) (by show 2 * (nul ws - nul w4) ≤ 2 * (nul ws - nul w7); omega) (by show 257 * (nul ws - nul w4) ≤ 257 * (nul ws - nul w7); omega) ?_
  refine lv_aload_n hx hb d_S_endTransaction_18 rfl (lv_at hl 0 rfl) ?_
  refine va_get (D := D) (ci := 5) (v := .ref (a 7)) (C := R_S) (T := F_S) (N := 10) hx hb hts ws_S hown hK hP 0 hI.x rfl 2 (by decide) (hts _ fl_S_25) (fun _ h9 => h9) rfl d_S_endTransaction_19 ?_
  refine lv_iconst (v := 0) hx hb d_S_endTransaction_22 (by decide) ?_
  have h0 : 0 < 6 := by decide
  obtain ⟨gl, e7, g7⟩ := hI.l7
  refine va_aldq (D := D) hx hb hK hP 7 3 e7 rfl (i := 0) (by unfold vp_in; decide) d_S_endTransaction_23 ?_
  refine W.eq (g2 := F0 m 24 ls [.ref (a (10 + 4 * 0))]) (by rw [cl0, g7 0 h0]; rfl) ?_
  refine lv_aload_n hx hb d_S_endTransaction_24 rfl (lv_at hl 0 rfl) ?_
  refine va_get (D := D) (ci := 5) (v := .int (v6 3)) (C := R_S) (T := F_S) (N := 10) hx hb hts ws_S hown hK hP 0 hI.x rfl 8 (by decide) (hts _ fl_S_51) (fun _ h9 => h9) rfl d_S_endTransaction_25 ?_
  obtain ⟨P9, hP8, hP9⟩ := hI.bd.2.1
  refine mu_V (n := 1) (As := [.int (v6 3)]) (rest := []) ⟨hx, hb, hml, hown, hts⟩ (c_Z_lay (D := D) (t := t) (z := z) (sa := sa) (ws := w7) (j := 0) (bl := (v6 3)) (P9 := P9) hI h0 hP8 hP9) ml_S_137 im_Z_lay se_Z_lay in_Z cd_Z_lay (by decide +kernel) ⟨Nat.le_of_ble_eq_true rfl, Nat.le_of_ble_eq_true rfl⟩ (va_recv hK hP (ci := 4) rfl (hI.z h0)) (Pz_at hP hK hD hz hM hS) rfl hl.1 rfl (Nat.le_of_ble_eq_true rfl) d_S_endTransaction_28 ⟨by show 2 * (nul ws - nul w7) + (2 * nul w7 + 1) ≤ 2 * nul ws + 1; omega, by show 257 * (nul ws - nul w7) + (257 * nul w7 + 6) ≤ 257 * nul ws + 6; omega⟩ hS (fun _ _ _ _ _ _ h => h.elim) (fun r9 u8 H locs hp hP hD hS => ?_)
  obtain ⟨v10, hI, hF9, hn9, hr9, nv10, -⟩ := hp
  subst hr9
  have hF := hF.trans hF9
  have hn : nul u8 ≤ nul ws := by omega
  refine W.widen (k := Kc ws u8) (n := Ks ws u8) (by show 2 * (nul ws - nul w7) + 2 * (nul w7 - nul u8) ≤ 2 * (nul ws - nul u8); omega) (by show 257 * (nul ws - nul w7) + 257 * (nul w7 - nul u8) ≤ 257 * (nul ws - nul u8); omega) ?_
  refine W.eq (g2 := F0 m 31 ls []) rfl ?_
  refine mu_end (u := u8) (v := (none)) ⟨_, hI, hF, hn, rfl, (fun i hi => by rw [nv10 i (by omega), nv6 i (by omega), nv3 i (by omega), nv1 i (by omega)])⟩ (Nat.le_refl _) (Nat.le_refl _) ?_
  exact W.vret hx hb hr (fun t9 ht hW => ⟨rfl, ⟨by rw [ht]; exact hP, va_K.moved hW.alike hK, hD, by rw [ht]; exact Nat.le_trans hz hS.1⟩, hS.F ht⟩) hS.2.2 d_S_endTransaction_31
set_option maxHeartbeats 4000000 in
set_option maxRecDepth 100000 in
theorem c_S_rollback {l : Launch} {D : va_G} {t : Nat → ClassId} {z : Nat} {sa : Nat → Nat} {ws : va_W} {a : Nat → Nat} {k0 : Nat} {v : Nat → Int32}  (hl0 : l.stackTraces = false) (hI : Iv a t k0 v ws) (hc1 : C1 v)  : Mu l y_S_rollback (Cond.code y_S_rollback b_S_rollback 1 (.none : Option Jvm.ClassFile.FieldType) :: WS) ({ frames := 8, cells := 2 * nul ws + 1, slots := 257 * nul ws + 6, locals := 122 }) D t z sa ws [.ref (a 0)] (fun r u => r = none ∧ So a t ws u) (fun E u => (E = xISE) ∧ u = ws) (Kc ws) (Ks ws) := by
  refine mu_ofW (cc := b_S_rollback) (maxL := 1) (ret := (.none : Option Jvm.ClassFile.FieldType)) (by decide) rfl ?_
  intro p e s m args below meth c s₁ B hml hno hv
  obtain ⟨rfl, ⟨hP, hK, hD, hz⟩, hM⟩ := hv
  have hx := B.exec
  have hb := B.bytes
  have hr := B.returns
  have hts : ∀ w ∈ WS, w.before [.ref (a 0)].toArray s = true := fun w h => atoms_spec B.pre w (List.mem_cons_of_mem _ h)
  have hown : s.vm.findClass R_S = some m.cls := findClass_of_methodNamed B.named
  have hlocks := B.notSynchronized
  have hA : ∀ q, s.heap.size ≤ q → Az z q := fun q h => Nat.le_trans hz h
  have hS : va_S (Az z) s.heap s.heap [] := va_S.rf
  have hF : Fr t ws ws := Fr.rf
  have hn : nul ws ≤ nul ws := Nat.le_refl _
  have hl := lv_entry ([.ref (a 0)]) (n := 1) (Nat.le_of_ble_eq_true rfl)
  rw [lg_entry_eq]
  generalize (lg_sl ([.ref (a 0)]) ++ List.replicate (1 - (lg_sl ([.ref (a 0)])).length) Slot.unset).toArray = ls at hl ⊢
  have hl : lv_has ls 1 [(0, .ref (a 0))] := hl
  refine W.widen (k := Kc ws ws) (n := Ks ws ws) (Nat.zero_le _) (Nat.zero_le _) ?_
  refine lv_aload_n hx hb d_S_rollback_0 rfl (lv_at hl 0 rfl) ?_
  refine mu_V (n := 0) (As := []) (rest := []) ⟨hx, hb, hml, hown, hts⟩ (c_S_requireOpen (D := D) (t := t) (z := z) (sa := sa) (ws := ws)  hl0 hI ) ml_S_61 im_S_requireOpen se_S_requireOpen in_S cd_S_requireOpen (by decide +kernel) ⟨Nat.le_of_ble_eq_true rfl, Nat.le_of_ble_eq_true rfl⟩ (va_recv hK hP (ci := 5) rfl hI.x) (Pz_at hP hK hD hz hM hS) rfl hl.1 rfl (Nat.le_of_ble_eq_true rfl) d_S_rollback_1 ⟨by show 2 * (nul ws - nul ws) + (2 * nul ws + 1) ≤ 2 * nul ws + 1; omega, by show 257 * (nul ws - nul ws) + (257 * nul ws + 6) ≤ 257 * nul ws + 6; omega⟩ hS (fun E ce q u H locs hxp hP hD hS h1 h2 h3 => by obtain ⟨hE, hu⟩ := hxp; rw [hu] at hP hD; exact mu_out (u := ws) hno hlocks h1 h2 h3 hP hK hD hz hS ⟨(by simp [hE]), rfl⟩ (by rw [hu]; show 2 * (nul ws - nul ws) + (2 * (nul ws - nul ws) + 1) ≤ 2 * (nul ws - nul ws) + 1; omega) (by rw [hu]; show 257 * (nul ws - nul ws) + (257 * (nul ws - nul ws) + 6) ≤ 257 * (nul ws - nul ws) + 6; omega)) (fun r9 u1 H locs hp hP hD hS => ?_)
  obtain ⟨hr9, hw9, h01⟩ := hp
  rw [hw9] at hP hD
  subst hr9
  refine W.widen (k := Kc ws ws) (n := Ks ws ws) (by rw [hw9]; show 2 * (nul ws - nul ws) + 2 * (nul ws - nul ws) ≤ 2 * (nul ws - nul ws); omega) (by rw [hw9]; show 257 * (nul ws - nul ws) + 257 * (nul ws - nul ws) ≤ 257 * (nul ws - nul ws); omega) ?_
  clear hw9
  refine W.eq (g2 := F0 m 4 ls []) rfl ?_
  refine lv_aload_n hx hb d_S_rollback_4 rfl (lv_at hl 0 rfl) ?_
  refine mu_V (n := 0) (As := []) (rest := []) ⟨hx, hb, hml, hown, hts⟩ (c_S_endTransaction (D := D) (t := t) (z := z) (sa := sa) (ws := ws)  hI ) ml_S_132 im_S_endTransaction se_S_endTransaction in_S cd_S_endTransaction (by decide +kernel) ⟨Nat.le_of_ble_eq_true rfl, Nat.le_of_ble_eq_true rfl⟩ (va_recv hK hP (ci := 5) rfl hI.x) (Pz_at hP hK hD hz hM hS) rfl hl.1 rfl (Nat.le_of_ble_eq_true rfl) d_S_rollback_5 ⟨by show 2 * (nul ws - nul ws) + (2 * nul ws + 1) ≤ 2 * nul ws + 1; omega, by show 257 * (nul ws - nul ws) + (257 * nul ws + 6) ≤ 257 * nul ws + 6; omega⟩ hS (fun _ _ _ _ _ _ h => h.elim) (fun r9 u2 H locs hp hP hD hS => ?_)
  obtain ⟨v3, hI, hF9, hn9, hr9, nv3⟩ := hp
  subst hr9
  have hF := hF.trans hF9
  have hn : nul u2 ≤ nul ws := by omega
  refine W.widen (k := Kc ws u2) (n := Ks ws u2) (by show 2 * (nul ws - nul ws) + 2 * (nul ws - nul u2) ≤ 2 * (nul ws - nul u2); omega) (by show 257 * (nul ws - nul ws) + 257 * (nul ws - nul u2) ≤ 257 * (nul ws - nul u2); omega) ?_
  refine W.eq (g2 := F0 m 8 ls []) rfl ?_
  refine mu_end (u := u2) (v := (none)) ⟨rfl, ⟨_, _, hI, hF, hn, hc1.eq (by rw [nv3 0 (by omega)]) (by rw [nv3 6 (by omega)])⟩⟩ (Nat.le_refl _) (Nat.le_refl _) ?_
  exact W.vret hx hb hr (fun t9 ht hW => ⟨rfl, ⟨by rw [ht]; exact hP, va_K.moved hW.alike hK, hD, by rw [ht]; exact Nat.le_trans hz hS.1⟩, hS.F ht⟩) hS.2.2 d_S_rollback_8
set_option maxHeartbeats 4000000 in
set_option maxRecDepth 100000 in
theorem c_S_mark {l : Launch} {D : va_G} {t : Nat → ClassId} {z : Nat} {sa : Nat → Nat} {ws : va_W} {a : Nat → Nat} {k0 : Nat} {v : Nat → Int32}  (hl0 : l.stackTraces = false) (hI : Iv a t k0 v ws) (hc1 : C1 v)  : Mu l y_S_mark (Cond.code y_S_mark b_S_mark 1 (some .int) :: WS) ({ frames := 8, cells := 2 * nul ws + 1, slots := 257 * nul ws + 6, locals := 122 }) D t z sa ws [.ref (a 0)] (fun r u => (∃ y, r = some (.int y)) ∧ So a t ws u) (fun E u => (E = xISE) ∧ u = ws) (Kc ws) (Ks ws) := by
  refine mu_ofW (cc := b_S_mark) (maxL := 1) (ret := (some .int)) (by decide) rfl ?_
  intro p e s m args below meth c s₁ B hml hno hv
  obtain ⟨rfl, ⟨hP, hK, hD, hz⟩, hM⟩ := hv
  have hx := B.exec
  have hb := B.bytes
  have hr := B.returns
  have hts : ∀ w ∈ WS, w.before [.ref (a 0)].toArray s = true := fun w h => atoms_spec B.pre w (List.mem_cons_of_mem _ h)
  have hown : s.vm.findClass R_S = some m.cls := findClass_of_methodNamed B.named
  have hlocks := B.notSynchronized
  have hA : ∀ q, s.heap.size ≤ q → Az z q := fun q h => Nat.le_trans hz h
  have hS : va_S (Az z) s.heap s.heap [] := va_S.rf
  have hF : Fr t ws ws := Fr.rf
  have hn : nul ws ≤ nul ws := Nat.le_refl _
  have hl := lv_entry ([.ref (a 0)]) (n := 1) (Nat.le_of_ble_eq_true rfl)
  rw [lg_entry_eq]
  generalize (lg_sl ([.ref (a 0)]) ++ List.replicate (1 - (lg_sl ([.ref (a 0)])).length) Slot.unset).toArray = ls at hl ⊢
  have hl : lv_has ls 1 [(0, .ref (a 0))] := hl
  refine W.widen (k := Kc ws ws) (n := Ks ws ws) (Nat.zero_le _) (Nat.zero_le _) ?_
  refine lv_aload_n hx hb d_S_mark_0 rfl (lv_at hl 0 rfl) ?_
  refine mu_V (n := 0) (As := []) (rest := []) ⟨hx, hb, hml, hown, hts⟩ (c_S_requireOpen (D := D) (t := t) (z := z) (sa := sa) (ws := ws)  hl0 hI ) ml_S_61 im_S_requireOpen se_S_requireOpen in_S cd_S_requireOpen (by decide +kernel) ⟨Nat.le_of_ble_eq_true rfl, Nat.le_of_ble_eq_true rfl⟩ (va_recv hK hP (ci := 5) rfl hI.x) (Pz_at hP hK hD hz hM hS) rfl hl.1 rfl (Nat.le_of_ble_eq_true rfl) d_S_mark_1 ⟨by show 2 * (nul ws - nul ws) + (2 * nul ws + 1) ≤ 2 * nul ws + 1; omega, by show 257 * (nul ws - nul ws) + (257 * nul ws + 6) ≤ 257 * nul ws + 6; omega⟩ hS (fun E ce q u H locs hxp hP hD hS h1 h2 h3 => by obtain ⟨hE, hu⟩ := hxp; rw [hu] at hP hD; exact mu_out (u := ws) hno hlocks h1 h2 h3 hP hK hD hz hS ⟨(by simp [hE]), rfl⟩ (by rw [hu]; show 2 * (nul ws - nul ws) + (2 * (nul ws - nul ws) + 1) ≤ 2 * (nul ws - nul ws) + 1; omega) (by rw [hu]; show 257 * (nul ws - nul ws) + (257 * (nul ws - nul ws) + 6) ≤ 257 * (nul ws - nul ws) + 6; omega)) (fun r9 u1 H locs hp hP hD hS => ?_)
  obtain ⟨hr9, hw9, h01⟩ := hp
  rw [hw9] at hP hD
  subst hr9
  refine W.widen (k := Kc ws ws) (n := Ks ws ws) (by rw [hw9]; show 2 * (nul ws - nul ws) + 2 * (nul ws - nul ws) ≤ 2 * (nul ws - nul ws); omega) (by rw [hw9]; show 257 * (nul ws - nul ws) + 257 * (nul ws - nul ws) ≤ 257 * (nul ws - nul ws); omega) ?_
  clear hw9
  refine W.eq (g2 := F0 m 4 ls []) rfl ?_
  refine lv_aload_n hx hb d_S_mark_4 rfl (lv_at hl 0 rfl) ?_
  refine va_get (D := D) (ci := 5) (v := .int (v 2)) (C := R_S) (T := F_S) (N := 10) hx hb hts ws_S hown hK hP 0 hI.x rfl 7 (by decide) (hts _ fl_S_47) (fun _ h9 => h9) rfl d_S_mark_5 ?_
  refine lv_iconst (v := 5) hx hb d_S_mark_8 (by decide) ?_
  refine lv_icmp_lt (tgt := 22) hx hb d_S_mark_9 rfl (fun q2 => ?_) (fun q2 => ?_)
  · skip
    refine lv_aload_n hx hb d_S_mark_22 rfl (lv_at hl 0 rfl) ?_
    refine lv_dup hx hb d_S_mark_23 rfl ?_
    refine va_get (D := D) (ci := 5) (v := .int (v 2)) (C := R_S) (T := F_S) (N := 10) hx hb hts ws_S hown hK hP 0 hI.x rfl 7 (by decide) (hts _ fl_S_47) (fun _ h9 => h9) rfl d_S_mark_24 ?_
    refine lv_iconst (v := 1) hx hb d_S_mark_27 (by decide) ?_
    refine lv_iadd hx hb d_S_mark_28 ?_
    obtain ⟨M9, hM1, hM2⟩ := hI.bd.1
    have hM3 : M9 < 5 := (nI_ltI (b := 5) (by omega) (by decide)).mp (by rw [← hM2]; assumption)
    refine lv_topi (fun y9 hy9 => ?_)
    have hy9 : y9 = nI (M9 + 1) := by rw [hy9, hM2]; exact nI_1 M9
    refine va_put (D := D) (ci := 5) (v := .int y9) (ty := .int) (C := R_S) (T := F_S) (N := 10) hx hb hts ws_S t_S ok_S n_S hown hK hP hD hS 0 hI.x rfl 7 (by decide) (hts _ fl_S_47) (fun _ h9 => h9) rfl (by decide +kernel) rfl rfl (Nat.le_of_ble_eq_true rfl) d_S_mark_29 (fun H locs hP hD hS => ?_)
    obtain ⟨v3, hv3⟩ : ∃ q : Nat → Int32, q = upd v 2 y9 := ⟨_, rfl⟩
    have gv3 : v3 2 = y9 := by rw [hv3]; exact pk_us
    have nv3 : ∀ i, i ≠ 2 → v3 i = v i := fun i hi => by rw [hv3]; exact pk_un hi
    have hP : va_P D Cl (ws.set 0 (cX a v3)) H := by rw [hv3]; exact hP
    have hD : va_D (Az z) (ws.set 0 (cX a v3)) := by rw [hv3]; exact hD
    obtain ⟨w4, hw⟩ : ∃ q, q = ws.set 0 (cX a v3) := ⟨_, rfl⟩
    have hP : va_P D Cl (ws.set 0 (cX a v3)) H := hP
    have hD : va_D (Az z) (ws.set 0 (cX a v3)) := hD
    have hF : Fr t ws (ws.set 0 (cX a v3)) := hF.set (by decide) (by decide)
    have hI := hI.setX (v' := v3) (fun i hi => nv3 i (by omega)) ⟨M9 + 1, by omega, by rw [gv3]; exact hy9⟩ (by rw [nv3 3 (by decide)]; exact hI.bd.2.1)
    have hq9 : nul (ws.set 0 (cX a v3)) = nul ws := nul_set (by decide)
    rw [← hw] at hP hD hF hI hq9
    clear hw
    have hn : nul w4 ≤ nul ws := by omega
    refine W.widen (k := Kc ws w4) (n := Ks ws w4) (by show 2 * (nul ws - nul ws) ≤ 2 * (nul ws - nul w4); omega) (by show 257 * (nul ws - nul ws) ≤ 257 * (nul ws - nul w4); omega) ?_
    refine lv_aload_n hx hb d_S_mark_32 rfl (lv_at hl 0 rfl) ?_
    refine va_get (D := D) (ci := 5) (v := .ref (a 7)) (C := R_S) (T := F_S) (N := 10) hx hb hts ws_S hown hK hP 0 hI.x rfl 2 (by decide) (hts _ fl_S_25) (fun _ h9 => h9) rfl d_S_mark_33 ?_
    refine lv_aload_n hx hb d_S_mark_36 rfl (lv_at hl 0 rfl) ?_
    refine va_get (D := D) (ci := 5) (v := .int (v3 2)) (C := R_S) (T := F_S) (N := 10) hx hb hts ws_S hown hK hP 0 hI.x rfl 7 (by decide) (hts _ fl_S_47) (fun _ h9 => h9) rfl d_S_mark_37 ?_
    obtain ⟨jm, hjm⟩ : ∃ q, q = M9 + 1 := ⟨_, rfl⟩
    have hjm6 : jm < 6 := by omega
    have hvm : v3 2 = nI jm := by rw [gv3, hy9, hjm]
    have hjm := hjm6
    obtain ⟨gl, e7, g7⟩ := hI.l7
    refine va_aldq (D := D) hx hb hK hP 7 3 e7 rfl (i := (v3 2)) (by rw [hvm]; exact vp_in_nI hjm (by decide)) d_S_mark_40 ?_
    refine W.eq (g2 := F0 m 41 ls [.ref (a (10 + 4 * jm))]) (by rw [show (v3 2).toNatClampNeg = jm from by rw [hvm]; exact nI_clamp (by omega), g7 jm hjm]; rfl) ?_
    refine lv_aload_n hx hb d_S_mark_41 rfl (lv_at hl 0 rfl) ?_
    refine va_get (D := D) (ci := 5) (v := .int (v3 3)) (C := R_S) (T := F_S) (N := 10) hx hb hts ws_S hown hK hP 0 hI.x rfl 8 (by decide) (hts _ fl_S_51) (fun _ h9 => h9) rfl d_S_mark_42 ?_
    obtain ⟨P9, hP8, hP9⟩ := hI.bd.2.1
    refine mu_V (n := 1) (As := [.int (v3 3)]) (rest := []) ⟨hx, hb, hml, hown, hts⟩ (c_Z_lay (D := D) (t := t) (z := z) (sa := sa) (ws := w4) (j := jm) (bl := (v3 3)) (P9 := P9) hI hjm hP8 hP9) ml_S_137 im_Z_lay se_Z_lay in_Z cd_Z_lay (by decide +kernel) ⟨Nat.le_of_ble_eq_true rfl, Nat.le_of_ble_eq_true rfl⟩ (va_recv hK hP (ci := 4) rfl (hI.z hjm)) (Pz_at hP hK hD hz hM hS) rfl hl.1 rfl (Nat.le_of_ble_eq_true rfl) d_S_mark_45 ⟨by show 2 * (nul ws - nul w4) + (2 * nul w4 + 1) ≤ 2 * nul ws + 1; omega, by show 257 * (nul ws - nul w4) + (257 * nul w4 + 6) ≤ 257 * nul ws + 6; omega⟩ hS (fun _ _ _ _ _ _ h => h.elim) (fun r9 u5 H locs hp hP hD hS => ?_)
    obtain ⟨v6, hI, hF9, hn9, hr9, nv6, -⟩ := hp
    subst hr9
    have hF := hF.trans hF9
    have hn : nul u5 ≤ nul ws := by omega
    refine W.widen (k := Kc ws u5) (n := Ks ws u5) (by show 2 * (nul ws - nul w4) + 2 * (nul w4 - nul u5) ≤ 2 * (nul ws - nul u5); omega) (by show 257 * (nul ws - nul w4) + 257 * (nul w4 - nul u5) ≤ 257 * (nul ws - nul u5); omega) ?_
    refine W.eq (g2 := F0 m 48 ls []) rfl ?_
    refine lv_aload_n hx hb d_S_mark_48 rfl (lv_at hl 0 rfl) ?_
    refine va_get (D := D) (ci := 5) (v := .int (v6 2)) (C := R_S) (T := F_S) (N := 10) hx hb hts ws_S hown hK hP 0 hI.x rfl 7 (by decide) (hts _ fl_S_47) (fun _ h9 => h9) rfl d_S_mark_49 ?_
    refine mu_end (u := u5) (v := (some (.int (v6 2)))) ⟨⟨_, rfl⟩, ⟨_, _, hI, hF, hn, hc1.eq (by rw [nv6 0 (by omega), nv3 0 (by omega)]) (by rw [nv6 6 (by omega), nv3 6 (by omega)])⟩⟩ (Nat.le_refl _) (Nat.le_refl _) ?_
    exact W.iret (v := (v6 2)) hx hb hr (fun t9 ht hW => ⟨rfl, ⟨by rw [ht]; exact hP, va_K.moved hW.alike hK, hD, by rw [ht]; exact Nat.le_trans hz hS.1⟩, hS.F ht⟩) hS.2.2 d_S_mark_52
  · skip
    exact mu_th (u := ws) hx hb hl0 hown hts hlocks hno hP hK hD hz hM hS (hl.1.trans hml.symm) (site_64_135_68) d_S_mark_12 d_S_mark_15 d_S_mark_16 d_S_mark_18 d_S_mark_21 (Nat.le_of_ble_eq_true rfl) (Nat.le_of_ble_eq_true rfl) (by show 2 * (nul ws - nul ws) + 1 ≤ 2 * nul ws + 1; omega) (by show 257 * (nul ws - nul ws) + 6 ≤ 257 * nul ws + 6; omega) (Nat.le_refl _) (Nat.le_refl _) ⟨by decide, rfl⟩
theorem lt01 {x : Int32} (h : x < 0) : x < 1 := by
  rw [Int32.lt_iff_toInt_lt] at h ⊢
  have e0 : (0 : Int32).toInt = 0 := by decide
  have e1 : (1 : Int32).toInt = 1 := by decide
  omega
set_option maxHeartbeats 4000000 in
set_option maxRecDepth 100000 in
theorem c_S_back {l : Launch} {D : va_G} {t : Nat → ClassId} {z : Nat} {sa : Nat → Nat} {ws : va_W} {a : Nat → Nat} {k0 : Nat} {v : Nat → Int32} {x9 : Int32} (hl0 : l.stackTraces = false) (hI : Iv a t k0 v ws) (hc1 : C1 v)  : Mu l y_S_back (Cond.code y_S_back b_S_back 2 (.none : Option Jvm.ClassFile.FieldType) :: WS) ({ frames := 8, cells := 2 * nul ws + 1, slots := 257 * nul ws + 6, locals := 122 }) D t z sa ws [.ref (a 0), .int x9] (fun r u => r = none ∧ So a t ws u) (fun E u => (E = xISE ∨ E = xIOB) ∧ u = ws) (Kc ws) (Ks ws) := by
  refine mu_ofW (cc := b_S_back) (maxL := 2) (ret := (.none : Option Jvm.ClassFile.FieldType)) (by decide) rfl ?_
  intro p e s m args below meth c s₁ B hml hno hv
  obtain ⟨rfl, ⟨hP, hK, hD, hz⟩, hM⟩ := hv
  have hx := B.exec
  have hb := B.bytes
  have hr := B.returns
  have hts : ∀ w ∈ WS, w.before [.ref (a 0), .int x9].toArray s = true := fun w h => atoms_spec B.pre w (List.mem_cons_of_mem _ h)
  have hown : s.vm.findClass R_S = some m.cls := findClass_of_methodNamed B.named
  have hlocks := B.notSynchronized
  have hA : ∀ q, s.heap.size ≤ q → Az z q := fun q h => Nat.le_trans hz h
  have hS : va_S (Az z) s.heap s.heap [] := va_S.rf
  have hF : Fr t ws ws := Fr.rf
  have hn : nul ws ≤ nul ws := Nat.le_refl _
  have hl := lv_entry ([.ref (a 0), .int x9]) (n := 2) (Nat.le_of_ble_eq_true rfl)
  rw [lg_entry_eq]
  generalize (lg_sl ([.ref (a 0), .int x9]) ++ List.replicate (2 - (lg_sl ([.ref (a 0), .int x9])).length) Slot.unset).toArray = ls at hl ⊢
  have hl : lv_has ls 2 [(0, .ref (a 0)), (1, .int x9)] := hl
  refine W.widen (k := Kc ws ws) (n := Ks ws ws) (Nat.zero_le _) (Nat.zero_le _) ?_
  refine lv_aload_n hx hb d_S_back_0 rfl (lv_at hl 0 rfl) ?_
  refine mu_V (n := 0) (As := []) (rest := []) ⟨hx, hb, hml, hown, hts⟩ (c_S_requireOpen (D := D) (t := t) (z := z) (sa := sa) (ws := ws)  hl0 hI ) ml_S_61 im_S_requireOpen se_S_requireOpen in_S cd_S_requireOpen (by decide +kernel) ⟨Nat.le_of_ble_eq_true rfl, Nat.le_of_ble_eq_true rfl⟩ (va_recv hK hP (ci := 5) rfl hI.x) (Pz_at hP hK hD hz hM hS) rfl hl.1 rfl (Nat.le_of_ble_eq_true rfl) d_S_back_1 ⟨by show 2 * (nul ws - nul ws) + (2 * nul ws + 1) ≤ 2 * nul ws + 1; omega, by show 257 * (nul ws - nul ws) + (257 * nul ws + 6) ≤ 257 * nul ws + 6; omega⟩ hS (fun E ce q u H locs hxp hP hD hS h1 h2 h3 => by obtain ⟨hE, hu⟩ := hxp; rw [hu] at hP hD; exact mu_out (u := ws) hno hlocks h1 h2 h3 hP hK hD hz hS ⟨(by simp [hE]), rfl⟩ (by rw [hu]; show 2 * (nul ws - nul ws) + (2 * (nul ws - nul ws) + 1) ≤ 2 * (nul ws - nul ws) + 1; omega) (by rw [hu]; show 257 * (nul ws - nul ws) + (257 * (nul ws - nul ws) + 6) ≤ 257 * (nul ws - nul ws) + 6; omega)) (fun r9 u1 H locs hp hP hD hS => ?_)
  obtain ⟨hr9, hw9, h01⟩ := hp
  rw [hw9] at hP hD
  subst hr9
  refine W.widen (k := Kc ws ws) (n := Ks ws ws) (by rw [hw9]; show 2 * (nul ws - nul ws) + 2 * (nul ws - nul ws) ≤ 2 * (nul ws - nul ws); omega) (by rw [hw9]; show 257 * (nul ws - nul ws) + 257 * (nul ws - nul ws) ≤ 257 * (nul ws - nul ws); omega) ?_
  clear hw9
  refine W.eq (g2 := F0 m 4 ls []) rfl ?_
  refine lv_aload_n hx hb d_S_back_4 rfl (lv_at hl 0 rfl) ?_
  refine lv_iload_n hx hb d_S_back_5 rfl (lv_at hl 1 rfl) ?_
  refine mu_V (n := 1) (As := [.int x9]) (rest := []) ⟨hx, hb, hml, hown, hts⟩ (c_S_requireMark (D := D) (t := t) (z := z) (sa := sa) (ws := ws) (x9 := x9) hl0 hI ) ml_S_140 im_S_requireMark se_S_requireMark in_S cd_S_requireMark (by decide +kernel) ⟨Nat.le_of_ble_eq_true rfl, Nat.le_of_ble_eq_true rfl⟩ (va_recv hK hP (ci := 5) rfl hI.x) (Pz_at hP hK hD hz hM hS) rfl hl.1 rfl (Nat.le_of_ble_eq_true rfl) d_S_back_6 ⟨by show 2 * (nul ws - nul ws) + (2 * nul ws + 1) ≤ 2 * nul ws + 1; omega, by show 257 * (nul ws - nul ws) + (257 * nul ws + 6) ≤ 257 * nul ws + 6; omega⟩ hS (fun E ce q u H locs hxp hP hD hS h1 h2 h3 => by obtain ⟨hE, hu⟩ := hxp; rw [hu] at hP hD; exact mu_out (u := ws) hno hlocks h1 h2 h3 hP hK hD hz hS ⟨(by simp [hE]), rfl⟩ (by rw [hu]; show 2 * (nul ws - nul ws) + (2 * (nul ws - nul ws) + 1) ≤ 2 * (nul ws - nul ws) + 1; omega) (by rw [hu]; show 257 * (nul ws - nul ws) + (257 * (nul ws - nul ws) + 6) ≤ 257 * (nul ws - nul ws) + 6; omega)) (fun r9 u2 H locs hp hP hD hS => ?_)
  obtain ⟨hr9, hw9, h02⟩ := hp
  rw [hw9] at hP hD
  subst hr9
  refine W.widen (k := Kc ws ws) (n := Ks ws ws) (by rw [hw9]; show 2 * (nul ws - nul ws) + 2 * (nul ws - nul ws) ≤ 2 * (nul ws - nul ws); omega) (by rw [hw9]; show 257 * (nul ws - nul ws) + 257 * (nul ws - nul ws) ≤ 257 * (nul ws - nul ws); omega) ?_
  clear hw9
  refine W.eq (g2 := F0 m 9 ls []) rfl ?_
  obtain ⟨M9, hM1, hM2⟩ := hI.bd.1
  obtain ⟨jm, hjm5, hvm⟩ := nI_of2 (M := nI M9) (n := M9) (x := x9) (nI_toInt (by omega)) (fun h => h02.1 (lt01 h)) (by rw [← hM2]; exact h02.2)
  have hjm : jm < 6 := by omega
  refine lv_aload_n hx hb d_S_back_9 rfl (lv_at hl 0 rfl) ?_
  refine lv_iload_n hx hb d_S_back_10 rfl (lv_at hl 1 rfl) ?_
  refine va_put (D := D) (ci := 5) (v := .int x9) (ty := .int) (C := R_S) (T := F_S) (N := 10) hx hb hts ws_S t_S ok_S n_S hown hK hP hD hS 0 hI.x rfl 7 (by decide) (hts _ fl_S_47) (fun _ h9 => h9) rfl (by decide +kernel) rfl rfl (Nat.le_of_ble_eq_true rfl) d_S_back_11 (fun H locs hP hD hS => ?_)
  obtain ⟨v3, hv3⟩ : ∃ q : Nat → Int32, q = upd v 2 x9 := ⟨_, rfl⟩
  have gv3 : v3 2 = x9 := by rw [hv3]; exact pk_us
  have nv3 : ∀ i, i ≠ 2 → v3 i = v i := fun i hi => by rw [hv3]; exact pk_un hi
  have hP : va_P D Cl (ws.set 0 (cX a v3)) H := by rw [hv3]; exact hP
  have hD : va_D (Az z) (ws.set 0 (cX a v3)) := by rw [hv3]; exact hD
  obtain ⟨w4, hw⟩ : ∃ q, q = ws.set 0 (cX a v3) := ⟨_, rfl⟩
  have hP : va_P D Cl (ws.set 0 (cX a v3)) H := hP
  have hD : va_D (Az z) (ws.set 0 (cX a v3)) := hD
  have hF : Fr t ws (ws.set 0 (cX a v3)) := hF.set (by decide) (by decide)
  have hI := hI.setX (v' := v3) (fun i hi => nv3 i (by omega)) ⟨jm, by omega, by rw [gv3]; exact hvm⟩ (by rw [nv3 3 (by decide)]; exact hI.bd.2.1)
  have hq9 : nul (ws.set 0 (cX a v3)) = nul ws := nul_set (by decide)
  rw [← hw] at hP hD hF hI hq9
  clear hw
  have hn : nul w4 ≤ nul ws := by omega
  refine W.widen (k := Kc ws w4) (n := Ks ws w4) (by show 2 * (nul ws - nul ws) ≤ 2 * (nul ws - nul w4); omega) (by show 257 * (nul ws - nul ws) ≤ 257 * (nul ws - nul w4); omega) ?_
  refine lv_aload_n hx hb d_S_back_14 rfl (lv_at hl 0 rfl) ?_
  refine lv_aload_n hx hb d_S_back_15 rfl (lv_at hl 0 rfl) ?_
  refine va_get (D := D) (ci := 5) (v := .ref (a 7)) (C := R_S) (T := F_S) (N := 10) hx hb hts ws_S hown hK hP 0 hI.x rfl 2 (by decide) (hts _ fl_S_25) (fun _ h9 => h9) rfl d_S_back_16 ?_
  refine lv_iload_n hx hb d_S_back_19 rfl (lv_at hl 1 rfl) ?_
  obtain ⟨gl, e7, g7⟩ := hI.l7
  refine va_aldq (D := D) hx hb hK hP 7 3 e7 rfl (i := x9) (by rw [hvm]; exact vp_in_nI hjm (by decide)) d_S_back_20 ?_
  refine W.eq (g2 := F0 m 21 ls [.ref (a (10 + 4 * jm)), .ref (a 0)]) (by rw [show (x9 : Int32).toNatClampNeg = jm from by rw [hvm]; exact nI_clamp (by omega), g7 jm hjm]; rfl) ?_
  refine mu_V (n := 0) (As := []) (rest := [.ref (a 0)]) ⟨hx, hb, hml, hown, hts⟩ (c_Z_pagesBelow (D := D) (t := t) (z := z) (sa := sa) (ws := w4) (j := jm) hI hjm) ml_S_143 im_Z_pagesBelow se_Z_pagesBelow in_Z cd_Z_pagesBelow (by decide +kernel) ⟨Nat.le_of_ble_eq_true rfl, Nat.le_of_ble_eq_true rfl⟩ (va_recv hK hP (ci := 4) rfl (hI.z hjm)) (Pz_at hP hK hD hz hM hS) rfl hl.1 rfl (Nat.le_of_ble_eq_true rfl) d_S_back_21 ⟨by show 2 * (nul ws - nul w4) + (2 * nul w4 + 1) ≤ 2 * nul ws + 1; omega, by show 257 * (nul ws - nul w4) + (257 * nul w4 + 6) ≤ 257 * nul ws + 6; omega⟩ hS (fun _ _ _ _ _ _ h => h.elim) (fun r9 u5 H locs hp hP hD hS => ?_)
  obtain ⟨hr9, hw9⟩ := hp
  rw [hw9] at hP hD
  subst hr9
  refine W.widen (k := Kc ws w4) (n := Ks ws w4) (by rw [hw9]; show 2 * (nul ws - nul w4) + 2 * (nul w4 - nul w4) ≤ 2 * (nul ws - nul w4); omega) (by rw [hw9]; show 257 * (nul ws - nul w4) + 257 * (nul w4 - nul w4) ≤ 257 * (nul ws - nul w4); omega) ?_
  clear hw9
  refine W.eq (g2 := F0 m 24 ls [.int (v3 (11 + jm)), .ref (a 0)]) rfl ?_
  refine va_put (D := D) (ci := 5) (v := .int (v3 (11 + jm))) (ty := .int) (C := R_S) (T := F_S) (N := 10) hx hb hts ws_S t_S ok_S n_S hown hK hP hD hS 0 hI.x rfl 8 (by decide) (hts _ fl_S_51) (fun _ h9 => h9) rfl (by decide +kernel) rfl rfl (Nat.le_of_ble_eq_true rfl) d_S_back_24 (fun H locs hP hD hS => ?_)
  obtain ⟨v6, hv6⟩ : ∃ q : Nat → Int32, q = upd v3 3 (v3 (11 + jm)) := ⟨_, rfl⟩
  have gv6 : v6 3 = (v3 (11 + jm)) := by rw [hv6]; exact pk_us
  have nv6 : ∀ i, i ≠ 3 → v6 i = v3 i := fun i hi => by rw [hv6]; exact pk_un hi
  have hP : va_P D Cl (w4.set 0 (cX a v6)) H := by rw [hv6]; exact hP
  have hD : va_D (Az z) (w4.set 0 (cX a v6)) := by rw [hv6]; exact hD
  obtain ⟨w7, hw⟩ : ∃ q, q = w4.set 0 (cX a v6) := ⟨_, rfl⟩
  have hP : va_P D Cl (w4.set 0 (cX a v6)) H := hP
  have hD : va_D (Az z) (w4.set 0 (cX a v6)) := hD
  have hF : Fr t ws (w4.set 0 (cX a v6)) := hF.set (by decide) (by decide)
  have hI := hI.setX (v' := v6) (fun i hi => nv6 i (by omega)) (by rw [nv6 2 (by decide)]; exact hI.bd.1) (by rw [gv6]; exact hI.bd.2.2.2.2.2.1 jm hjm)
  have hq9 : nul (w4.set 0 (cX a v6)) = nul w4 := nul_set (by decide)
  rw [← hw] at hP hD hF hI hq9
  clear hw
  have hn : nul w7 ≤ nul ws := by omega
  refine W.widen (k := Kc ws w7) (n := Ks ws w7) (by show 2 * (nul ws - nul w4) ≤ 2 * (nul ws - nul w7); omega) (by show 257 * (nul ws - nul w4) ≤ 257 * (nul ws - nul w7); omega) ?_
  refine lv_aload_n hx hb d_S_back_27 rfl (lv_at hl 0 rfl) ?_
  refine va_get (D := D) (ci := 5) (v := .ref (a 7)) (C := R_S) (T := F_S) (N := 10) hx hb hts ws_S hown hK hP 0 hI.x rfl 2 (by decide) (hts _ fl_S_25) (fun _ h9 => h9) rfl d_S_back_28 ?_
  refine lv_iload_n hx hb d_S_back_31 rfl (lv_at hl 1 rfl) ?_
  obtain ⟨gl, e7, g7⟩ := hI.l7
  refine va_aldq (D := D) hx hb hK hP 7 3 e7 rfl (i := x9) (by rw [hvm]; exact vp_in_nI hjm (by decide)) d_S_back_32 ?_
  refine W.eq (g2 := F0 m 33 ls [.ref (a (10 + 4 * jm))]) (by rw [show (x9 : Int32).toNatClampNeg = jm from by rw [hvm]; exact nI_clamp (by omega), g7 jm hjm]; rfl) ?_
  refine lv_aload_n hx hb d_S_back_33 rfl (lv_at hl 0 rfl) ?_
  refine va_get (D := D) (ci := 5) (v := .int (v6 3)) (C := R_S) (T := F_S) (N := 10) hx hb hts ws_S hown hK hP 0 hI.x rfl 8 (by decide) (hts _ fl_S_51) (fun _ h9 => h9) rfl d_S_back_34 ?_
  obtain ⟨P9, hP8, hP9⟩ := hI.bd.2.1
  refine mu_V (n := 1) (As := [.int (v6 3)]) (rest := []) ⟨hx, hb, hml, hown, hts⟩ (c_Z_lay (D := D) (t := t) (z := z) (sa := sa) (ws := w7) (j := jm) (bl := (v6 3)) (P9 := P9) hI hjm hP8 hP9) ml_S_137 im_Z_lay se_Z_lay in_Z cd_Z_lay (by decide +kernel) ⟨Nat.le_of_ble_eq_true rfl, Nat.le_of_ble_eq_true rfl⟩ (va_recv hK hP (ci := 4) rfl (hI.z hjm)) (Pz_at hP hK hD hz hM hS) rfl hl.1 rfl (Nat.le_of_ble_eq_true rfl) d_S_back_37 ⟨by show 2 * (nul ws - nul w7) + (2 * nul w7 + 1) ≤ 2 * nul ws + 1; omega, by show 257 * (nul ws - nul w7) + (257 * nul w7 + 6) ≤ 257 * nul ws + 6; omega⟩ hS (fun _ _ _ _ _ _ h => h.elim) (fun r9 u8 H locs hp hP hD hS => ?_)
  obtain ⟨v10, hI, hF9, hn9, hr9, nv10, -⟩ := hp
  subst hr9
  have hF := hF.trans hF9
  have hn : nul u8 ≤ nul ws := by omega
  refine W.widen (k := Kc ws u8) (n := Ks ws u8) (by show 2 * (nul ws - nul w7) + 2 * (nul w7 - nul u8) ≤ 2 * (nul ws - nul u8); omega) (by show 257 * (nul ws - nul w7) + 257 * (nul w7 - nul u8) ≤ 257 * (nul ws - nul u8); omega) ?_
  refine W.eq (g2 := F0 m 40 ls []) rfl ?_
  refine mu_end (u := u8) (v := (none)) ⟨rfl, ⟨_, _, hI, hF, hn, hc1.eq (by rw [nv10 0 (by omega), nv6 0 (by omega), nv3 0 (by omega)]) (by rw [nv10 6 (by omega), nv6 6 (by omega), nv3 6 (by omega)])⟩⟩ (Nat.le_refl _) (Nat.le_refl _) ?_
  exact W.vret hx hb hr (fun t9 ht hW => ⟨rfl, ⟨by rw [ht]; exact hP, va_K.moved hW.alike hK, hD, by rw [ht]; exact Nat.le_trans hz hS.1⟩, hS.F ht⟩) hS.2.2 d_S_back_40
