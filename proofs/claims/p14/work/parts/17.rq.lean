theorem Iv.x {a : Nat → Nat} {t : Nat → ClassId} {k0 : Nat} {v : Nat → Int32} {ws : va_W} (h : Iv a t k0 v ws) : ws[0]? = some (cX a v) := h.1.1
theorem Iv.y1 {a : Nat → Nat} {t : Nat → ClassId} {k0 : Nat} {v : Nat → Int32} {ws : va_W} (h : Iv a t k0 v ws) : ws[1]? = some (cY1 a v) := h.1.2.1
theorem Iv.k2 {a : Nat → Nat} {t : Nat → ClassId} {k0 : Nat} {v : Nat → Int32} {ws : va_W} (h : Iv a t k0 v ws) : ws[2]? = some (a 2, .inr (1, [.ref (a 3)])) := h.1.2.2.1
theorem Iv.y4 {a : Nat → Nat} {t : Nat → ClassId} {k0 : Nat} {v : Nat → Int32} {ws : va_W} (h : Iv a t k0 v ws) : ws[4]? = some (cY4 a v) := h.1.2.2.2.1
theorem Iv.k5 {a : Nat → Nat} {t : Nat → ClassId} {k0 : Nat} {v : Nat → Int32} {ws : va_W} (h : Iv a t k0 v ws) : ws[5]? = some (a 5, .inr (1, [.ref (a 6)])) := h.1.2.2.2.2.1
theorem Iv.l7 {a : Nat → Nat} {t : Nat → ClassId} {k0 : Nat} {v : Nat → Int32} {ws : va_W} (h : Iv a t k0 v ws) : ∃ gl, ws[7]? = some (a 7, .inl (t 3, 6, qA gl)) ∧ ∀ j, j < 6 → gl j = some (a (10 + 4 * j)) := h.1.2.2.2.2.2.1
theorem Iv.u8 {a : Nat → Nat} {t : Nat → ClassId} {k0 : Nat} {v : Nat → Int32} {ws : va_W} (h : Iv a t k0 v ws) : ws[8]? = some (cU a v) := h.1.2.2.2.2.2.2.1
theorem Iv.r9 {a : Nat → Nat} {t : Nat → ClassId} {k0 : Nat} {v : Nat → Int32} {ws : va_W} (h : Iv a t k0 v ws) : ∃ r, ws[9]? = some (a 9, .inl (t 0, 260, .inl r)) := h.1.2.2.2.2.2.2.2.1
theorem Iv.z {a : Nat → Nat} {t : Nat → ClassId} {k0 j : Nat} {v : Nat → Int32} {ws : va_W} (h : Iv a t k0 v ws) (hj : j < 6) : ws[10 + 4 * j]? = some (cZ a v j) := h.1.2.2.2.2.2.2.2.2.1 j hj
theorem Iv.zk {a : Nat → Nat} {t : Nat → ClassId} {k0 j : Nat} {v : Nat → Int32} {ws : va_W} (h : Iv a t k0 v ws) (hj : j < 6) : ws[11 + 4 * j]? = some (a (11 + 4 * j), .inr (1, [.ref (a (12 + 4 * j))])) := h.1.2.2.2.2.2.2.2.2.2.1 j hj
theorem Iv.zh {a : Nat → Nat} {t : Nat → ClassId} {k0 j : Nat} {v : Nat → Int32} {ws : va_W} (h : Iv a t k0 v ws) (hj : j < 6) : ∃ f, ws[13 + 4 * j]? = some (a (13 + 4 * j), .inl (t 1, 768, .inl f)) ∧ ∀ i, f i = 0 ∨ f i = 1 := h.1.2.2.2.2.2.2.2.2.2.2 j hj
theorem Iv.bd {a : Nat → Nat} {t : Nat → ClassId} {k0 : Nat} {v : Nat → Int32} {ws : va_W} (h : Iv a t k0 v ws) : Bd v := h.2.1
set_option maxHeartbeats 4000000 in
set_option maxRecDepth 100000 in
theorem c_S_requireOn {l : Launch} {D : va_G} {t : Nat → ClassId} {z : Nat} {sa : Nat → Nat} {ws : va_W} {a : Nat → Nat} {k0 : Nat} {v : Nat → Int32}  (hl0 : l.stackTraces = false) (hI : Iv a t k0 v ws)  : Mu l y_S_requireOn (Cond.code y_S_requireOn b_S_requireOn 1 (.none : Option Jvm.ClassFile.FieldType) :: WS) ({ frames := 6, cells := 2 * nul ws + 1, slots := 257 * nul ws + 6, locals := 82 }) D t z sa ws [.ref (a 0)] (fun r u => r = none ∧ u = ws ∧ ¬ v 0 = 0) (fun E u => (E = xISE) ∧ u = ws) (Kc ws) (Ks ws) := by
  refine mu_ofW (cc := b_S_requireOn) (maxL := 1) (ret := (.none : Option Jvm.ClassFile.FieldType)) (by decide) rfl ?_
  intro p e s m args below meth c s₁ B hml hno hv
  obtain ⟨rfl, ⟨hP, hK, hD, hz⟩, hM⟩ := hv
  have hx := B.exec
  have hb := B.bytes
  have hr := B.returns
  have hts : ∀ w ∈ WS, w.before [.ref (a 0)].toArray s = true := fun w h => atoms_spec B.pre w (List.mem_cons_of_mem _ h)
  have hown : s.vm.findClass R_S = some m.cls := findClass_of_methodNamed B.named
  have hlocks := B.notSynchronized
  have hA : ∀ q, s.heap.size ≤ q → Az z q := fun q h => Nat.le_trans hz h
  have hS : va_S (Az z) s.heap s.heap [] := va_S.rf
  have hF : Fr t ws ws := Fr.rf
  have hn : nul ws ≤ nul ws := Nat.le_refl _
  have hl := lv_entry ([.ref (a 0)]) (n := 1) (Nat.le_of_ble_eq_true rfl)
  rw [lg_entry_eq]
  generalize (lg_sl ([.ref (a 0)]) ++ List.replicate (1 - (lg_sl ([.ref (a 0)])).length) Slot.unset).toArray = ls at hl ⊢
  have hl : lv_has ls 1 [(0, .ref (a 0))] := hl
  refine W.widen (k := Kc ws ws) (n := Ks ws ws) (Nat.zero_le _) (Nat.zero_le _) ?_
  refine lv_aload_n hx hb d_S_requireOn_0 rfl (lv_at hl 0 rfl) ?_
  refine va_get (D := D) (ci := 5) (v := .int (v 0)) (C := R_S) (T := F_S) (N := 10) hx hb hts ws_S hown hK hP 0 hI.x rfl 5 (by decide) (hts _ fl_S_40) (fun _ h9 => h9) rfl d_S_requireOn_1 ?_
  refine lv_if_ne (tgt := 17) hx hb d_S_requireOn_4 rfl (fun q1 => ?_) (fun q1 => ?_)
  · skip
    refine mu_end (u := ws) (v := (none)) ⟨rfl, rfl, q1⟩ (Nat.le_refl _) (Nat.le_refl _) ?_
    exact W.vret hx hb hr (fun t9 ht hW => ⟨rfl, ⟨by rw [ht]; exact hP, va_K.moved hW.alike hK, hD, by rw [ht]; exact Nat.le_trans hz hS.1⟩, hS.F ht⟩) hS.2.2 d_S_requireOn_17
  · skip
    exact mu_th (u := ws) hx hb hl0 hown hts hlocks hno hP hK hD hz hM hS (hl.1.trans hml.symm) (site_64_168_68) d_S_requireOn_7 d_S_requireOn_10 d_S_requireOn_11 d_S_requireOn_13 d_S_requireOn_16 (Nat.le_of_ble_eq_true rfl) (Nat.le_of_ble_eq_true rfl) (by show 2 * (nul ws - nul ws) + 1 ≤ 2 * nul ws + 1; omega) (by show 257 * (nul ws - nul ws) + 6 ≤ 257 * nul ws + 6; omega) (Nat.le_refl _) (Nat.le_refl _) ⟨rfl, rfl⟩
set_option maxHeartbeats 4000000 in
set_option maxRecDepth 100000 in
theorem c_S_requireOpen {l : Launch} {D : va_G} {t : Nat → ClassId} {z : Nat} {sa : Nat → Nat} {ws : va_W} {a : Nat → Nat} {k0 : Nat} {v : Nat → Int32}  (hl0 : l.stackTraces = false) (hI : Iv a t k0 v ws)  : Mu l y_S_requireOpen (Cond.code y_S_requireOpen b_S_requireOpen 1 (.none : Option Jvm.ClassFile.FieldType) :: WS) ({ frames := 7, cells := 2 * nul ws + 1, slots := 257 * nul ws + 6, locals := 102 }) D t z sa ws [.ref (a 0)] (fun r u => r = none ∧ u = ws ∧ ¬ v 0 = 0 ∧ ¬ v 1 = 0) (fun E u => (E = xISE) ∧ u = ws) (Kc ws) (Ks ws) := by
  refine mu_ofW (cc := b_S_requireOpen) (maxL := 1) (ret := (.none : Option Jvm.ClassFile.FieldType)) (by decide) rfl ?_
  intro p e s m args below meth c s₁ B hml hno hv
  obtain ⟨rfl, ⟨hP, hK, hD, hz⟩, hM⟩ := hv
  have hx := B.exec
  have hb := B.bytes
  have hr := B.returns
  have hts : ∀ w ∈ WS, w.before [.ref (a 0)].toArray s = true := fun w h => atoms_spec B.pre w (List.mem_cons_of_mem _ h)
  have hown : s.vm.findClass R_S = some m.cls := findClass_of_methodNamed B.named
  have hlocks := B.notSynchronized
  have hA : ∀ q, s.heap.size ≤ q → Az z q := fun q h => Nat.le_trans hz h
  have hS : va_S (Az z) s.heap s.heap [] := va_S.rf
  have hF : Fr t ws ws := Fr.rf
  have hn : nul ws ≤ nul ws := Nat.le_refl _
  have hl := lv_entry ([.ref (a 0)]) (n := 1) (Nat.le_of_ble_eq_true rfl)
  rw [lg_entry_eq]
  generalize (lg_sl ([.ref (a 0)]) ++ List.replicate (1 - (lg_sl ([.ref (a 0)])).length) Slot.unset).toArray = ls at hl ⊢
  have hl : lv_has ls 1 [(0, .ref (a 0))] := hl
  refine W.widen (k := Kc ws ws) (n := Ks ws ws) (Nat.zero_le _) (Nat.zero_le _) ?_
  refine lv_aload_n hx hb d_S_requireOpen_0 rfl (lv_at hl 0 rfl) ?_
  refine mu_V (n := 0) (As := []) (rest := []) ⟨hx, hb, hml, hown, hts⟩ (c_S_requireOn (D := D) (t := t) (z := z) (sa := sa) (ws := ws)  hl0 hI ) ml_S_58 im_S_requireOn se_S_requireOn in_S cd_S_requireOn (by decide +kernel) ⟨Nat.le_of_ble_eq_true rfl, Nat.le_of_ble_eq_true rfl⟩ (va_recv hK hP (ci := 5) rfl hI.x) (Pz_at hP hK hD hz hM hS) rfl hl.1 rfl (Nat.le_of_ble_eq_true rfl) d_S_requireOpen_1 ⟨by show 2 * (nul ws - nul ws) + (2 * nul ws + 1) ≤ 2 * nul ws + 1; omega, by show 257 * (nul ws - nul ws) + (257 * nul ws + 6) ≤ 257 * nul ws + 6; omega⟩ hS (fun E ce q u H locs hxp hP hD hS h1 h2 h3 => by obtain ⟨hE, hu⟩ := hxp; rw [hu] at hP hD; exact mu_out (u := ws) hno hlocks h1 h2 h3 hP hK hD hz hS ⟨hE, rfl⟩ (by rw [hu]; show 2 * (nul ws - nul ws) + (2 * (nul ws - nul ws) + 1) ≤ 2 * (nul ws - nul ws) + 1; omega) (by rw [hu]; show 257 * (nul ws - nul ws) + (257 * (nul ws - nul ws) + 6) ≤ 257 * (nul ws - nul ws) + 6; omega)) (fun r9 u1 H locs hp hP hD hS => ?_)
  obtain ⟨hr9, hw9, h01⟩ := hp
  rw [hw9] at hP hD
  subst hr9
  refine W.widen (k := Kc ws ws) (n := Ks ws ws) (by rw [hw9]; show 2 * (nul ws - nul ws) + 2 * (nul ws - nul ws) ≤ 2 * (nul ws - nul ws); omega) (by rw [hw9]; show 257 * (nul ws - nul ws) + 257 * (nul ws - nul ws) ≤ 257 * (nul ws - nul ws); omega) ?_
  clear hw9
  refine W.eq (g2 := F0 m 4 ls []) rfl ?_
  refine lv_aload_n hx hb d_S_requireOpen_4 rfl (lv_at hl 0 rfl) ?_
  refine va_get (D := D) (ci := 5) (v := .int (v 1)) (C := R_S) (T := F_S) (N := 10) hx hb hts ws_S hown hK hP 0 hI.x rfl 6 (by decide) (hts _ fl_S_44) (fun _ h9 => h9) rfl d_S_requireOpen_5 ?_
  refine lv_if_ne (tgt := 21) hx hb d_S_requireOpen_8 rfl (fun q2 => ?_) (fun q2 => ?_)
  · skip
    refine mu_end (u := ws) (v := (none)) ⟨rfl, rfl, ⟨h01, by assumption⟩⟩ (Nat.le_refl _) (Nat.le_refl _) ?_
    exact W.vret hx hb hr (fun t9 ht hW => ⟨rfl, ⟨by rw [ht]; exact hP, va_K.moved hW.alike hK, hD, by rw [ht]; exact Nat.le_trans hz hS.1⟩, hS.F ht⟩) hS.2.2 d_S_requireOpen_21
  · skip
    exact mu_th (u := ws) hx hb hl0 hown hts hlocks hno hP hK hD hz hM hS (hl.1.trans hml.symm) (site_64_170_68) d_S_requireOpen_11 d_S_requireOpen_14 d_S_requireOpen_15 d_S_requireOpen_17 d_S_requireOpen_20 (Nat.le_of_ble_eq_true rfl) (Nat.le_of_ble_eq_true rfl) (by show 2 * (nul ws - nul ws) + 1 ≤ 2 * nul ws + 1; omega) (by show 257 * (nul ws - nul ws) + 6 ≤ 257 * nul ws + 6; omega) (Nat.le_refl _) (Nat.le_refl _) ⟨rfl, rfl⟩
set_option maxHeartbeats 4000000 in
set_option maxRecDepth 100000 in
theorem c_S_requirePage {l : Launch} {D : va_G} {t : Nat → ClassId} {z : Nat} {sa : Nat → Nat} {ws : va_W} {a : Nat → Nat} {k0 : Nat} {v : Nat → Int32} {x9 : Int32} (hl0 : l.stackTraces = false) (hI : Iv a t k0 v ws)  : Mu l y_S_requirePage (Cond.code y_S_requirePage b_S_requirePage 2 (.none : Option Jvm.ClassFile.FieldType) :: WS) ({ frames := 6, cells := 2 * nul ws + 1, slots := 257 * nul ws + 6, locals := 82 }) D t z sa ws [.ref (a 0), .int x9] (fun r u => r = none ∧ u = ws ∧ ¬ x9 < 0 ∧ x9 < v 3) (fun E u => (E = xIOB) ∧ u = ws) (Kc ws) (Ks ws) := by
  refine mu_ofW (cc := b_S_requirePage) (maxL := 2) (ret := (.none : Option Jvm.ClassFile.FieldType)) (by decide) rfl ?_
  intro p e s m args below meth c s₁ B hml hno hv
  obtain ⟨rfl, ⟨hP, hK, hD, hz⟩, hM⟩ := hv
  have hx := B.exec
  have hb := B.bytes
  have hr := B.returns
  have hts : ∀ w ∈ WS, w.before [.ref (a 0), .int x9].toArray s = true := fun w h => atoms_spec B.pre w (List.mem_cons_of_mem _ h)
  have hown : s.vm.findClass R_S = some m.cls := findClass_of_methodNamed B.named
  have hlocks := B.notSynchronized
  have hA : ∀ q, s.heap.size ≤ q → Az z q := fun q h => Nat.le_trans hz h
  have hS : va_S (Az z) s.heap s.heap [] := va_S.rf
  have hF : Fr t ws ws := Fr.rf
  have hn : nul ws ≤ nul ws := Nat.le_refl _
  have hl := lv_entry ([.ref (a 0), .int x9]) (n := 2) (Nat.le_of_ble_eq_true rfl)
  rw [lg_entry_eq]
  generalize (lg_sl ([.ref (a 0), .int x9]) ++ List.replicate (2 - (lg_sl ([.ref (a 0), .int x9])).length) Slot.unset).toArray = ls at hl ⊢
  have hl : lv_has ls 2 [(0, .ref (a 0)), (1, .int x9)] := hl
  refine W.widen (k := Kc ws ws) (n := Ks ws ws) (Nat.zero_le _) (Nat.zero_le _) ?_
  refine lv_iload_n hx hb d_S_requirePage_0 rfl (lv_at hl 1 rfl) ?_
  refine lv_if_lt (tgt := 12) hx hb d_S_requirePage_1 rfl (fun q1 => ?_) (fun q1 => ?_)
  · skip
    exact mu_th (u := ws) hx hb hl0 hown hts hlocks hno hP hK hD hz hM hS (hl.1.trans hml.symm) (site_172_174_176) d_S_requirePage_12 d_S_requirePage_15 d_S_requirePage_16 d_S_requirePage_18 d_S_requirePage_21 (Nat.le_of_ble_eq_true rfl) (Nat.le_of_ble_eq_true rfl) (by show 2 * (nul ws - nul ws) + 1 ≤ 2 * nul ws + 1; omega) (by show 257 * (nul ws - nul ws) + 6 ≤ 257 * nul ws + 6; omega) (Nat.le_refl _) (Nat.le_refl _) ⟨rfl, rfl⟩
  · skip
    refine lv_iload_n hx hb d_S_requirePage_4 rfl (lv_at hl 1 rfl) ?_
    refine lv_aload_n hx hb d_S_requirePage_5 rfl (lv_at hl 0 rfl) ?_
    refine va_get (D := D) (ci := 5) (v := .int (v 3)) (C := R_S) (T := F_S) (N := 10) hx hb hts ws_S hown hK hP 0 hI.x rfl 8 (by decide) (hts _ fl_S_51) (fun _ h9 => h9) rfl d_S_requirePage_6 ?_
    refine lv_icmp_lt (tgt := 22) hx hb d_S_requirePage_9 rfl (fun q2 => ?_) (fun q2 => ?_)
    · skip
      refine mu_end (u := ws) (v := (none)) ⟨rfl, rfl, ⟨by assumption, by assumption⟩⟩ (Nat.le_refl _) (Nat.le_refl _) ?_
      exact W.vret hx hb hr (fun t9 ht hW => ⟨rfl, ⟨by rw [ht]; exact hP, va_K.moved hW.alike hK, hD, by rw [ht]; exact Nat.le_trans hz hS.1⟩, hS.F ht⟩) hS.2.2 d_S_requirePage_22
    · skip
      exact mu_th (u := ws) hx hb hl0 hown hts hlocks hno hP hK hD hz hM hS (hl.1.trans hml.symm) (site_172_174_176) d_S_requirePage_12 d_S_requirePage_15 d_S_requirePage_16 d_S_requirePage_18 d_S_requirePage_21 (Nat.le_of_ble_eq_true rfl) (Nat.le_of_ble_eq_true rfl) (by show 2 * (nul ws - nul ws) + 1 ≤ 2 * nul ws + 1; omega) (by show 257 * (nul ws - nul ws) + 6 ≤ 257 * nul ws + 6; omega) (Nat.le_refl _) (Nat.le_refl _) ⟨rfl, rfl⟩
set_option maxHeartbeats 4000000 in
set_option maxRecDepth 100000 in
theorem c_S_requireByte {l : Launch} {D : va_G} {t : Nat → ClassId} {z : Nat} {sa : Nat → Nat} {ws : va_W} {a : Nat → Nat} {k0 : Nat} {v : Nat → Int32} {x9 y9 : Int32} (hl0 : l.stackTraces = false) (hI : Iv a t k0 v ws)  : Mu l y_S_requireByte (Cond.code y_S_requireByte b_S_requireByte 3 (.none : Option Jvm.ClassFile.FieldType) :: WS) ({ frames := 7, cells := 2 * nul ws + 1, slots := 257 * nul ws + 6, locals := 103 }) D t z sa ws [.ref (a 0), .int x9, .int y9] (fun r u => r = none ∧ u = ws ∧ (¬ x9 < 0 ∧ x9 < v 3) ∧ ¬ y9 < 0 ∧ y9 < 256) (fun E u => (E = xIOB) ∧ u = ws) (Kc ws) (Ks ws) := by
  refine mu_ofW (cc := b_S_requireByte) (maxL := 3) (ret := (.none : Option Jvm.ClassFile.FieldType)) (by decide) rfl ?_
  intro p e s m args below meth c s₁ B hml hno hv
  obtain ⟨rfl, ⟨hP, hK, hD, hz⟩, hM⟩ := hv
  have hx := B.exec
  have hb := B.bytes
  have hr := B.returns
  have hts : ∀ w ∈ WS, w.before [.ref (a 0), .int x9, .int y9].toArray s = true := fun w h => atoms_spec B.pre w (List.mem_cons_of_mem _ h)
  have hown : s.vm.findClass R_S = some m.cls := findClass_of_methodNamed B.named
  have hlocks := B.notSynchronized
  have hA : ∀ q, s.heap.size ≤ q → Az z q := fun q h => Nat.le_trans hz h
  have hS : va_S (Az z) s.heap s.heap [] := va_S.rf
  have hF : Fr t ws ws := Fr.rf
  have hn : nul ws ≤ nul ws := Nat.le_refl _
  have hl := lv_entry ([.ref (a 0), .int x9, .int y9]) (n := 3) (Nat.le_of_ble_eq_true rfl)
  rw [lg_entry_eq]
  generalize (lg_sl ([.ref (a 0), .int x9, .int y9]) ++ List.replicate (3 - (lg_sl ([.ref (a 0), .int x9, .int y9])).length) Slot.unset).toArray = ls at hl ⊢
  have hl : lv_has ls 3 [(0, .ref (a 0)), (1, .int x9), (2, .int y9)] := hl
  refine W.widen (k := Kc ws ws) (n := Ks ws ws) (Nat.zero_le _) (Nat.zero_le _) ?_
  refine lv_aload_n hx hb d_S_requireByte_0 rfl (lv_at hl 0 rfl) ?_
  refine lv_iload_n hx hb d_S_requireByte_1 rfl (lv_at hl 1 rfl) ?_
  refine mu_V (n := 1) (As := [.int x9]) (rest := []) ⟨hx, hb, hml, hown, hts⟩ (c_S_requirePage (D := D) (t := t) (z := z) (sa := sa) (ws := ws) (x9 := x9) hl0 hI ) ml_S_91 im_S_requirePage se_S_requirePage in_S cd_S_requirePage (by decide +kernel) ⟨Nat.le_of_ble_eq_true rfl, Nat.le_of_ble_eq_true rfl⟩ (va_recv hK hP (ci := 5) rfl hI.x) (Pz_at hP hK hD hz hM hS) rfl hl.1 rfl (Nat.le_of_ble_eq_true rfl) d_S_requireByte_2 ⟨by show 2 * (nul ws - nul ws) + (2 * nul ws + 1) ≤ 2 * nul ws + 1; omega, by show 257 * (nul ws - nul ws) + (257 * nul ws + 6) ≤ 257 * nul ws + 6; omega⟩ hS (fun E ce q u H locs hxp hP hD hS h1 h2 h3 => by obtain ⟨hE, hu⟩ := hxp; rw [hu] at hP hD; exact mu_out (u := ws) hno hlocks h1 h2 h3 hP hK hD hz hS ⟨hE, rfl⟩ (by rw [hu]; show 2 * (nul ws - nul ws) + (2 * (nul ws - nul ws) + 1) ≤ 2 * (nul ws - nul ws) + 1; omega) (by rw [hu]; show 257 * (nul ws - nul ws) + (257 * (nul ws - nul ws) + 6) ≤ 257 * (nul ws - nul ws) + 6; omega)) (fun r9 u1 H locs hp hP hD hS => ?_)
  obtain ⟨hr9, hw9, h01⟩ := hp
  rw [hw9] at hP hD
  subst hr9
  refine W.widen (k := Kc ws ws) (n := Ks ws ws) (by rw [hw9]; show 2 * (nul ws - nul ws) + 2 * (nul ws - nul ws) ≤ 2 * (nul ws - nul ws); omega) (by rw [hw9]; show 257 * (nul ws - nul ws) + 257 * (nul ws - nul ws) ≤ 257 * (nul ws - nul ws); omega) ?_
  clear hw9
  refine W.eq (g2 := F0 m 5 ls []) rfl ?_
  refine lv_iload_n hx hb d_S_requireByte_5 rfl (lv_at hl 2 rfl) ?_
  refine lv_if_lt (tgt := 16) hx hb d_S_requireByte_6 rfl (fun q2 => ?_) (fun q2 => ?_)
  · skip
    exact mu_th (u := ws) hx hb hl0 hown hts hlocks hno hP hK hD hz hM hS (hl.1.trans hml.symm) (site_172_177_176) d_S_requireByte_16 d_S_requireByte_19 d_S_requireByte_20 d_S_requireByte_22 d_S_requireByte_25 (Nat.le_of_ble_eq_true rfl) (Nat.le_of_ble_eq_true rfl) (by show 2 * (nul ws - nul ws) + 1 ≤ 2 * nul ws + 1; omega) (by show 257 * (nul ws - nul ws) + 6 ≤ 257 * nul ws + 6; omega) (Nat.le_refl _) (Nat.le_refl _) ⟨rfl, rfl⟩
  · skip
    refine lv_iload_n hx hb d_S_requireByte_9 rfl (lv_at hl 2 rfl) ?_
    refine lv_sipush (v := 256) hx hb d_S_requireByte_10 (by decide) ?_
    refine lv_icmp_lt (tgt := 26) hx hb d_S_requireByte_13 rfl (fun q3 => ?_) (fun q3 => ?_)
    · skip
      refine mu_end (u := ws) (v := (none)) ⟨rfl, rfl, ⟨h01, by assumption, by assumption⟩⟩ (Nat.le_refl _) (Nat.le_refl _) ?_
      exact W.vret hx hb hr (fun t9 ht hW => ⟨rfl, ⟨by rw [ht]; exact hP, va_K.moved hW.alike hK, hD, by rw [ht]; exact Nat.le_trans hz hS.1⟩, hS.F ht⟩) hS.2.2 d_S_requireByte_26
    · skip
      exact mu_th (u := ws) hx hb hl0 hown hts hlocks hno hP hK hD hz hM hS (hl.1.trans hml.symm) (site_172_177_176) d_S_requireByte_16 d_S_requireByte_19 d_S_requireByte_20 d_S_requireByte_22 d_S_requireByte_25 (Nat.le_of_ble_eq_true rfl) (Nat.le_of_ble_eq_true rfl) (by show 2 * (nul ws - nul ws) + 1 ≤ 2 * nul ws + 1; omega) (by show 257 * (nul ws - nul ws) + 6 ≤ 257 * nul ws + 6; omega) (Nat.le_refl _) (Nat.le_refl _) ⟨rfl, rfl⟩
set_option maxHeartbeats 4000000 in
set_option maxRecDepth 100000 in
theorem c_S_requireMark {l : Launch} {D : va_G} {t : Nat → ClassId} {z : Nat} {sa : Nat → Nat} {ws : va_W} {a : Nat → Nat} {k0 : Nat} {v : Nat → Int32} {x9 : Int32} (hl0 : l.stackTraces = false) (hI : Iv a t k0 v ws)  : Mu l y_S_requireMark (Cond.code y_S_requireMark b_S_requireMark 2 (.none : Option Jvm.ClassFile.FieldType) :: WS) ({ frames := 6, cells := 2 * nul ws + 1, slots := 257 * nul ws + 6, locals := 82 }) D t z sa ws [.ref (a 0), .int x9] (fun r u => r = none ∧ u = ws ∧ ¬ x9 < 1 ∧ x9 ≤ v 2) (fun E u => (E = xIOB) ∧ u = ws) (Kc ws) (Ks ws) := by
  refine mu_ofW (cc := b_S_requireMark) (maxL := 2) (ret := (.none : Option Jvm.ClassFile.FieldType)) (by decide) rfl ?_
  intro p e s m args below meth c s₁ B hml hno hv
  obtain ⟨rfl, ⟨hP, hK, hD, hz⟩, hM⟩ := hv
  have hx := B.exec
  have hb := B.bytes
  have hr := B.returns
  have hts : ∀ w ∈ WS, w.before [.ref (a 0), .int x9].toArray s = true := fun w h => atoms_spec B.pre w (List.mem_cons_of_mem _ h)
  have hown : s.vm.findClass R_S = some m.cls := findClass_of_methodNamed B.named
  have hlocks := B.notSynchronized
  have hA : ∀ q, s.heap.size ≤ q → Az z q := fun q h => Nat.le_trans hz h
  have hS : va_S (Az z) s.heap s.heap [] := va_S.rf
  have hF : Fr t ws ws := Fr.rf
  have hn : nul ws ≤ nul ws := Nat.le_refl _
  have hl := lv_entry ([.ref (a 0), .int x9]) (n := 2) (Nat.le_of_ble_eq_true rfl)
  rw [lg_entry_eq]
  generalize (lg_sl ([.ref (a 0), .int x9]) ++ List.replicate (2 - (lg_sl ([.ref (a 0), .int x9])).length) Slot.unset).toArray = ls at hl ⊢
  have hl : lv_has ls 2 [(0, .ref (a 0)), (1, .int x9)] := hl
  refine W.widen (k := Kc ws ws) (n := Ks ws ws) (Nat.zero_le _) (Nat.zero_le _) ?_
  refine lv_iload_n hx hb d_S_requireMark_0 rfl (lv_at hl 1 rfl) ?_
  refine lv_iconst (v := 1) hx hb d_S_requireMark_1 (by decide) ?_
  refine lv_icmp_lt (tgt := 13) hx hb d_S_requireMark_2 rfl (fun q1 => ?_) (fun q1 => ?_)
  · skip
    exact mu_th (u := ws) hx hb hl0 hown hts hlocks hno hP hK hD hz hM hS (hl.1.trans hml.symm) (site_172_181_176) d_S_requireMark_13 d_S_requireMark_16 d_S_requireMark_17 d_S_requireMark_19 d_S_requireMark_22 (Nat.le_of_ble_eq_true rfl) (Nat.le_of_ble_eq_true rfl) (by show 2 * (nul ws - nul ws) + 1 ≤ 2 * nul ws + 1; omega) (by show 257 * (nul ws - nul ws) + 6 ≤ 257 * nul ws + 6; omega) (Nat.le_refl _) (Nat.le_refl _) ⟨rfl, rfl⟩
  · skip
    refine lv_iload_n hx hb d_S_requireMark_5 rfl (lv_at hl 1 rfl) ?_
    refine lv_aload_n hx hb d_S_requireMark_6 rfl (lv_at hl 0 rfl) ?_
    refine va_get (D := D) (ci := 5) (v := .int (v 2)) (C := R_S) (T := F_S) (N := 10) hx hb hts ws_S hown hK hP 0 hI.x rfl 7 (by decide) (hts _ fl_S_47) (fun _ h9 => h9) rfl d_S_requireMark_7 ?_
    refine lv_icmp_le (tgt := 23) hx hb d_S_requireMark_10 rfl (fun q2 => ?_) (fun q2 => ?_)
    · skip
      refine mu_end (u := ws) (v := (none)) ⟨rfl, rfl, ⟨by assumption, by assumption⟩⟩ (Nat.le_refl _) (Nat.le_refl _) ?_
      exact W.vret hx hb hr (fun t9 ht hW => ⟨rfl, ⟨by rw [ht]; exact hP, va_K.moved hW.alike hK, hD, by rw [ht]; exact Nat.le_trans hz hS.1⟩, hS.F ht⟩) hS.2.2 d_S_requireMark_23
    · skip
      exact mu_th (u := ws) hx hb hl0 hown hts hlocks hno hP hK hD hz hM hS (hl.1.trans hml.symm) (site_172_181_176) d_S_requireMark_13 d_S_requireMark_16 d_S_requireMark_17 d_S_requireMark_19 d_S_requireMark_22 (Nat.le_of_ble_eq_true rfl) (Nat.le_of_ble_eq_true rfl) (by show 2 * (nul ws - nul ws) + 1 ≤ 2 * nul ws + 1; omega) (by show 257 * (nul ws - nul ws) + 6 ≤ 257 * nul ws + 6; omega) (Nat.le_refl _) (Nat.le_refl _) ⟨rfl, rfl⟩
