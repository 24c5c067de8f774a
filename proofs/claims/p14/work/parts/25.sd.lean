theorem pg_nat {x : Int32} {v : Nat → Int32} (hb : Bd v) (h1 : ¬ x < 0) (h2 : x < v 3) : ∃ i : Nat, i < 768 ∧ x = nI i := by
  obtain ⟨C, hC, e⟩ := hb.2.1
  obtain ⟨i, hi, rfl⟩ := nI_of h1
  rw [e] at h2
  have := (nI_ltI hi (by omega)).mp h2
  exact ⟨i, by omega, rfl⟩
theorem at_nat {y : Int32} (h1 : ¬ y < 0) (h2 : y < 256) : ∃ i : Nat, i < 256 ∧ y = nI i := by
  obtain ⟨i, hi, rfl⟩ := nI_of h1
  exact ⟨i, (nI_ltI (b := 256) hi (by decide)).mp h2, rfl⟩
theorem span_nat {x y : Int32} (h1 : ¬ y < 0) (h2 : ¬ x < 0) (h3 : x ≤ 256 - y) : ∃ i n : Nat, x = nI i ∧ y = nI n ∧ i + n ≤ 256 := by
  obtain ⟨n, hn, rfl⟩ := nI_of h1
  obtain ⟨i, hi, rfl⟩ := nI_of h2
  refine ⟨i, n, rfl, rfl, ?_⟩
  have e : ((256 : Int32) - nI n).toInt = 256 - (n : Int) := by
    have e0 : (256 : Int32).toInt = 256 := by decide
    rw [Int32.toInt_sub, nI_toInt hn, e0]
    first | exact Int.bmod_eq_of_le (by omega) (by omega) | (simp [Int.bmod]; omega)
  rw [Int32.le_iff_toInt_le, e, nI_toInt hi] at h3
  omega
theorem bfit (x : Int32) : fits .byte (.int (vp_nar .byte x)) = true := by rw [vp_nar_byte]; exact pk_fb x
set_option maxHeartbeats 4000000 in
set_option maxRecDepth 100000 in
theorem c_S_requireSpan {l : Launch} {D : va_G} {t : Nat → ClassId} {z : Nat} {sa : Nat → Nat} {ws : va_W} {a : Nat → Nat} {k0 : Nat} {v : Nat → Int32} {x9 y9 : Int32} (hl0 : l.stackTraces = false) (hI : Iv a t k0 v ws)  : Mu l y_S_requireSpan (Cond.code y_S_requireSpan b_S_requireSpan 3 (.none : Option Jvm.ClassFile.FieldType) :: WS) ({ frames := 6, cells := 2 * nul ws + 1, slots := 257 * nul ws + 6, locals := 82 }) D t z sa ws [.ref (a 0), .int x9, .int y9] (fun r u => r = none ∧ u = ws ∧ ¬ y9 < 0 ∧ ¬ x9 < 0 ∧ x9 ≤ 256 - y9) (fun E u => (E = xIOB) ∧ u = ws) (Kc ws) (Ks ws) := by
  refine mu_ofW (cc := b_S_requireSpan) (maxL := 3) (ret := (.none : Option Jvm.ClassFile.FieldType)) (by decide) rfl ?_
  intro p e s m args below meth c s₁ B hml hno hv
  obtain ⟨rfl, ⟨hP, hK, hD, hz⟩, hM⟩ := hv
  have hx := B.exec
  have hb := B.bytes
  have hr := B.returns
  have hts : ∀ w ∈ WS, w.before [.ref (a 0), .int x9, .int y9].toArray s = true := fun w h => atoms_spec B.pre w (List.mem_cons_of_mem _ h)
  have hown : s.vm.findClass R_S = some m.cls := findClass_of_methodNamed B.named
  have hlocks := B.notSynchronized
  have hA : ∀ q, s.heap.size ≤ q → Az z q := fun q h => Nat.le_trans hz h
  have hS : va_S (Az z) s.heap s.heap [] := va_S.rf
  have hF : Fr t ws ws := Fr.rf
  have hn : nul ws ≤ nul ws := Nat.le_refl _
  have hl := lv_entry ([.ref (a 0), .int x9, .int y9]) (n := 3) (Nat.le_of_ble_eq_true rfl)
  rw [lg_entry_eq]
  generalize (lg_sl ([.ref (a 0), .int x9, .int y9]) ++ List.replicate (3 - (lg_sl ([.ref (a 0), .int x9, .int y9])).length) Slot.unset).toArray = ls at hl ⊢
  have hl : lv_has ls 3 [(0, .ref (a 0)), (1, .int x9), (2, .int y9)] := hl
  refine W.widen (k := Kc ws ws) (n := Ks ws ws) (Nat.zero_le _) (Nat.zero_le _) ?_
  refine lv_iload_n hx hb d_S_requireSpan_0 rfl (lv_at hl 2 rfl) ?_
  refine lv_if_lt (tgt := 17) hx hb d_S_requireSpan_1 rfl (fun q1 => ?_) (fun q1 => ?_)
  · skip
    exact mu_th (u := ws) hx hb hl0 hown hts hlocks hno hP hK hD hz hM hS (hl.1.trans hml.symm) (site_172_179_176) d_S_requireSpan_17 d_S_requireSpan_20 d_S_requireSpan_21 d_S_requireSpan_23 d_S_requireSpan_26 (Nat.le_of_ble_eq_true rfl) (Nat.le_of_ble_eq_true rfl) (by show 2 * (nul ws - nul ws) + 1 ≤ 2 * nul ws + 1; omega) (by show 257 * (nul ws - nul ws) + 6 ≤ 257 * nul ws + 6; omega) (Nat.le_refl _) (Nat.le_refl _) ⟨rfl, rfl⟩
  · skip
    refine lv_iload_n hx hb d_S_requireSpan_4 rfl (lv_at hl 1 rfl) ?_
    refine lv_if_lt (tgt := 17) hx hb d_S_requireSpan_5 rfl (fun q2 => ?_) (fun q2 => ?_)
    · skip
      exact mu_th (u := ws) hx hb hl0 hown hts hlocks hno hP hK hD hz hM hS (hl.1.trans hml.symm) (site_172_179_176) d_S_requireSpan_17 d_S_requireSpan_20 d_S_requireSpan_21 d_S_requireSpan_23 d_S_requireSpan_26 (Nat.le_of_ble_eq_true rfl) (Nat.le_of_ble_eq_true rfl) (by show 2 * (nul ws - nul ws) + 1 ≤ 2 * nul ws + 1; omega) (by show 257 * (nul ws - nul ws) + 6 ≤ 257 * nul ws + 6; omega) (Nat.le_refl _) (Nat.le_refl _) ⟨rfl, rfl⟩
    · skip
      refine lv_iload_n hx hb d_S_requireSpan_8 rfl (lv_at hl 1 rfl) ?_
      refine lv_sipush (v := 256) hx hb d_S_requireSpan_9 (by decide) ?_
      refine lv_iload_n hx hb d_S_requireSpan_12 rfl (lv_at hl 2 rfl) ?_
      refine lv_isub hx hb d_S_requireSpan_13 ?_
      refine lv_topi (fun d9 hd9 => ?_)
      refine lv_icmp_le (tgt := 27) hx hb d_S_requireSpan_14 rfl (fun q3 => ?_) (fun q3 => ?_)
      · skip
        refine mu_end (u := ws) (v := (none)) ⟨rfl, rfl, ⟨by assumption, by assumption, by rw [← hd9]; assumption⟩⟩ (Nat.le_refl _) (Nat.le_refl _) ?_
        exact W.vret hx hb hr (fun t9 ht hW => ⟨rfl, ⟨by rw [ht]; exact hP, va_K.moved hW.alike hK, hD, by rw [ht]; exact Nat.le_trans hz hS.1⟩, hS.F ht⟩) hS.2.2 d_S_requireSpan_27
      · skip
        exact mu_th (u := ws) hx hb hl0 hown hts hlocks hno hP hK hD hz hM hS (hl.1.trans hml.symm) (site_172_179_176) d_S_requireSpan_17 d_S_requireSpan_20 d_S_requireSpan_21 d_S_requireSpan_23 d_S_requireSpan_26 (Nat.le_of_ble_eq_true rfl) (Nat.le_of_ble_eq_true rfl) (by show 2 * (nul ws - nul ws) + 1 ≤ 2 * nul ws + 1; omega) (by show 257 * (nul ws - nul ws) + 6 ≤ 257 * nul ws + 6; omega) (Nat.le_refl _) (Nat.le_refl _) ⟨rfl, rfl⟩
set_option maxHeartbeats 4000000 in
set_option maxRecDepth 100000 in
theorem c_S_get {l : Launch} {D : va_G} {t : Nat → ClassId} {z : Nat} {sa : Nat → Nat} {ws : va_W} {a : Nat → Nat} {k0 : Nat} {v : Nat → Int32} {x9 y9 : Int32} (hl0 : l.stackTraces = false) (hI : Iv a t k0 v ws) (hc1 : C1 v)  : Mu l y_S_get (Cond.code y_S_get b_S_get 3 (some .int) :: WS) ({ frames := 8, cells := 2 * nul ws + 1, slots := 257 * nul ws + 6, locals := 125 }) D t z sa ws [.ref (a 0), .int x9, .int y9] (fun r u => (∃ y, r = some (.int y)) ∧ So a t ws u) (fun E u => (E = xISE ∨ E = xIOB) ∧ u = ws) (Kc ws) (Ks ws) := by
  refine mu_ofW (cc := b_S_get) (maxL := 3) (ret := (some .int)) (by decide) rfl ?_
  intro p e s m args below meth c s₁ B hml hno hv
  obtain ⟨rfl, ⟨hP, hK, hD, hz⟩, hM⟩ := hv
  have hx := B.exec
  have hb := B.bytes
  have hr := B.returns
  have hts : ∀ w ∈ WS, w.before [.ref (a 0), .int x9, .int y9].toArray s = true := fun w h => atoms_spec B.pre w (List.mem_cons_of_mem _ h)
  have hown : s.vm.findClass R_S = some m.cls := findClass_of_methodNamed B.named
  have hlocks := B.notSynchronized
  have hA : ∀ q, s.heap.size ≤ q → Az z q := fun q h => Nat.le_trans hz h
  have hS : va_S (Az z) s.heap s.heap [] := va_S.rf
  have hF : Fr t ws ws := Fr.rf
  have hn : nul ws ≤ nul ws := Nat.le_refl _
  have hl := lv_entry ([.ref (a 0), .int x9, .int y9]) (n := 3) (Nat.le_of_ble_eq_true rfl)
  rw [lg_entry_eq]
  generalize (lg_sl ([.ref (a 0), .int x9, .int y9]) ++ List.replicate (3 - (lg_sl ([.ref (a 0), .int x9, .int y9])).length) Slot.unset).toArray = ls at hl ⊢
  have hl : lv_has ls 3 [(0, .ref (a 0)), (1, .int x9), (2, .int y9)] := hl
  refine W.widen (k := Kc ws ws) (n := Ks ws ws) (Nat.zero_le _) (Nat.zero_le _) ?_
  refine lv_aload_n hx hb d_S_get_0 rfl (lv_at hl 0 rfl) ?_
  refine mu_V (n := 0) (As := []) (rest := []) ⟨hx, hb, hml, hown, hts⟩ (c_S_requireOn (D := D) (t := t) (z := z) (sa := sa) (ws := ws)  hl0 hI ) ml_S_58 im_S_requireOn se_S_requireOn in_S cd_S_requireOn (by decide +kernel) ⟨Nat.le_of_ble_eq_true rfl, Nat.le_of_ble_eq_true rfl⟩ (va_recv hK hP (ci := 5) rfl hI.x) (Pz_at hP hK hD hz hM hS) rfl hl.1 rfl (Nat.le_of_ble_eq_true rfl) d_S_get_1 ⟨by show 2 * (nul ws - nul ws) + (2 * nul ws + 1) ≤ 2 * nul ws + 1; omega, by show 257 * (nul ws - nul ws) + (257 * nul ws + 6) ≤ 257 * nul ws + 6; omega⟩ hS (fun E ce q u H locs hxp hP hD hS h1 h2 h3 => by obtain ⟨hE, hu⟩ := hxp; rw [hu] at hP hD; exact mu_out (u := ws) hno hlocks h1 h2 h3 hP hK hD hz hS ⟨(by simp [hE]), rfl⟩ (by rw [hu]; show 2 * (nul ws - nul ws) + (2 * (nul ws - nul ws) + 1) ≤ 2 * (nul ws - nul ws) + 1; omega) (by rw [hu]; show 257 * (nul ws - nul ws) + (257 * (nul ws - nul ws) + 6) ≤ 257 * (nul ws - nul ws) + 6; omega)) (fun r9 u1 H locs hp hP hD hS => ?_)
  obtain ⟨hr9, hw9, h01⟩ := hp
  rw [hw9] at hP hD
  subst hr9
  refine W.widen (k := Kc ws ws) (n := Ks ws ws) (by rw [hw9]; show 2 * (nul ws - nul ws) + 2 * (nul ws - nul ws) ≤ 2 * (nul ws - nul ws); omega) (by rw [hw9]; show 257 * (nul ws - nul ws) + 257 * (nul ws - nul ws) ≤ 257 * (nul ws - nul ws); omega) ?_
  clear hw9
  refine W.eq (g2 := F0 m 4 ls []) rfl ?_
  refine lv_aload_n hx hb d_S_get_4 rfl (lv_at hl 0 rfl) ?_
  refine lv_iload_n hx hb d_S_get_5 rfl (lv_at hl 1 rfl) ?_
  refine lv_iload_n hx hb d_S_get_6 rfl (lv_at hl 2 rfl) ?_
  refine mu_V (n := 2) (As := [.int x9, .int y9]) (rest := []) ⟨hx, hb, hml, hown, hts⟩ (c_S_requireByte (D := D) (t := t) (z := z) (sa := sa) (ws := ws) (x9 := x9) (y9 := y9) hl0 hI ) ml_S_81 im_S_requireByte se_S_requireByte in_S cd_S_requireByte (by decide +kernel) ⟨Nat.le_of_ble_eq_true rfl, Nat.le_of_ble_eq_true rfl⟩ (va_recv hK hP (ci := 5) rfl hI.x) (Pz_at hP hK hD hz hM hS) rfl hl.1 rfl (Nat.le_of_ble_eq_true rfl) d_S_get_7 ⟨by show 2 * (nul ws - nul ws) + (2 * nul ws + 1) ≤ 2 * nul ws + 1; omega, by show 257 * (nul ws - nul ws) + (257 * nul ws + 6) ≤ 257 * nul ws + 6; omega⟩ hS (fun E ce q u H locs hxp hP hD hS h1 h2 h3 => by obtain ⟨hE, hu⟩ := hxp; rw [hu] at hP hD; exact mu_out (u := ws) hno hlocks h1 h2 h3 hP hK hD hz hS ⟨(by simp [hE]), rfl⟩ (by rw [hu]; show 2 * (nul ws - nul ws) + (2 * (nul ws - nul ws) + 1) ≤ 2 * (nul ws - nul ws) + 1; omega) (by rw [hu]; show 257 * (nul ws - nul ws) + (257 * (nul ws - nul ws) + 6) ≤ 257 * (nul ws - nul ws) + 6; omega)) (fun r9 u2 H locs hp hP hD hS => ?_)
  obtain ⟨hr9, hw9, h02⟩ := hp
  rw [hw9] at hP hD
  subst hr9
  refine W.widen (k := Kc ws ws) (n := Ks ws ws) (by rw [hw9]; show 2 * (nul ws - nul ws) + 2 * (nul ws - nul ws) ≤ 2 * (nul ws - nul ws); omega) (by rw [hw9]; show 257 * (nul ws - nul ws) + 257 * (nul ws - nul ws) ≤ 257 * (nul ws - nul ws); omega) ?_
  clear hw9
  refine W.eq (g2 := F0 m 10 ls []) rfl ?_
  obtain ⟨i, hi, hxi⟩ := pg_nat hI.bd h02.1.1 h02.1.2
  obtain ⟨iy, hiy, hyi⟩ := at_nat h02.2.1 h02.2.2
  refine lv_aload_n hx hb d_S_get_10 rfl (lv_at hl 0 rfl) ?_
  refine lv_iload_n hx hb d_S_get_11 rfl (lv_at hl 1 rfl) ?_
  refine mu_V (n := 1) (As := [.int x9]) (rest := []) ⟨hx, hb, hml, hown, hts⟩ (c_S_bytesOf (D := D) (t := t) (z := z) (sa := sa) (ws := ws) (i := i) hI hi hxi) ml_S_85 im_S_bytesOf se_S_bytesOf in_S cd_S_bytesOf (by decide +kernel) ⟨Nat.le_of_ble_eq_true rfl, Nat.le_of_ble_eq_true rfl⟩ (va_recv hK hP (ci := 5) rfl hI.x) (Pz_at hP hK hD hz hM hS) rfl hl.1 rfl (Nat.le_of_ble_eq_true rfl) d_S_get_12 ⟨by show 2 * (nul ws - nul ws) + (2 * nul ws + 1) ≤ 2 * nul ws + 1; omega, by show 257 * (nul ws - nul ws) + (257 * nul ws + 6) ≤ 257 * nul ws + 6; omega⟩ hS (fun _ _ _ _ _ _ h => h.elim) (fun r9 u3 H locs hp hP hD hS => ?_)
  obtain ⟨c4, j5, f6, hr9, h42c4, hcc4, hnec4, hI, hF9, hn9⟩ := hp
  subst hr9
  have hF := hF.trans hF9
  have hn : nul u3 ≤ nul ws := by omega
  refine W.widen (k := Kc ws u3) (n := Ks ws u3) (by show 2 * (nul ws - nul ws) + 2 * (nul ws - nul u3) ≤ 2 * (nul ws - nul u3); omega) (by show 257 * (nul ws - nul ws) + 257 * (nul ws - nul u3) ≤ 257 * (nul ws - nul u3); omega) ?_
  refine W.eq (g2 := F0 m 15 ls [.ref c4]) rfl ?_
  refine lv_iload_n hx hb d_S_get_15 rfl (lv_at hl 2 rfl) ?_
  refine va_bald (D := D) hx hb hK hP j5 0 hcc4 rfl (i := y9) (by rw [hyi]; exact vp_in_nI hiy (by decide)) d_S_get_16 ?_
  generalize f6 (y9 : Int32).toNatClampNeg = y7
  refine lv_sipush (v := 255) hx hb d_S_get_17 (by decide) ?_
  refine lv_iand hx hb d_S_get_20 ?_
  refine lv_topi (fun v8 hv8 => ?_)
  refine mu_end (u := u3) (v := (some (.int v8))) ⟨⟨_, rfl⟩, ⟨_, _, hI, hF, hn, hc1.eq rfl rfl⟩⟩ (Nat.le_refl _) (Nat.le_refl _) ?_
  exact W.iret (v := v8) hx hb hr (fun t9 ht hW => ⟨rfl, ⟨by rw [ht]; exact hP, va_K.moved hW.alike hK, hD, by rw [ht]; exact Nat.le_trans hz hS.1⟩, hS.F ht⟩) hS.2.2 d_S_get_21
set_option maxHeartbeats 4000000 in
set_option maxRecDepth 100000 in
theorem c_S_put {l : Launch} {D : va_G} {t : Nat → ClassId} {z : Nat} {sa : Nat → Nat} {ws : va_W} {a : Nat → Nat} {k0 : Nat} {v : Nat → Int32} {x9 y9 w9 : Int32} (hl0 : l.stackTraces = false) (hI : Iv a t k0 v ws) (hc1 : C1 v)  : Mu l y_S_put (Cond.code y_S_put b_S_put 6 (some .int) :: WS) ({ frames := 8, cells := 2 * nul ws + 1, slots := 257 * nul ws + 6, locals := 125 }) D t z sa ws [.ref (a 0), .int x9, .int y9, .int w9] (fun r u => (∃ y, r = some (.int y)) ∧ So a t ws u) (fun E u => (E = xISE ∨ E = xIOB) ∧ u = ws) (Kc ws) (Ks ws) := by
  refine mu_ofW (cc := b_S_put) (maxL := 6) (ret := (some .int)) (by decide) rfl ?_
  intro p e s m args below meth c s₁ B hml hno hv
  obtain ⟨rfl, ⟨hP, hK, hD, hz⟩, hM⟩ := hv
  have hx := B.exec
  have hb := B.bytes
  have hr := B.returns
  have hts : ∀ w ∈ WS, w.before [.ref (a 0), .int x9, .int y9, .int w9].toArray s = true := fun w h => atoms_spec B.pre w (List.mem_cons_of_mem _ h)
  have hown : s.vm.findClass R_S = some m.cls := findClass_of_methodNamed B.named
  have hlocks := B.notSynchronized
  have hA : ∀ q, s.heap.size ≤ q → Az z q := fun q h => Nat.le_trans hz h
  have hS : va_S (Az z) s.heap s.heap [] := va_S.rf
  have hF : Fr t ws ws := Fr.rf
  have hn : nul ws ≤ nul ws := Nat.le_refl _
  have hl := lv_entry ([.ref (a 0), .int x9, .int y9, .int w9]) (n := 6) (Nat.le_of_ble_eq_true rfl)
  rw [lg_entry_eq]
  generalize (lg_sl ([.ref (a 0), .int x9, .int y9, .int w9]) ++ List.replicate (6 - (lg_sl ([.ref (a 0), .int x9, .int y9, .int w9])).length) Slot.unset).toArray = ls at hl ⊢
  have hl : lv_has ls 6 [(0, .ref (a 0)), (1, .int x9), (2, .int y9), (3, .int w9)] := hl
  refine W.widen (k := Kc ws ws) (n := Ks ws ws) (Nat.zero_le _) (Nat.zero_le _) ?_
  refine lv_aload_n hx hb d_S_put_0 rfl (lv_at hl 0 rfl) ?_
  refine mu_V (n := 0) (As := []) (rest := []) ⟨hx, hb, hml, hown, hts⟩ (c_S_requireOpen (D := D) (t := t) (z := z) (sa := sa) (ws := ws)  hl0 hI ) ml_S_61 im_S_requireOpen se_S_requireOpen in_S cd_S_requireOpen (by decide +kernel) ⟨Nat.le_of_ble_eq_true rfl, Nat.le_of_ble_eq_true rfl⟩ (va_recv hK hP (ci := 5) rfl hI.x) (Pz_at hP hK hD hz hM hS) rfl hl.1 rfl (Nat.le_of_ble_eq_true rfl) d_S_put_1 ⟨by show 2 * (nul ws - nul ws) + (2 * nul ws + 1) ≤ 2 * nul ws + 1; omega, by show 257 * (nul ws - nul ws) + (257 * nul ws + 6) ≤ 257 * nul ws + 6; omega⟩ hS (fun E ce q u H locs hxp hP hD hS h1 h2 h3 => by obtain ⟨hE, hu⟩ := hxp; rw [hu] at hP hD; exact mu_out (u := ws) hno hlocks h1 h2 h3 hP hK hD hz hS ⟨(by simp [hE]), rfl⟩ (by rw [hu]; show 2 * (nul ws - nul ws) + (2 * (nul ws - nul ws) + 1) ≤ 2 * (nul ws - nul ws) + 1; omega) (by rw [hu]; show 257 * (nul ws - nul ws) + (257 * (nul ws - nul ws) + 6) ≤ 257 * (nul ws - nul ws) + 6; omega)) (fun r9 u1 H locs hp hP hD hS => ?_)
  obtain ⟨hr9, hw9, h01⟩ := hp
  rw [hw9] at hP hD
  subst hr9
  refine W.widen (k := Kc ws ws) (n := Ks ws ws) (by rw [hw9]; show 2 * (nul ws - nul ws) + 2 * (nul ws - nul ws) ≤ 2 * (nul ws - nul ws); omega) (by rw [hw9]; show 257 * (nul ws - nul ws) + 257 * (nul ws - nul ws) ≤ 257 * (nul ws - nul ws); omega) ?_
  clear hw9
  refine W.eq (g2 := F0 m 4 ls []) rfl ?_
  refine lv_aload_n hx hb d_S_put_4 rfl (lv_at hl 0 rfl) ?_
  refine lv_iload_n hx hb d_S_put_5 rfl (lv_at hl 1 rfl) ?_
  refine lv_iload_n hx hb d_S_put_6 rfl (lv_at hl 2 rfl) ?_
  refine mu_V (n := 2) (As := [.int x9, .int y9]) (rest := []) ⟨hx, hb, hml, hown, hts⟩ (c_S_requireByte (D := D) (t := t) (z := z) (sa := sa) (ws := ws) (x9 := x9) (y9 := y9) hl0 hI ) ml_S_81 im_S_requireByte se_S_requireByte in_S cd_S_requireByte (by decide +kernel) ⟨Nat.le_of_ble_eq_true rfl, Nat.le_of_ble_eq_true rfl⟩ (va_recv hK hP (ci := 5) rfl hI.x) (Pz_at hP hK hD hz hM hS) rfl hl.1 rfl (Nat.le_of_ble_eq_true rfl) d_S_put_7 ⟨by show 2 * (nul ws - nul ws) + (2 * nul ws + 1) ≤ 2 * nul ws + 1; omega, by show 257 * (nul ws - nul ws) + (257 * nul ws + 6) ≤ 257 * nul ws + 6; omega⟩ hS (fun E ce q u H locs hxp hP hD hS h1 h2 h3 => by obtain ⟨hE, hu⟩ := hxp; rw [hu] at hP hD; exact mu_out (u := ws) hno hlocks h1 h2 h3 hP hK hD hz hS ⟨(by simp [hE]), rfl⟩ (by rw [hu]; show 2 * (nul ws - nul ws) + (2 * (nul ws - nul ws) + 1) ≤ 2 * (nul ws - nul ws) + 1; omega) (by rw [hu]; show 257 * (nul ws - nul ws) + (257 * (nul ws - nul ws) + 6) ≤ 257 * (nul ws - nul ws) + 6; omega)) (fun r9 u2 H locs hp hP hD hS => ?_)
  obtain ⟨hr9, hw9, h02⟩ := hp
  rw [hw9] at hP hD
  subst hr9
  refine W.widen (k := Kc ws ws) (n := Ks ws ws) (by rw [hw9]; show 2 * (nul ws - nul ws) + 2 * (nul ws - nul ws) ≤ 2 * (nul ws - nul ws); omega) (by rw [hw9]; show 257 * (nul ws - nul ws) + 257 * (nul ws - nul ws) ≤ 257 * (nul ws - nul ws); omega) ?_
  clear hw9
  refine W.eq (g2 := F0 m 10 ls []) rfl ?_
  obtain ⟨i, hi, hxi⟩ := pg_nat hI.bd h02.1.1 h02.1.2
  obtain ⟨iy, hiy, hyi⟩ := at_nat h02.2.1 h02.2.2
  refine lv_aload_n hx hb d_S_put_10 rfl (lv_at hl 0 rfl) ?_
  refine lv_iload_n hx hb d_S_put_11 rfl (lv_at hl 1 rfl) ?_
  refine mu_V (n := 1) (As := [.int x9]) (rest := []) ⟨hx, hb, hml, hown, hts⟩ (c_S_bytesToChange (D := D) (t := t) (z := z) (sa := sa) (ws := ws) (i := i) hI hi hxi) ml_S_88 im_S_bytesToChange se_S_bytesToChange in_S cd_S_bytesToChange (by decide +kernel) ⟨Nat.le_of_ble_eq_true rfl, Nat.le_of_ble_eq_true rfl⟩ (va_recv hK hP (ci := 5) rfl hI.x) (Pz_at hP hK hD hz hM hS) rfl hl.1 rfl (Nat.le_of_ble_eq_true rfl) d_S_put_12 ⟨by show 2 * (nul ws - nul ws) + (2 * nul ws + 1) ≤ 2 * nul ws + 1; omega, by show 257 * (nul ws - nul ws) + (257 * nul ws + 6) ≤ 257 * nul ws + 6; omega⟩ hS (fun _ _ _ _ _ _ h => h.elim) (fun r9 u3 H locs hp hP hD hS => ?_)
  obtain ⟨c4, j5, f6, hr9, h42c4, hcc4, hnec4, hI, hF9, hn9⟩ := hp
  subst hr9
  have hF := hF.trans hF9
  have hn : nul u3 ≤ nul ws := by omega
  refine W.widen (k := Kc ws u3) (n := Ks ws u3) (by show 2 * (nul ws - nul ws) + 2 * (nul ws - nul u3) ≤ 2 * (nul ws - nul u3); omega) (by show 257 * (nul ws - nul ws) + 257 * (nul ws - nul u3) ≤ 257 * (nul ws - nul u3); omega) ?_
  refine W.eq (g2 := F0 m 15 ls [.ref c4]) rfl ?_
  refine lv_astore (lv' := [(4, .ref c4), (0, .ref (a 0)), (1, .int x9), (2, .int y9), (3, .int w9)]) hx hb d_S_put_15 hl (by decide) rfl (fun ls hl => ?_)
  refine lv_aload hx hb d_S_put_17 (lv_at hl 0 rfl) ?_
  refine lv_iload_n hx hb d_S_put_19 rfl (lv_at hl 3 rfl) ?_
  refine va_bald (D := D) hx hb hK hP j5 0 hcc4 rfl (i := y9) (by rw [hyi]; exact vp_in_nI hiy (by decide)) d_S_put_20 ?_
  generalize f6 (y9 : Int32).toNatClampNeg = y7
  refine lv_sipush (v := 255) hx hb d_S_put_21 (by decide) ?_
  refine lv_iand hx hb d_S_put_24 ?_
  refine lv_topi (fun v8 hv8 => ?_)
  refine lv_istore (lv' := [(5, .int v8), (4, .ref c4), (0, .ref (a 0)), (1, .int x9), (2, .int y9), (3, .int w9)]) hx hb d_S_put_25 hl (by decide) rfl (fun ls hl => ?_)
  refine lv_aload hx hb d_S_put_27 (lv_at hl 1 rfl) ?_
  refine lv_iload_n hx hb d_S_put_29 rfl (lv_at hl 4 rfl) ?_
  refine lv_iload_n hx hb d_S_put_30 rfl (lv_at hl 5 rfl) ?_
  refine lv_i2b hx hb d_S_put_31 rfl ?_
  refine lv_topi (fun y10 hy10 => ?_)
  refine va_bast (D := D) hx hb hK hP hD hS j5 0 hcc4 rfl (i := y9) (x := y10) (by rw [hyi]; exact vp_in_nI hiy (by decide)) d_S_put_32 (fun H locs hP hD hS => ?_)
  have hfn := sb_fitU (k := (y9 : Int32).toNatClampNeg) (hI.bf j5 _ _ _ (Or.inr h42c4) hcc4) (bfit y10)
  obtain ⟨f11, hff11⟩ : ∃ q, q = upd f6 (y9 : Int32).toNatClampNeg (vp_nar .byte y10) := ⟨_, rfl⟩
  rw [← hff11] at hP hD hfn
  obtain ⟨w12, hw⟩ : ∃ q, q = u3.set j5 (cA t c4 f11) := ⟨_, rfl⟩
  have hP : va_P D Cl (u3.set j5 (cA t c4 f11)) H := hP
  have hD : va_D (Az z) (u3.set j5 (cA t c4 f11)) := hD
  have hF : Fr t ws (u3.set j5 (cA t c4 f11)) := hF.setA hcc4 (Or.inr h42c4)
  have hI := hI.setB (f1 := f11) h42c4 hcc4 (fun h => absurd h hnec4) hfn
  have hq9 : nul (u3.set j5 (cA t c4 f11)) = nul u3 := nul_set (fun h => by have := mds_lt h; omega)
  rw [← hw] at hP hD hF hI hq9
  clear hw
  have hn : nul w12 ≤ nul ws := by omega
  refine W.widen (k := Kc ws w12) (n := Ks ws w12) (by show 2 * (nul ws - nul u3) ≤ 2 * (nul ws - nul w12); omega) (by show 257 * (nul ws - nul u3) ≤ 257 * (nul ws - nul w12); omega) ?_
  refine lv_iload hx hb d_S_put_33 (lv_at hl 0 rfl) ?_
  refine mu_end (u := w12) (v := (some (.int v8))) ⟨⟨_, rfl⟩, ⟨_, _, hI, hF, hn, hc1.eq rfl rfl⟩⟩ (Nat.le_refl _) (Nat.le_refl _) ?_
  exact W.iret (v := v8) hx hb hr (fun t9 ht hW => ⟨rfl, ⟨by rw [ht]; exact hP, va_K.moved hW.alike hK, hD, by rw [ht]; exact Nat.le_trans hz hS.1⟩, hS.F ht⟩) hS.2.2 d_S_put_35
set_option maxHeartbeats 4000000 in
set_option maxRecDepth 100000 in
theorem c_S_move {l : Launch} {D : va_G} {t : Nat → ClassId} {z : Nat} {sa : Nat → Nat} {ws : va_W} {a : Nat → Nat} {k0 : Nat} {v : Nat → Int32} {p9 f9 q9 t9 n9 : Int32} (hl0 : l.stackTraces = false) (hI : Iv a t k0 v ws) (hc1 : C1 v)  : Mu l y_S_move (Cond.code y_S_move b_S_move 7 (.none : Option Jvm.ClassFile.FieldType) :: WS) ({ frames := 8, cells := 2 * nul ws + 1, slots := 257 * nul ws + 6, locals := 122 }) D t z sa ws [.ref (a 0), .int p9, .int f9, .int q9, .int t9, .int n9] (fun r u => r = none ∧ So a t ws u) (fun E u => (E = xISE ∨ E = xIOB) ∧ u = ws) (Kc ws) (Ks ws) := by
  refine mu_ofW (cc := b_S_move) (maxL := 7) (ret := (.none : Option Jvm.ClassFile.FieldType)) (by decide) rfl ?_
  intro p e s m args below meth c s₁ B hml hno hv
  obtain ⟨rfl, ⟨hP, hK, hD, hz⟩, hM⟩ := hv
  have hx := B.exec
  have hb := B.bytes
  have hr := B.returns
  have hts : ∀ w ∈ WS, w.before [.ref (a 0), .int p9, .int f9, .int q9, .int t9, .int n9].toArray s = true := fun w h => atoms_spec B.pre w (List.mem_cons_of_mem _ h)
  have hown : s.vm.findClass R_S = some m.cls := findClass_of_methodNamed B.named
  have hlocks := B.notSynchronized
  have hA : ∀ q, s.heap.size ≤ q → Az z q := fun q h => Nat.le_trans hz h
  have hS : va_S (Az z) s.heap s.heap [] := va_S.rf
  have hF : Fr t ws ws := Fr.rf
  have hn : nul ws ≤ nul ws := Nat.le_refl _
  have hl := lv_entry ([.ref (a 0), .int p9, .int f9, .int q9, .int t9, .int n9]) (n := 7) (Nat.le_of_ble_eq_true rfl)
  rw [lg_entry_eq]
  generalize (lg_sl ([.ref (a 0), .int p9, .int f9, .int q9, .int t9, .int n9]) ++ List.replicate (7 - (lg_sl ([.ref (a 0), .int p9, .int f9, .int q9, .int t9, .int n9])).length) Slot.unset).toArray = ls at hl ⊢
  have hl : lv_has ls 7 [(0, .ref (a 0)), (1, .int p9), (2, .int f9), (3, .int q9), (4, .int t9), (5, .int n9)] := hl
  refine W.widen (k := Kc ws ws) (n := Ks ws ws) (Nat.zero_le _) (Nat.zero_le _) ?_
  refine lv_aload_n hx hb d_S_move_0 rfl (lv_at hl 0 rfl) ?_
  refine mu_V (n := 0) (As := []) (rest := []) ⟨hx, hb, hml, hown, hts⟩ (c_S_requireOpen (D := D) (t := t) (z := z) (sa := sa) (ws := ws)  hl0 hI ) ml_S_61 im_S_requireOpen se_S_requireOpen in_S cd_S_requireOpen (by decide +kernel) ⟨Nat.le_of_ble_eq_true rfl, Nat.le_of_ble_eq_true rfl⟩ (va_recv hK hP (ci := 5) rfl hI.x) (Pz_at hP hK hD hz hM hS) rfl hl.1 rfl (Nat.le_of_ble_eq_true rfl) d_S_move_1 ⟨by show 2 * (nul ws - nul ws) + (2 * nul ws + 1) ≤ 2 * nul ws + 1; omega, by show 257 * (nul ws - nul ws) + (257 * nul ws + 6) ≤ 257 * nul ws + 6; omega⟩ hS (fun E ce q u H locs hxp hP hD hS h1 h2 h3 => by obtain ⟨hE, hu⟩ := hxp; rw [hu] at hP hD; exact mu_out (u := ws) hno hlocks h1 h2 h3 hP hK hD hz hS ⟨(by simp [hE]), rfl⟩ (by rw [hu]; show 2 * (nul ws - nul ws) + (2 * (nul ws - nul ws) + 1) ≤ 2 * (nul ws - nul ws) + 1; omega) (by rw [hu]; show 257 * (nul ws - nul ws) + (257 * (nul ws - nul ws) + 6) ≤ 257 * (nul ws - nul ws) + 6; omega)) (fun r9 u1 H locs hp hP hD hS => ?_)
  obtain ⟨hr9, hw9, h01⟩ := hp
  rw [hw9] at hP hD
  subst hr9
  refine W.widen (k := Kc ws ws) (n := Ks ws ws) (by rw [hw9]; show 2 * (nul ws - nul ws) + 2 * (nul ws - nul ws) ≤ 2 * (nul ws - nul ws); omega) (by rw [hw9]; show 257 * (nul ws - nul ws) + 257 * (nul ws - nul ws) ≤ 257 * (nul ws - nul ws); omega) ?_
  clear hw9
  refine W.eq (g2 := F0 m 4 ls []) rfl ?_
  refine lv_aload_n hx hb d_S_move_4 rfl (lv_at hl 0 rfl) ?_
  refine lv_iload_n hx hb d_S_move_5 rfl (lv_at hl 1 rfl) ?_
  refine mu_V (n := 1) (As := [.int p9]) (rest := []) ⟨hx, hb, hml, hown, hts⟩ (c_S_requirePage (D := D) (t := t) (z := z) (sa := sa) (ws := ws) (x9 := p9) hl0 hI ) ml_S_91 im_S_requirePage se_S_requirePage in_S cd_S_requirePage (by decide +kernel) ⟨Nat.le_of_ble_eq_true rfl, Nat.le_of_ble_eq_true rfl⟩ (va_recv hK hP (ci := 5) rfl hI.x) (Pz_at hP hK hD hz hM hS) rfl hl.1 rfl (Nat.le_of_ble_eq_true rfl) d_S_move_6 ⟨by show 2 * (nul ws - nul ws) + (2 * nul ws + 1) ≤ 2 * nul ws + 1; omega, by show 257 * (nul ws - nul ws) + (257 * nul ws + 6) ≤ 257 * nul ws + 6; omega⟩ hS (fun E ce q u H locs hxp hP hD hS h1 h2 h3 => by obtain ⟨hE, hu⟩ := hxp; rw [hu] at hP hD; exact mu_out (u := ws) hno hlocks h1 h2 h3 hP hK hD hz hS ⟨(by simp [hE]), rfl⟩ (by rw [hu]; show 2 * (nul ws - nul ws) + (2 * (nul ws - nul ws) + 1) ≤ 2 * (nul ws - nul ws) + 1; omega) (by rw [hu]; show 257 * (nul ws - nul ws) + (257 * (nul ws - nul ws) + 6) ≤ 257 * (nul ws - nul ws) + 6; omega)) (fun r9 u2 H locs hp hP hD hS => ?_)
  obtain ⟨hr9, hw9, h0ip⟩ := hp
  rw [hw9] at hP hD
  subst hr9
  refine W.widen (k := Kc ws ws) (n := Ks ws ws) (by rw [hw9]; show 2 * (nul ws - nul ws) + 2 * (nul ws - nul ws) ≤ 2 * (nul ws - nul ws); omega) (by rw [hw9]; show 257 * (nul ws - nul ws) + 257 * (nul ws - nul ws) ≤ 257 * (nul ws - nul ws); omega) ?_
  clear hw9
  refine W.eq (g2 := F0 m 9 ls []) rfl ?_
  obtain ⟨ip, hip, hipx⟩ := pg_nat hI.bd h0ip.1 h0ip.2
  refine lv_aload_n hx hb d_S_move_9 rfl (lv_at hl 0 rfl) ?_
  refine lv_iload_n hx hb d_S_move_10 rfl (lv_at hl 3 rfl) ?_
  refine mu_V (n := 1) (As := [.int q9]) (rest := []) ⟨hx, hb, hml, hown, hts⟩ (c_S_requirePage (D := D) (t := t) (z := z) (sa := sa) (ws := ws) (x9 := q9) hl0 hI ) ml_S_91 im_S_requirePage se_S_requirePage in_S cd_S_requirePage (by decide +kernel) ⟨Nat.le_of_ble_eq_true rfl, Nat.le_of_ble_eq_true rfl⟩ (va_recv hK hP (ci := 5) rfl hI.x) (Pz_at hP hK hD hz hM hS) rfl hl.1 rfl (Nat.le_of_ble_eq_true rfl) d_S_move_11 ⟨by show 2 * (nul ws - nul ws) + (2 * nul ws + 1) ≤ 2 * nul ws + 1; omega, by show 257 * (nul ws - nul ws) + (257 * nul ws + 6) ≤ 257 * nul ws + 6; omega⟩ hS (fun E ce q u H locs hxp hP hD hS h1 h2 h3 => by obtain ⟨hE, hu⟩ := hxp; rw [hu] at hP hD; exact mu_out (u := ws) hno hlocks h1 h2 h3 hP hK hD hz hS ⟨(by simp [hE]), rfl⟩ (by rw [hu]; show 2 * (nul ws - nul ws) + (2 * (nul ws - nul ws) + 1) ≤ 2 * (nul ws - nul ws) + 1; omega) (by rw [hu]; show 257 * (nul ws - nul ws) + (257 * (nul ws - nul ws) + 6) ≤ 257 * (nul ws - nul ws) + 6; omega)) (fun r9 u3 H locs hp hP hD hS => ?_)
  obtain ⟨hr9, hw9, h0iq⟩ := hp
  rw [hw9] at hP hD
  subst hr9
  refine W.widen (k := Kc ws ws) (n := Ks ws ws) (by rw [hw9]; show 2 * (nul ws - nul ws) + 2 * (nul ws - nul ws) ≤ 2 * (nul ws - nul ws); omega) (by rw [hw9]; show 257 * (nul ws - nul ws) + 257 * (nul ws - nul ws) ≤ 257 * (nul ws - nul ws); omega) ?_
  clear hw9
  refine W.eq (g2 := F0 m 14 ls []) rfl ?_
  obtain ⟨iq, hiq, hiqx⟩ := pg_nat hI.bd h0iq.1 h0iq.2
  refine lv_aload_n hx hb d_S_move_14 rfl (lv_at hl 0 rfl) ?_
  refine lv_iload_n hx hb d_S_move_15 rfl (lv_at hl 2 rfl) ?_
  refine lv_iload hx hb d_S_move_16 (lv_at hl 5 rfl) ?_
  refine mu_V (n := 2) (As := [.int f9, .int n9]) (rest := []) ⟨hx, hb, hml, hown, hts⟩ (c_S_requireSpan (D := D) (t := t) (z := z) (sa := sa) (ws := ws) (x9 := f9) (y9 := n9) hl0 hI ) ml_S_94 im_S_requireSpan se_S_requireSpan in_S cd_S_requireSpan (by decide +kernel) ⟨Nat.le_of_ble_eq_true rfl, Nat.le_of_ble_eq_true rfl⟩ (va_recv hK hP (ci := 5) rfl hI.x) (Pz_at hP hK hD hz hM hS) rfl hl.1 rfl (Nat.le_of_ble_eq_true rfl) d_S_move_18 ⟨by show 2 * (nul ws - nul ws) + (2 * nul ws + 1) ≤ 2 * nul ws + 1; omega, by show 257 * (nul ws - nul ws) + (257 * nul ws + 6) ≤ 257 * nul ws + 6; omega⟩ hS (fun E ce q u H locs hxp hP hD hS h1 h2 h3 => by obtain ⟨hE, hu⟩ := hxp; rw [hu] at hP hD; exact mu_out (u := ws) hno hlocks h1 h2 h3 hP hK hD hz hS ⟨(by simp [hE]), rfl⟩ (by rw [hu]; show 2 * (nul ws - nul ws) + (2 * (nul ws - nul ws) + 1) ≤ 2 * (nul ws - nul ws) + 1; omega) (by rw [hu]; show 257 * (nul ws - nul ws) + (257 * (nul ws - nul ws) + 6) ≤ 257 * (nul ws - nul ws) + 6; omega)) (fun r9 u4 H locs hp hP hD hS => ?_)
  obtain ⟨hr9, hw9, h0s1⟩ := hp
  rw [hw9] at hP hD
  subst hr9
  refine W.widen (k := Kc ws ws) (n := Ks ws ws) (by rw [hw9]; show 2 * (nul ws - nul ws) + 2 * (nul ws - nul ws) ≤ 2 * (nul ws - nul ws); omega) (by rw [hw9]; show 257 * (nul ws - nul ws) + 257 * (nul ws - nul ws) ≤ 257 * (nul ws - nul ws); omega) ?_
  clear hw9
  refine W.eq (g2 := F0 m 21 ls []) rfl ?_
  obtain ⟨s1, m1, hs1x, hm1x, hs1⟩ := span_nat h0s1.1 h0s1.2.1 h0s1.2.2
  refine lv_aload_n hx hb d_S_move_21 rfl (lv_at hl 0 rfl) ?_
  refine lv_iload hx hb d_S_move_22 (lv_at hl 4 rfl) ?_
  refine lv_iload hx hb d_S_move_24 (lv_at hl 5 rfl) ?_
  refine mu_V (n := 2) (As := [.int t9, .int n9]) (rest := []) ⟨hx, hb, hml, hown, hts⟩ (c_S_requireSpan (D := D) (t := t) (z := z) (sa := sa) (ws := ws) (x9 := t9) (y9 := n9) hl0 hI ) ml_S_94 im_S_requireSpan se_S_requireSpan in_S cd_S_requireSpan (by decide +kernel) ⟨Nat.le_of_ble_eq_true rfl, Nat.le_of_ble_eq_true rfl⟩ (va_recv hK hP (ci := 5) rfl hI.x) (Pz_at hP hK hD hz hM hS) rfl hl.1 rfl (Nat.le_of_ble_eq_true rfl) d_S_move_26 ⟨by show 2 * (nul ws - nul ws) + (2 * nul ws + 1) ≤ 2 * nul ws + 1; omega, by show 257 * (nul ws - nul ws) + (257 * nul ws + 6) ≤ 257 * nul ws + 6; omega⟩ hS (fun E ce q u H locs hxp hP hD hS h1 h2 h3 => by obtain ⟨hE, hu⟩ := hxp; rw [hu] at hP hD; exact mu_out (u := ws) hno hlocks h1 h2 h3 hP hK hD hz hS ⟨(by simp [hE]), rfl⟩ (by rw [hu]; show 2 * (nul ws - nul ws) + (2 * (nul ws - nul ws) + 1) ≤ 2 * (nul ws - nul ws) + 1; omega) (by rw [hu]; show 257 * (nul ws - nul ws) + (257 * (nul ws - nul ws) + 6) ≤ 257 * (nul ws - nul ws) + 6; omega)) (fun r9 u5 H locs hp hP hD hS => ?_)
  obtain ⟨hr9, hw9, h0s2⟩ := hp
  rw [hw9] at hP hD
  subst hr9
  refine W.widen (k := Kc ws ws) (n := Ks ws ws) (by rw [hw9]; show 2 * (nul ws - nul ws) + 2 * (nul ws - nul ws) ≤ 2 * (nul ws - nul ws); omega) (by rw [hw9]; show 257 * (nul ws - nul ws) + 257 * (nul ws - nul ws) ≤ 257 * (nul ws - nul ws); omega) ?_
  clear hw9
  refine W.eq (g2 := F0 m 29 ls []) rfl ?_
  obtain ⟨s2, m2, hs2x, hm2x, hs2⟩ := span_nat h0s2.1 h0s2.2.1 h0s2.2.2
  refine lv_aload_n hx hb d_S_move_29 rfl (lv_at hl 0 rfl) ?_
  refine lv_iload_n hx hb d_S_move_30 rfl (lv_at hl 3 rfl) ?_
  refine mu_V (n := 1) (As := [.int q9]) (rest := []) ⟨hx, hb, hml, hown, hts⟩ (c_S_bytesToChange (D := D) (t := t) (z := z) (sa := sa) (ws := ws) (i := iq) hI hiq hiqx) ml_S_88 im_S_bytesToChange se_S_bytesToChange in_S cd_S_bytesToChange (by decide +kernel) ⟨Nat.le_of_ble_eq_true rfl, Nat.le_of_ble_eq_true rfl⟩ (va_recv hK hP (ci := 5) rfl hI.x) (Pz_at hP hK hD hz hM hS) rfl hl.1 rfl (Nat.le_of_ble_eq_true rfl) d_S_move_31 ⟨by show 2 * (nul ws - nul ws) + (2 * nul ws + 1) ≤ 2 * nul ws + 1; omega, by show 257 * (nul ws - nul ws) + (257 * nul ws + 6) ≤ 257 * nul ws + 6; omega⟩ hS (fun _ _ _ _ _ _ h => h.elim) (fun r9 u6 H locs hp hP hD hS => ?_)
  obtain ⟨c7, j8, f10, hr9, h42c7, hcc7, hnec7, hI, hF9, hn9⟩ := hp
  subst hr9
  have hF := hF.trans hF9
  have hn : nul u6 ≤ nul ws := by omega
  refine W.widen (k := Kc ws u6) (n := Ks ws u6) (by show 2 * (nul ws - nul ws) + 2 * (nul ws - nul u6) ≤ 2 * (nul ws - nul u6); omega) (by show 257 * (nul ws - nul ws) + 257 * (nul ws - nul u6) ≤ 257 * (nul ws - nul u6); omega) ?_
  refine W.eq (g2 := F0 m 34 ls [.ref c7]) rfl ?_
  refine lv_astore (lv' := [(6, .ref c7), (0, .ref (a 0)), (1, .int p9), (2, .int f9), (3, .int q9), (4, .int t9), (5, .int n9)]) hx hb d_S_move_34 hl (by decide) rfl (fun ls hl => ?_)
  refine lv_aload_n hx hb d_S_move_36 rfl (lv_at hl 1 rfl) ?_
  refine lv_iload_n hx hb d_S_move_37 rfl (lv_at hl 2 rfl) ?_
  refine mu_V (n := 1) (As := [.int p9]) (rest := []) ⟨hx, hb, hml, hown, hts⟩ (c_S_bytesOf (D := D) (t := t) (z := z) (sa := sa) (ws := u6) (i := ip) hI hip hipx) ml_S_85 im_S_bytesOf se_S_bytesOf in_S cd_S_bytesOf (by decide +kernel) ⟨Nat.le_of_ble_eq_true rfl, Nat.le_of_ble_eq_true rfl⟩ (va_recv hK hP (ci := 5) rfl hI.x) (Pz_at hP hK hD hz hM hS) rfl hl.1 rfl (Nat.le_of_ble_eq_true rfl) d_S_move_38 ⟨by show 2 * (nul ws - nul u6) + (2 * nul u6 + 1) ≤ 2 * nul ws + 1; omega, by show 257 * (nul ws - nul u6) + (257 * nul u6 + 6) ≤ 257 * nul ws + 6; omega⟩ hS (fun _ _ _ _ _ _ h => h.elim) (fun r9 u11 H locs hp hP hD hS => ?_)
  obtain ⟨c12, j13, f14, hr9, h42c12, hcc12, hnec12, hI, hF9, hn9⟩ := hp
  subst hr9
  have hF := hF.trans hF9
  obtain ⟨f15, hcc7⟩ := hF9.2.2 j8 c7 256 f10 (Or.inr h42c7) hcc7
  have hn : nul u11 ≤ nul ws := by omega
  refine W.widen (k := Kc ws u11) (n := Ks ws u11) (by show 2 * (nul ws - nul u6) + 2 * (nul u6 - nul u11) ≤ 2 * (nul ws - nul u11); omega) (by show 257 * (nul ws - nul u6) + 257 * (nul u6 - nul u11) ≤ 257 * (nul ws - nul u11); omega) ?_
  refine W.eq (g2 := F0 m 41 ls [.ref c12]) rfl ?_
  refine lv_iload_n hx hb d_S_move_41 rfl (lv_at hl 3 rfl) ?_
  refine lv_aload hx hb d_S_move_42 (lv_at hl 0 rfl) ?_
  refine lv_iload hx hb d_S_move_44 (lv_at hl 5 rfl) ?_
  refine lv_iload hx hb d_S_move_46 (lv_at hl 6 rfl) ?_
  refine va_copyi (D := D) hx hb (hml.trans hl.1.symm) hown (hts _ ml_S_97) (hts _ cp_im) (hts _ cp_st) (hts _ in_System) hK hP hD hS j13 j8 0 0 (ty := .byte) hcc12 hcc7 rfl rfl rfl (sp := f9) (dp := t9) (n := n9) (by rw [hs1x]; exact nI_pos (by omega)) (by rw [hs2x]; exact nI_pos (by omega)) (by rw [hm1x]; exact nI_pos (by omega)) (by rw [hs1x, hm1x, nI_clamp (by omega), nI_clamp (by omega)]; exact hs1) (by rw [hs2x, hm2x, nI_clamp (by omega), nI_clamp (by omega)]; exact hs2) (fun i9 _ => hI.bf j13 _ _ _ (Or.inr h42c12) hcc12 _) (Nat.le_of_ble_eq_true rfl) (Nat.le_of_ble_eq_true rfl) d_S_move_48 (fun H locs hP hD hS => ?_)
  have hfn := sb_fitC (sp := (f9 : Int32).toNatClampNeg) (dp := (t9 : Int32).toNatClampNeg) (n := (n9 : Int32).toNatClampNeg) (hI.bf j13 _ _ _ (Or.inr h42c12) hcc12) (hI.bf j8 _ _ _ (Or.inr h42c7) hcc7)
  obtain ⟨f16, hff16⟩ : ∃ q, q = va_cpy f14 f15 (f9 : Int32).toNatClampNeg (t9 : Int32).toNatClampNeg (n9 : Int32).toNatClampNeg := ⟨_, rfl⟩
  rw [← hff16] at hP hD hfn
  obtain ⟨w17, hw⟩ : ∃ q, q = u11.set j8 (cA t c7 f16) := ⟨_, rfl⟩
  have hP : va_P D Cl (u11.set j8 (cA t c7 f16)) H := hP
  have hD : va_D (Az z) (u11.set j8 (cA t c7 f16)) := hD
  have hF : Fr t ws (u11.set j8 (cA t c7 f16)) := hF.setA hcc7 (Or.inr h42c7)
  have hI := hI.setB (f1 := f16) h42c7 hcc7 (fun h => absurd h hnec7) hfn
  have hq9 : nul (u11.set j8 (cA t c7 f16)) = nul u11 := nul_set (fun h => by have := mds_lt h; omega)
  rw [← hw] at hP hD hF hI hq9
  clear hw
  have hn : nul w17 ≤ nul ws := by omega
  refine W.widen (k := Kc ws w17) (n := Ks ws w17) (by show 2 * (nul ws - nul u11) ≤ 2 * (nul ws - nul w17); omega) (by show 257 * (nul ws - nul u11) ≤ 257 * (nul ws - nul w17); omega) ?_
  refine mu_end (u := w17) (v := (none)) ⟨rfl, ⟨_, _, hI, hF, hn, hc1.eq rfl rfl⟩⟩ (Nat.le_refl _) (Nat.le_refl _) ?_
  exact W.vret hx hb hr (fun t9 ht hW => ⟨rfl, ⟨by rw [ht]; exact hP, va_K.moved hW.alike hK, hD, by rw [ht]; exact Nat.le_trans hz hS.1⟩, hS.F ht⟩) hS.2.2 d_S_move_51
