def C1 (v : Nat → Int32) : Prop := ¬ v 0 = 0 → v 6 = 0
/-- behind a public call: the shape holds, the model's cells stay -/
def So (a : Nat → Nat) (t : Nat → ClassId) (ws u : va_W) : Prop := ∃ (k1 : Nat) (v1 : Nat → Int32), Iv a t k1 v1 u ∧ Fr t ws u ∧ nul u ≤ nul ws ∧ C1 v1
theorem C1.eq {v v' : Nat → Int32} (h : C1 v) (h0 : v' 0 = v 0) (h6 : v' 6 = v 6) : C1 v' := fun q => by rw [h6]; exact h (by rw [← h0]; exact q)
theorem div256 {F : Nat} (h : F ≤ 196608) : nI F / 256 = nI (F / 256) := pk_div (d := 256) (by omega) (by decide) (by decide)
theorem cl0 : (0 : Int32).toNatClampNeg = 0 := by decide
set_option maxHeartbeats 4000000 in
set_option maxRecDepth 100000 in
theorem c_S_pages {l : Launch} {D : va_G} {t : Nat → ClassId} {z : Nat} {sa : Nat → Nat} {ws : va_W} {a : Nat → Nat} {k0 : Nat} {v : Nat → Int32}  (hl0 : l.stackTraces = false) (hI : Iv a t k0 v ws) (hc1 : C1 v)  : Mu l y_S_pages (Cond.code y_S_pages b_S_pages 1 (some .int) :: WS) ({ frames := 7, cells := 2 * nul ws + 1, slots := 257 * nul ws + 6, locals := 102 }) D t z sa ws [.ref (a 0)] (fun r u => (∃ y, r = some (.int y)) ∧ So a t ws u) (fun E u => (E = xISE) ∧ u = ws) (Kc ws) (Ks ws) := by
  refine mu_ofW (cc := b_S_pages) (maxL := 1) (ret := (some .int)) (by decide) rfl ?_
  intro p e s m args below meth c s₁ B hml hno hv
  obtain ⟨rfl, ⟨hP, hK, hD, hz⟩, hM⟩ := hv
  have hx := B.exec
  have hb := B.bytes
  have hr := B.returns
  have hts : ∀ w ∈ WS, w.before [.ref (a 0)].toArray s = true := fun w h => atoms_spec B.pre w (List.mem_cons_of_mem _ h)
  have hown : s.vm.findClass R_S = some m.cls := findClass_of_methodNamed B.named
  have hlocks := B.notSynchronized
  have hA : ∀ q, s.heap.size ≤ q → Az z q := fun q h => Nat.le_trans hz h
  have hS : va_S (Az z) s.heap s.heap [] := va_S.rf
  have hF : Fr t ws ws := Fr.rf
  have hn : nul ws ≤ nul ws := Nat.le_refl _
  have hl := lv_entry ([.ref (a 0)]) (n := 1) (Nat.le_of_ble_eq_true rfl)
  rw [lg_entry_eq]
  generalize (lg_sl ([.ref (a 0)]) ++ List.replicate (1 - (lg_sl ([.ref (a 0)])).length) Slot.unset).toArray = ls at hl ⊢
  have hl : lv_has ls 1 [(0, .ref (a 0))] := hl
  refine W.widen (k := Kc ws ws) (n := Ks ws ws) (Nat.zero_le _) (Nat.zero_le _) ?_
  refine lv_aload_n hx hb d_S_pages_0 rfl (lv_at hl 0 rfl) ?_
  refine mu_V (n := 0) (As := []) (rest := []) ⟨hx, hb, hml, hown, hts⟩ (c_S_requireOn (D := D) (t := t) (z := z) (sa := sa) (ws := ws)  hl0 hI ) ml_S_58 im_S_requireOn se_S_requireOn in_S cd_S_requireOn (by decide +kernel) ⟨Nat.le_of_ble_eq_true rfl, Nat.le_of_ble_eq_true rfl⟩ (va_recv hK hP (ci := 5) rfl hI.x) (Pz_at hP hK hD hz hM hS) rfl hl.1 rfl (Nat.le_of_ble_eq_true rfl) d_S_pages_1 ⟨by show 2 * (nul ws - nul ws) + (2 * nul ws + 1) ≤ 2 * nul ws + 1; omega, by show 257 * (nul ws - nul ws) + (257 * nul ws + 6) ≤ 257 * nul ws + 6; omega⟩ hS (fun E ce q u H locs hxp hP hD hS h1 h2 h3 => by obtain ⟨hE, hu⟩ := hxp; rw [hu] at hP hD; exact mu_out (u := ws) hno hlocks h1 h2 h3 hP hK hD hz hS ⟨(by simp [hE]), rfl⟩ (by rw [hu]; show 2 * (nul ws - nul ws) + (2 * (nul ws - nul ws) + 1) ≤ 2 * (nul ws - nul ws) + 1; omega) (by rw [hu]; show 257 * (nul ws - nul ws) + (257 * (nul ws - nul ws) + 6) ≤ 257 * (nul ws - nul ws) + 6; omega)) (fun r9 u1 H locs hp hP hD hS => ?_)
  obtain ⟨hr9, hw9, h01⟩ := hp
  rw [hw9] at hP hD
  subst hr9
  refine W.widen (k := Kc ws ws) (n := Ks ws ws) (by rw [hw9]; show 2 * (nul ws - nul ws) + 2 * (nul ws - nul ws) ≤ 2 * (nul ws - nul ws); omega) (by rw [hw9]; show 257 * (nul ws - nul ws) + 257 * (nul ws - nul ws) ≤ 257 * (nul ws - nul ws); omega) ?_
  clear hw9
  refine W.eq (g2 := F0 m 4 ls []) rfl ?_
  refine lv_aload_n hx hb d_S_pages_4 rfl (lv_at hl 0 rfl) ?_
  refine va_get (D := D) (ci := 5) (v := .int (v 3)) (C := R_S) (T := F_S) (N := 10) hx hb hts ws_S hown hK hP 0 hI.x rfl 8 (by decide) (hts _ fl_S_51) (fun _ h9 => h9) rfl d_S_pages_5 ?_
  refine mu_end (u := ws) (v := (some (.int (v 3)))) ⟨⟨_, rfl⟩, ⟨_, _, hI, hF, hn, hc1.eq rfl rfl⟩⟩ (Nat.le_refl _) (Nat.le_refl _) ?_
  exact W.iret (v := (v 3)) hx hb hr (fun t9 ht hW => ⟨rfl, ⟨by rw [ht]; exact hP, va_K.moved hW.alike hK, hD, by rw [ht]; exact Nat.le_trans hz hS.1⟩, hS.F ht⟩) hS.2.2 d_S_pages_8
set_option maxHeartbeats 4000000 in
set_option maxRecDepth 100000 in
theorem c_S_begin {l : Launch} {D : va_G} {t : Nat → ClassId} {z : Nat} {sa : Nat → Nat} {ws : va_W} {a : Nat → Nat} {k0 : Nat} {v : Nat → Int32}  (hl0 : l.stackTraces = false) (hI : Iv a t k0 v ws) (hc1 : C1 v)  : Mu l y_S_begin (Cond.code y_S_begin b_S_begin 1 (.none : Option Jvm.ClassFile.FieldType) :: WS) ({ frames := 7, cells := 2 * nul ws + 1, slots := 257 * nul ws + 6, locals := 102 }) D t z sa ws [.ref (a 0)] (fun r u => r = none ∧ So a t ws u) (fun E u => (E = xISE) ∧ u = ws) (Kc ws) (Ks ws) := by
  refine mu_ofW (cc := b_S_begin) (maxL := 1) (ret := (.none : Option Jvm.ClassFile.FieldType)) (by decide) rfl ?_
  intro p e s m args below meth c s₁ B hml hno hv
  obtain ⟨rfl, ⟨hP, hK, hD, hz⟩, hM⟩ := hv
  have hx := B.exec
  have hb := B.bytes
  have hr := B.returns
  have hts : ∀ w ∈ WS, w.before [.ref (a 0)].toArray s = true := fun w h => atoms_spec B.pre w (List.mem_cons_of_mem _ h)
  have hown : s.vm.findClass R_S = some m.cls := findClass_of_methodNamed B.named
  have hlocks := B.notSynchronized
  have hA : ∀ q, s.heap.size ≤ q → Az z q := fun q h => Nat.le_trans hz h
  have hS : va_S (Az z) s.heap s.heap [] := va_S.rf
  have hF : Fr t ws ws := Fr.rf
  have hn : nul ws ≤ nul ws := Nat.le_refl _
  have hl := lv_entry ([.ref (a 0)]) (n := 1) (Nat.le_of_ble_eq_true rfl)
  rw [lg_entry_eq]
  generalize (lg_sl ([.ref (a 0)]) ++ List.replicate (1 - (lg_sl ([.ref (a 0)])).length) Slot.unset).toArray = ls at hl ⊢
  have hl : lv_has ls 1 [(0, .ref (a 0))] := hl
  refine W.widen (k := Kc ws ws) (n := Ks ws ws) (Nat.zero_le _) (Nat.zero_le _) ?_
  refine lv_aload_n hx hb d_S_begin_0 rfl (lv_at hl 0 rfl) ?_
  refine mu_V (n := 0) (As := []) (rest := []) ⟨hx, hb, hml, hown, hts⟩ (c_S_requireOn (D := D) (t := t) (z := z) (sa := sa) (ws := ws)  hl0 hI ) ml_S_58 im_S_requireOn se_S_requireOn in_S cd_S_requireOn (by decide +kernel) ⟨Nat.le_of_ble_eq_true rfl, Nat.le_of_ble_eq_true rfl⟩ (va_recv hK hP (ci := 5) rfl hI.x) (Pz_at hP hK hD hz hM hS) rfl hl.1 rfl (Nat.le_of_ble_eq_true rfl) d_S_begin_1 ⟨by show 2 * (nul ws - nul ws) + (2 * nul ws + 1) ≤ 2 * nul ws + 1; omega, by show 257 * (nul ws - nul ws) + (257 * nul ws + 6) ≤ 257 * nul ws + 6; omega⟩ hS (fun E ce q u H locs hxp hP hD hS h1 h2 h3 => by obtain ⟨hE, hu⟩ := hxp; rw [hu] at hP hD; exact mu_out (u := ws) hno hlocks h1 h2 h3 hP hK hD hz hS ⟨(by simp [hE]), rfl⟩ (by rw [hu]; show 2 * (nul ws - nul ws) + (2 * (nul ws - nul ws) + 1) ≤ 2 * (nul ws - nul ws) + 1; omega) (by rw [hu]; show 257 * (nul ws - nul ws) + (257 * (nul ws - nul ws) + 6) ≤ 257 * (nul ws - nul ws) + 6; omega)) (fun r9 u1 H locs hp hP hD hS => ?_)
  obtain ⟨hr9, hw9, h01⟩ := hp
  rw [hw9] at hP hD
  subst hr9
  refine W.widen (k := Kc ws ws) (n := Ks ws ws) (by rw [hw9]; show 2 * (nul ws - nul ws) + 2 * (nul ws - nul ws) ≤ 2 * (nul ws - nul ws); omega) (by rw [hw9]; show 257 * (nul ws - nul ws) + 257 * (nul ws - nul ws) ≤ 257 * (nul ws - nul ws); omega) ?_
  clear hw9
  refine W.eq (g2 := F0 m 4 ls []) rfl ?_
  refine lv_aload_n hx hb d_S_begin_4 rfl (lv_at hl 0 rfl) ?_
  refine va_get (D := D) (ci := 5) (v := .int (v 1)) (C := R_S) (T := F_S) (N := 10) hx hb hts ws_S hown hK hP 0 hI.x rfl 6 (by decide) (hts _ fl_S_44) (fun _ h9 => h9) rfl d_S_begin_5 ?_
  refine lv_if_eq (tgt := 21) hx hb d_S_begin_8 rfl (fun q2 => ?_) (fun q2 => ?_)
  · skip
    refine lv_aload_n hx hb d_S_begin_21 rfl (lv_at hl 0 rfl) ?_
    refine lv_iconst (v := 1) hx hb d_S_begin_22 (by decide) ?_
    refine va_put (D := D) (ci := 5) (v := .int 1) (ty := .boolean) (C := R_S) (T := F_S) (N := 10) hx hb hts ws_S t_S ok_S n_S hown hK hP hD hS 0 hI.x rfl 6 (by decide) (hts _ fl_S_44) (fun _ h9 => h9) rfl (by decide +kernel) rfl rfl (Nat.le_of_ble_eq_true rfl) d_S_begin_23 (fun H locs hP hD hS => ?_)
    obtain ⟨v3, hv3⟩ : ∃ q : Nat → Int32, q = upd v 1 1 := ⟨_, rfl⟩
    have gv3 : v3 1 = 1 := by rw [hv3]; exact pk_us
    have nv3 : ∀ i, i ≠ 1 → v3 i = v i := fun i hi => by rw [hv3]; exact pk_un hi
    have hP : va_P D Cl (ws.set 0 (cX a v3)) H := by rw [hv3]; exact hP
    have hD : va_D (Az z) (ws.set 0 (cX a v3)) := by rw [hv3]; exact hD
    obtain ⟨w4, hw⟩ : ∃ q, q = ws.set 0 (cX a v3) := ⟨_, rfl⟩
    have hP : va_P D Cl (ws.set 0 (cX a v3)) H := hP
    have hD : va_D (Az z) (ws.set 0 (cX a v3)) := hD
    have hF : Fr t ws (ws.set 0 (cX a v3)) := hF.set (by decide) (by decide)
    have hI := hI.setX (v' := v3) (fun i hi => nv3 i (by omega)) (by rw [nv3 2 (by decide)]; exact hI.bd.1) (by rw [nv3 3 (by decide)]; exact hI.bd.2.1)
    have hq9 : nul (ws.set 0 (cX a v3)) = nul ws := nul_set (by decide)
    rw [← hw] at hP hD hF hI hq9
    clear hw
    have hn : nul w4 ≤ nul ws := by omega
    refine W.widen (k := Kc ws w4) (n := Ks ws w4) (by show 2 * (nul ws - nul ws) ≤ 2 * (nul ws - nul w4); omega) (by show 257 * (nul ws - nul ws) ≤ 257 * (nul ws - nul w4); omega) ?_
    refine mu_end (u := w4) (v := (none)) ⟨rfl, ⟨_, _, hI, hF, hn, hc1.eq (by rw [nv3 0 (by omega)]) (by rw [nv3 6 (by omega)])⟩⟩ (Nat.le_refl _) (Nat.le_refl _) ?_
    exact W.vret hx hb hr (fun t9 ht hW => ⟨rfl, ⟨by rw [ht]; exact hP, va_K.moved hW.alike hK, hD, by rw [ht]; exact Nat.le_trans hz hS.1⟩, hS.F ht⟩) hS.2.2 d_S_begin_26
  · skip
    exact mu_th (u := ws) hx hb hl0 hown hts hlocks hno hP hK hD hz hM hS (hl.1.trans hml.symm) (site_64_107_68) d_S_begin_11 d_S_begin_14 d_S_begin_15 d_S_begin_17 d_S_begin_20 (Nat.le_of_ble_eq_true rfl) (Nat.le_of_ble_eq_true rfl) (by show 2 * (nul ws - nul ws) + 1 ≤ 2 * nul ws + 1; omega) (by show 257 * (nul ws - nul ws) + 6 ≤ 257 * nul ws + 6; omega) (Nat.le_refl _) (Nat.le_refl _) ⟨by decide, rfl⟩
set_option maxHeartbeats 4000000 in
set_option maxRecDepth 100000 in
theorem c_S_power {l : Launch} {D : va_G} {t : Nat → ClassId} {z : Nat} {sa : Nat → Nat} {ws : va_W} {a : Nat → Nat} {k0 : Nat} {v : Nat → Int32} {x9 y9 w9 : Int32} (hl0 : l.stackTraces = false) (hI : Iv a t k0 v ws) (hc1 : C1 v) : Mu l y_S_power (Cond.code y_S_power b_S_power 4 (.none : Option Jvm.ClassFile.FieldType) :: WS) ({ frames := 6, cells := 2 * nul ws + 1, slots := 257 * nul ws + 6, locals := 82 }) D t z sa ws [.ref (a 0), .int x9, .int y9, .int w9] (fun r u => (r = none ∧ So a t ws u) ∧ (¬ x9 < 0 ∧ x9 ≤ 4 ∧ ¬ y9 < 0 ∧ y9 ≤ 1000 ∧ ¬ w9 < 0 ∧ w9 ≤ 300)) (fun E u => (E = xIAE ∧ u = ws) ∧ ¬ (¬ x9 < 0 ∧ x9 ≤ 4 ∧ ¬ y9 < 0 ∧ y9 ≤ 1000 ∧ ¬ w9 < 0 ∧ w9 ≤ 300)) (Kc ws) (Ks ws) := by
  refine mu_ofW (cc := b_S_power) (maxL := 4) (ret := (.none : Option Jvm.ClassFile.FieldType)) (by decide) rfl ?_
  intro p e s m args below meth c s₁ B hml hno hv
  obtain ⟨rfl, ⟨hP, hK, hD, hz⟩, hM⟩ := hv
  have hx := B.exec
  have hb := B.bytes
  have hr := B.returns
  have hts : ∀ w ∈ WS, w.before [.ref (a 0), .int x9, .int y9, .int w9].toArray s = true := fun w h => atoms_spec B.pre w (List.mem_cons_of_mem _ h)
  have hown : s.vm.findClass R_S = some m.cls := findClass_of_methodNamed B.named
  have hlocks := B.notSynchronized
  have hA : ∀ q, s.heap.size ≤ q → Az z q := fun q h => Nat.le_trans hz h
  have hS : va_S (Az z) s.heap s.heap [] := va_S.rf
  have hF : Fr t ws ws := Fr.rf
  have hn : nul ws ≤ nul ws := Nat.le_refl _
  have hl := lv_entry ([.ref (a 0), .int x9, .int y9, .int w9]) (n := 4) (Nat.le_of_ble_eq_true rfl)
  rw [lg_entry_eq]
  generalize (lg_sl ([.ref (a 0), .int x9, .int y9, .int w9]) ++ List.replicate (4 - (lg_sl ([.ref (a 0), .int x9, .int y9, .int w9])).length) Slot.unset).toArray = ls at hl ⊢
  have hl : lv_has ls 4 [(0, .ref (a 0)), (1, .int x9), (2, .int y9), (3, .int w9)] := hl
  refine W.widen (k := Kc ws ws) (n := Ks ws ws) (Nat.zero_le _) (Nat.zero_le _) ?_
  refine lv_iload_n hx hb d_S_power_0 rfl (lv_at hl 1 rfl) ?_
  refine lv_if_lt (tgt := 9) hx hb d_S_power_1 rfl (fun q1 => ?_) (fun q1 => ?_)
  · skip
    exact mu_th (u := ws) hx hb hl0 hown hts hlocks hno hP hK hD hz hM hS (hl.1.trans hml.symm) (site_147_149_151) d_S_power_9 d_S_power_12 d_S_power_13 d_S_power_15 d_S_power_18 (Nat.le_of_ble_eq_true rfl) (Nat.le_of_ble_eq_true rfl) (by show 2 * (nul ws - nul ws) + 1 ≤ 2 * nul ws + 1; omega) (by show 257 * (nul ws - nul ws) + 6 ≤ 257 * nul ws + 6; omega) (Nat.le_refl _) (Nat.le_refl _) ⟨⟨rfl, rfl⟩, fun ⟨h1, h2, h3, h4, h5, h6⟩ => by first | exact h1 (by assumption) | exact (by assumption : ¬ x9 ≤ 4) h2 | exact h3 (by assumption) | exact (by assumption : ¬ y9 ≤ 1000) h4 | exact h5 (by assumption) | exact (by assumption : ¬ w9 ≤ 300) h6⟩
  · skip
    refine lv_iload_n hx hb d_S_power_4 rfl (lv_at hl 1 rfl) ?_
    refine lv_iconst (v := 4) hx hb d_S_power_5 (by decide) ?_
    refine lv_icmp_le (tgt := 19) hx hb d_S_power_6 rfl (fun q2 => ?_) (fun q2 => ?_)
    · skip
      refine lv_iload_n hx hb d_S_power_19 rfl (lv_at hl 2 rfl) ?_
      refine lv_if_lt (tgt := 30) hx hb d_S_power_20 rfl (fun q3 => ?_) (fun q3 => ?_)
      · skip
        exact mu_th (u := ws) hx hb hl0 hown hts hlocks hno hP hK hD hz hM hS (hl.1.trans hml.symm) (site_147_152_151) d_S_power_30 d_S_power_33 d_S_power_34 d_S_power_36 d_S_power_39 (Nat.le_of_ble_eq_true rfl) (Nat.le_of_ble_eq_true rfl) (by show 2 * (nul ws - nul ws) + 1 ≤ 2 * nul ws + 1; omega) (by show 257 * (nul ws - nul ws) + 6 ≤ 257 * nul ws + 6; omega) (Nat.le_refl _) (Nat.le_refl _) ⟨⟨rfl, rfl⟩, fun ⟨h1, h2, h3, h4, h5, h6⟩ => by first | exact h1 (by assumption) | exact (by assumption : ¬ x9 ≤ 4) h2 | exact h3 (by assumption) | exact (by assumption : ¬ y9 ≤ 1000) h4 | exact h5 (by assumption) | exact (by assumption : ¬ w9 ≤ 300) h6⟩
      · skip
        refine lv_iload_n hx hb d_S_power_23 rfl (lv_at hl 2 rfl) ?_
        refine lv_sipush (v := 1000) hx hb d_S_power_24 (by decide) ?_
        refine lv_icmp_le (tgt := 40) hx hb d_S_power_27 rfl (fun q4 => ?_) (fun q4 => ?_)
        · skip
          refine lv_iload_n hx hb d_S_power_40 rfl (lv_at hl 3 rfl) ?_
          refine lv_if_lt (tgt := 51) hx hb d_S_power_41 rfl (fun q5 => ?_) (fun q5 => ?_)
          · skip
            exact mu_th (u := ws) hx hb hl0 hown hts hlocks hno hP hK hD hz hM hS (hl.1.trans hml.symm) (site_147_154_151) d_S_power_51 d_S_power_54 d_S_power_55 d_S_power_57 d_S_power_60 (Nat.le_of_ble_eq_true rfl) (Nat.le_of_ble_eq_true rfl) (by show 2 * (nul ws - nul ws) + 1 ≤ 2 * nul ws + 1; omega) (by show 257 * (nul ws - nul ws) + 6 ≤ 257 * nul ws + 6; omega) (Nat.le_refl _) (Nat.le_refl _) ⟨⟨rfl, rfl⟩, fun ⟨h1, h2, h3, h4, h5, h6⟩ => by first | exact h1 (by assumption) | exact (by assumption : ¬ x9 ≤ 4) h2 | exact h3 (by assumption) | exact (by assumption : ¬ y9 ≤ 1000) h4 | exact h5 (by assumption) | exact (by assumption : ¬ w9 ≤ 300) h6⟩
          · skip
            refine lv_iload_n hx hb d_S_power_44 rfl (lv_at hl 3 rfl) ?_
            refine lv_sipush (v := 300) hx hb d_S_power_45 (by decide) ?_
            refine lv_icmp_le (tgt := 61) hx hb d_S_power_48 rfl (fun q6 => ?_) (fun q6 => ?_)
            · skip
              refine lv_aload_n hx hb d_S_power_61 rfl (lv_at hl 0 rfl) ?_
              refine va_get (D := D) (ci := 5) (v := .ref (a 8)) (C := R_S) (T := F_S) (N := 10) hx hb hts ws_S hown hK hP 0 hI.x rfl 3 (by decide) (hts _ fl_S_32) (fun _ h9 => h9) rfl d_S_power_62 ?_
              refine lv_iload_n hx hb d_S_power_65 rfl (lv_at hl 1 rfl) ?_
              refine lv_iload_n hx hb d_S_power_66 rfl (lv_at hl 2 rfl) ?_
              refine lv_iload_n hx hb d_S_power_67 rfl (lv_at hl 3 rfl) ?_
              refine mu_V (n := 3) (As := [.int x9, .int y9, .int w9]) (rest := []) ⟨hx, hb, hml, hown, hts⟩ (c_U_set (D := D) (t := t) (z := z) (sa := sa) (ws := ws) (x9 := x9) (y9 := y9) (w9 := w9) hI (by obtain ⟨B, h1, h2⟩ := nI_of2 (M := 300) (n := 300) (x := w9) (by decide) (by assumption) (by assumption); exact ⟨B, h1, h2⟩)) ml_S_156 im_U_set se_U_set in_U cd_U_set (by decide +kernel) ⟨Nat.le_of_ble_eq_true rfl, Nat.le_of_ble_eq_true rfl⟩ (va_recv hK hP (ci := 2) rfl hI.u8) (Pz_at hP hK hD hz hM hS) rfl hl.1 rfl (Nat.le_of_ble_eq_true rfl) d_S_power_68 ⟨by show 2 * (nul ws - nul ws) + (2 * nul ws + 1) ≤ 2 * nul ws + 1; omega, by show 257 * (nul ws - nul ws) + (257 * nul ws + 6) ≤ 257 * nul ws + 6; omega⟩ hS (fun _ _ _ _ _ _ h => h.elim) (fun r9 u7 H locs hp hP hD hS => ?_)
              obtain ⟨v8, hI, hF9, hn9, hr9, nv8, -, -, -, -⟩ := hp
              subst hr9
              have hF := hF.trans hF9
              have hn : nul u7 ≤ nul ws := by omega
              refine W.widen (k := Kc ws u7) (n := Ks ws u7) (by show 2 * (nul ws - nul ws) + 2 * (nul ws - nul u7) ≤ 2 * (nul ws - nul u7); omega) (by show 257 * (nul ws - nul ws) + 257 * (nul ws - nul u7) ≤ 257 * (nul ws - nul u7); omega) ?_
              refine W.eq (g2 := F0 m 71 ls []) rfl ?_
              refine mu_end (u := u7) (v := (none)) ⟨⟨rfl, ⟨_, _, hI, hF, hn, hc1.eq (by rw [nv8 0 (by omega)]) (by rw [nv8 6 (by omega)])⟩⟩, by assumption, by assumption, by assumption, by assumption, by assumption, by assumption⟩ (Nat.le_refl _) (Nat.le_refl _) ?_
              exact W.vret hx hb hr (fun t9 ht hW => ⟨rfl, ⟨by rw [ht]; exact hP, va_K.moved hW.alike hK, hD, by rw [ht]; exact Nat.le_trans hz hS.1⟩, hS.F ht⟩) hS.2.2 d_S_power_71
            · skip
              exact mu_th (u := ws) hx hb hl0 hown hts hlocks hno hP hK hD hz hM hS (hl.1.trans hml.symm) (site_147_154_151) d_S_power_51 d_S_power_54 d_S_power_55 d_S_power_57 d_S_power_60 (Nat.le_of_ble_eq_true rfl) (Nat.le_of_ble_eq_true rfl) (by show 2 * (nul ws - nul ws) + 1 ≤ 2 * nul ws + 1; omega) (by show 257 * (nul ws - nul ws) + 6 ≤ 257 * nul ws + 6; omega) (Nat.le_refl _) (Nat.le_refl _) ⟨⟨rfl, rfl⟩, fun ⟨h1, h2, h3, h4, h5, h6⟩ => by first | exact h1 (by assumption) | exact (by assumption : ¬ x9 ≤ 4) h2 | exact h3 (by assumption) | exact (by assumption : ¬ y9 ≤ 1000) h4 | exact h5 (by assumption) | exact (by assumption : ¬ w9 ≤ 300) h6⟩
        · skip
          exact mu_th (u := ws) hx hb hl0 hown hts hlocks hno hP hK hD hz hM hS (hl.1.trans hml.symm) (site_147_152_151) d_S_power_30 d_S_power_33 d_S_power_34 d_S_power_36 d_S_power_39 (Nat.le_of_ble_eq_true rfl) (Nat.le_of_ble_eq_true rfl) (by show 2 * (nul ws - nul ws) + 1 ≤ 2 * nul ws + 1; omega) (by show 257 * (nul ws - nul ws) + 6 ≤ 257 * nul ws + 6; omega) (Nat.le_refl _) (Nat.le_refl _) ⟨⟨rfl, rfl⟩, fun ⟨h1, h2, h3, h4, h5, h6⟩ => by first | exact h1 (by assumption) | exact (by assumption : ¬ x9 ≤ 4) h2 | exact h3 (by assumption) | exact (by assumption : ¬ y9 ≤ 1000) h4 | exact h5 (by assumption) | exact (by assumption : ¬ w9 ≤ 300) h6⟩
    · skip
      exact mu_th (u := ws) hx hb hl0 hown hts hlocks hno hP hK hD hz hM hS (hl.1.trans hml.symm) (site_147_149_151) d_S_power_9 d_S_power_12 d_S_power_13 d_S_power_15 d_S_power_18 (Nat.le_of_ble_eq_true rfl) (Nat.le_of_ble_eq_true rfl) (by show 2 * (nul ws - nul ws) + 1 ≤ 2 * nul ws + 1; omega) (by show 257 * (nul ws - nul ws) + 6 ≤ 257 * nul ws + 6; omega) (Nat.le_refl _) (Nat.le_refl _) ⟨⟨rfl, rfl⟩, fun ⟨h1, h2, h3, h4, h5, h6⟩ => by first | exact h1 (by assumption) | exact (by assumption : ¬ x9 ≤ 4) h2 | exact h3 (by assumption) | exact (by assumption : ¬ y9 ≤ 1000) h4 | exact h5 (by assumption) | exact (by assumption : ¬ w9 ≤ 300) h6⟩
