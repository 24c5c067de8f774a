abbrev b_J_fill : ByteArray := prog_19_method_109_code
def y_J_fill : MethodName := ⟨"java/util/Arrays", "fill", "([BB)V"⟩
theorem d_J_fill_0 : decode b_J_fill 0 = .ok (.iconst 0, 1) := by decide +kernel
theorem d_J_fill_1 : decode b_J_fill 1 = .ok (.istore_n 2, 1) := by decide +kernel
theorem d_J_fill_2 : decode b_J_fill 2 = .ok (.aload_n 0, 1) := by decide +kernel
theorem d_J_fill_3 : decode b_J_fill 3 = .ok (.arraylength, 1) := by decide +kernel
theorem d_J_fill_4 : decode b_J_fill 4 = .ok (.istore_n 3, 1) := by decide +kernel
theorem d_J_fill_5 : decode b_J_fill 5 = .ok (.iload_n 2, 1) := by decide +kernel
theorem d_J_fill_6 : decode b_J_fill 6 = .ok (.iload_n 3, 1) := by decide +kernel
theorem d_J_fill_7 : decode b_J_fill 7 = .ok (.if_icmp .ge 13, 3) := by decide +kernel
theorem d_J_fill_10 : decode b_J_fill 10 = .ok (.aload_n 0, 1) := by decide +kernel
theorem d_J_fill_11 : decode b_J_fill 11 = .ok (.iload_n 2, 1) := by decide +kernel
theorem d_J_fill_12 : decode b_J_fill 12 = .ok (.iload_n 1, 1) := by decide +kernel
theorem d_J_fill_13 : decode b_J_fill 13 = .ok (.bastore, 1) := by decide +kernel
theorem d_J_fill_14 : decode b_J_fill 14 = .ok (.iinc 2 1, 3) := by decide +kernel
theorem d_J_fill_17 : decode b_J_fill 17 = .ok (.goto (-12), 3) := by decide +kernel
theorem d_J_fill_20 : decode b_J_fill 20 = .ok (.return_, 1) := by decide +kernel
theorem st_J_fill : Cond.static y_J_fill ∈ WS := by decide +kernel
theorem cd_J_fill : Cond.code y_J_fill b_J_fill 4 none ∈ WS := by decide +kernel
theorem ml_J_fill : Cond.methodLink R_S 75 y_J_fill ∈ WS := by decide +kernel
theorem in_J_fill : Cond.initialized y_J_fill.cls ∈ WS := by decide +kernel
theorem gd_S {own : String} {i : Nat} {y : MethodName} {b : ByteArray} {n : Nat} {r : Option FieldType} (h1 : Cond.methodLink own i y ∈ WS) (h2 : Cond.static y ∈ WS) (h3 : Cond.initialized y.cls ∈ WS) (hc : Cond.code y b n r ∈ WS) : GoodIn WS (va_wsS own i y (Cond.code y b n r :: WS)) := by
  intro w h
  unfold va_wsS at h
  rcases List.mem_append.mp h with h | h
  · simp only [List.mem_cons, List.mem_nil_iff, or_false] at h
    rcases h with rfl | rfl | rfl
    · exact ⟨h1, WS_good h1⟩
    · exact ⟨h2, WS_good h2⟩
    · exact ⟨h3, WS_good h3⟩
  · exact gd_I hc w h
theorem ls_set2 {ws : va_W} {k : Nat} {x y : Nat × va_E} : (ws.set k x).set k y = ws.set k y := by simp
set_option maxHeartbeats 4000000 in
set_option maxRecDepth 100000 in
/-- Arrays.fill of a block's bytes -/
theorem c_J_fill {l : Launch} {D : va_G} {t : Nat → ClassId} {z : Nat} {sa : Nat → Nat} {ws : va_W} {k c0 : Nat} {f : Nat → Int32} {x9 : Int32} (e0 : ws[k]? = some (cA t c0 f)) (hf : sb_Fit f) : Met l y_J_fill (Cond.code y_J_fill b_J_fill 4 none :: WS) ({ frames := 0, cells := 0, slots := 0, locals := 0 }) (Pz D t z sa ws [.ref c0, .int x9]) (va_Qv (fun u : va_W => ∃ f', sb_Fit f' ∧ u = ws.set k (cA t c0 f')) (fun u U => Wd D t z u U) (Az z)) 0 0 (Az z) := by
  refine Met.ofW (cc := b_J_fill) (maxL := 4) (ret := none) (by decide) rfl ?_
  intro p e s m args below meth c s₁ B hml hv
  obtain ⟨rfl, ⟨hP, hK, hD, hz⟩, hM⟩ := hv
  have hx := B.exec
  have hb := B.bytes
  have hr := B.returns
  have hlocks := B.notSynchronized
  have hS : va_S (Az z) s.heap s.heap [] := va_S.rf
  have hl := lv_entry ([.ref c0, .int x9]) (n := 4) (Nat.le_of_ble_eq_true rfl)
  rw [lg_entry_eq]
  generalize (lg_sl ([.ref c0, .int x9]) ++ List.replicate (4 - (lg_sl ([.ref c0, .int x9])).length) Slot.unset).toArray = ls at hl ⊢
  have hl : lv_has ls 4 [(0, .ref c0), (1, .int x9)] := hl
  refine lv_iconst (v := 0) hx hb d_J_fill_0 (by decide) ?_
  refine lv_istore_n (lv' := [(2, .int 0), (0, .ref c0), (1, .int x9)]) hx hb d_J_fill_1 rfl hl (by decide) rfl (fun ls hl => ?_)
  refine lv_aload_n hx hb d_J_fill_2 rfl (lv_at hl 1 rfl) ?_
  refine va_alen (D := D) hx hb hK hP k 0 e0 rfl (v := 256) rfl d_J_fill_3 ?_
  refine lv_istore_n (lv' := [(3, .int 256), (2, .int 0), (0, .ref c0), (1, .int x9)]) hx hb d_J_fill_4 rfl hl (by decide) rfl (fun ls hl => ?_)
  have key : ∀ (n i : Nat) (f : Nat → Int32) (H : Heap) (locs : List Loc) (ls : Array Slot), i + n = 256 → sb_Fit f → va_P D Cl (ws.set k (cA t c0 f)) H → va_D (Az z) (ws.set k (cA t c0 f)) → va_S (Az z) s.heap H locs → lv_has ls 4 [(2, .int (nI i)), (3, .int 256), (0, .ref c0), (1, .int x9)] →
      W p l e (headSpec (Cond.code y_J_fill b_J_fill 4 none :: WS) ({ frames := 0, cells := 0, slots := 0, locals := 0 })).room s m [.ref c0, .int x9].toArray below meth c H locs 0 0 (MQ below (va_Qv (fun u : va_W => ∃ f', sb_Fit f' ∧ u = ws.set k (cA t c0 f')) (fun u U => Wd D t z u U) (Az z)) [.ref c0, .int x9].toArray s 0 0 (Az z)) (F0 m 5 ls []) := by
    intro n
    induction n with
    | zero =>
      intro i f H locs ls hi hf hP hD hS hl
      have hi : i = 256 := by omega
      subst hi
      refine lv_iload_n hx hb d_J_fill_5 rfl (lv_at hl 0 rfl) ?_
      refine lv_iload_n hx hb d_J_fill_6 rfl (lv_at hl 1 rfl) ?_
      refine lv_icmp_ge (tgt := 20) hx hb d_J_fill_7 rfl (fun _ => ?_) (fun h => absurd (show (256 : Int32) ≤ nI 256 by decide) h)
      exact W.vret hx hb hr (fun t9 ht hW => ⟨⟨_, rfl, ⟨f, hf, rfl⟩, by rw [ht]; exact hP, va_K.moved hW.alike hK, hD, by rw [ht]; exact Nat.le_trans hz hS.1⟩, hS.F ht⟩) hS.2.2 d_J_fill_20
    | succ n ih =>
      intro i f H locs ls hi hf hP hD hS hl
      refine lv_iload_n hx hb d_J_fill_5 rfl (lv_at hl 0 rfl) ?_
      refine lv_iload_n hx hb d_J_fill_6 rfl (lv_at hl 1 rfl) ?_
      refine lv_icmp_ge (tgt := 20) hx hb d_J_fill_7 rfl (fun h => absurd h (nI_ge (a := i) (b := 256) (by omega) (by decide))) (fun _ => ?_)
      refine lv_aload_n hx hb d_J_fill_10 rfl (lv_at hl 2 rfl) ?_
      refine lv_iload_n hx hb d_J_fill_11 rfl (lv_at hl 0 rfl) ?_
      refine lv_iload_n hx hb d_J_fill_12 rfl (lv_at hl 3 rfl) ?_
      refine va_bast (D := D) hx hb hK hP hD hS k 0 (lk_set e0) rfl (i := nI i) (x := x9) (vp_in_nI (by omega) (by decide)) d_J_fill_13 (fun H locs hP hD hS => ?_)
      rw [ls_set2] at hP hD
      refine lv_iinc (k := 0) (v := nI (i + 1)) (lv' := [(2, .int (nI (i + 1))), (3, .int 256), (0, .ref c0), (1, .int x9)]) hx hb d_J_fill_14 hl rfl (nI_1 i) (by decide) rfl (fun ls hl => ?_)
      refine lv_goto (tgt := 5) hx hb d_J_fill_17 rfl ?_
      exact ih (i + 1) _ H locs ls (by omega) (sb_fitU hf (bfit x9)) hP hD hS hl
  have e9 : ws.set k (cA t c0 f) = ws := List.ext_getElem? fun j => by
    by_cases h : k = j
    · subst h; rw [lk_set e0, e0]
    · rw [List.getElem?_set_ne h]
  exact key 256 0 f s.heap [] ls rfl hf (by rw [e9]; exact hP) (by rw [e9]; exact hD) hS (lv_sub hl [1, 0, 2, 3] rfl)
set_option maxHeartbeats 4000000 in
set_option maxRecDepth 100000 in
theorem c_S_add {l : Launch} {D : va_G} {t : Nat → ClassId} {z : Nat} {sa : Nat → Nat} {ws : va_W} {a : Nat → Nat} {k0 : Nat} {v : Nat → Int32}  (hl0 : l.stackTraces = false) (hI : Iv a t k0 v ws) (hc1 : C1 v)  : Mu l y_S_add (Cond.code y_S_add b_S_add 1 (some .int) :: WS) ({ frames := 8, cells := 2 * nul ws + 1, slots := 257 * nul ws + 6, locals := 122 }) D t z sa ws [.ref (a 0)] (fun r u => (∃ y, r = some (.int y)) ∧ So a t ws u) (fun E u => (E = xISE) ∧ u = ws) (Kc ws) (Ks ws) := by
  refine mu_ofW (cc := b_S_add) (maxL := 1) (ret := (some .int)) (by decide) rfl ?_
  intro p e s m args below meth c s₁ B hml hno hv
  obtain ⟨rfl, ⟨hP, hK, hD, hz⟩, hM⟩ := hv
  have hx := B.exec
  have hb := B.bytes
  have hr := B.returns
  have hts : ∀ w ∈ WS, w.before [.ref (a 0)].toArray s = true := fun w h => atoms_spec B.pre w (List.mem_cons_of_mem _ h)
  have hown : s.vm.findClass R_S = some m.cls := findClass_of_methodNamed B.named
  have hlocks := B.notSynchronized
  have hA : ∀ q, s.heap.size ≤ q → Az z q := fun q h => Nat.le_trans hz h
  have hS : va_S (Az z) s.heap s.heap [] := va_S.rf
  have hF : Fr t ws ws := Fr.rf
  have hn : nul ws ≤ nul ws := Nat.le_refl _
  have hl := lv_entry ([.ref (a 0)]) (n := 1) (Nat.le_of_ble_eq_true rfl)
  rw [lg_entry_eq]
  generalize (lg_sl ([.ref (a 0)]) ++ List.replicate (1 - (lg_sl ([.ref (a 0)])).length) Slot.unset).toArray = ls at hl ⊢
  have hl : lv_has ls 1 [(0, .ref (a 0))] := hl
  refine W.widen (k := Kc ws ws) (n := Ks ws ws) (Nat.zero_le _) (Nat.zero_le _) ?_
  refine lv_aload_n hx hb d_S_add_0 rfl (lv_at hl 0 rfl) ?_
  refine mu_V (n := 0) (As := []) (rest := []) ⟨hx, hb, hml, hown, hts⟩ (c_S_requireOpen (D := D) (t := t) (z := z) (sa := sa) (ws := ws)  hl0 hI ) ml_S_61 im_S_requireOpen se_S_requireOpen in_S cd_S_requireOpen (by decide +kernel) ⟨Nat.le_of_ble_eq_true rfl, Nat.le_of_ble_eq_true rfl⟩ (va_recv hK hP (ci := 5) rfl hI.x) (Pz_at hP hK hD hz hM hS) rfl hl.1 rfl (Nat.le_of_ble_eq_true rfl) d_S_add_1 ⟨by show 2 * (nul ws - nul ws) + (2 * nul ws + 1) ≤ 2 * nul ws + 1; omega, by show 257 * (nul ws - nul ws) + (257 * nul ws + 6) ≤ 257 * nul ws + 6; omega⟩ hS (fun E ce q u H locs hxp hP hD hS h1 h2 h3 => by obtain ⟨hE, hu⟩ := hxp; rw [hu] at hP hD; exact mu_out (u := ws) hno hlocks h1 h2 h3 hP hK hD hz hS ⟨(by simp [hE]), rfl⟩ (by rw [hu]; show 2 * (nul ws - nul ws) + (2 * (nul ws - nul ws) + 1) ≤ 2 * (nul ws - nul ws) + 1; omega) (by rw [hu]; show 257 * (nul ws - nul ws) + (257 * (nul ws - nul ws) + 6) ≤ 257 * (nul ws - nul ws) + 6; omega)) (fun r9 u1 H locs hp hP hD hS => ?_)
  obtain ⟨hr9, hw9, h01⟩ := hp
  rw [hw9] at hP hD
  subst hr9
  refine W.widen (k := Kc ws ws) (n := Ks ws ws) (by rw [hw9]; show 2 * (nul ws - nul ws) + 2 * (nul ws - nul ws) ≤ 2 * (nul ws - nul ws); omega) (by rw [hw9]; show 257 * (nul ws - nul ws) + 257 * (nul ws - nul ws) ≤ 257 * (nul ws - nul ws); omega) ?_
  clear hw9
  refine W.eq (g2 := F0 m 4 ls []) rfl ?_
  refine lv_aload_n hx hb d_S_add_4 rfl (lv_at hl 0 rfl) ?_
  refine va_get (D := D) (ci := 5) (v := .int (v 3)) (C := R_S) (T := F_S) (N := 10) hx hb hts ws_S hown hK hP 0 hI.x rfl 8 (by decide) (hts _ fl_S_51) (fun _ h9 => h9) rfl d_S_add_5 ?_
  refine lv_sipush (v := 768) hx hb d_S_add_8 (by decide) ?_
  refine lv_icmp_lt (tgt := 24) hx hb d_S_add_11 rfl (fun q2 => ?_) (fun q2 => ?_)
  · skip
    refine lv_aload_n hx hb d_S_add_24 rfl (lv_at hl 0 rfl) ?_
    refine va_get (D := D) (ci := 5) (v := .ref (a 7)) (C := R_S) (T := F_S) (N := 10) hx hb hts ws_S hown hK hP 0 hI.x rfl 2 (by decide) (hts _ fl_S_25) (fun _ h9 => h9) rfl d_S_add_25 ?_
    refine lv_aload_n hx hb d_S_add_28 rfl (lv_at hl 0 rfl) ?_
    refine va_get (D := D) (ci := 5) (v := .int (v 2)) (C := R_S) (T := F_S) (N := 10) hx hb hts ws_S hown hK hP 0 hI.x rfl 7 (by decide) (hts _ fl_S_47) (fun _ h9 => h9) rfl d_S_add_29 ?_
    obtain ⟨i, hC1, hxi⟩ := hI.bd.2.1
    have hi : i < 768 := (nI_ltI (b := 768) (by omega) (by decide)).mp (by rw [← hxi]; assumption)
    obtain ⟨jm, hM1, hM2⟩ := hI.bd.1
    have hjm : jm < 6 := by omega
    obtain ⟨gl, e7, g7⟩ := hI.l7
    refine va_aldq (D := D) hx hb hK hP 7 3 e7 rfl (i := (v 2)) (by rw [hM2]; exact vp_in_nI hjm (by decide)) d_S_add_32 ?_
    refine W.eq (g2 := F0 m 33 ls [.ref (a (10 + 4 * jm))]) (by rw [show (v 2).toNatClampNeg = jm from by rw [hM2]; exact nI_clamp (by omega), g7 jm hjm]; rfl) ?_
    refine lv_aload_n hx hb d_S_add_33 rfl (lv_at hl 0 rfl) ?_
    refine va_get (D := D) (ci := 5) (v := .int (v 3)) (C := R_S) (T := F_S) (N := 10) hx hb hts ws_S hown hK hP 0 hI.x rfl 8 (by decide) (hts _ fl_S_51) (fun _ h9 => h9) rfl d_S_add_34 ?_
    refine mu_V (n := 1) (As := [.int (v 3)]) (rest := []) ⟨hx, hb, hml, hown, hts⟩ (c_Z_hold (D := D) (t := t) (z := z) (sa := sa) (ws := ws) (j := jm) (i := i) hI hjm hi hxi) ml_S_71 im_Z_hold se_Z_hold in_Z cd_Z_hold (by decide +kernel) ⟨Nat.le_of_ble_eq_true rfl, Nat.le_of_ble_eq_true rfl⟩ (va_recv hK hP (ci := 4) rfl (hI.z hjm)) (Pz_at hP hK hD hz hM hS) rfl hl.1 rfl (Nat.le_of_ble_eq_true rfl) d_S_add_37 ⟨by show 2 * (nul ws - nul ws) + (2 * nul ws + 1) ≤ 2 * nul ws + 1; omega, by show 257 * (nul ws - nul ws) + (257 * nul ws + 6) ≤ 257 * nul ws + 6; omega⟩ hS (fun _ _ _ _ _ _ h => h.elim) (fun r9 u3 H locs hp hP hD hS => ?_)
    obtain ⟨c4, j5, k6, f7, hr9, h42c4, hcc4, hsp, hI, hF9, hn9, hj9⟩ := hp
    have hk1 : k6 = k0 := hj9 (Or.inr (fun h => by have h9 := h.1; omega))
    rw [hk1] at hI hsp
    subst hr9
    have hF := hF.trans hF9
    have hnec4 : j5 ≠ k0 := fun h => by have h9 := (hsp.mp h).1; omega
    have hn : nul u3 ≤ nul ws := by omega
    refine W.widen (k := Kc ws u3) (n := Ks ws u3) (by show 2 * (nul ws - nul ws) + 2 * (nul ws - nul u3) ≤ 2 * (nul ws - nul u3); omega) (by show 257 * (nul ws - nul ws) + 257 * (nul ws - nul u3) ≤ 257 * (nul ws - nul u3); omega) ?_
    refine W.eq (g2 := F0 m 40 ls [.ref c4]) rfl ?_
    refine lv_iconst (v := 0) hx hb d_S_add_40 (by decide) ?_
    refine va_callv (va_runS (As := [.ref c4, .int 0]) (rest := []) ⟨hx, hb, hml, hown, hts⟩ (c_J_fill (D := D) (t := t) (z := z) (sa := sa) (ws := u3) hcc4 (hI.bf j5 _ _ _ (Or.inr h42c4) hcc4)) (va_cwS 2 hts (gd_S ml_J_fill st_J_fill in_J_fill cd_J_fill) rfl rfl rfl (by decide +kernel) ⟨Nat.le_of_ble_eq_true rfl, Nat.le_of_ble_eq_true rfl⟩) ⟨Pz_blind, Pz_at hP hK hD hz hM hS⟩ rfl rfl hl.1 rfl (lv_room (Nat.le_of_ble_eq_true rfl)) d_S_add_41 ⟨by show 2 * (nul ws - nul u3) + 0 ≤ 2 * nul ws + 1; omega, by show 257 * (nul ws - nul u3) + 0 ≤ 257 * nul ws + 6; omega⟩) hS (fun q _ h => h) (fun q h => h) (fun u8 t9 H locs ht hvm hp hB hz1 hk1 hS => ?_)
    obtain ⟨hP, hK9, hD, -⟩ := hB
    rw [ht] at hP
    obtain ⟨f8, hf8, hu9⟩ := hp
    rw [hu9] at hP hD
    refine W.widen (k := Kc ws u3) (n := Ks ws u3) (Nat.le_refl _) (Nat.le_refl _) ?_
    obtain ⟨w10, hw⟩ : ∃ q, q = u3.set j5 (cA t c4 f8) := ⟨_, rfl⟩
    have hP : va_P D Cl (u3.set j5 (cA t c4 f8)) H := hP
    have hD : va_D (Az z) (u3.set j5 (cA t c4 f8)) := hD
    have hF : Fr t ws (u3.set j5 (cA t c4 f8)) := hF.setA hcc4 (Or.inr h42c4)
    have hI := hI.setB (f1 := f8) h42c4 hcc4 (fun h => absurd h hnec4) hf8
    have hq9 : nul (u3.set j5 (cA t c4 f8)) = nul u3 := nul_set (fun h => by have := mds_lt h; omega)
    rw [← hw] at hP hD hF hI hq9
    clear hw
    have hn : nul w10 ≤ nul ws := by omega
    refine W.widen (k := Kc ws w10) (n := Ks ws w10) (by show 2 * (nul ws - nul u3) ≤ 2 * (nul ws - nul w10); omega) (by show 257 * (nul ws - nul u3) ≤ 257 * (nul ws - nul w10); omega) ?_
    refine lv_aload_n hx hb d_S_add_44 rfl (lv_at hl 0 rfl) ?_
    refine lv_dup hx hb d_S_add_45 rfl ?_
    refine va_get (D := D) (ci := 5) (v := .int (v 3)) (C := R_S) (T := F_S) (N := 10) hx hb hts ws_S hown hK hP 0 hI.x rfl 8 (by decide) (hts _ fl_S_51) (fun _ h9 => h9) rfl d_S_add_46 ?_
    refine lv_iconst (v := 1) hx hb d_S_add_49 (by decide) ?_
    refine lv_iadd hx hb d_S_add_50 ?_
    refine lv_topi (fun y9 hy9 => ?_)
    have hy9 : y9 = nI (i + 1) := by rw [hy9, hxi]; exact nI_1 i
    refine va_put (D := D) (ci := 5) (v := .int y9) (ty := .int) (C := R_S) (T := F_S) (N := 10) hx hb hts ws_S t_S ok_S n_S hown hK hP hD hS 0 hI.x rfl 8 (by decide) (hts _ fl_S_51) (fun _ h9 => h9) rfl (by decide +kernel) rfl rfl (Nat.le_of_ble_eq_true rfl) d_S_add_51 (fun H locs hP hD hS => ?_)
    obtain ⟨v11, hv11⟩ : ∃ q : Nat → Int32, q = upd v 3 y9 := ⟨_, rfl⟩
    have gv11 : v11 3 = y9 := by rw [hv11]; exact pk_us
    have nv11 : ∀ i, i ≠ 3 → v11 i = v i := fun i hi => by rw [hv11]; exact pk_un hi
    have hP : va_P D Cl (w10.set 0 (cX a v11)) H := by rw [hv11]; exact hP
    have hD : va_D (Az z) (w10.set 0 (cX a v11)) := by rw [hv11]; exact hD
    obtain ⟨w12, hw⟩ : ∃ q, q = w10.set 0 (cX a v11) := ⟨_, rfl⟩
    have hP : va_P D Cl (w10.set 0 (cX a v11)) H := hP
    have hD : va_D (Az z) (w10.set 0 (cX a v11)) := hD
    have hF : Fr t ws (w10.set 0 (cX a v11)) := hF.set (by decide) (by decide)
    have hI := hI.setX (v' := v11) (fun i hi => nv11 i (by omega)) (by rw [nv11 2 (by decide)]; exact hI.bd.1) ⟨i + 1, by omega, by rw [gv11]; exact hy9⟩
    have hq9 : nul (w10.set 0 (cX a v11)) = nul w10 := nul_set (by decide)
    rw [← hw] at hP hD hF hI hq9
    clear hw
    have hn : nul w12 ≤ nul ws := by omega
    refine W.widen (k := Kc ws w12) (n := Ks ws w12) (by show 2 * (nul ws - nul w10) ≤ 2 * (nul ws - nul w12); omega) (by show 257 * (nul ws - nul w10) ≤ 257 * (nul ws - nul w12); omega) ?_
    refine lv_aload_n hx hb d_S_add_54 rfl (lv_at hl 0 rfl) ?_
    refine va_get (D := D) (ci := 5) (v := .int (v11 3)) (C := R_S) (T := F_S) (N := 10) hx hb hts ws_S hown hK hP 0 hI.x rfl 8 (by decide) (hts _ fl_S_51) (fun _ h9 => h9) rfl d_S_add_55 ?_
    refine lv_iconst (v := 1) hx hb d_S_add_58 (by decide) ?_
    refine lv_isub hx hb d_S_add_59 ?_
    refine lv_topi (fun v13 hv13 => ?_)
    refine mu_end (u := w12) (v := (some (.int v13))) ⟨⟨_, rfl⟩, ⟨_, _, hI, hF, hn, hc1.eq (by rw [nv11 0 (by omega)]) (by rw [nv11 6 (by omega)])⟩⟩ (Nat.le_refl _) (Nat.le_refl _) ?_
    exact W.iret (v := v13) hx hb hr (fun t9 ht hW => ⟨rfl, ⟨by rw [ht]; exact hP, va_K.moved hW.alike hK, hD, by rw [ht]; exact Nat.le_trans hz hS.1⟩, hS.F ht⟩) hS.2.2 d_S_add_60
  · skip
    exact mu_th (u := ws) hx hb hl0 hown hts hlocks hno hP hK hD hz hM hS (hl.1.trans hml.symm) (site_64_66_68) d_S_add_14 d_S_add_17 d_S_add_18 d_S_add_20 d_S_add_23 (Nat.le_of_ble_eq_true rfl) (Nat.le_of_ble_eq_true rfl) (by show 2 * (nul ws - nul ws) + 1 ≤ 2 * nul ws + 1; omega) (by show 257 * (nul ws - nul ws) + 6 ≤ 257 * nul ws + 6; omega) (Nat.le_refl _) (Nat.le_refl _) ⟨by decide, rfl⟩
