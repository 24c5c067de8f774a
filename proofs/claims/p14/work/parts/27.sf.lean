set_option maxHeartbeats 4000000 in
set_option maxRecDepth 100000 in
theorem c_S_sum {l : Launch} {D : va_G} {t : Nat → ClassId} {z : Nat} {sa : Nat → Nat} {ws : va_W} {a : Nat → Nat} {k0 : Nat} {v : Nat → Int32} {x9 : Int32} (hl0 : l.stackTraces = false) (hI : Iv a t k0 v ws) (hc1 : C1 v)  : Mu l y_S_sum (Cond.code y_S_sum b_S_sum 6 (some .long) :: WS) ({ frames := 7, cells := 2 * nul ws + 1, slots := 257 * nul ws + 6, locals := 103 }) D t z sa ws [.ref (a 0), .int x9] (fun r u => (∃ y, r = some (.long y)) ∧ So a t ws u) (fun E u => (E = xISE ∨ E = xIOB) ∧ u = ws) (Kc ws) (Ks ws) := by
  refine mu_ofW (cc := b_S_sum) (maxL := 6) (ret := (some .long)) (by decide) rfl ?_
  intro p e s m args below meth c s₁ B hml hno hv
  obtain ⟨rfl, ⟨hP, hK, hD, hz⟩, hM⟩ := hv
  have hx := B.exec
  have hb := B.bytes
  have hr := B.returns
  have hts : ∀ w ∈ WS, w.before [.ref (a 0), .int x9].toArray s = true := fun w h => atoms_spec B.pre w (List.mem_cons_of_mem _ h)
  have hown : s.vm.findClass R_S = some m.cls := findClass_of_methodNamed B.named
  have hlocks := B.notSynchronized
  have hA : ∀ q, s.heap.size ≤ q → Az z q := fun q h => Nat.le_trans hz h
  have hS : va_S (Az z) s.heap s.heap [] := va_S.rf
  have hF : Fr t ws ws := Fr.rf
  have hn : nul ws ≤ nul ws := Nat.le_refl _
  have hl := lv_entry ([.ref (a 0), .int x9]) (n := 6) (Nat.le_of_ble_eq_true rfl)
  rw [lg_entry_eq]
  generalize (lg_sl ([.ref (a 0), .int x9]) ++ List.replicate (6 - (lg_sl ([.ref (a 0), .int x9])).length) Slot.unset).toArray = ls at hl ⊢
  have hl : lv_has ls 6 [(0, .ref (a 0)), (1, .int x9)] := hl
  refine W.widen (k := Kc ws ws) (n := Ks ws ws) (Nat.zero_le _) (Nat.zero_le _) ?_
  refine lv_aload_n hx hb d_S_sum_0 rfl (lv_at hl 0 rfl) ?_
  refine mu_V (n := 0) (As := []) (rest := []) ⟨hx, hb, hml, hown, hts⟩ (c_S_requireOn (D := D) (t := t) (z := z) (sa := sa) (ws := ws)  hl0 hI ) ml_S_58 im_S_requireOn se_S_requireOn in_S cd_S_requireOn (by decide +kernel) ⟨Nat.le_of_ble_eq_true rfl, Nat.le_of_ble_eq_true rfl⟩ (va_recv hK hP (ci := 5) rfl hI.x) (Pz_at hP hK hD hz hM hS) rfl hl.1 rfl (Nat.le_of_ble_eq_true rfl) d_S_sum_1 ⟨by show 2 * (nul ws - nul ws) + (2 * nul ws + 1) ≤ 2 * nul ws + 1; omega, by show 257 * (nul ws - nul ws) + (257 * nul ws + 6) ≤ 257 * nul ws + 6; omega⟩ hS (fun E ce q u H locs hxp hP hD hS h1 h2 h3 => by obtain ⟨hE, hu⟩ := hxp; rw [hu] at hP hD; exact mu_out (u := ws) hno hlocks h1 h2 h3 hP hK hD hz hS ⟨(by simp [hE]), rfl⟩ (by rw [hu]; show 2 * (nul ws - nul ws) + (2 * (nul ws - nul ws) + 1) ≤ 2 * (nul ws - nul ws) + 1; omega) (by rw [hu]; show 257 * (nul ws - nul ws) + (257 * (nul ws - nul ws) + 6) ≤ 257 * (nul ws - nul ws) + 6; omega)) (fun r9 u1 H locs hp hP hD hS => ?_)
  obtain ⟨hr9, hw9, h01⟩ := hp
  rw [hw9] at hP hD
  subst hr9
  refine W.widen (k := Kc ws ws) (n := Ks ws ws) (by rw [hw9]; show 2 * (nul ws - nul ws) + 2 * (nul ws - nul ws) ≤ 2 * (nul ws - nul ws); omega) (by rw [hw9]; show 257 * (nul ws - nul ws) + 257 * (nul ws - nul ws) ≤ 257 * (nul ws - nul ws); omega) ?_
  clear hw9
  refine W.eq (g2 := F0 m 4 ls []) rfl ?_
  refine lv_aload_n hx hb d_S_sum_4 rfl (lv_at hl 0 rfl) ?_
  refine lv_iload_n hx hb d_S_sum_5 rfl (lv_at hl 1 rfl) ?_
  refine mu_V (n := 1) (As := [.int x9]) (rest := []) ⟨hx, hb, hml, hown, hts⟩ (c_S_requirePage (D := D) (t := t) (z := z) (sa := sa) (ws := ws) (x9 := x9) hl0 hI ) ml_S_91 im_S_requirePage se_S_requirePage in_S cd_S_requirePage (by decide +kernel) ⟨Nat.le_of_ble_eq_true rfl, Nat.le_of_ble_eq_true rfl⟩ (va_recv hK hP (ci := 5) rfl hI.x) (Pz_at hP hK hD hz hM hS) rfl hl.1 rfl (Nat.le_of_ble_eq_true rfl) d_S_sum_6 ⟨by show 2 * (nul ws - nul ws) + (2 * nul ws + 1) ≤ 2 * nul ws + 1; omega, by show 257 * (nul ws - nul ws) + (257 * nul ws + 6) ≤ 257 * nul ws + 6; omega⟩ hS (fun E ce q u H locs hxp hP hD hS h1 h2 h3 => by obtain ⟨hE, hu⟩ := hxp; rw [hu] at hP hD; exact mu_out (u := ws) hno hlocks h1 h2 h3 hP hK hD hz hS ⟨(by simp [hE]), rfl⟩ (by rw [hu]; show 2 * (nul ws - nul ws) + (2 * (nul ws - nul ws) + 1) ≤ 2 * (nul ws - nul ws) + 1; omega) (by rw [hu]; show 257 * (nul ws - nul ws) + (257 * (nul ws - nul ws) + 6) ≤ 257 * (nul ws - nul ws) + 6; omega)) (fun r9 u2 H locs hp hP hD hS => ?_)
  obtain ⟨hr9, hw9, h02⟩ := hp
  rw [hw9] at hP hD
  subst hr9
  refine W.widen (k := Kc ws ws) (n := Ks ws ws) (by rw [hw9]; show 2 * (nul ws - nul ws) + 2 * (nul ws - nul ws) ≤ 2 * (nul ws - nul ws); omega) (by rw [hw9]; show 257 * (nul ws - nul ws) + 257 * (nul ws - nul ws) ≤ 257 * (nul ws - nul ws); omega) ?_
  clear hw9
  refine W.eq (g2 := F0 m 9 ls []) rfl ?_
  obtain ⟨i, hi, hxi⟩ := pg_nat hI.bd h02.1 h02.2
  refine lv_aload_n hx hb d_S_sum_9 rfl (lv_at hl 0 rfl) ?_
  refine lv_iload_n hx hb d_S_sum_10 rfl (lv_at hl 1 rfl) ?_
  refine mu_V (n := 1) (As := [.int x9]) (rest := []) ⟨hx, hb, hml, hown, hts⟩ (c_S_bytesOf (D := D) (t := t) (z := z) (sa := sa) (ws := ws) (i := i) hI hi hxi) ml_S_85 im_S_bytesOf se_S_bytesOf in_S cd_S_bytesOf (by decide +kernel) ⟨Nat.le_of_ble_eq_true rfl, Nat.le_of_ble_eq_true rfl⟩ (va_recv hK hP (ci := 5) rfl hI.x) (Pz_at hP hK hD hz hM hS) rfl hl.1 rfl (Nat.le_of_ble_eq_true rfl) d_S_sum_11 ⟨by show 2 * (nul ws - nul ws) + (2 * nul ws + 1) ≤ 2 * nul ws + 1; omega, by show 257 * (nul ws - nul ws) + (257 * nul ws + 6) ≤ 257 * nul ws + 6; omega⟩ hS (fun _ _ _ _ _ _ h => h.elim) (fun r9 u3 H locs hp hP hD hS => ?_)
  obtain ⟨c4, j5, f6, hr9, h42c4, hcc4, hnec4, hI, hF9, hn9⟩ := hp
  subst hr9
  have hF := hF.trans hF9
  have hn : nul u3 ≤ nul ws := by omega
  refine W.widen (k := Kc ws u3) (n := Ks ws u3) (by show 2 * (nul ws - nul ws) + 2 * (nul ws - nul u3) ≤ 2 * (nul ws - nul u3); omega) (by show 257 * (nul ws - nul ws) + 257 * (nul ws - nul u3) ≤ 257 * (nul ws - nul u3); omega) ?_
  refine W.eq (g2 := F0 m 14 ls [.ref c4]) rfl ?_
  refine lv_astore_n (lv' := [(2, .ref c4), (0, .ref (a 0)), (1, .int x9)]) hx hb d_S_sum_14 rfl hl (by decide) rfl (fun ls hl => ?_)
  refine lv_ldc2 (v := 7) hx hb hown (hts _ co_S_103) d_S_sum_15 ?_
  refine lv_lstore_n (lv' := [(3, .long 7), (2, .ref c4), (0, .ref (a 0)), (1, .int x9)]) hx hb d_S_sum_18 rfl hl (by decide) rfl (fun ls hl => ?_)
  refine lv_iconst (v := 0) hx hb d_S_sum_19 (by decide) ?_
  refine lv_istore (lv' := [(5, .int 0), (3, .long 7), (2, .ref c4), (0, .ref (a 0)), (1, .int x9)]) hx hb d_S_sum_20 hl (by decide) rfl (fun ls hl => ?_)
  have key : ∀ (n9 i9 : Nat) (sv : Int64) (ls : Array Slot), i9 + n9 = 256 → lv_has ls 6 [(5, .int (nI i9)), (3, .long sv), (2, .ref c4), (0, .ref (a 0)), (1, .int x9)] → W p l e (headSpec (Cond.code y_S_sum b_S_sum 6 (some .long) :: WS) ({ frames := 7, cells := 2 * nul ws + 1, slots := 257 * nul ws + 6, locals := 103 })).room s m [.ref (a 0), .int x9].toArray below meth c H locs (Kc ws u3) (Ks ws u3) (mu_MQ below D t z (fun r u => (∃ y, r = some (.long y)) ∧ So a t ws u) (fun E u => (E = xISE ∨ E = xIOB) ∧ u = ws) (Kc ws) (Ks ws) [.ref (a 0), .int x9].toArray s) (F0 m 22 ls []) := by
    intro n9
    induction n9 with
    | zero =>
      intro i9 sv ls hi9 hl
      have hi9 : i9 = 256 := by omega
      subst hi9
      refine lv_iload hx hb d_S_sum_22 (lv_at hl 0 rfl) ?_
      refine lv_sipush (v := 256) hx hb d_S_sum_24 (by decide) ?_
      refine lv_icmp_ge (tgt := 52) hx hb d_S_sum_27 rfl (fun _ => ?_) (fun h => absurd (show (256 : Int32) ≤ nI 256 by decide) h)
      refine lv_lload_n hx hb d_S_sum_52 rfl (lv_at hl 1 rfl) ?_
      refine mu_end (u := u3) (v := (some (.long sv))) ⟨⟨_, rfl⟩, ⟨_, _, hI, hF, hn, hc1.eq rfl rfl⟩⟩ (Nat.le_refl _) (Nat.le_refl _) ?_
      exact W.lret (v := sv) hx hb hr (fun t9 ht hW => ⟨rfl, ⟨by rw [ht]; exact hP, va_K.moved hW.alike hK, hD, by rw [ht]; exact Nat.le_trans hz hS.1⟩, hS.F ht⟩) hS.2.2 d_S_sum_53
    | succ n9 ih =>
      intro i9 sv ls hi9 hl
      refine lv_iload hx hb d_S_sum_22 (lv_at hl 0 rfl) ?_
      refine lv_sipush (v := 256) hx hb d_S_sum_24 (by decide) ?_
      refine lv_icmp_ge (tgt := 52) hx hb d_S_sum_27 rfl (fun h => absurd h (nI_ge (a := i9) (b := 256) (by omega) (by decide))) (fun _ => ?_)
      refine lv_ldc2 (v := 31) hx hb hown (hts _ co_S_105) d_S_sum_30 ?_
      refine lv_lload_n hx hb d_S_sum_33 rfl (lv_at hl 1 rfl) ?_
      refine lv_lmul hx hb d_S_sum_34 ?_
      refine lv_topl (fun l7 hl7 => ?_)
      refine lv_aload_n hx hb d_S_sum_35 rfl (lv_at hl 2 rfl) ?_
      refine lv_iload hx hb d_S_sum_36 (lv_at hl 0 rfl) ?_
      refine va_bald (D := D) hx hb hK hP j5 0 hcc4 rfl (i := nI i9) (vp_in_nI (by omega) (by decide)) d_S_sum_38 ?_
      generalize f6 (nI i9).toNatClampNeg = y8
      refine lv_sipush (v := 255) hx hb d_S_sum_39 (by decide) ?_
      refine lv_iand hx hb d_S_sum_42 ?_
      refine lv_topi (fun v10 hv10 => ?_)
      refine lv_i2l (v := v10.toInt64) hx hb d_S_sum_43 rfl ?_
      refine lv_ladd hx hb d_S_sum_44 ?_
      refine lv_topl (fun l11 hl11 => ?_)
      refine lv_lstore_n (lv' := [(3, .long l11), (5, .int (nI i9)), (2, .ref c4), (0, .ref (a 0)), (1, .int x9)]) hx hb d_S_sum_45 rfl hl (by decide) rfl (fun ls hl => ?_)
      refine lv_iinc (k := 1) (v := nI (i9 + 1)) (lv' := [(5, .int (nI (i9 + 1))), (3, .long l11), (2, .ref c4), (0, .ref (a 0)), (1, .int x9)]) hx hb d_S_sum_46 hl rfl (nI_1 i9) (by decide) rfl (fun ls hl => ?_)
      refine lv_goto (tgt := 22) hx hb d_S_sum_49 rfl ?_
      exact ih (i9 + 1) _ ls (by omega) hl
  exact key 256 0 7 ls rfl hl
