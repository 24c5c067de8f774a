set_option maxHeartbeats 4000000 in
set_option maxRecDepth 100000 in
theorem c_Z_takeOver {l : Launch} {D : va_G} {t : Nat → ClassId} {z : Nat} {sa : Nat → Nat} {ws : va_W} {a : Nat → Nat} {k0 : Nat} {v : Nat → Int32} {j1 j2 : Nat} (hI : Iv a t k0 v ws) (hj1 : j1 < 6) (hj2 : j2 < 6) (hne : j1 ≠ j2) : Mu l y_Z_takeOver (Cond.code y_Z_takeOver b_Z_takeOver 3 (.none : Option Jvm.ClassFile.FieldType) :: WS) ({ frames := 1, cells := 2 * nul ws + 1, slots := 257 * nul ws + 6, locals := 23 }) D t z sa ws [.ref (a (10 + 4 * j1)), .ref (a (10 + 4 * j2))] (fun r u => Iv a t k0 v u ∧ Fr t ws u ∧ nul u ≤ nul ws ∧ r = none) Xno (Kc ws) (Ks ws) := by
  refine mu_ofW (cc := b_Z_takeOver) (maxL := 3) (ret := (.none : Option Jvm.ClassFile.FieldType)) (by decide) rfl ?_
  intro p e s m args below meth c s₁ B hml hno hv
  obtain ⟨rfl, ⟨hP, hK, hD, hz⟩, hM⟩ := hv
  have hx := B.exec
  have hb := B.bytes
  have hr := B.returns
  have hts : ∀ w ∈ WS, w.before [.ref (a (10 + 4 * j1)), .ref (a (10 + 4 * j2))].toArray s = true := fun w h => atoms_spec B.pre w (List.mem_cons_of_mem _ h)
  have hown : s.vm.findClass R_Z = some m.cls := findClass_of_methodNamed B.named
  have hlocks := B.notSynchronized
  have hA : ∀ q, s.heap.size ≤ q → Az z q := fun q h => Nat.le_trans hz h
  have hS : va_S (Az z) s.heap s.heap [] := va_S.rf
  have hF : Fr t ws ws := Fr.rf
  have hn : nul ws ≤ nul ws := Nat.le_refl _
  have hl := lv_entry ([.ref (a (10 + 4 * j1)), .ref (a (10 + 4 * j2))]) (n := 3) (Nat.le_of_ble_eq_true rfl)
  rw [lg_entry_eq]
  generalize (lg_sl ([.ref (a (10 + 4 * j1)), .ref (a (10 + 4 * j2))]) ++ List.replicate (3 - (lg_sl ([.ref (a (10 + 4 * j1)), .ref (a (10 + 4 * j2))])).length) Slot.unset).toArray = ls at hl ⊢
  have hl : lv_has ls 3 [(0, .ref (a (10 + 4 * j1))), (1, .ref (a (10 + 4 * j2)))] := hl
  refine W.widen (k := Kc ws ws) (n := Ks ws ws) (Nat.zero_le _) (Nat.zero_le _) ?_
  refine lv_iconst (v := 0) hx hb d_Z_takeOver_0 (by decide) ?_
  refine lv_istore_n (lv' := [(2, .int 0), (0, .ref (a (10 + 4 * j1))), (1, .ref (a (10 + 4 * j2)))]) hx hb d_Z_takeOver_1 rfl hl (by decide) rfl (fun ls hl => ?_)
  have key : ∀ (n9 i : Nat) (w9 : va_W) (H : Heap) (locs : List Loc) (ls : Array Slot), i + n9 = 768 → va_P D Cl w9 H → va_D (Az z) w9 → va_S (Az z) s.heap H locs → Iv a t k0 v w9 → Fr t ws w9 → nul w9 ≤ nul ws → lv_has ls 3 [(2, .int (nI i)), (0, .ref (a (10 + 4 * j1))), (1, .ref (a (10 + 4 * j2)))] → W p l e (headSpec (Cond.code y_Z_takeOver b_Z_takeOver 3 (.none : Option Jvm.ClassFile.FieldType) :: WS) ({ frames := 1, cells := 2 * nul ws + 1, slots := 257 * nul ws + 6, locals := 23 })).room s m [.ref (a (10 + 4 * j1)), .ref (a (10 + 4 * j2))].toArray below meth c H locs (Kc ws w9) (Ks ws w9) (mu_MQ below D t z (fun r u => Iv a t k0 v u ∧ Fr t ws u ∧ nul u ≤ nul ws ∧ r = none) Xno (Kc ws) (Ks ws) [.ref (a (10 + 4 * j1)), .ref (a (10 + 4 * j2))].toArray s) (F0 m 2 ls []) := by
    intro n9
    induction n9 with
    | zero =>
      intro i w9 H locs ls hi9 hP hD hS hI hF hn hl
      have hi9 : i = 768 := by omega
      subst hi9
      refine lv_iload_n hx hb d_Z_takeOver_2 rfl (lv_at hl 0 rfl) ?_
      refine lv_sipush (v := 768) hx hb d_Z_takeOver_3 (by decide) ?_
      refine lv_icmp_ge (tgt := 43) hx hb d_Z_takeOver_6 rfl (fun _ => ?_) (fun h => absurd (show (768 : Int32) ≤ nI 768 by decide) h)
      refine mu_end (u := w9) (v := (none)) ⟨hI, hF, hn, rfl⟩ (Nat.le_refl _) (Nat.le_refl _) ?_
      exact W.vret hx hb hr (fun t9 ht hW => ⟨rfl, ⟨by rw [ht]; exact hP, va_K.moved hW.alike hK, hD, by rw [ht]; exact Nat.le_trans hz hS.1⟩, hS.F ht⟩) hS.2.2 d_Z_takeOver_43
    | succ n9 ih =>
      intro i w9 H locs ls hi9 hP hD hS hI hF hn hl
      have hi : i < 768 := by omega
      obtain ⟨x9, hxi⟩ : ∃ q, q = nI i := ⟨_, rfl⟩
      rw [← hxi] at hl
      refine lv_iload_n hx hb d_Z_takeOver_2 rfl (lv_at hl 0 rfl) ?_
      refine lv_sipush (v := 768) hx hb d_Z_takeOver_3 (by decide) ?_
      refine lv_icmp_ge (tgt := 43) hx hb d_Z_takeOver_6 rfl (fun h => absurd h (by rw [hxi]; exact nI_ge (a := i) (b := 768) (by omega) (by decide))) (fun _ => ?_)
      refine lv_aload_n hx hb d_Z_takeOver_9 rfl (lv_at hl 2 rfl) ?_
      refine va_get (D := D) (ci := 4) (v := .ref (a (13 + 4 * j2))) (C := R_Z) (T := F_Z) (N := 3) hx hb hts ws_Z hown hK hP (10 + 4 * j2) (hI.z hj2) rfl 1 (by decide) (hts _ fl_Z_20) (fun _ h9 => h9) rfl d_Z_takeOver_10 ?_
      refine lv_iload_n hx hb d_Z_takeOver_13 rfl (lv_at hl 0 rfl) ?_
      obtain ⟨h13, e13, e14⟩ := hI.zh hj2
      refine va_zald (D := D) hx hb hK hP (13 + 4 * j2) 1 e13 rfl (i := x9) (zz_lt hxi hi) d_Z_takeOver_14 ?_
      generalize h13 (x9 : Int32).toNatClampNeg = y1
      refine lv_if_eq (tgt := 37) hx hb d_Z_takeOver_15 rfl (fun q2 => ?_) (fun q2 => ?_)
      · skip
        refine lv_iinc (k := 0) (v := nI (i + 1)) (lv' := [(2, .int (nI (i + 1))), (0, .ref (a (10 + 4 * j1))), (1, .ref (a (10 + 4 * j2)))]) hx hb d_Z_takeOver_37 hl rfl (by rw [hxi]; exact nI_1 i) (by decide) rfl (fun ls hl => ?_)
        refine lv_goto (tgt := 2) hx hb d_Z_takeOver_40 rfl ?_
        exact ih (i + 1) w9 H locs ls (by omega) hP hD hS hI hF hn hl
      · skip
        refine lv_aload_n hx hb d_Z_takeOver_18 rfl (lv_at hl 1 rfl) ?_
        refine va_get (D := D) (ci := 4) (v := .ref (a (11 + 4 * j1))) (C := R_Z) (T := F_Z) (N := 3) hx hb hts ws_Z hown hK hP (10 + 4 * j1) (hI.z hj1) rfl 0 (by decide) (hts _ fl_Z_14) (fun _ h9 => h9) rfl d_Z_takeOver_19 ?_
        refine lv_iload_n hx hb d_Z_takeOver_22 rfl (lv_at hl 0 rfl) ?_
        refine lv_aload_n hx hb d_Z_takeOver_23 rfl (lv_at hl 2 rfl) ?_
        refine va_get (D := D) (ci := 4) (v := .ref (a (11 + 4 * j2))) (C := R_Z) (T := F_Z) (N := 3) hx hb hts ws_Z hown hK hP (10 + 4 * j2) (hI.z hj2) rfl 0 (by decide) (hts _ fl_Z_14) (fun _ h9 => h9) rfl d_Z_takeOver_24 ?_
        refine mu_V (n := 2) (As := [.int x9, .ref (a (11 + 4 * j2))]) (rest := []) ⟨hx, hb, hml, hown, hts⟩ (c_K_swap (D := D) (t := t) (z := z) (sa := sa) (ws := w9) (j1 := j1) (j2 := j2) (i := i) hI hj1 hj2 hne hi hxi) ml_Z_32 im_K_swap se_K_swap in_K cd_K_swap (by decide +kernel) ⟨Nat.le_of_ble_eq_true rfl, Nat.le_of_ble_eq_true rfl⟩ (va_recv hK hP (ci := 1) rfl (hI.zk hj1)) (Pz_at hP hK hD hz hM hS) rfl hl.1 rfl (Nat.le_of_ble_eq_true rfl) d_Z_takeOver_27 ⟨by show 2 * (nul ws - nul w9) + (2 * nul w9 + 1) ≤ 2 * nul ws + 1; omega, by show 257 * (nul ws - nul w9) + (257 * nul w9 + 6) ≤ 257 * nul ws + 6; omega⟩ hS (fun _ _ _ _ _ _ h => h.elim) (fun r9 u3 H locs hp hP hD hS => ?_)
        obtain ⟨hI, hF9, hn9, hr9⟩ := hp
        subst hr9
        have hF := hF.trans hF9
        have hn : nul u3 ≤ nul ws := by omega
        refine W.widen (k := Kc ws u3) (n := Ks ws u3) (by show 2 * (nul ws - nul w9) + 2 * (nul w9 - nul u3) ≤ 2 * (nul ws - nul u3); omega) (by show 257 * (nul ws - nul w9) + 257 * (nul w9 - nul u3) ≤ 257 * (nul ws - nul u3); omega) ?_
        refine W.eq (g2 := F0 m 30 ls []) rfl ?_
        refine lv_aload_n hx hb d_Z_takeOver_30 rfl (lv_at hl 1 rfl) ?_
        refine va_get (D := D) (ci := 4) (v := .ref (a (13 + 4 * j1))) (C := R_Z) (T := F_Z) (N := 3) hx hb hts ws_Z hown hK hP (10 + 4 * j1) (hI.z hj1) rfl 1 (by decide) (hts _ fl_Z_20) (fun _ h9 => h9) rfl d_Z_takeOver_31 ?_
        refine lv_iload_n hx hb d_Z_takeOver_34 rfl (lv_at hl 0 rfl) ?_
        refine lv_iconst (v := 1) hx hb d_Z_takeOver_35 (by decide) ?_
        obtain ⟨h13, e13, e14⟩ := hI.zh hj1
        refine va_zast (D := D) hx hb hK hP hD hS (13 + 4 * j1) 1 e13 rfl (x := 1) (i := x9) (zz_lt hxi hi) d_Z_takeOver_36 (fun H locs hP hD hS => ?_)
        obtain ⟨h15, hh15⟩ : ∃ q, q = upd h13 (x9 : Int32).toNatClampNeg (vp_nar .boolean 1) := ⟨_, rfl⟩
        have e15 : ∀ i, h15 i = 0 ∨ h15 i = 1 := by rw [hh15]; exact up01 e14 (by decide)
        rw [← hh15] at hP hD
        obtain ⟨w4, hw⟩ : ∃ q, q = u3.set (13 + 4 * j1) (a (13 + 4 * j1), .inl (t 1, 768, .inl h15)) := ⟨_, rfl⟩
        have hP : va_P D Cl (u3.set (13 + 4 * j1) (a (13 + 4 * j1), .inl (t 1, 768, .inl h15))) H := hP
        have hD : va_D (Az z) (u3.set (13 + 4 * j1) (a (13 + 4 * j1), .inl (t 1, 768, .inl h15))) := hD
        have hF : Fr t ws (u3.set (13 + 4 * j1) (a (13 + 4 * j1), .inl (t 1, 768, .inl h15))) := hF.set (by omega) (by omega)
        have hI := hI.setH hj1 e15
        have hq9 : nul (u3.set (13 + 4 * j1) (a (13 + 4 * j1), .inl (t 1, 768, .inl h15))) = nul u3 := nul_set nm13
        rw [← hw] at hP hD hF hI hq9
        clear hw
        have hn : nul w4 ≤ nul ws := by omega
        refine W.widen (k := Kc ws w4) (n := Ks ws w4) (by show 2 * (nul ws - nul u3) ≤ 2 * (nul ws - nul w4); omega) (by show 257 * (nul ws - nul u3) ≤ 257 * (nul ws - nul w4); omega) ?_
        refine lv_iinc (k := 0) (v := nI (i + 1)) (lv' := [(2, .int (nI (i + 1))), (0, .ref (a (10 + 4 * j1))), (1, .ref (a (10 + 4 * j2)))]) hx hb d_Z_takeOver_37 hl rfl (by rw [hxi]; exact nI_1 i) (by decide) rfl (fun ls hl => ?_)
        refine lv_goto (tgt := 2) hx hb d_Z_takeOver_40 rfl ?_
        exact ih (i + 1) w4 H locs ls (by omega) hP hD hS hI hF hn hl
  exact key 768 0 ws _ _ _ rfl hP hD hS hI hF hn hl
