set_option maxHeartbeats 4000000 in
set_option maxRecDepth 100000 in
theorem c_Y_read_j {l : Launch} {D : va_G} {t : Nat → ClassId} {z : Nat} {sa : Nat → Nat} {ws : va_W} {a : Nat → Nat} {k0 : Nat} {v : Nat → Int32} {x9 y9 : Int32} {A N : Nat} (hI : Iv a t k0 v ws) (hxA : x9 = nI A) (hyN : y9 = nI N) (hAN : A + N ≤ 199684) (hN : N ≤ 260) (hJ4 : 4 ≤ v 6) : Mu l y_Y_read (Cond.code y_Y_read b_Y_read 5 (.none : Option Jvm.ClassFile.FieldType) :: WS) ({ frames := 3, cells := 2 * nul ws + 1, slots := 257 * nul ws + 6, locals := 54 }) D t z sa ws [.ref (a 4), .int x9, .ref (a 9), .int y9] (fun r u => Iv a t k0 v u ∧ Fr t ws u ∧ nul u ≤ nul ws ∧ r = none) Xno (Kc ws) (Ks ws) := by
  refine mu_ofW (cc := b_Y_read) (maxL := 5) (ret := (.none : Option Jvm.ClassFile.FieldType)) (by decide) rfl ?_
  intro p e s m args below meth c s₁ B hml hno hv
  obtain ⟨rfl, ⟨hP, hK, hD, hz⟩, hM⟩ := hv
  have hx := B.exec
  have hb := B.bytes
  have hr := B.returns
  have hts : ∀ w ∈ WS, w.before [.ref (a 4), .int x9, .ref (a 9), .int y9].toArray s = true := fun w h => atoms_spec B.pre w (List.mem_cons_of_mem _ h)
  have hown : s.vm.findClass R_Y = some m.cls := findClass_of_methodNamed B.named
  have hlocks := B.notSynchronized
  have hA : ∀ q, s.heap.size ≤ q → Az z q := fun q h => Nat.le_trans hz h
  have hS : va_S (Az z) s.heap s.heap [] := va_S.rf
  have hF : Fr t ws ws := Fr.rf
  have hn : nul ws ≤ nul ws := Nat.le_refl _
  have hl := lv_entry ([.ref (a 4), .int x9, .ref (a 9), .int y9]) (n := 5) (Nat.le_of_ble_eq_true rfl)
  rw [lg_entry_eq]
  generalize (lg_sl ([.ref (a 4), .int x9, .ref (a 9), .int y9]) ++ List.replicate (5 - (lg_sl ([.ref (a 4), .int x9, .ref (a 9), .int y9])).length) Slot.unset).toArray = ls at hl ⊢
  have hl : lv_has ls 5 [(0, .ref (a 4)), (1, .int x9), (2, .ref (a 9)), (3, .int y9)] := hl
  refine W.widen (k := Kc ws ws) (n := Ks ws ws) (Nat.zero_le _) (Nat.zero_le _) ?_
  refine lv_iconst (v := 0) hx hb d_Y_read_0 (by decide) ?_
  refine lv_istore (lv' := [(4, .int 0), (0, .ref (a 4)), (1, .int x9), (2, .ref (a 9)), (3, .int y9)]) hx hb d_Y_read_1 hl (by decide) rfl (fun ls hl => ?_)
  have key : ∀ (n9 i : Nat) (w9 : va_W) (H : Heap) (locs : List Loc) (ls : Array Slot), i + n9 = N → va_P D Cl w9 H → va_D (Az z) w9 → va_S (Az z) s.heap H locs → Iv a t k0 v w9 → Fr t ws w9 → nul w9 ≤ nul ws → lv_has ls 5 [(4, .int (nI i)), (0, .ref (a 4)), (1, .int x9), (2, .ref (a 9)), (3, .int y9)] → W p l e (headSpec (Cond.code y_Y_read b_Y_read 5 (.none : Option Jvm.ClassFile.FieldType) :: WS) ({ frames := 3, cells := 2 * nul ws + 1, slots := 257 * nul ws + 6, locals := 54 })).room s m [.ref (a 4), .int x9, .ref (a 9), .int y9].toArray below meth c H locs (Kc ws w9) (Ks ws w9) (mu_MQ below D t z (fun r u => Iv a t k0 v u ∧ Fr t ws u ∧ nul u ≤ nul ws ∧ r = none) Xno (Kc ws) (Ks ws) [.ref (a 4), .int x9, .ref (a 9), .int y9].toArray s) (F0 m 3 ls []) := by
    intro n9
    induction n9 with
    | zero =>
      intro i w9 H locs ls hi9 hP hD hS hI hF hn hl
      refine lv_iload hx hb d_Y_read_3 (lv_at hl 0 rfl) ?_
      refine lv_iload_n hx hb d_Y_read_5 rfl (lv_at hl 4 rfl) ?_
      refine lv_icmp_ge (tgt := 43) hx hb d_Y_read_6 rfl (fun _ => ?_) (fun h => absurd (by rw [hyN]; exact nI_le (by omega) (by omega)) h)
      refine mu_end (u := w9) (v := (none)) ⟨hI, hF, hn, rfl⟩ (Nat.le_refl _) (Nat.le_refl _) ?_
      exact W.vret hx hb hr (fun t9 ht hW => ⟨rfl, ⟨by rw [ht]; exact hP, va_K.moved hW.alike hK, hD, by rw [ht]; exact Nat.le_trans hz hS.1⟩, hS.F ht⟩) hS.2.2 d_Y_read_43
    | succ n9 ih =>
      intro i w9 H locs ls hi9 hP hD hS hI hF hn hl
      refine lv_iload hx hb d_Y_read_3 (lv_at hl 0 rfl) ?_
      refine lv_iload_n hx hb d_Y_read_5 rfl (lv_at hl 4 rfl) ?_
      refine lv_icmp_ge (tgt := 43) hx hb d_Y_read_6 rfl (fun h => absurd h (by rw [hyN]; exact nI_ge (by omega) (by omega))) (fun _ => ?_)
      refine lv_aload_n hx hb d_Y_read_9 rfl (lv_at hl 3 rfl) ?_
      refine lv_iload hx hb d_Y_read_10 (lv_at hl 0 rfl) ?_
      refine lv_aload_n hx hb d_Y_read_12 rfl (lv_at hl 1 rfl) ?_
      refine va_get (D := D) (ci := 3) (v := .ref (a 5)) (C := R_Y) (T := F_Y) (N := 2) hx hb hts ws_Y hown hK hP 4 hI.y4 rfl 0 (by decide) (hts _ fl_Y_20) (fun _ h9 => h9) rfl d_Y_read_13 ?_
      refine lv_iload_n hx hb d_Y_read_16 rfl (lv_at hl 2 rfl) ?_
      refine lv_iload hx hb d_Y_read_17 (lv_at hl 0 rfl) ?_
      refine lv_iadd hx hb d_Y_read_19 ?_
      refine lv_sipush (v := 256) hx hb d_Y_read_20 (by decide) ?_
      refine lv_idiv hx hb d_Y_read_23 (by decide) ?_
      refine lv_topi (fun y1 hy1 => ?_)
      have hy1 : y1 = nI ((A + i) / 256) := by rw [hy1, hxA]; exact wr_div (by omega)
      refine mu_V (n := 1) (As := [.int y1]) (rest := [.int (nI i), .ref (a 9)]) ⟨hx, hb, hml, hown, hts⟩ (c_K_bytesOfS' (D := D) (t := t) (z := z) (sa := sa) (ws := w9) (pm := 6) (i := (A + i) / 256) hI hI.k5 (by decide) (show (A + i) / 256 < Nn 6 from by show (A + i) / 256 < 781; omega) hy1) ml_Y_24 im_K_bytesOf se_K_bytesOf in_K cd_K_bytesOf (by decide +kernel) ⟨Nat.le_of_ble_eq_true rfl, Nat.le_of_ble_eq_true rfl⟩ (va_recv hK hP (ci := 1) rfl hI.k5) (Pz_at hP hK hD hz hM hS) rfl hl.1 rfl (Nat.le_of_ble_eq_true rfl) d_Y_read_24 ⟨by show 2 * (nul ws - nul w9) + (2 * nul w9 + 1) ≤ 2 * nul ws + 1; omega, by show 257 * (nul ws - nul w9) + (257 * nul w9 + 6) ≤ 257 * nul ws + 6; omega⟩ hS (fun _ _ _ _ _ _ h => h.elim) (fun r9 u2 H locs hp hP hD hS => ?_)
      obtain ⟨c8, k8, k1, f8, hr9, h42c, hcc, hsp, hI, hF9, hn9, hj9, hq9, hfl, hsame⟩ := hp
      subst hr9
      have hF := hF.trans hF9
      have hk1 : k1 = k0 := hj9 (Or.inl hJ4)
      rw [hk1] at hI hsp
      have hn : nul u2 ≤ nul ws := by omega
      refine W.widen (k := Kc ws u2) (n := Ks ws u2) (by show 2 * (nul ws - nul w9) + 2 * (nul w9 - nul u2) ≤ 2 * (nul ws - nul u2); omega) (by show 257 * (nul ws - nul w9) + 257 * (nul w9 - nul u2) ≤ 257 * (nul ws - nul u2); omega) ?_
      refine W.eq (g2 := F0 m 27 ls [.ref c8, .int (nI i), .ref (a 9)]) rfl ?_
      refine lv_iload_n hx hb d_Y_read_27 rfl (lv_at hl 2 rfl) ?_
      refine lv_iload hx hb d_Y_read_28 (lv_at hl 0 rfl) ?_
      refine lv_iadd hx hb d_Y_read_30 ?_
      refine lv_sipush (v := 256) hx hb d_Y_read_31 (by decide) ?_
      refine lv_irem hx hb d_Y_read_34 (by decide) ?_
      refine lv_topi (fun r8 hr8 => ?_)
      have hr8 : r8 = nI ((A + i) % 256) := by rw [hr8, hxA]; exact wr_rem (by omega)
      refine va_bald (D := D) hx hb hK hP k8 0 hcc rfl (i := r8) (by rw [hr8]; exact vp_in_nI (by omega) (by decide)) d_Y_read_35 ?_
      refine lv_topi (fun y3 hy3 => ?_)
      obtain ⟨r1, hr9w⟩ := hI.r9
      refine va_bast (D := D) hx hb hK hP hD hS 9 0 hr9w rfl (i := nI i) (x := y3) (vp_in_nI (by omega) (by decide)) d_Y_read_36 (fun H locs hP hD hS => ?_)
      rw [nI_clamp (by omega)] at hP hD
      have hfn := sb_fitU (k := i) (hI.bf 9 _ _ _ (Or.inl rfl) hr9w) (bfit y3)
      obtain ⟨fn, hfn9⟩ : ∃ q, q = upd r1 i (vp_nar .byte y3) := ⟨_, rfl⟩
      rw [← hfn9] at hP hD hfn
      obtain ⟨w4, hw⟩ : ∃ q, q = u2.set 9 (a 9, .inl (t 0, 260, .inl fn)) := ⟨_, rfl⟩
      have hP : va_P D Cl (u2.set 9 (a 9, .inl (t 0, 260, .inl fn))) H := hP
      have hD : va_D (Az z) (u2.set 9 (a 9, .inl (t 0, 260, .inl fn))) := hD
      have hF : Fr t ws (u2.set 9 (a 9, .inl (t 0, 260, .inl fn))) := hF.setA hr9w (Or.inl (by decide))
      have hI := hI.setR (r9 := fn) hfn
      have hq9 : nul (u2.set 9 (a 9, .inl (t 0, 260, .inl fn))) = nul u2 := nul_set (by decide)
      rw [← hw] at hP hD hF hI hq9
      clear hw
      have hn : nul w4 ≤ nul ws := by omega
      refine W.widen (k := Kc ws w4) (n := Ks ws w4) (by show 2 * (nul ws - nul u2) ≤ 2 * (nul ws - nul w4); omega) (by show 257 * (nul ws - nul u2) ≤ 257 * (nul ws - nul w4); omega) ?_
      refine lv_iinc (k := 0) (v := nI (i + 1)) (lv' := [(4, .int (nI (i + 1))), (0, .ref (a 4)), (1, .int x9), (2, .ref (a 9)), (3, .int y9)]) hx hb d_Y_read_37 hl rfl (nI_1 i) (by decide) rfl (fun ls hl => ?_)
      refine lv_goto (tgt := 3) hx hb d_Y_read_40 rfl ?_
      exact ih (i + 1) w4 H locs ls (by omega) hP hD hS hI hF hn hl
  exact key N 0 ws _ _ _ (Nat.zero_add _) hP hD hS hI hF hn hl
set_option maxHeartbeats 4000000 in
set_option maxRecDepth 100000 in
theorem c_Y_read_0 {l : Launch} {D : va_G} {t : Nat → ClassId} {z : Nat} {sa : Nat → Nat} {ws : va_W} {a : Nat → Nat} {k0 : Nat} {v : Nat → Int32} {x9 y9 : Int32} (hI : Iv a t k0 v ws) (hxA : x9 = nI 0) (hyN : y9 = nI 4) (hJ4 : 4 ≤ v 6) : Mu l y_Y_read (Cond.code y_Y_read b_Y_read 5 (.none : Option Jvm.ClassFile.FieldType) :: WS) ({ frames := 3, cells := 2 * nul ws + 1, slots := 257 * nul ws + 6, locals := 54 }) D t z sa ws [.ref (a 4), .int x9, .ref (a 9), .int y9] (fun r u => Iv a t k0 v u ∧ Fr t ws u ∧ nul u ≤ nul ws ∧ r = none ∧ ∃ (nn : Nat) (r0 : Nat → Int32), nn ≤ 768 ∧ u[9]? = some (a 9, .inl (t 0, 260, .inl r0)) ∧ ∀ i, i < 4 → r0 i = byt nn i) Xno (Kc ws) (Ks ws) := by
  refine mu_ofW (cc := b_Y_read) (maxL := 5) (ret := (.none : Option Jvm.ClassFile.FieldType)) (by decide) rfl ?_
  intro p e s m args below meth c s₁ B hml hno hv
  obtain ⟨rfl, ⟨hP, hK, hD, hz⟩, hM⟩ := hv
  have hx := B.exec
  have hb := B.bytes
  have hr := B.returns
  have hts : ∀ w ∈ WS, w.before [.ref (a 4), .int x9, .ref (a 9), .int y9].toArray s = true := fun w h => atoms_spec B.pre w (List.mem_cons_of_mem _ h)
  have hown : s.vm.findClass R_Y = some m.cls := findClass_of_methodNamed B.named
  have hlocks := B.notSynchronized
  have hA : ∀ q, s.heap.size ≤ q → Az z q := fun q h => Nat.le_trans hz h
  have hS : va_S (Az z) s.heap s.heap [] := va_S.rf
  have hF : Fr t ws ws := Fr.rf
  have hn : nul ws ≤ nul ws := Nat.le_refl _
  have hl := lv_entry ([.ref (a 4), .int x9, .ref (a 9), .int y9]) (n := 5) (Nat.le_of_ble_eq_true rfl)
  rw [lg_entry_eq]
  generalize (lg_sl ([.ref (a 4), .int x9, .ref (a 9), .int y9]) ++ List.replicate (5 - (lg_sl ([.ref (a 4), .int x9, .ref (a 9), .int y9])).length) Slot.unset).toArray = ls at hl ⊢
  have hl : lv_has ls 5 [(0, .ref (a 4)), (1, .int x9), (2, .ref (a 9)), (3, .int y9)] := hl
  refine W.widen (k := Kc ws ws) (n := Ks ws ws) (Nat.zero_le _) (Nat.zero_le _) ?_
  refine lv_iconst (v := 0) hx hb d_Y_read_0 (by decide) ?_
  refine lv_istore (lv' := [(4, .int 0), (0, .ref (a 4)), (1, .int x9), (2, .ref (a 9)), (3, .int y9)]) hx hb d_Y_read_1 hl (by decide) rfl (fun ls hl => ?_)
  obtain ⟨h42, hg6, c7, f7, nn, hk0, hnn, hf7⟩ := hI.2.2.2.1 hJ4
  obtain ⟨r8, hr8w⟩ := hI.r9
  have key : ∀ (n9 i : Nat) (r1 : Nat → Int32) (w9 : va_W) (H : Heap) (locs : List Loc) (ls : Array Slot), i + n9 = 4 → va_P D Cl w9 H → va_D (Az z) w9 → va_S (Az z) s.heap H locs → Iv a t k0 v w9 → Fr t ws w9 → nul w9 ≤ nul ws → w9[6]? = ws[6]? → w9[k0]? = ws[k0]? → w9[9]? = some (a 9, .inl (t 0, 260, .inl r1)) → (∀ j, j < i → r1 j = byt nn j) → lv_has ls 5 [(4, .int (nI i)), (0, .ref (a 4)), (1, .int x9), (2, .ref (a 9)), (3, .int y9)] → W p l e (headSpec (Cond.code y_Y_read b_Y_read 5 (.none : Option Jvm.ClassFile.FieldType) :: WS) ({ frames := 3, cells := 2 * nul ws + 1, slots := 257 * nul ws + 6, locals := 54 })).room s m [.ref (a 4), .int x9, .ref (a 9), .int y9].toArray below meth c H locs (Kc ws w9) (Ks ws w9) (mu_MQ below D t z (fun r u => Iv a t k0 v u ∧ Fr t ws u ∧ nul u ≤ nul ws ∧ r = none ∧ ∃ (nn : Nat) (r0 : Nat → Int32), nn ≤ 768 ∧ u[9]? = some (a 9, .inl (t 0, 260, .inl r0)) ∧ ∀ i, i < 4 → r0 i = byt nn i) Xno (Kc ws) (Ks ws) [.ref (a 4), .int x9, .ref (a 9), .int y9].toArray s) (F0 m 3 ls []) := by
    intro n9
    induction n9 with
    | zero =>
      intro i r1 w9 H locs ls hi9 hP hD hS hI hF hn h6w h0w hr9w hrb hl
      refine lv_iload hx hb d_Y_read_3 (lv_at hl 0 rfl) ?_
      refine lv_iload_n hx hb d_Y_read_5 rfl (lv_at hl 4 rfl) ?_
      refine lv_icmp_ge (tgt := 43) hx hb d_Y_read_6 rfl (fun _ => ?_) (fun h => absurd (by rw [hyN]; exact nI_le (by omega) (by omega)) h)
      refine mu_end (u := w9) (v := (none)) ⟨hI, hF, hn, rfl, nn, r1, hnn, hr9w, fun j hj => hrb j (by omega)⟩ (Nat.le_refl _) (Nat.le_refl _) ?_
      exact W.vret hx hb hr (fun t9 ht hW => ⟨rfl, ⟨by rw [ht]; exact hP, va_K.moved hW.alike hK, hD, by rw [ht]; exact Nat.le_trans hz hS.1⟩, hS.F ht⟩) hS.2.2 d_Y_read_43
    | succ n9 ih =>
      intro i r1 w9 H locs ls hi9 hP hD hS hI hF hn h6w h0w hr9w hrb hl
      refine lv_iload hx hb d_Y_read_3 (lv_at hl 0 rfl) ?_
      refine lv_iload_n hx hb d_Y_read_5 rfl (lv_at hl 4 rfl) ?_
      refine lv_icmp_ge (tgt := 43) hx hb d_Y_read_6 rfl (fun h => absurd h (by rw [hyN]; exact nI_ge (by omega) (by omega))) (fun _ => ?_)
      refine lv_aload_n hx hb d_Y_read_9 rfl (lv_at hl 3 rfl) ?_
      refine lv_iload hx hb d_Y_read_10 (lv_at hl 0 rfl) ?_
      refine lv_aload_n hx hb d_Y_read_12 rfl (lv_at hl 1 rfl) ?_
      refine va_get (D := D) (ci := 3) (v := .ref (a 5)) (C := R_Y) (T := F_Y) (N := 2) hx hb hts ws_Y hown hK hP 4 hI.y4 rfl 0 (by decide) (hts _ fl_Y_20) (fun _ h9 => h9) rfl d_Y_read_13 ?_
      refine lv_iload_n hx hb d_Y_read_16 rfl (lv_at hl 2 rfl) ?_
      refine lv_iload hx hb d_Y_read_17 (lv_at hl 0 rfl) ?_
      refine lv_iadd hx hb d_Y_read_19 ?_
      refine lv_sipush (v := 256) hx hb d_Y_read_20 (by decide) ?_
      refine lv_idiv hx hb d_Y_read_23 (by decide) ?_
      refine lv_topi (fun y1 hy1 => ?_)
      have hy1 : y1 = nI 0 := by rw [hy1, hxA]; exact wr_div0 (by omega)
      refine mu_V (n := 1) (As := [.int y1]) (rest := [.int (nI i), .ref (a 9)]) ⟨hx, hb, hml, hown, hts⟩ (c_K_bytesOfS' (D := D) (t := t) (z := z) (sa := sa) (ws := w9) (pm := 6) (i := 0) hI hI.k5 (by decide) (show 0 < Nn 6 from by show 0 < 781; omega) hy1) ml_Y_24 im_K_bytesOf se_K_bytesOf in_K cd_K_bytesOf (by decide +kernel) ⟨Nat.le_of_ble_eq_true rfl, Nat.le_of_ble_eq_true rfl⟩ (va_recv hK hP (ci := 1) rfl hI.k5) (Pz_at hP hK hD hz hM hS) rfl hl.1 rfl (Nat.le_of_ble_eq_true rfl) d_Y_read_24 ⟨by show 2 * (nul ws - nul w9) + (2 * nul w9 + 1) ≤ 2 * nul ws + 1; omega, by show 257 * (nul ws - nul w9) + (257 * nul w9 + 6) ≤ 257 * nul ws + 6; omega⟩ hS (fun _ _ _ _ _ _ h => h.elim) (fun r9 u2 H locs hp hP hD hS => ?_)
      obtain ⟨c8, k8, k1, f8, hr9, h42c, hcc, hsp, hI, hF9, hn9, hj9, hq9, hfl, hsame⟩ := hp
      subst hr9
      have hF := hF.trans hF9
      have hk1 : k1 = k0 := hj9 (Or.inl hJ4)
      rw [hk1] at hI hsp
      have hk8 : k8 = k0 := hsp.mpr ⟨rfl, rfl⟩
      rw [hk8] at hcc h42c
      have hu9 := (hsame (by rw [h6w]; exact hg6)).1
      have hf8 : ∀ j, j < 4 → f8 j = byt nn j := by
        rw [hu9] at hcc
        cases hcc.symm.trans (h0w.trans hk0)
        exact hf7
      have h6w := (show u2[6]? = ws[6]? from by rw [hu9]; exact h6w)
      have h0w := (show u2[k0]? = ws[k0]? from by rw [hu9]; exact h0w)
      have hr9w := (hq9 9 (by decide) (by decide)).trans hr9w
      have hn : nul u2 ≤ nul ws := by omega
      refine W.widen (k := Kc ws u2) (n := Ks ws u2) (by show 2 * (nul ws - nul w9) + 2 * (nul w9 - nul u2) ≤ 2 * (nul ws - nul u2); omega) (by show 257 * (nul ws - nul w9) + 257 * (nul w9 - nul u2) ≤ 257 * (nul ws - nul u2); omega) ?_
      refine W.eq (g2 := F0 m 27 ls [.ref c8, .int (nI i), .ref (a 9)]) rfl ?_
      refine lv_iload_n hx hb d_Y_read_27 rfl (lv_at hl 2 rfl) ?_
      refine lv_iload hx hb d_Y_read_28 (lv_at hl 0 rfl) ?_
      refine lv_iadd hx hb d_Y_read_30 ?_
      refine lv_sipush (v := 256) hx hb d_Y_read_31 (by decide) ?_
      refine lv_irem hx hb d_Y_read_34 (by decide) ?_
      refine lv_topi (fun r8 hr8 => ?_)
      have hr8 : r8 = nI i := by rw [hr8, hxA]; exact wr_rem0 (by omega)
      refine va_bald (D := D) hx hb hK hP k0 0 hcc rfl (i := r8) (by rw [hr8]; exact vp_in_nI (by omega) (by decide)) d_Y_read_35 ?_
      refine lv_topi (fun y3 hy3 => ?_)
      have hy3 : y3 = byt nn i := by rw [hy3, hr8, nI_clamp (by omega)]; exact hf8 i (by omega)
      refine va_bast (D := D) hx hb hK hP hD hS 9 0 hr9w rfl (i := nI i) (x := y3) (vp_in_nI (by omega) (by decide)) d_Y_read_36 (fun H locs hP hD hS => ?_)
      rw [nI_clamp (by omega)] at hP hD
      have hfn := sb_fitU (k := i) (hI.bf 9 _ _ _ (Or.inl rfl) hr9w) (bfit y3)
      obtain ⟨fn, hfn9⟩ : ∃ q, q = upd r1 i (vp_nar .byte y3) := ⟨_, rfl⟩
      rw [← hfn9] at hP hD hfn
      have hrb : ∀ j, j < i + 1 → fn j = byt nn j := fun j hj => by
        rw [hfn9]
        by_cases h : j = i
        · subst h; rw [pk_us, hy3]; exact nar_byt
        · rw [pk_un h]; exact hrb j (by omega)
      have h6w : (u2.set 9 (a 9, .inl (t 0, 260, .inl fn)))[6]? = ws[6]? := (List.getElem?_set_ne (by decide)).trans h6w
      have h0w : (u2.set 9 (a 9, .inl (t 0, 260, .inl fn)))[k0]? = ws[k0]? := (List.getElem?_set_ne (by omega)).trans h0w
      have hr9x : (u2.set 9 (a 9, .inl (t 0, 260, .inl fn)))[9]? = some (a 9, .inl (t 0, 260, .inl fn)) := lk_set hr9w
      obtain ⟨w4, hw⟩ : ∃ q, q = u2.set 9 (a 9, .inl (t 0, 260, .inl fn)) := ⟨_, rfl⟩
      have hP : va_P D Cl (u2.set 9 (a 9, .inl (t 0, 260, .inl fn))) H := hP
      have hD : va_D (Az z) (u2.set 9 (a 9, .inl (t 0, 260, .inl fn))) := hD
      have hF : Fr t ws (u2.set 9 (a 9, .inl (t 0, 260, .inl fn))) := hF.setA hr9w (Or.inl (by decide))
      have hI := hI.setR (r9 := fn) hfn
      have hq9 : nul (u2.set 9 (a 9, .inl (t 0, 260, .inl fn))) = nul u2 := nul_set (by decide)
      rw [← hw] at hP hD hF hI hq9
      rw [← hw] at h6w h0w hr9x
      clear hw
      have hn : nul w4 ≤ nul ws := by omega
      refine W.widen (k := Kc ws w4) (n := Ks ws w4) (by show 2 * (nul ws - nul u2) ≤ 2 * (nul ws - nul w4); omega) (by show 257 * (nul ws - nul u2) ≤ 257 * (nul ws - nul w4); omega) ?_
      have hr9w := hr9x
      refine lv_iinc (k := 0) (v := nI (i + 1)) (lv' := [(4, .int (nI (i + 1))), (0, .ref (a 4)), (1, .int x9), (2, .ref (a 9)), (3, .int y9)]) hx hb d_Y_read_37 hl rfl (nI_1 i) (by decide) rfl (fun ls hl => ?_)
      refine lv_goto (tgt := 3) hx hb d_Y_read_40 rfl ?_
      exact ih (i + 1) _ w4 H locs ls (by omega) hP hD hS hI hF hn h6w h0w hr9w hrb hl
  exact key 4 0 r8 ws _ _ _ rfl hP hD hS hI hF hn rfl rfl hr8w (fun j hj => absurd hj (Nat.not_lt_zero j)) hl
set_option maxHeartbeats 4000000 in
set_option maxRecDepth 100000 in
theorem c_S_setNumber {l : Launch} {D : va_G} {t : Nat → ClassId} {z : Nat} {sa : Nat → Nat} {ws : va_W} {a : Nat → Nat} {k0 : Nat} {v : Nat → Int32} {x9 : Int32} {nn : Nat} (hI : Iv a t k0 v ws) (hxn : x9 = nI nn) : Mu l y_S_setNumber (Cond.code y_S_setNumber b_S_setNumber 3 (.none : Option Jvm.ClassFile.FieldType) :: WS) ({ frames := 0, cells := 2 * nul ws + 1, slots := 257 * nul ws + 6, locals := 0 }) D t z sa ws [.ref (a 0), .int x9] (fun r u => Iv a t k0 v u ∧ Fr t ws u ∧ nul u ≤ nul ws ∧ r = none ∧ ∃ (r0 : Nat → Int32), u[9]? = some (a 9, .inl (t 0, 260, .inl r0)) ∧ ∀ i, i < 4 → r0 i = byt nn i) Xno (Kc ws) (Ks ws) := by
  refine mu_ofW (cc := b_S_setNumber) (maxL := 3) (ret := (.none : Option Jvm.ClassFile.FieldType)) (by decide) rfl ?_
  intro p e s m args below meth c s₁ B hml hno hv
  obtain ⟨rfl, ⟨hP, hK, hD, hz⟩, hM⟩ := hv
  have hx := B.exec
  have hb := B.bytes
  have hr := B.returns
  have hts : ∀ w ∈ WS, w.before [.ref (a 0), .int x9].toArray s = true := fun w h => atoms_spec B.pre w (List.mem_cons_of_mem _ h)
  have hown : s.vm.findClass R_S = some m.cls := findClass_of_methodNamed B.named
  have hlocks := B.notSynchronized
  have hA : ∀ q, s.heap.size ≤ q → Az z q := fun q h => Nat.le_trans hz h
  have hS : va_S (Az z) s.heap s.heap [] := va_S.rf
  have hF : Fr t ws ws := Fr.rf
  have hn : nul ws ≤ nul ws := Nat.le_refl _
  have hl := lv_entry ([.ref (a 0), .int x9]) (n := 3) (Nat.le_of_ble_eq_true rfl)
  rw [lg_entry_eq]
  generalize (lg_sl ([.ref (a 0), .int x9]) ++ List.replicate (3 - (lg_sl ([.ref (a 0), .int x9])).length) Slot.unset).toArray = ls at hl ⊢
  have hl : lv_has ls 3 [(0, .ref (a 0)), (1, .int x9)] := hl
  refine W.widen (k := Kc ws ws) (n := Ks ws ws) (Nat.zero_le _) (Nat.zero_le _) ?_
  refine lv_iconst (v := 0) hx hb d_S_setNumber_0 (by decide) ?_
  refine lv_istore_n (lv' := [(2, .int 0), (0, .ref (a 0)), (1, .int x9)]) hx hb d_S_setNumber_1 rfl hl (by decide) rfl (fun ls hl => ?_)
  refine lv_iload_n hx hb d_S_setNumber_2 rfl (lv_at hl 0 rfl) ?_
  refine lv_iconst (v := 4) hx hb d_S_setNumber_3 (by decide) ?_
  refine lv_icmp_ge (tgt := 26) hx hb d_S_setNumber_4 rfl (fun h => absurd h (by decide)) (fun _ => ?_)
  refine lv_aload_n hx hb d_S_setNumber_7 rfl (lv_at hl 1 rfl) ?_
  refine va_get (D := D) (ci := 5) (v := .ref (a 9)) (C := R_S) (T := F_S) (N := 10) hx hb hts ws_S hown hK hP 0 hI.x rfl 4 (by decide) (hts _ fl_S_36) (fun _ h9 => h9) rfl d_S_setNumber_8 ?_
  refine lv_iload_n hx hb d_S_setNumber_11 rfl (lv_at hl 0 rfl) ?_
  refine lv_iload_n hx hb d_S_setNumber_12 rfl (lv_at hl 2 rfl) ?_
  refine lv_bipush (v := 8) hx hb d_S_setNumber_13 (by decide) ?_
  refine lv_iload_n hx hb d_S_setNumber_15 rfl (lv_at hl 0 rfl) ?_
  refine lv_imul hx hb d_S_setNumber_16 ?_
  refine lv_topi (fun v1 hv1 => ?_)
  have hv1 : v1 = 0 := hv1.trans (by decide)
  subst hv1
  refine lv_ishr hx hb d_S_setNumber_17 ?_
  refine lv_topi (fun v2 hv2 => ?_)
  refine lv_i2b hx hb d_S_setNumber_18 rfl ?_
  refine lv_topi (fun y3 hy3 => ?_)
  obtain ⟨r8, hr9w⟩ := hI.r9
  have hy3 : y3 = byt nn 0 := by rw [hy3, hv2, hxn]; rfl
  refine va_bast (D := D) hx hb hK hP hD hS 9 0 hr9w rfl (i := 0) (x := y3) (by unfold vp_in; decide) d_S_setNumber_19 (fun H locs hP hD hS => ?_)
  rw [show (0 : Int32).toNatClampNeg = 0 from by decide, hy3, nar_byt] at hP hD
  have hfn := sb_fitU (k := 0) (hI.bf 9 _ _ _ (Or.inl rfl) hr9w) (by have h9 := bfit (byt nn 0); rw [nar_byt] at h9; exact h9)
  obtain ⟨r_0, hfn9⟩ : ∃ q, q = upd r8 0 (byt nn 0) := ⟨_, rfl⟩
  rw [← hfn9] at hP hD hfn
  have hb0 : r_0 0 = byt nn 0 := by rw [hfn9]; exact pk_us
  have hr9x : (ws.set 9 (a 9, .inl (t 0, 260, .inl r_0)))[9]? = some (a 9, .inl (t 0, 260, .inl r_0)) := lk_set hr9w
  obtain ⟨w4, hw⟩ : ∃ q, q = ws.set 9 (a 9, .inl (t 0, 260, .inl r_0)) := ⟨_, rfl⟩
  have hP : va_P D Cl (ws.set 9 (a 9, .inl (t 0, 260, .inl r_0))) H := hP
  have hD : va_D (Az z) (ws.set 9 (a 9, .inl (t 0, 260, .inl r_0))) := hD
  have hF : Fr t ws (ws.set 9 (a 9, .inl (t 0, 260, .inl r_0))) := hF.setA hr9w (Or.inl (by decide))
  have hI := hI.setR (r9 := r_0) hfn
  have hq9 : nul (ws.set 9 (a 9, .inl (t 0, 260, .inl r_0))) = nul ws := nul_set (by decide)
  rw [← hw] at hP hD hF hI hq9
  rw [← hw] at hr9x
  clear hw
  have hn : nul w4 ≤ nul ws := by omega
  refine W.widen (k := Kc ws w4) (n := Ks ws w4) (by show 2 * (nul ws - nul ws) ≤ 2 * (nul ws - nul w4); omega) (by show 257 * (nul ws - nul ws) ≤ 257 * (nul ws - nul w4); omega) ?_
  have hr9w := hr9x
  clear hfn9 hfn hr9x
  refine lv_iinc (k := 0) (v := 1) (lv' := [(2, .int 1), (0, .ref (a 0)), (1, .int x9)]) hx hb d_S_setNumber_20 hl rfl (by decide) (by decide) rfl (fun ls hl => ?_)
  refine lv_goto (tgt := 2) hx hb d_S_setNumber_23 rfl ?_
  refine lv_iload_n hx hb d_S_setNumber_2 rfl (lv_at hl 0 rfl) ?_
  refine lv_iconst (v := 4) hx hb d_S_setNumber_3 (by decide) ?_
  refine lv_icmp_ge (tgt := 26) hx hb d_S_setNumber_4 rfl (fun h => absurd h (by decide)) (fun _ => ?_)
  refine lv_aload_n hx hb d_S_setNumber_7 rfl (lv_at hl 1 rfl) ?_
  refine va_get (D := D) (ci := 5) (v := .ref (a 9)) (C := R_S) (T := F_S) (N := 10) hx hb hts ws_S hown hK hP 0 hI.x rfl 4 (by decide) (hts _ fl_S_36) (fun _ h9 => h9) rfl d_S_setNumber_8 ?_
  refine lv_iload_n hx hb d_S_setNumber_11 rfl (lv_at hl 0 rfl) ?_
  refine lv_iload_n hx hb d_S_setNumber_12 rfl (lv_at hl 2 rfl) ?_
  refine lv_bipush (v := 8) hx hb d_S_setNumber_13 (by decide) ?_
  refine lv_iload_n hx hb d_S_setNumber_15 rfl (lv_at hl 0 rfl) ?_
  refine lv_imul hx hb d_S_setNumber_16 ?_
  refine lv_topi (fun v5 hv5 => ?_)
  have hv5 : v5 = 8 := hv5.trans (by decide)
  subst hv5
  refine lv_ishr hx hb d_S_setNumber_17 ?_
  refine lv_topi (fun v6 hv6 => ?_)
  refine lv_i2b hx hb d_S_setNumber_18 rfl ?_
  refine lv_topi (fun y7 hy7 => ?_)
  have hy7 : y7 = byt nn 1 := by rw [hy7, hv6, hxn]; rfl
  refine va_bast (D := D) hx hb hK hP hD hS 9 0 hr9w rfl (i := 1) (x := y7) (by unfold vp_in; decide) d_S_setNumber_19 (fun H locs hP hD hS => ?_)
  rw [show (1 : Int32).toNatClampNeg = 1 from by decide, hy7, nar_byt] at hP hD
  have hfn := sb_fitU (k := 1) (hI.bf 9 _ _ _ (Or.inl rfl) hr9w) (by have h9 := bfit (byt nn 1); rw [nar_byt] at h9; exact h9)
  obtain ⟨r_1, hfn9⟩ : ∃ q, q = upd r_0 1 (byt nn 1) := ⟨_, rfl⟩
  rw [← hfn9] at hP hD hfn
  have hb0 : r_1 0 = byt nn 0 := by rw [hfn9, pk_un (by decide)]; exact hb0
  have hb1 : r_1 1 = byt nn 1 := by rw [hfn9]; exact pk_us
  have hr9x : (w4.set 9 (a 9, .inl (t 0, 260, .inl r_1)))[9]? = some (a 9, .inl (t 0, 260, .inl r_1)) := lk_set hr9w
  obtain ⟨w8, hw⟩ : ∃ q, q = w4.set 9 (a 9, .inl (t 0, 260, .inl r_1)) := ⟨_, rfl⟩
  have hP : va_P D Cl (w4.set 9 (a 9, .inl (t 0, 260, .inl r_1))) H := hP
  have hD : va_D (Az z) (w4.set 9 (a 9, .inl (t 0, 260, .inl r_1))) := hD
  have hF : Fr t ws (w4.set 9 (a 9, .inl (t 0, 260, .inl r_1))) := hF.setA hr9w (Or.inl (by decide))
  have hI := hI.setR (r9 := r_1) hfn
  have hq9 : nul (w4.set 9 (a 9, .inl (t 0, 260, .inl r_1))) = nul w4 := nul_set (by decide)
  rw [← hw] at hP hD hF hI hq9
  rw [← hw] at hr9x
  clear hw
  have hn : nul w8 ≤ nul ws := by omega
  refine W.widen (k := Kc ws w8) (n := Ks ws w8) (by show 2 * (nul ws - nul w4) ≤ 2 * (nul ws - nul w8); omega) (by show 257 * (nul ws - nul w4) ≤ 257 * (nul ws - nul w8); omega) ?_
  have hr9w := hr9x
  clear hfn9 hfn hr9x
  refine lv_iinc (k := 0) (v := 2) (lv' := [(2, .int 2), (0, .ref (a 0)), (1, .int x9)]) hx hb d_S_setNumber_20 hl rfl (by decide) (by decide) rfl (fun ls hl => ?_)
  refine lv_goto (tgt := 2) hx hb d_S_setNumber_23 rfl ?_
  refine lv_iload_n hx hb d_S_setNumber_2 rfl (lv_at hl 0 rfl) ?_
  refine lv_iconst (v := 4) hx hb d_S_setNumber_3 (by decide) ?_
  refine lv_icmp_ge (tgt := 26) hx hb d_S_setNumber_4 rfl (fun h => absurd h (by decide)) (fun _ => ?_)
  refine lv_aload_n hx hb d_S_setNumber_7 rfl (lv_at hl 1 rfl) ?_
  refine va_get (D := D) (ci := 5) (v := .ref (a 9)) (C := R_S) (T := F_S) (N := 10) hx hb hts ws_S hown hK hP 0 hI.x rfl 4 (by decide) (hts _ fl_S_36) (fun _ h9 => h9) rfl d_S_setNumber_8 ?_
  refine lv_iload_n hx hb d_S_setNumber_11 rfl (lv_at hl 0 rfl) ?_
  refine lv_iload_n hx hb d_S_setNumber_12 rfl (lv_at hl 2 rfl) ?_
  refine lv_bipush (v := 8) hx hb d_S_setNumber_13 (by decide) ?_
  refine lv_iload_n hx hb d_S_setNumber_15 rfl (lv_at hl 0 rfl) ?_
  refine lv_imul hx hb d_S_setNumber_16 ?_
  refine lv_topi (fun v10 hv10 => ?_)
  have hv10 : v10 = 16 := hv10.trans (by decide)
  subst hv10
  refine lv_ishr hx hb d_S_setNumber_17 ?_
  refine lv_topi (fun v11 hv11 => ?_)
  refine lv_i2b hx hb d_S_setNumber_18 rfl ?_
  refine lv_topi (fun y12 hy12 => ?_)
  have hy12 : y12 = byt nn 2 := by rw [hy12, hv11, hxn]; rfl
  refine va_bast (D := D) hx hb hK hP hD hS 9 0 hr9w rfl (i := 2) (x := y12) (by unfold vp_in; decide) d_S_setNumber_19 (fun H locs hP hD hS => ?_)
  rw [show (2 : Int32).toNatClampNeg = 2 from by decide, hy12, nar_byt] at hP hD
  have hfn := sb_fitU (k := 2) (hI.bf 9 _ _ _ (Or.inl rfl) hr9w) (by have h9 := bfit (byt nn 2); rw [nar_byt] at h9; exact h9)
  obtain ⟨r_2, hfn9⟩ : ∃ q, q = upd r_1 2 (byt nn 2) := ⟨_, rfl⟩
  rw [← hfn9] at hP hD hfn
  have hb0 : r_2 0 = byt nn 0 := by rw [hfn9, pk_un (by decide)]; exact hb0
  have hb1 : r_2 1 = byt nn 1 := by rw [hfn9, pk_un (by decide)]; exact hb1
  have hb2 : r_2 2 = byt nn 2 := by rw [hfn9]; exact pk_us
  have hr9x : (w8.set 9 (a 9, .inl (t 0, 260, .inl r_2)))[9]? = some (a 9, .inl (t 0, 260, .inl r_2)) := lk_set hr9w
  obtain ⟨w13, hw⟩ : ∃ q, q = w8.set 9 (a 9, .inl (t 0, 260, .inl r_2)) := ⟨_, rfl⟩
  have hP : va_P D Cl (w8.set 9 (a 9, .inl (t 0, 260, .inl r_2))) H := hP
  have hD : va_D (Az z) (w8.set 9 (a 9, .inl (t 0, 260, .inl r_2))) := hD
  have hF : Fr t ws (w8.set 9 (a 9, .inl (t 0, 260, .inl r_2))) := hF.setA hr9w (Or.inl (by decide))
  have hI := hI.setR (r9 := r_2) hfn
  have hq9 : nul (w8.set 9 (a 9, .inl (t 0, 260, .inl r_2))) = nul w8 := nul_set (by decide)
  rw [← hw] at hP hD hF hI hq9
  rw [← hw] at hr9x
  clear hw
  have hn : nul w13 ≤ nul ws := by omega
  refine W.widen (k := Kc ws w13) (n := Ks ws w13) (by show 2 * (nul ws - nul w8) ≤ 2 * (nul ws - nul w13); omega) (by show 257 * (nul ws - nul w8) ≤ 257 * (nul ws - nul w13); omega) ?_
  have hr9w := hr9x
  clear hfn9 hfn hr9x
  refine lv_iinc (k := 0) (v := 3) (lv' := [(2, .int 3), (0, .ref (a 0)), (1, .int x9)]) hx hb d_S_setNumber_20 hl rfl (by decide) (by decide) rfl (fun ls hl => ?_)
  refine lv_goto (tgt := 2) hx hb d_S_setNumber_23 rfl ?_
  refine lv_iload_n hx hb d_S_setNumber_2 rfl (lv_at hl 0 rfl) ?_
  refine lv_iconst (v := 4) hx hb d_S_setNumber_3 (by decide) ?_
  refine lv_icmp_ge (tgt := 26) hx hb d_S_setNumber_4 rfl (fun h => absurd h (by decide)) (fun _ => ?_)
  refine lv_aload_n hx hb d_S_setNumber_7 rfl (lv_at hl 1 rfl) ?_
  refine va_get (D := D) (ci := 5) (v := .ref (a 9)) (C := R_S) (T := F_S) (N := 10) hx hb hts ws_S hown hK hP 0 hI.x rfl 4 (by decide) (hts _ fl_S_36) (fun _ h9 => h9) rfl d_S_setNumber_8 ?_
  refine lv_iload_n hx hb d_S_setNumber_11 rfl (lv_at hl 0 rfl) ?_
  refine lv_iload_n hx hb d_S_setNumber_12 rfl (lv_at hl 2 rfl) ?_
  refine lv_bipush (v := 8) hx hb d_S_setNumber_13 (by decide) ?_
  refine lv_iload_n hx hb d_S_setNumber_15 rfl (lv_at hl 0 rfl) ?_
  refine lv_imul hx hb d_S_setNumber_16 ?_
  refine lv_topi (fun v14 hv14 => ?_)
  have hv14 : v14 = 24 := hv14.trans (by decide)
  subst hv14
  refine lv_ishr hx hb d_S_setNumber_17 ?_
  refine lv_topi (fun v15 hv15 => ?_)
  refine lv_i2b hx hb d_S_setNumber_18 rfl ?_
  refine lv_topi (fun y16 hy16 => ?_)
  have hy16 : y16 = byt nn 3 := by rw [hy16, hv15, hxn]; rfl
  refine va_bast (D := D) hx hb hK hP hD hS 9 0 hr9w rfl (i := 3) (x := y16) (by unfold vp_in; decide) d_S_setNumber_19 (fun H locs hP hD hS => ?_)
  rw [show (3 : Int32).toNatClampNeg = 3 from by decide, hy16, nar_byt] at hP hD
  have hfn := sb_fitU (k := 3) (hI.bf 9 _ _ _ (Or.inl rfl) hr9w) (by have h9 := bfit (byt nn 3); rw [nar_byt] at h9; exact h9)
  obtain ⟨r_3, hfn9⟩ : ∃ q, q = upd r_2 3 (byt nn 3) := ⟨_, rfl⟩
  rw [← hfn9] at hP hD hfn
  have hb0 : r_3 0 = byt nn 0 := by rw [hfn9, pk_un (by decide)]; exact hb0
  have hb1 : r_3 1 = byt nn 1 := by rw [hfn9, pk_un (by decide)]; exact hb1
  have hb2 : r_3 2 = byt nn 2 := by rw [hfn9, pk_un (by decide)]; exact hb2
  have hb3 : r_3 3 = byt nn 3 := by rw [hfn9]; exact pk_us
  have hr9x : (w13.set 9 (a 9, .inl (t 0, 260, .inl r_3)))[9]? = some (a 9, .inl (t 0, 260, .inl r_3)) := lk_set hr9w
  obtain ⟨w17, hw⟩ : ∃ q, q = w13.set 9 (a 9, .inl (t 0, 260, .inl r_3)) := ⟨_, rfl⟩
  have hP : va_P D Cl (w13.set 9 (a 9, .inl (t 0, 260, .inl r_3))) H := hP
  have hD : va_D (Az z) (w13.set 9 (a 9, .inl (t 0, 260, .inl r_3))) := hD
  have hF : Fr t ws (w13.set 9 (a 9, .inl (t 0, 260, .inl r_3))) := hF.setA hr9w (Or.inl (by decide))
  have hI := hI.setR (r9 := r_3) hfn
  have hq9 : nul (w13.set 9 (a 9, .inl (t 0, 260, .inl r_3))) = nul w13 := nul_set (by decide)
  rw [← hw] at hP hD hF hI hq9
  rw [← hw] at hr9x
  clear hw
  have hn : nul w17 ≤ nul ws := by omega
  refine W.widen (k := Kc ws w17) (n := Ks ws w17) (by show 2 * (nul ws - nul w13) ≤ 2 * (nul ws - nul w17); omega) (by show 257 * (nul ws - nul w13) ≤ 257 * (nul ws - nul w17); omega) ?_
  have hr9w := hr9x
  clear hfn9 hfn hr9x
  refine lv_iinc (k := 0) (v := 4) (lv' := [(2, .int 4), (0, .ref (a 0)), (1, .int x9)]) hx hb d_S_setNumber_20 hl rfl (by decide) (by decide) rfl (fun ls hl => ?_)
  refine lv_goto (tgt := 2) hx hb d_S_setNumber_23 rfl ?_
  refine lv_iload_n hx hb d_S_setNumber_2 rfl (lv_at hl 0 rfl) ?_
  refine lv_iconst (v := 4) hx hb d_S_setNumber_3 (by decide) ?_
  refine lv_icmp_ge (tgt := 26) hx hb d_S_setNumber_4 rfl (fun _ => ?_) (fun h => absurd h (by decide))
  refine mu_end (u := w17) (v := (none)) ⟨hI, hF, hn, rfl, _, hr9w, fun j hj => by rcases (show j = 0 ∨ j = 1 ∨ j = 2 ∨ j = 3 by omega) with rfl | rfl | rfl | rfl <;> assumption⟩ (Nat.le_refl _) (Nat.le_refl _) ?_
  exact W.vret hx hb hr (fun t9 ht hW => ⟨rfl, ⟨by rw [ht]; exact hP, va_K.moved hW.alike hK, hD, by rw [ht]; exact Nat.le_trans hz hS.1⟩, hS.F ht⟩) hS.2.2 d_S_setNumber_26
set_option maxHeartbeats 4000000 in
set_option maxRecDepth 100000 in
theorem c_S_journalNumber_j {l : Launch} {D : va_G} {t : Nat → ClassId} {z : Nat} {sa : Nat → Nat} {ws : va_W} {a : Nat → Nat} {k0 : Nat} {v : Nat → Int32} {x9 : Int32} {A : Nat} (hI : Iv a t k0 v ws) (hxA : x9 = nI A) (hAN : A + 4 ≤ 199684) (hJ4 : 4 ≤ v 6) : Mu l y_S_journalNumber (Cond.code y_S_journalNumber b_S_journalNumber 4 (some .int) :: WS) ({ frames := 4, cells := 2 * nul ws + 1, slots := 257 * nul ws + 6, locals := 78 }) D t z sa ws [.ref (a 0), .int x9] (fun r u => Iv a t k0 v u ∧ Fr t ws u ∧ nul u ≤ nul ws ∧ ∃ y, r = some (.int y)) Xno (Kc ws) (Ks ws) := by
  refine mu_ofW (cc := b_S_journalNumber) (maxL := 4) (ret := (some .int)) (by decide) rfl ?_
  intro p e s m args below meth c s₁ B hml hno hv
  obtain ⟨rfl, ⟨hP, hK, hD, hz⟩, hM⟩ := hv
  have hx := B.exec
  have hb := B.bytes
  have hr := B.returns
  have hts : ∀ w ∈ WS, w.before [.ref (a 0), .int x9].toArray s = true := fun w h => atoms_spec B.pre w (List.mem_cons_of_mem _ h)
  have hown : s.vm.findClass R_S = some m.cls := findClass_of_methodNamed B.named
  have hlocks := B.notSynchronized
  have hA : ∀ q, s.heap.size ≤ q → Az z q := fun q h => Nat.le_trans hz h
  have hS : va_S (Az z) s.heap s.heap [] := va_S.rf
  have hF : Fr t ws ws := Fr.rf
  have hn : nul ws ≤ nul ws := Nat.le_refl _
  have hl := lv_entry ([.ref (a 0), .int x9]) (n := 4) (Nat.le_of_ble_eq_true rfl)
  rw [lg_entry_eq]
  generalize (lg_sl ([.ref (a 0), .int x9]) ++ List.replicate (4 - (lg_sl ([.ref (a 0), .int x9])).length) Slot.unset).toArray = ls at hl ⊢
  have hl : lv_has ls 4 [(0, .ref (a 0)), (1, .int x9)] := hl
  refine W.widen (k := Kc ws ws) (n := Ks ws ws) (Nat.zero_le _) (Nat.zero_le _) ?_
  refine lv_aload_n hx hb d_S_journalNumber_0 rfl (lv_at hl 0 rfl) ?_
  refine va_get (D := D) (ci := 5) (v := .ref (a 4)) (C := R_S) (T := F_S) (N := 10) hx hb hts ws_S hown hK hP 0 hI.x rfl 1 (by decide) (hts _ fl_S_20) (fun _ h9 => h9) rfl d_S_journalNumber_1 ?_
  refine lv_iload_n hx hb d_S_journalNumber_4 rfl (lv_at hl 1 rfl) ?_
  refine lv_aload_n hx hb d_S_journalNumber_5 rfl (lv_at hl 0 rfl) ?_
  refine va_get (D := D) (ci := 5) (v := .ref (a 9)) (C := R_S) (T := F_S) (N := 10) hx hb hts ws_S hown hK hP 0 hI.x rfl 4 (by decide) (hts _ fl_S_36) (fun _ h9 => h9) rfl d_S_journalNumber_6 ?_
  refine lv_iconst (v := 4) hx hb d_S_journalNumber_9 (by decide) ?_
  refine mu_V (n := 3) (As := [.int x9, .ref (a 9), .int 4]) (rest := []) ⟨hx, hb, hml, hown, hts⟩ (c_Y_read_j (D := D) (t := t) (z := z) (sa := sa) (ws := ws) (A := A) (N := 4) (x9 := x9) (y9 := 4) hI hxA rfl hAN (by decide) hJ4) ml_S_223 im_Y_read se_Y_read in_Y cd_Y_read (by decide +kernel) ⟨Nat.le_of_ble_eq_true rfl, Nat.le_of_ble_eq_true rfl⟩ (va_recv hK hP (ci := 3) rfl hI.y4) (Pz_at hP hK hD hz hM hS) rfl hl.1 rfl (Nat.le_of_ble_eq_true rfl) d_S_journalNumber_10 ⟨by show 2 * (nul ws - nul ws) + (2 * nul ws + 1) ≤ 2 * nul ws + 1; omega, by show 257 * (nul ws - nul ws) + (257 * nul ws + 6) ≤ 257 * nul ws + 6; omega⟩ hS (fun _ _ _ _ _ _ h => h.elim) (fun r9 u1 H locs hp hP hD hS => ?_)
  obtain ⟨hI, hF9, hn9, hr9⟩ := hp
  subst hr9
  have hF := hF.trans hF9
  have hn : nul u1 ≤ nul ws := by omega
  refine W.widen (k := Kc ws u1) (n := Ks ws u1) (by show 2 * (nul ws - nul ws) + 2 * (nul ws - nul u1) ≤ 2 * (nul ws - nul u1); omega) (by show 257 * (nul ws - nul ws) + 257 * (nul ws - nul u1) ≤ 257 * (nul ws - nul u1); omega) ?_
  refine W.eq (g2 := F0 m 13 ls []) rfl ?_
  refine lv_iconst (v := 0) hx hb d_S_journalNumber_13 (by decide) ?_
  refine lv_istore_n (lv' := [(2, .int 0), (0, .ref (a 0)), (1, .int x9)]) hx hb d_S_journalNumber_14 rfl hl (by decide) rfl (fun ls hl => ?_)
  refine lv_iconst (v := 0) hx hb d_S_journalNumber_15 (by decide) ?_
  refine lv_istore_n (lv' := [(3, .int 0), (2, .int 0), (0, .ref (a 0)), (1, .int x9)]) hx hb d_S_journalNumber_16 rfl hl (by decide) rfl (fun ls hl => ?_)
  refine lv_iload_n hx hb d_S_journalNumber_17 rfl (lv_at hl 0 rfl) ?_
  refine lv_iconst (v := 4) hx hb d_S_journalNumber_18 (by decide) ?_
  refine lv_icmp_ge (tgt := 46) hx hb d_S_journalNumber_19 rfl (fun h => absurd h (by decide)) (fun _ => ?_)
  refine lv_iload_n hx hb d_S_journalNumber_22 rfl (lv_at hl 1 rfl) ?_
  refine lv_aload_n hx hb d_S_journalNumber_23 rfl (lv_at hl 2 rfl) ?_
  refine va_get (D := D) (ci := 5) (v := .ref (a 9)) (C := R_S) (T := F_S) (N := 10) hx hb hts ws_S hown hK hP 0 hI.x rfl 4 (by decide) (hts _ fl_S_36) (fun _ h9 => h9) rfl d_S_journalNumber_24 ?_
  refine lv_iload_n hx hb d_S_journalNumber_27 rfl (lv_at hl 0 rfl) ?_
  obtain ⟨r0, hr9w⟩ := hI.r9
  refine va_bald (D := D) hx hb hK hP 9 0 hr9w rfl (i := 0) (by unfold vp_in; decide) d_S_journalNumber_28 ?_
  refine lv_topi (fun y2 hy2 => ?_)
  refine lv_sipush (v := 255) hx hb d_S_journalNumber_29 (by decide) ?_
  refine lv_iand hx hb d_S_journalNumber_32 ?_
  refine lv_topi (fun v3 hv3 => ?_)
  refine lv_bipush (v := 8) hx hb d_S_journalNumber_33 (by decide) ?_
  refine lv_iload_n hx hb d_S_journalNumber_35 rfl (lv_at hl 0 rfl) ?_
  refine lv_imul hx hb d_S_journalNumber_36 ?_
  refine lv_topi (fun v4 hv4 => ?_)
  have hv4 : v4 = 0 := hv4.trans (by decide)
  subst hv4
  refine lv_ishl hx hb d_S_journalNumber_37 ?_
  refine lv_topi (fun v5 hv5 => ?_)
  refine lv_ior hx hb d_S_journalNumber_38 ?_
  refine lv_topi (fun v6 hv6 => ?_)
  refine lv_istore_n (lv' := [(2, .int v6), (3, .int 0), (0, .ref (a 0)), (1, .int x9)]) hx hb d_S_journalNumber_39 rfl hl (by decide) rfl (fun ls hl => ?_)
  refine lv_iinc (k := 1) (v := 1) (lv' := [(3, .int 1), (2, .int v6), (0, .ref (a 0)), (1, .int x9)]) hx hb d_S_journalNumber_40 hl rfl (by decide) (by decide) rfl (fun ls hl => ?_)
  refine lv_goto (tgt := 17) hx hb d_S_journalNumber_43 rfl ?_
  refine lv_iload_n hx hb d_S_journalNumber_17 rfl (lv_at hl 0 rfl) ?_
  refine lv_iconst (v := 4) hx hb d_S_journalNumber_18 (by decide) ?_
  refine lv_icmp_ge (tgt := 46) hx hb d_S_journalNumber_19 rfl (fun h => absurd h (by decide)) (fun _ => ?_)
  refine lv_iload_n hx hb d_S_journalNumber_22 rfl (lv_at hl 1 rfl) ?_
  refine lv_aload_n hx hb d_S_journalNumber_23 rfl (lv_at hl 2 rfl) ?_
  refine va_get (D := D) (ci := 5) (v := .ref (a 9)) (C := R_S) (T := F_S) (N := 10) hx hb hts ws_S hown hK hP 0 hI.x rfl 4 (by decide) (hts _ fl_S_36) (fun _ h9 => h9) rfl d_S_journalNumber_24 ?_
  refine lv_iload_n hx hb d_S_journalNumber_27 rfl (lv_at hl 0 rfl) ?_
  obtain ⟨r0, hr9w⟩ := hI.r9
  refine va_bald (D := D) hx hb hK hP 9 0 hr9w rfl (i := 1) (by unfold vp_in; decide) d_S_journalNumber_28 ?_
  refine lv_topi (fun y7 hy7 => ?_)
  refine lv_sipush (v := 255) hx hb d_S_journalNumber_29 (by decide) ?_
  refine lv_iand hx hb d_S_journalNumber_32 ?_
  refine lv_topi (fun v8 hv8 => ?_)
  refine lv_bipush (v := 8) hx hb d_S_journalNumber_33 (by decide) ?_
  refine lv_iload_n hx hb d_S_journalNumber_35 rfl (lv_at hl 0 rfl) ?_
  refine lv_imul hx hb d_S_journalNumber_36 ?_
  refine lv_topi (fun v10 hv10 => ?_)
  have hv10 : v10 = 8 := hv10.trans (by decide)
  subst hv10
  refine lv_ishl hx hb d_S_journalNumber_37 ?_
  refine lv_topi (fun v11 hv11 => ?_)
  refine lv_ior hx hb d_S_journalNumber_38 ?_
  refine lv_topi (fun v12 hv12 => ?_)
  refine lv_istore_n (lv' := [(2, .int v12), (3, .int 1), (0, .ref (a 0)), (1, .int x9)]) hx hb d_S_journalNumber_39 rfl hl (by decide) rfl (fun ls hl => ?_)
  refine lv_iinc (k := 1) (v := 2) (lv' := [(3, .int 2), (2, .int v12), (0, .ref (a 0)), (1, .int x9)]) hx hb d_S_journalNumber_40 hl rfl (by decide) (by decide) rfl (fun ls hl => ?_)
  refine lv_goto (tgt := 17) hx hb d_S_journalNumber_43 rfl ?_
  refine lv_iload_n hx hb d_S_journalNumber_17 rfl (lv_at hl 0 rfl) ?_
  refine lv_iconst (v := 4) hx hb d_S_journalNumber_18 (by decide) ?_
  refine lv_icmp_ge (tgt := 46) hx hb d_S_journalNumber_19 rfl (fun h => absurd h (by decide)) (fun _ => ?_)
  refine lv_iload_n hx hb d_S_journalNumber_22 rfl (lv_at hl 1 rfl) ?_
  refine lv_aload_n hx hb d_S_journalNumber_23 rfl (lv_at hl 2 rfl) ?_
  refine va_get (D := D) (ci := 5) (v := .ref (a 9)) (C := R_S) (T := F_S) (N := 10) hx hb hts ws_S hown hK hP 0 hI.x rfl 4 (by decide) (hts _ fl_S_36) (fun _ h9 => h9) rfl d_S_journalNumber_24 ?_
  refine lv_iload_n hx hb d_S_journalNumber_27 rfl (lv_at hl 0 rfl) ?_
  obtain ⟨r0, hr9w⟩ := hI.r9
  refine va_bald (D := D) hx hb hK hP 9 0 hr9w rfl (i := 2) (by unfold vp_in; decide) d_S_journalNumber_28 ?_
  refine lv_topi (fun y13 hy13 => ?_)
  refine lv_sipush (v := 255) hx hb d_S_journalNumber_29 (by decide) ?_
  refine lv_iand hx hb d_S_journalNumber_32 ?_
  refine lv_topi (fun v14 hv14 => ?_)
  refine lv_bipush (v := 8) hx hb d_S_journalNumber_33 (by decide) ?_
  refine lv_iload_n hx hb d_S_journalNumber_35 rfl (lv_at hl 0 rfl) ?_
  refine lv_imul hx hb d_S_journalNumber_36 ?_
  refine lv_topi (fun v15 hv15 => ?_)
  have hv15 : v15 = 16 := hv15.trans (by decide)
  subst hv15
  refine lv_ishl hx hb d_S_journalNumber_37 ?_
  refine lv_topi (fun v16 hv16 => ?_)
  refine lv_ior hx hb d_S_journalNumber_38 ?_
  refine lv_topi (fun v17 hv17 => ?_)
  refine lv_istore_n (lv' := [(2, .int v17), (3, .int 2), (0, .ref (a 0)), (1, .int x9)]) hx hb d_S_journalNumber_39 rfl hl (by decide) rfl (fun ls hl => ?_)
  refine lv_iinc (k := 1) (v := 3) (lv' := [(3, .int 3), (2, .int v17), (0, .ref (a 0)), (1, .int x9)]) hx hb d_S_journalNumber_40 hl rfl (by decide) (by decide) rfl (fun ls hl => ?_)
  refine lv_goto (tgt := 17) hx hb d_S_journalNumber_43 rfl ?_
  refine lv_iload_n hx hb d_S_journalNumber_17 rfl (lv_at hl 0 rfl) ?_
  refine lv_iconst (v := 4) hx hb d_S_journalNumber_18 (by decide) ?_
  refine lv_icmp_ge (tgt := 46) hx hb d_S_journalNumber_19 rfl (fun h => absurd h (by decide)) (fun _ => ?_)
  refine lv_iload_n hx hb d_S_journalNumber_22 rfl (lv_at hl 1 rfl) ?_
  refine lv_aload_n hx hb d_S_journalNumber_23 rfl (lv_at hl 2 rfl) ?_
  refine va_get (D := D) (ci := 5) (v := .ref (a 9)) (C := R_S) (T := F_S) (N := 10) hx hb hts ws_S hown hK hP 0 hI.x rfl 4 (by decide) (hts _ fl_S_36) (fun _ h9 => h9) rfl d_S_journalNumber_24 ?_
  refine lv_iload_n hx hb d_S_journalNumber_27 rfl (lv_at hl 0 rfl) ?_
  obtain ⟨r0, hr9w⟩ := hI.r9
  refine va_bald (D := D) hx hb hK hP 9 0 hr9w rfl (i := 3) (by unfold vp_in; decide) d_S_journalNumber_28 ?_
  refine lv_topi (fun y18 hy18 => ?_)
  refine lv_sipush (v := 255) hx hb d_S_journalNumber_29 (by decide) ?_
  refine lv_iand hx hb d_S_journalNumber_32 ?_
  refine lv_topi (fun v19 hv19 => ?_)
  refine lv_bipush (v := 8) hx hb d_S_journalNumber_33 (by decide) ?_
  refine lv_iload_n hx hb d_S_journalNumber_35 rfl (lv_at hl 0 rfl) ?_
  refine lv_imul hx hb d_S_journalNumber_36 ?_
  refine lv_topi (fun v20 hv20 => ?_)
  have hv20 : v20 = 24 := hv20.trans (by decide)
  subst hv20
  refine lv_ishl hx hb d_S_journalNumber_37 ?_
  refine lv_topi (fun v21 hv21 => ?_)
  refine lv_ior hx hb d_S_journalNumber_38 ?_
  refine lv_topi (fun v22 hv22 => ?_)
  refine lv_istore_n (lv' := [(2, .int v22), (3, .int 3), (0, .ref (a 0)), (1, .int x9)]) hx hb d_S_journalNumber_39 rfl hl (by decide) rfl (fun ls hl => ?_)
  refine lv_iinc (k := 1) (v := 4) (lv' := [(3, .int 4), (2, .int v22), (0, .ref (a 0)), (1, .int x9)]) hx hb d_S_journalNumber_40 hl rfl (by decide) (by decide) rfl (fun ls hl => ?_)
  refine lv_goto (tgt := 17) hx hb d_S_journalNumber_43 rfl ?_
  refine lv_iload_n hx hb d_S_journalNumber_17 rfl (lv_at hl 0 rfl) ?_
  refine lv_iconst (v := 4) hx hb d_S_journalNumber_18 (by decide) ?_
  refine lv_icmp_ge (tgt := 46) hx hb d_S_journalNumber_19 rfl (fun _ => ?_) (fun h => absurd h (by decide))
  refine lv_iload_n hx hb d_S_journalNumber_46 rfl (lv_at hl 1 rfl) ?_
  refine mu_end (u := u1) (v := (some (.int v22))) ⟨hI, hF, hn, _, rfl⟩ (Nat.le_refl _) (Nat.le_refl _) ?_
  exact W.iret (v := v22) hx hb hr (fun t9 ht hW => ⟨rfl, ⟨by rw [ht]; exact hP, va_K.moved hW.alike hK, hD, by rw [ht]; exact Nat.le_trans hz hS.1⟩, hS.F ht⟩) hS.2.2 d_S_journalNumber_47
set_option maxHeartbeats 4000000 in
set_option maxRecDepth 100000 in
theorem c_S_journalNumber_0 {l : Launch} {D : va_G} {t : Nat → ClassId} {z : Nat} {sa : Nat → Nat} {ws : va_W} {a : Nat → Nat} {k0 : Nat} {v : Nat → Int32} {x9 : Int32} (hI : Iv a t k0 v ws) (hxA : x9 = nI 0) (hJ4 : 4 ≤ v 6) : Mu l y_S_journalNumber (Cond.code y_S_journalNumber b_S_journalNumber 4 (some .int) :: WS) ({ frames := 4, cells := 2 * nul ws + 1, slots := 257 * nul ws + 6, locals := 78 }) D t z sa ws [.ref (a 0), .int x9] (fun r u => Iv a t k0 v u ∧ Fr t ws u ∧ nul u ≤ nul ws ∧ ∃ nn : Nat, nn ≤ 768 ∧ r = some (.int (nI nn))) Xno (Kc ws) (Ks ws) := by
  refine mu_ofW (cc := b_S_journalNumber) (maxL := 4) (ret := (some .int)) (by decide) rfl ?_
  intro p e s m args below meth c s₁ B hml hno hv
  obtain ⟨rfl, ⟨hP, hK, hD, hz⟩, hM⟩ := hv
  have hx := B.exec
  have hb := B.bytes
  have hr := B.returns
  have hts : ∀ w ∈ WS, w.before [.ref (a 0), .int x9].toArray s = true := fun w h => atoms_spec B.pre w (List.mem_cons_of_mem _ h)
  have hown : s.vm.findClass R_S = some m.cls := findClass_of_methodNamed B.named
  have hlocks := B.notSynchronized
  have hA : ∀ q, s.heap.size ≤ q → Az z q := fun q h => Nat.le_trans hz h
  have hS : va_S (Az z) s.heap s.heap [] := va_S.rf
  have hF : Fr t ws ws := Fr.rf
  have hn : nul ws ≤ nul ws := Nat.le_refl _
  have hl := lv_entry ([.ref (a 0), .int x9]) (n := 4) (Nat.le_of_ble_eq_true rfl)
  rw [lg_entry_eq]
  generalize (lg_sl ([.ref (a 0), .int x9]) ++ List.replicate (4 - (lg_sl ([.ref (a 0), .int x9])).length) Slot.unset).toArray = ls at hl ⊢
  have hl : lv_has ls 4 [(0, .ref (a 0)), (1, .int x9)] := hl
  refine W.widen (k := Kc ws ws) (n := Ks ws ws) (Nat.zero_le _) (Nat.zero_le _) ?_
  refine lv_aload_n hx hb d_S_journalNumber_0 rfl (lv_at hl 0 rfl) ?_
  refine va_get (D := D) (ci := 5) (v := .ref (a 4)) (C := R_S) (T := F_S) (N := 10) hx hb hts ws_S hown hK hP 0 hI.x rfl 1 (by decide) (hts _ fl_S_20) (fun _ h9 => h9) rfl d_S_journalNumber_1 ?_
  refine lv_iload_n hx hb d_S_journalNumber_4 rfl (lv_at hl 1 rfl) ?_
  refine lv_aload_n hx hb d_S_journalNumber_5 rfl (lv_at hl 0 rfl) ?_
  refine va_get (D := D) (ci := 5) (v := .ref (a 9)) (C := R_S) (T := F_S) (N := 10) hx hb hts ws_S hown hK hP 0 hI.x rfl 4 (by decide) (hts _ fl_S_36) (fun _ h9 => h9) rfl d_S_journalNumber_6 ?_
  refine lv_iconst (v := 4) hx hb d_S_journalNumber_9 (by decide) ?_
  refine mu_V (n := 3) (As := [.int x9, .ref (a 9), .int 4]) (rest := []) ⟨hx, hb, hml, hown, hts⟩ (c_Y_read_0 (D := D) (t := t) (z := z) (sa := sa) (ws := ws) (x9 := x9) (y9 := 4) hI hxA rfl hJ4) ml_S_223 im_Y_read se_Y_read in_Y cd_Y_read (by decide +kernel) ⟨Nat.le_of_ble_eq_true rfl, Nat.le_of_ble_eq_true rfl⟩ (va_recv hK hP (ci := 3) rfl hI.y4) (Pz_at hP hK hD hz hM hS) rfl hl.1 rfl (Nat.le_of_ble_eq_true rfl) d_S_journalNumber_10 ⟨by show 2 * (nul ws - nul ws) + (2 * nul ws + 1) ≤ 2 * nul ws + 1; omega, by show 257 * (nul ws - nul ws) + (257 * nul ws + 6) ≤ 257 * nul ws + 6; omega⟩ hS (fun _ _ _ _ _ _ h => h.elim) (fun r9 u1 H locs hp hP hD hS => ?_)
  obtain ⟨hI, hF9, hn9, hr9, nn, r0, hnn, hr9w, hrb⟩ := hp
  subst hr9
  have hF := hF.trans hF9
  have hn : nul u1 ≤ nul ws := by omega
  refine W.widen (k := Kc ws u1) (n := Ks ws u1) (by show 2 * (nul ws - nul ws) + 2 * (nul ws - nul u1) ≤ 2 * (nul ws - nul u1); omega) (by show 257 * (nul ws - nul ws) + 257 * (nul ws - nul u1) ≤ 257 * (nul ws - nul u1); omega) ?_
  refine W.eq (g2 := F0 m 13 ls []) rfl ?_
  refine lv_iconst (v := 0) hx hb d_S_journalNumber_13 (by decide) ?_
  refine lv_istore_n (lv' := [(2, .int 0), (0, .ref (a 0)), (1, .int x9)]) hx hb d_S_journalNumber_14 rfl hl (by decide) rfl (fun ls hl => ?_)
  refine lv_iconst (v := 0) hx hb d_S_journalNumber_15 (by decide) ?_
  refine lv_istore_n (lv' := [(3, .int 0), (2, .int 0), (0, .ref (a 0)), (1, .int x9)]) hx hb d_S_journalNumber_16 rfl hl (by decide) rfl (fun ls hl => ?_)
  refine lv_iload_n hx hb d_S_journalNumber_17 rfl (lv_at hl 0 rfl) ?_
  refine lv_iconst (v := 4) hx hb d_S_journalNumber_18 (by decide) ?_
  refine lv_icmp_ge (tgt := 46) hx hb d_S_journalNumber_19 rfl (fun h => absurd h (by decide)) (fun _ => ?_)
  refine lv_iload_n hx hb d_S_journalNumber_22 rfl (lv_at hl 1 rfl) ?_
  refine lv_aload_n hx hb d_S_journalNumber_23 rfl (lv_at hl 2 rfl) ?_
  refine va_get (D := D) (ci := 5) (v := .ref (a 9)) (C := R_S) (T := F_S) (N := 10) hx hb hts ws_S hown hK hP 0 hI.x rfl 4 (by decide) (hts _ fl_S_36) (fun _ h9 => h9) rfl d_S_journalNumber_24 ?_
  refine lv_iload_n hx hb d_S_journalNumber_27 rfl (lv_at hl 0 rfl) ?_
  refine va_bald (D := D) hx hb hK hP 9 0 hr9w rfl (i := 0) (by unfold vp_in; decide) d_S_journalNumber_28 ?_
  refine lv_topi (fun y2 hy2 => ?_)
  have hy2 : y2 = byt nn 0 := by rw [hy2, show (0 : Int32).toNatClampNeg = 0 from by decide]; exact hrb 0 (by decide)
  refine lv_sipush (v := 255) hx hb d_S_journalNumber_29 (by decide) ?_
  refine lv_iand hx hb d_S_journalNumber_32 ?_
  refine lv_topi (fun v3 hv3 => ?_)
  refine lv_bipush (v := 8) hx hb d_S_journalNumber_33 (by decide) ?_
  refine lv_iload_n hx hb d_S_journalNumber_35 rfl (lv_at hl 0 rfl) ?_
  refine lv_imul hx hb d_S_journalNumber_36 ?_
  refine lv_topi (fun v4 hv4 => ?_)
  have hv4 : v4 = 0 := hv4.trans (by decide)
  subst hv4
  refine lv_ishl hx hb d_S_journalNumber_37 ?_
  refine lv_topi (fun v5 hv5 => ?_)
  refine lv_ior hx hb d_S_journalNumber_38 ?_
  refine lv_topi (fun v6 hv6 => ?_)
  refine lv_istore_n (lv' := [(2, .int v6), (3, .int 0), (0, .ref (a 0)), (1, .int x9)]) hx hb d_S_journalNumber_39 rfl hl (by decide) rfl (fun ls hl => ?_)
  refine lv_iinc (k := 1) (v := 1) (lv' := [(3, .int 1), (2, .int v6), (0, .ref (a 0)), (1, .int x9)]) hx hb d_S_journalNumber_40 hl rfl (by decide) (by decide) rfl (fun ls hl => ?_)
  refine lv_goto (tgt := 17) hx hb d_S_journalNumber_43 rfl ?_
  refine lv_iload_n hx hb d_S_journalNumber_17 rfl (lv_at hl 0 rfl) ?_
  refine lv_iconst (v := 4) hx hb d_S_journalNumber_18 (by decide) ?_
  refine lv_icmp_ge (tgt := 46) hx hb d_S_journalNumber_19 rfl (fun h => absurd h (by decide)) (fun _ => ?_)
  refine lv_iload_n hx hb d_S_journalNumber_22 rfl (lv_at hl 1 rfl) ?_
  refine lv_aload_n hx hb d_S_journalNumber_23 rfl (lv_at hl 2 rfl) ?_
  refine va_get (D := D) (ci := 5) (v := .ref (a 9)) (C := R_S) (T := F_S) (N := 10) hx hb hts ws_S hown hK hP 0 hI.x rfl 4 (by decide) (hts _ fl_S_36) (fun _ h9 => h9) rfl d_S_journalNumber_24 ?_
  refine lv_iload_n hx hb d_S_journalNumber_27 rfl (lv_at hl 0 rfl) ?_
  refine va_bald (D := D) hx hb hK hP 9 0 hr9w rfl (i := 1) (by unfold vp_in; decide) d_S_journalNumber_28 ?_
  refine lv_topi (fun y7 hy7 => ?_)
  have hy7 : y7 = byt nn 1 := by rw [hy7, show (1 : Int32).toNatClampNeg = 1 from by decide]; exact hrb 1 (by decide)
  refine lv_sipush (v := 255) hx hb d_S_journalNumber_29 (by decide) ?_
  refine lv_iand hx hb d_S_journalNumber_32 ?_
  refine lv_topi (fun v8 hv8 => ?_)
  refine lv_bipush (v := 8) hx hb d_S_journalNumber_33 (by decide) ?_
  refine lv_iload_n hx hb d_S_journalNumber_35 rfl (lv_at hl 0 rfl) ?_
  refine lv_imul hx hb d_S_journalNumber_36 ?_
  refine lv_topi (fun v10 hv10 => ?_)
  have hv10 : v10 = 8 := hv10.trans (by decide)
  subst hv10
  refine lv_ishl hx hb d_S_journalNumber_37 ?_
  refine lv_topi (fun v11 hv11 => ?_)
  refine lv_ior hx hb d_S_journalNumber_38 ?_
  refine lv_topi (fun v12 hv12 => ?_)
  refine lv_istore_n (lv' := [(2, .int v12), (3, .int 1), (0, .ref (a 0)), (1, .int x9)]) hx hb d_S_journalNumber_39 rfl hl (by decide) rfl (fun ls hl => ?_)
  refine lv_iinc (k := 1) (v := 2) (lv' := [(3, .int 2), (2, .int v12), (0, .ref (a 0)), (1, .int x9)]) hx hb d_S_journalNumber_40 hl rfl (by decide) (by decide) rfl (fun ls hl => ?_)
  refine lv_goto (tgt := 17) hx hb d_S_journalNumber_43 rfl ?_
  refine lv_iload_n hx hb d_S_journalNumber_17 rfl (lv_at hl 0 rfl) ?_
  refine lv_iconst (v := 4) hx hb d_S_journalNumber_18 (by decide) ?_
  refine lv_icmp_ge (tgt := 46) hx hb d_S_journalNumber_19 rfl (fun h => absurd h (by decide)) (fun _ => ?_)
  refine lv_iload_n hx hb d_S_journalNumber_22 rfl (lv_at hl 1 rfl) ?_
  refine lv_aload_n hx hb d_S_journalNumber_23 rfl (lv_at hl 2 rfl) ?_
  refine va_get (D := D) (ci := 5) (v := .ref (a 9)) (C := R_S) (T := F_S) (N := 10) hx hb hts ws_S hown hK hP 0 hI.x rfl 4 (by decide) (hts _ fl_S_36) (fun _ h9 => h9) rfl d_S_journalNumber_24 ?_
  refine lv_iload_n hx hb d_S_journalNumber_27 rfl (lv_at hl 0 rfl) ?_
  refine va_bald (D := D) hx hb hK hP 9 0 hr9w rfl (i := 2) (by unfold vp_in; decide) d_S_journalNumber_28 ?_
  refine lv_topi (fun y13 hy13 => ?_)
  have hy13 : y13 = byt nn 2 := by rw [hy13, show (2 : Int32).toNatClampNeg = 2 from by decide]; exact hrb 2 (by decide)
  refine lv_sipush (v := 255) hx hb d_S_journalNumber_29 (by decide) ?_
  refine lv_iand hx hb d_S_journalNumber_32 ?_
  refine lv_topi (fun v14 hv14 => ?_)
  refine lv_bipush (v := 8) hx hb d_S_journalNumber_33 (by decide) ?_
  refine lv_iload_n hx hb d_S_journalNumber_35 rfl (lv_at hl 0 rfl) ?_
  refine lv_imul hx hb d_S_journalNumber_36 ?_
  refine lv_topi (fun v15 hv15 => ?_)
  have hv15 : v15 = 16 := hv15.trans (by decide)
  subst hv15
  refine lv_ishl hx hb d_S_journalNumber_37 ?_
  refine lv_topi (fun v16 hv16 => ?_)
  refine lv_ior hx hb d_S_journalNumber_38 ?_
  refine lv_topi (fun v17 hv17 => ?_)
  refine lv_istore_n (lv' := [(2, .int v17), (3, .int 2), (0, .ref (a 0)), (1, .int x9)]) hx hb d_S_journalNumber_39 rfl hl (by decide) rfl (fun ls hl => ?_)
  refine lv_iinc (k := 1) (v := 3) (lv' := [(3, .int 3), (2, .int v17), (0, .ref (a 0)), (1, .int x9)]) hx hb d_S_journalNumber_40 hl rfl (by decide) (by decide) rfl (fun ls hl => ?_)
  refine lv_goto (tgt := 17) hx hb d_S_journalNumber_43 rfl ?_
  refine lv_iload_n hx hb d_S_journalNumber_17 rfl (lv_at hl 0 rfl) ?_
  refine lv_iconst (v := 4) hx hb d_S_journalNumber_18 (by decide) ?_
  refine lv_icmp_ge (tgt := 46) hx hb d_S_journalNumber_19 rfl (fun h => absurd h (by decide)) (fun _ => ?_)
  refine lv_iload_n hx hb d_S_journalNumber_22 rfl (lv_at hl 1 rfl) ?_
  refine lv_aload_n hx hb d_S_journalNumber_23 rfl (lv_at hl 2 rfl) ?_
  refine va_get (D := D) (ci := 5) (v := .ref (a 9)) (C := R_S) (T := F_S) (N := 10) hx hb hts ws_S hown hK hP 0 hI.x rfl 4 (by decide) (hts _ fl_S_36) (fun _ h9 => h9) rfl d_S_journalNumber_24 ?_
  refine lv_iload_n hx hb d_S_journalNumber_27 rfl (lv_at hl 0 rfl) ?_
  refine va_bald (D := D) hx hb hK hP 9 0 hr9w rfl (i := 3) (by unfold vp_in; decide) d_S_journalNumber_28 ?_
  refine lv_topi (fun y18 hy18 => ?_)
  have hy18 : y18 = byt nn 3 := by rw [hy18, show (3 : Int32).toNatClampNeg = 3 from by decide]; exact hrb 3 (by decide)
  refine lv_sipush (v := 255) hx hb d_S_journalNumber_29 (by decide) ?_
  refine lv_iand hx hb d_S_journalNumber_32 ?_
  refine lv_topi (fun v19 hv19 => ?_)
  refine lv_bipush (v := 8) hx hb d_S_journalNumber_33 (by decide) ?_
  refine lv_iload_n hx hb d_S_journalNumber_35 rfl (lv_at hl 0 rfl) ?_
  refine lv_imul hx hb d_S_journalNumber_36 ?_
  refine lv_topi (fun v20 hv20 => ?_)
  have hv20 : v20 = 24 := hv20.trans (by decide)
  subst hv20
  refine lv_ishl hx hb d_S_journalNumber_37 ?_
  refine lv_topi (fun v21 hv21 => ?_)
  refine lv_ior hx hb d_S_journalNumber_38 ?_
  refine lv_topi (fun v22 hv22 => ?_)
  refine lv_istore_n (lv' := [(2, .int v22), (3, .int 3), (0, .ref (a 0)), (1, .int x9)]) hx hb d_S_journalNumber_39 rfl hl (by decide) rfl (fun ls hl => ?_)
  refine lv_iinc (k := 1) (v := 4) (lv' := [(3, .int 4), (2, .int v22), (0, .ref (a 0)), (1, .int x9)]) hx hb d_S_journalNumber_40 hl rfl (by decide) (by decide) rfl (fun ls hl => ?_)
  refine lv_goto (tgt := 17) hx hb d_S_journalNumber_43 rfl ?_
  refine lv_iload_n hx hb d_S_journalNumber_17 rfl (lv_at hl 0 rfl) ?_
  refine lv_iconst (v := 4) hx hb d_S_journalNumber_18 (by decide) ?_
  refine lv_icmp_ge (tgt := 46) hx hb d_S_journalNumber_19 rfl (fun _ => ?_) (fun h => absurd h (by decide))
  refine lv_iload_n hx hb d_S_journalNumber_46 rfl (lv_at hl 1 rfl) ?_
  refine mu_end (u := u1) (v := (some (.int v22))) ⟨hI, hF, hn, nn, hnn, by rw [show v22 = nI nn from by rw [hv22, hv21, hv19, hy18, hv17, hv16, hv14, hy13, hv12, hv11, hv8, hy7, hv6, hv5, hv3, hy2]; exact jn_num nn (by omega)]⟩ (Nat.le_refl _) (Nat.le_refl _) ?_
  exact W.iret (v := v22) hx hb hr (fun t9 ht hW => ⟨rfl, ⟨by rw [ht]; exact hP, va_K.moved hW.alike hK, hD, by rw [ht]; exact Nat.le_trans hz hS.1⟩, hS.F ht⟩) hS.2.2 d_S_journalNumber_47
