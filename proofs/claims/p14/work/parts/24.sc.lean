/-- bytes of a page, none of them the journal's first -/
def Br (a : Nat → Nat) (t : Nat → ClassId) (k0 : Nat) (v : Nat → Int32) (ws : va_W) : Option Value → va_W → Prop := fun r u =>
  ∃ (c k' : Nat) (f : Nat → Int32), r = some (.ref c) ∧ 42 ≤ k' ∧ u[k']? = some (cA t c f) ∧ k' ≠ k0 ∧ Iv a t k0 v u ∧ Fr t ws u ∧ nul u ≤ nul ws
theorem cp_im : Cond.native arraycopyName ∈ WS := by decide +kernel
theorem cp_st : Cond.static arraycopyName ∈ WS := by decide +kernel
set_option maxHeartbeats 4000000 in
set_option maxRecDepth 100000 in
theorem c_S_bytesOf {l : Launch} {D : va_G} {t : Nat → ClassId} {z : Nat} {sa : Nat → Nat} {ws : va_W} {a : Nat → Nat} {k0 : Nat} {v : Nat → Int32} {i : Nat} {x9 : Int32} (hI : Iv a t k0 v ws) (hi : i < 768) (hxi : x9 = nI i) : Mu l y_S_bytesOf (Cond.code y_S_bytesOf b_S_bytesOf 3 (some (.array .byte)) :: WS) ({ frames := 4, cells := 2 * nul ws + 1, slots := 257 * nul ws + 6, locals := 75 }) D t z sa ws [.ref (a 0), .int x9] (fun r u => Br a t k0 v ws r u) Xno (Kc ws) (Ks ws) := by
  refine mu_ofW (cc := b_S_bytesOf) (maxL := 3) (ret := (some (.array .byte))) (by decide) rfl ?_
  intro p e s m args below meth c s₁ B hml hno hv
  obtain ⟨rfl, ⟨hP, hK, hD, hz⟩, hM⟩ := hv
  have hx := B.exec
  have hb := B.bytes
  have hr := B.returns
  have hts : ∀ w ∈ WS, w.before [.ref (a 0), .int x9].toArray s = true := fun w h => atoms_spec B.pre w (List.mem_cons_of_mem _ h)
  have hown : s.vm.findClass R_S = some m.cls := findClass_of_methodNamed B.named
  have hlocks := B.notSynchronized
  have hA : ∀ q, s.heap.size ≤ q → Az z q := fun q h => Nat.le_trans hz h
  have hS : va_S (Az z) s.heap s.heap [] := va_S.rf
  have hF : Fr t ws ws := Fr.rf
  have hn : nul ws ≤ nul ws := Nat.le_refl _
  have hl := lv_entry ([.ref (a 0), .int x9]) (n := 3) (Nat.le_of_ble_eq_true rfl)
  rw [lg_entry_eq]
  generalize (lg_sl ([.ref (a 0), .int x9]) ++ List.replicate (3 - (lg_sl ([.ref (a 0), .int x9])).length) Slot.unset).toArray = ls at hl ⊢
  have hl : lv_has ls 3 [(0, .ref (a 0)), (1, .int x9)] := hl
  refine W.widen (k := Kc ws ws) (n := Ks ws ws) (Nat.zero_le _) (Nat.zero_le _) ?_
  refine lv_aload_n hx hb d_S_bytesOf_0 rfl (lv_at hl 0 rfl) ?_
  refine va_get (D := D) (ci := 5) (v := .int (v 2)) (C := R_S) (T := F_S) (N := 10) hx hb hts ws_S hown hK hP 0 hI.x rfl 7 (by decide) (hts _ fl_S_47) (fun _ h9 => h9) rfl d_S_bytesOf_1 ?_
  refine lv_istore_n (lv' := [(2, .int (v 2)), (0, .ref (a 0)), (1, .int x9)]) hx hb d_S_bytesOf_4 rfl hl (by decide) rfl (fun ls hl => ?_)
  obtain ⟨M9, hM1, hM2⟩ := hI.bd.1
  have key : ∀ (jn : Nat) (y : Int32) (H : Heap) (locs : List Loc) (ls : Array Slot), jn ≤ 6 → y = nI jn + (-1) → va_P D Cl ws H → va_S (Az z) s.heap H locs → lv_has ls 3 [(2, .int y), (0, .ref (a 0)), (1, .int x9)] → W p l e (headSpec (Cond.code y_S_bytesOf b_S_bytesOf 3 (some (.array .byte)) :: WS) ({ frames := 4, cells := 2 * nul ws + 1, slots := 257 * nul ws + 6, locals := 75 })).room s m [.ref (a 0), .int x9].toArray below meth c H locs (Kc ws ws) (Ks ws ws) (mu_MQ below D t z (fun r u => Br a t k0 v ws r u) Xno (Kc ws) (Ks ws) [.ref (a 0), .int x9].toArray s) (F0 m 5 ls []) := by
    intro jn
    induction jn with
    | zero =>
      intro y H locs ls _ hy hP hS hl
      refine lv_iload_n hx hb d_S_bytesOf_5 rfl (lv_at hl 0 rfl) ?_
      refine lv_if_lt (tgt := 39) hx hb d_S_bytesOf_6 rfl (fun _ => ?_) (fun h => absurd (by rw [hy]; decide) h)
      refine lv_aload_n hx hb d_S_bytesOf_39 rfl (lv_at hl 1 rfl) ?_
      refine va_get (D := D) (ci := 5) (v := .ref (a 1)) (C := R_S) (T := F_S) (N := 10) hx hb hts ws_S hown hK hP 0 hI.x rfl 0 (by decide) (hts _ fl_S_15) (fun _ h9 => h9) rfl d_S_bytesOf_40 ?_
      refine lv_iload_n hx hb d_S_bytesOf_43 rfl (lv_at hl 2 rfl) ?_
      refine mu_V (n := 1) (As := [.int x9]) (rest := []) ⟨hx, hb, hml, hown, hts⟩ (c_Y_block_f (D := D) (t := t) (z := z) (sa := sa) (ws := ws) (i := i) hI (show i < Nn 3 from hi) hxi) ml_S_188 im_Y_block se_Y_block in_Y cd_Y_block (by decide +kernel) ⟨Nat.le_of_ble_eq_true rfl, Nat.le_of_ble_eq_true rfl⟩ (va_recv hK hP (ci := 3) rfl hI.y1) (Pz_at hP hK hD hz hM hS) rfl hl.1 rfl (Nat.le_of_ble_eq_true rfl) d_S_bytesOf_44 ⟨by show 2 * (nul ws - nul ws) + (2 * nul ws + 1) ≤ 2 * nul ws + 1; omega, by show 257 * (nul ws - nul ws) + (257 * nul ws + 6) ≤ 257 * nul ws + 6; omega⟩ hS (fun _ _ _ _ _ _ h => h.elim) (fun r9 u1 H locs hp hP hD hS => ?_)
      obtain ⟨c2, j3, k4, f5, hr9, h42c2, hcc2, hsp, hI, hF9, hn9, hj9, -⟩ := hp
      have hk1 : k4 = k0 := hj9 (Or.inr (fun h => by have h9 := h.1; omega))
      rw [hk1] at hI hsp
      subst hr9
      have hF := hF.trans hF9
      have hnec2 : j3 ≠ k0 := fun h => by have h9 := (hsp.mp h).1; omega
      have hn : nul u1 ≤ nul ws := by omega
      refine W.widen (k := Kc ws u1) (n := Ks ws u1) (by show 2 * (nul ws - nul ws) + 2 * (nul ws - nul u1) ≤ 2 * (nul ws - nul u1); omega) (by show 257 * (nul ws - nul ws) + 257 * (nul ws - nul u1) ≤ 257 * (nul ws - nul u1); omega) ?_
      refine W.eq (g2 := F0 m 47 ls [.ref c2]) rfl ?_
      refine mu_end (u := u1) (v := (some (.ref c2))) ⟨_, _, _, rfl, h42c2, hcc2, hnec2, hI, hF, hn⟩ (Nat.le_refl _) (Nat.le_refl _) ?_
      exact W.aret (v := .ref c2) (rt := .array .byte) hx hb hr (Or.inr ⟨_, rfl⟩) (Or.inr ⟨_, rfl⟩) (fun t9 ht hW => ⟨rfl, ⟨by rw [ht]; exact hP, va_K.moved hW.alike hK, hD, by rw [ht]; exact Nat.le_trans hz hS.1⟩, hS.F ht⟩) hS.2.2 d_S_bytesOf_47
    | succ jn ih =>
      intro y H locs ls hle hy hP hS hl
      have hy : y = nI jn := by rw [hy]; exact pk_m1 jn
      have hjn : jn < 6 := by omega
      refine lv_iload_n hx hb d_S_bytesOf_5 rfl (lv_at hl 0 rfl) ?_
      refine lv_if_lt (tgt := 39) hx hb d_S_bytesOf_6 rfl (fun h => absurd h (by rw [hy]; exact nI_pos (by omega))) (fun _ => ?_)
      refine lv_aload_n hx hb d_S_bytesOf_9 rfl (lv_at hl 1 rfl) ?_
      refine va_get (D := D) (ci := 5) (v := .ref (a 7)) (C := R_S) (T := F_S) (N := 10) hx hb hts ws_S hown hK hP 0 hI.x rfl 2 (by decide) (hts _ fl_S_25) (fun _ h9 => h9) rfl d_S_bytesOf_10 ?_
      refine lv_iload_n hx hb d_S_bytesOf_13 rfl (lv_at hl 0 rfl) ?_
      obtain ⟨gl, e7, g7⟩ := hI.l7
      refine va_aldq (D := D) hx hb hK hP 7 3 e7 rfl (i := y) (by rw [hy]; exact vp_in_nI hjn (by decide)) d_S_bytesOf_14 ?_
      refine W.eq (g2 := F0 m 15 ls [.ref (a (10 + 4 * jn))]) (by rw [show (y : Int32).toNatClampNeg = jn from by rw [hy]; exact nI_clamp (by omega), g7 jn hjn]; rfl) ?_
      refine lv_iload_n hx hb d_S_bytesOf_15 rfl (lv_at hl 2 rfl) ?_
      refine mu_V (n := 1) (As := [.int x9]) (rest := []) ⟨hx, hb, hml, hown, hts⟩ (c_Z_holds (D := D) (t := t) (z := z) (sa := sa) (ws := ws) (j := jn) (i := i) hI hjn hi hxi) ml_S_183 im_Z_holds se_Z_holds in_Z cd_Z_holds (by decide +kernel) ⟨Nat.le_of_ble_eq_true rfl, Nat.le_of_ble_eq_true rfl⟩ (va_recv hK hP (ci := 4) rfl (hI.z hjn)) (Pz_at hP hK hD hz hM hS) rfl hl.1 rfl (Nat.le_of_ble_eq_true rfl) d_S_bytesOf_16 ⟨by show 2 * (nul ws - nul ws) + (2 * nul ws + 1) ≤ 2 * nul ws + 1; omega, by show 257 * (nul ws - nul ws) + (257 * nul ws + 6) ≤ 257 * nul ws + 6; omega⟩ hS (fun _ _ _ _ _ _ h => h.elim) (fun r9 u6 H locs hp hP hD hS => ?_)
      obtain ⟨yh, hr9, hw9, hb01⟩ := hp
      rw [hw9] at hP hD
      subst hr9
      refine W.widen (k := Kc ws ws) (n := Ks ws ws) (by rw [hw9]; show 2 * (nul ws - nul ws) + 2 * (nul ws - nul ws) ≤ 2 * (nul ws - nul ws); omega) (by rw [hw9]; show 257 * (nul ws - nul ws) + 257 * (nul ws - nul ws) ≤ 257 * (nul ws - nul ws); omega) ?_
      clear hw9
      refine W.eq (g2 := F0 m 19 ls [.int yh]) rfl ?_
      refine lv_if_eq (tgt := 33) hx hb d_S_bytesOf_19 rfl (fun q7 => ?_) (fun q7 => ?_)
      · skip
        refine lv_iinc (k := 0) (v := y + (-1)) (lv' := [(2, .int (y + (-1))), (0, .ref (a 0)), (1, .int x9)]) hx hb d_S_bytesOf_33 hl rfl rfl (by decide) rfl (fun ls hl => ?_)
        refine lv_goto (tgt := 5) hx hb d_S_bytesOf_36 rfl ?_
        exact ih _ H locs ls (by omega) (by rw [hy]) hP hS hl
      · skip
        refine lv_aload_n hx hb d_S_bytesOf_22 rfl (lv_at hl 1 rfl) ?_
        refine va_get (D := D) (ci := 5) (v := .ref (a 7)) (C := R_S) (T := F_S) (N := 10) hx hb hts ws_S hown hK hP 0 hI.x rfl 2 (by decide) (hts _ fl_S_25) (fun _ h9 => h9) rfl d_S_bytesOf_23 ?_
        refine lv_iload_n hx hb d_S_bytesOf_26 rfl (lv_at hl 0 rfl) ?_
        obtain ⟨gl, e7, g7⟩ := hI.l7
        refine va_aldq (D := D) hx hb hK hP 7 3 e7 rfl (i := y) (by rw [hy]; exact vp_in_nI hjn (by decide)) d_S_bytesOf_27 ?_
        refine W.eq (g2 := F0 m 28 ls [.ref (a (10 + 4 * jn))]) (by rw [show (y : Int32).toNatClampNeg = jn from by rw [hy]; exact nI_clamp (by omega), g7 jn hjn]; rfl) ?_
        refine lv_iload_n hx hb d_S_bytesOf_28 rfl (lv_at hl 2 rfl) ?_
        refine mu_V (n := 1) (As := [.int x9]) (rest := []) ⟨hx, hb, hml, hown, hts⟩ (c_Z_bytesOf (D := D) (t := t) (z := z) (sa := sa) (ws := ws) (j := jn) (i := i) hI hjn (by rw [Nn_j]; exact hi) hxi) ml_S_187 im_Z_bytesOf se_Z_bytesOf in_Z cd_Z_bytesOf (by decide +kernel) ⟨Nat.le_of_ble_eq_true rfl, Nat.le_of_ble_eq_true rfl⟩ (va_recv hK hP (ci := 4) rfl (hI.z hjn)) (Pz_at hP hK hD hz hM hS) rfl hl.1 rfl (Nat.le_of_ble_eq_true rfl) d_S_bytesOf_29 ⟨by show 2 * (nul ws - nul ws) + (2 * nul ws + 1) ≤ 2 * nul ws + 1; omega, by show 257 * (nul ws - nul ws) + (257 * nul ws + 6) ≤ 257 * nul ws + 6; omega⟩ hS (fun _ _ _ _ _ _ h => h.elim) (fun r9 u8 H locs hp hP hD hS => ?_)
        obtain ⟨c10, j11, k12, f13, hr9, h42c10, hcc10, hsp, hI, hF9, hn9, hj9, -⟩ := hp
        have hk1 : k12 = k0 := hj9 (Or.inr (fun h => by have h9 := h.1; omega))
        rw [hk1] at hI hsp
        subst hr9
        have hF := hF.trans hF9
        have hnec10 : j11 ≠ k0 := fun h => by have h9 := (hsp.mp h).1; omega
        have hn : nul u8 ≤ nul ws := by omega
        refine W.widen (k := Kc ws u8) (n := Ks ws u8) (by show 2 * (nul ws - nul ws) + 2 * (nul ws - nul u8) ≤ 2 * (nul ws - nul u8); omega) (by show 257 * (nul ws - nul ws) + 257 * (nul ws - nul u8) ≤ 257 * (nul ws - nul u8); omega) ?_
        refine W.eq (g2 := F0 m 32 ls [.ref c10]) rfl ?_
        refine mu_end (u := u8) (v := (some (.ref c10))) ⟨_, _, _, rfl, h42c10, hcc10, hnec10, hI, hF, hn⟩ (Nat.le_refl _) (Nat.le_refl _) ?_
        exact W.aret (v := .ref c10) (rt := .array .byte) hx hb hr (Or.inr ⟨_, rfl⟩) (Or.inr ⟨_, rfl⟩) (fun t9 ht hW => ⟨rfl, ⟨by rw [ht]; exact hP, va_K.moved hW.alike hK, hD, by rw [ht]; exact Nat.le_trans hz hS.1⟩, hS.F ht⟩) hS.2.2 d_S_bytesOf_32
  exact key (M9 + 1) _ _ _ _ (by omega) (by rw [pk_m1]; exact hM2) hP hS hl
set_option maxHeartbeats 4000000 in
set_option maxRecDepth 100000 in
theorem c_S_bytesToChange {l : Launch} {D : va_G} {t : Nat → ClassId} {z : Nat} {sa : Nat → Nat} {ws : va_W} {a : Nat → Nat} {k0 : Nat} {v : Nat → Int32} {i : Nat} {x9 : Int32} (hI : Iv a t k0 v ws) (hi : i < 768) (hxi : x9 = nI i) : Mu l y_S_bytesToChange (Cond.code y_S_bytesToChange b_S_bytesToChange 4 (some (.array .byte)) :: WS) ({ frames := 5, cells := 2 * nul ws + 1, slots := 257 * nul ws + 6, locals := 97 }) D t z sa ws [.ref (a 0), .int x9] (fun r u => Br a t k0 v ws r u) Xno (Kc ws) (Ks ws) := by
  refine mu_ofW (cc := b_S_bytesToChange) (maxL := 4) (ret := (some (.array .byte))) (by decide) rfl ?_
  intro p e s m args below meth c s₁ B hml hno hv
  obtain ⟨rfl, ⟨hP, hK, hD, hz⟩, hM⟩ := hv
  have hx := B.exec
  have hb := B.bytes
  have hr := B.returns
  have hts : ∀ w ∈ WS, w.before [.ref (a 0), .int x9].toArray s = true := fun w h => atoms_spec B.pre w (List.mem_cons_of_mem _ h)
  have hown : s.vm.findClass R_S = some m.cls := findClass_of_methodNamed B.named
  have hlocks := B.notSynchronized
  have hA : ∀ q, s.heap.size ≤ q → Az z q := fun q h => Nat.le_trans hz h
  have hS : va_S (Az z) s.heap s.heap [] := va_S.rf
  have hF : Fr t ws ws := Fr.rf
  have hn : nul ws ≤ nul ws := Nat.le_refl _
  have hl := lv_entry ([.ref (a 0), .int x9]) (n := 4) (Nat.le_of_ble_eq_true rfl)
  rw [lg_entry_eq]
  generalize (lg_sl ([.ref (a 0), .int x9]) ++ List.replicate (4 - (lg_sl ([.ref (a 0), .int x9])).length) Slot.unset).toArray = ls at hl ⊢
  have hl : lv_has ls 4 [(0, .ref (a 0)), (1, .int x9)] := hl
  refine W.widen (k := Kc ws ws) (n := Ks ws ws) (Nat.zero_le _) (Nat.zero_le _) ?_
  refine lv_aload_n hx hb d_S_bytesToChange_0 rfl (lv_at hl 0 rfl) ?_
  refine va_get (D := D) (ci := 5) (v := .ref (a 7)) (C := R_S) (T := F_S) (N := 10) hx hb hts ws_S hown hK hP 0 hI.x rfl 2 (by decide) (hts _ fl_S_25) (fun _ h9 => h9) rfl d_S_bytesToChange_1 ?_
  refine lv_aload_n hx hb d_S_bytesToChange_4 rfl (lv_at hl 0 rfl) ?_
  refine va_get (D := D) (ci := 5) (v := .int (v 2)) (C := R_S) (T := F_S) (N := 10) hx hb hts ws_S hown hK hP 0 hI.x rfl 7 (by decide) (hts _ fl_S_47) (fun _ h9 => h9) rfl d_S_bytesToChange_5 ?_
  obtain ⟨jm, hM1, hM2⟩ := hI.bd.1
  have hjm : jm < 6 := by omega
  obtain ⟨gl, e7, g7⟩ := hI.l7
  refine va_aldq (D := D) hx hb hK hP 7 3 e7 rfl (i := (v 2)) (by rw [hM2]; exact vp_in_nI hjm (by decide)) d_S_bytesToChange_8 ?_
  refine W.eq (g2 := F0 m 9 ls [.ref (a (10 + 4 * jm))]) (by rw [show (v 2).toNatClampNeg = jm from by rw [hM2]; exact nI_clamp (by omega), g7 jm hjm]; rfl) ?_
  refine lv_astore_n (lv' := [(2, .ref (a (10 + 4 * jm))), (0, .ref (a 0)), (1, .int x9)]) hx hb d_S_bytesToChange_9 rfl hl (by decide) rfl (fun ls hl => ?_)
  refine lv_aload_n hx hb d_S_bytesToChange_10 rfl (lv_at hl 0 rfl) ?_
  refine lv_iload_n hx hb d_S_bytesToChange_11 rfl (lv_at hl 2 rfl) ?_
  refine mu_V (n := 1) (As := [.int x9]) (rest := []) ⟨hx, hb, hml, hown, hts⟩ (c_Z_holds (D := D) (t := t) (z := z) (sa := sa) (ws := ws) (j := jm) (i := i) hI hjm hi hxi) ml_S_183 im_Z_holds se_Z_holds in_Z cd_Z_holds (by decide +kernel) ⟨Nat.le_of_ble_eq_true rfl, Nat.le_of_ble_eq_true rfl⟩ (va_recv hK hP (ci := 4) rfl (hI.z hjm)) (Pz_at hP hK hD hz hM hS) rfl hl.1 rfl (Nat.le_of_ble_eq_true rfl) d_S_bytesToChange_12 ⟨by show 2 * (nul ws - nul ws) + (2 * nul ws + 1) ≤ 2 * nul ws + 1; omega, by show 257 * (nul ws - nul ws) + (257 * nul ws + 6) ≤ 257 * nul ws + 6; omega⟩ hS (fun _ _ _ _ _ _ h => h.elim) (fun r9 u1 H locs hp hP hD hS => ?_)
  obtain ⟨yh, hr9, hw9, hb01⟩ := hp
  rw [hw9] at hP hD
  subst hr9
  refine W.widen (k := Kc ws ws) (n := Ks ws ws) (by rw [hw9]; show 2 * (nul ws - nul ws) + 2 * (nul ws - nul ws) ≤ 2 * (nul ws - nul ws); omega) (by rw [hw9]; show 257 * (nul ws - nul ws) + 257 * (nul ws - nul ws) ≤ 257 * (nul ws - nul ws); omega) ?_
  clear hw9
  refine W.eq (g2 := F0 m 15 ls [.int yh]) rfl ?_
  refine lv_if_ne (tgt := 38) hx hb d_S_bytesToChange_15 rfl (fun q2 => ?_) (fun q2 => ?_)
  · skip
    refine lv_aload_n hx hb d_S_bytesToChange_38 rfl (lv_at hl 0 rfl) ?_
    refine lv_iload_n hx hb d_S_bytesToChange_39 rfl (lv_at hl 2 rfl) ?_
    refine mu_V (n := 1) (As := [.int x9]) (rest := []) ⟨hx, hb, hml, hown, hts⟩ (c_Z_bytesOf (D := D) (t := t) (z := z) (sa := sa) (ws := ws) (j := jm) (i := i) hI hjm (by rw [Nn_j]; exact hi) hxi) ml_S_187 im_Z_bytesOf se_Z_bytesOf in_Z cd_Z_bytesOf (by decide +kernel) ⟨Nat.le_of_ble_eq_true rfl, Nat.le_of_ble_eq_true rfl⟩ (va_recv hK hP (ci := 4) rfl (hI.z hjm)) (Pz_at hP hK hD hz hM hS) rfl hl.1 rfl (Nat.le_of_ble_eq_true rfl) d_S_bytesToChange_40 ⟨by show 2 * (nul ws - nul ws) + (2 * nul ws + 1) ≤ 2 * nul ws + 1; omega, by show 257 * (nul ws - nul ws) + (257 * nul ws + 6) ≤ 257 * nul ws + 6; omega⟩ hS (fun _ _ _ _ _ _ h => h.elim) (fun r9 u3 H locs hp hP hD hS => ?_)
    obtain ⟨c4, j5, k6, f7, hr9, h42c4, hcc4, hsp, hI, hF9, hn9, hj9, -⟩ := hp
    have hk1 : k6 = k0 := hj9 (Or.inr (fun h => by have h9 := h.1; omega))
    rw [hk1] at hI hsp
    subst hr9
    have hF := hF.trans hF9
    have hnec4 : j5 ≠ k0 := fun h => by have h9 := (hsp.mp h).1; omega
    have hn : nul u3 ≤ nul ws := by omega
    refine W.widen (k := Kc ws u3) (n := Ks ws u3) (by show 2 * (nul ws - nul ws) + 2 * (nul ws - nul u3) ≤ 2 * (nul ws - nul u3); omega) (by show 257 * (nul ws - nul ws) + 257 * (nul ws - nul u3) ≤ 257 * (nul ws - nul u3); omega) ?_
    refine W.eq (g2 := F0 m 43 ls [.ref c4]) rfl ?_
    refine mu_end (u := u3) (v := (some (.ref c4))) ⟨_, _, _, rfl, h42c4, hcc4, hnec4, hI, hF, hn⟩ (Nat.le_refl _) (Nat.le_refl _) ?_
    exact W.aret (v := .ref c4) (rt := .array .byte) hx hb hr (Or.inr ⟨_, rfl⟩) (Or.inr ⟨_, rfl⟩) (fun t9 ht hW => ⟨rfl, ⟨by rw [ht]; exact hP, va_K.moved hW.alike hK, hD, by rw [ht]; exact Nat.le_trans hz hS.1⟩, hS.F ht⟩) hS.2.2 d_S_bytesToChange_43
  · skip
    refine lv_aload_n hx hb d_S_bytesToChange_18 rfl (lv_at hl 1 rfl) ?_
    refine lv_iload_n hx hb d_S_bytesToChange_19 rfl (lv_at hl 2 rfl) ?_
    refine mu_V (n := 1) (As := [.int x9]) (rest := []) ⟨hx, hb, hml, hown, hts⟩ (c_S_bytesOf (D := D) (t := t) (z := z) (sa := sa) (ws := ws) (i := i) hI hi hxi) ml_S_85 im_S_bytesOf se_S_bytesOf in_S cd_S_bytesOf (by decide +kernel) ⟨Nat.le_of_ble_eq_true rfl, Nat.le_of_ble_eq_true rfl⟩ (va_recv hK hP (ci := 5) rfl hI.x) (Pz_at hP hK hD hz hM hS) rfl hl.1 rfl (Nat.le_of_ble_eq_true rfl) d_S_bytesToChange_20 ⟨by show 2 * (nul ws - nul ws) + (2 * nul ws + 1) ≤ 2 * nul ws + 1; omega, by show 257 * (nul ws - nul ws) + (257 * nul ws + 6) ≤ 257 * nul ws + 6; omega⟩ hS (fun _ _ _ _ _ _ h => h.elim) (fun r9 u8 H locs hp hP hD hS => ?_)
    obtain ⟨c10, j11, f12, hr9, h42c10, hcc10, hnec10, hI, hF9, hn9⟩ := hp
    subst hr9
    have hF := hF.trans hF9
    have hn : nul u8 ≤ nul ws := by omega
    refine W.widen (k := Kc ws u8) (n := Ks ws u8) (by show 2 * (nul ws - nul ws) + 2 * (nul ws - nul u8) ≤ 2 * (nul ws - nul u8); omega) (by show 257 * (nul ws - nul ws) + 257 * (nul ws - nul u8) ≤ 257 * (nul ws - nul u8); omega) ?_
    refine W.eq (g2 := F0 m 23 ls [.ref c10]) rfl ?_
    refine lv_astore_n (lv' := [(3, .ref c10), (2, .ref (a (10 + 4 * jm))), (0, .ref (a 0)), (1, .int x9)]) hx hb d_S_bytesToChange_23 rfl hl (by decide) rfl (fun ls hl => ?_)
    refine lv_aload_n hx hb d_S_bytesToChange_24 rfl (lv_at hl 0 rfl) ?_
    refine lv_iconst (v := 0) hx hb d_S_bytesToChange_25 (by decide) ?_
    refine lv_aload_n hx hb d_S_bytesToChange_26 rfl (lv_at hl 1 rfl) ?_
    refine lv_iload_n hx hb d_S_bytesToChange_27 rfl (lv_at hl 3 rfl) ?_
    refine mu_V (n := 1) (As := [.int x9]) (rest := [.int 0, .ref c10]) ⟨hx, hb, hml, hown, hts⟩ (c_Z_hold (D := D) (t := t) (z := z) (sa := sa) (ws := u8) (j := jm) (i := i) hI hjm hi hxi) ml_S_71 im_Z_hold se_Z_hold in_Z cd_Z_hold (by decide +kernel) ⟨Nat.le_of_ble_eq_true rfl, Nat.le_of_ble_eq_true rfl⟩ (va_recv hK hP (ci := 4) rfl (hI.z hjm)) (Pz_at hP hK hD hz hM hS) rfl hl.1 rfl (Nat.le_of_ble_eq_true rfl) d_S_bytesToChange_28 ⟨by show 2 * (nul ws - nul u8) + (2 * nul u8 + 1) ≤ 2 * nul ws + 1; omega, by show 257 * (nul ws - nul u8) + (257 * nul u8 + 6) ≤ 257 * nul ws + 6; omega⟩ hS (fun _ _ _ _ _ _ h => h.elim) (fun r9 u13 H locs hp hP hD hS => ?_)
    obtain ⟨c14, j15, k16, f17, hr9, h42c14, hcc14, hsp, hI, hF9, hn9, hj9⟩ := hp
    have hk1 : k16 = k0 := hj9 (Or.inr (fun h => by have h9 := h.1; omega))
    rw [hk1] at hI hsp
    subst hr9
    have hF := hF.trans hF9
    have hnec14 : j15 ≠ k0 := fun h => by have h9 := (hsp.mp h).1; omega
    obtain ⟨f18, hcc10⟩ := hF9.2.2 j11 c10 256 f12 (Or.inr h42c10) hcc10
    have hn : nul u13 ≤ nul ws := by omega
    refine W.widen (k := Kc ws u13) (n := Ks ws u13) (by show 2 * (nul ws - nul u8) + 2 * (nul u8 - nul u13) ≤ 2 * (nul ws - nul u13); omega) (by show 257 * (nul ws - nul u8) + 257 * (nul u8 - nul u13) ≤ 257 * (nul ws - nul u13); omega) ?_
    refine W.eq (g2 := F0 m 31 ls [.ref c14, .int 0, .ref c10]) rfl ?_
    refine lv_iconst (v := 0) hx hb d_S_bytesToChange_31 (by decide) ?_
    refine lv_sipush (v := 256) hx hb d_S_bytesToChange_32 (by decide) ?_
    refine va_copyi (D := D) hx hb (hml.trans hl.1.symm) hown (hts _ ml_S_97) (hts _ cp_im) (hts _ cp_st) (hts _ in_System) hK hP hD hS j11 j15 0 0 (ty := .byte) hcc10 hcc14 rfl rfl rfl (sp := 0) (dp := 0) (n := 256) (by decide) (by decide) (by decide) (by decide) (by decide) (fun i9 _ => hI.bf j11 _ _ _ (Or.inr h42c10) hcc10 _) (Nat.le_of_ble_eq_true rfl) (Nat.le_of_ble_eq_true rfl) d_S_bytesToChange_35 (fun H locs hP hD hS => ?_)
    have hfn := sb_fitC (sp := (0 : Int32).toNatClampNeg) (dp := (0 : Int32).toNatClampNeg) (n := (256 : Int32).toNatClampNeg) (hI.bf j11 _ _ _ (Or.inr h42c10) hcc10) (hI.bf j15 _ _ _ (Or.inr h42c14) hcc14)
    obtain ⟨f19, hff19⟩ : ∃ q, q = va_cpy f18 f17 (0 : Int32).toNatClampNeg (0 : Int32).toNatClampNeg (256 : Int32).toNatClampNeg := ⟨_, rfl⟩
    rw [← hff19] at hP hD hfn
    obtain ⟨w20, hw⟩ : ∃ q, q = u13.set j15 (cA t c14 f19) := ⟨_, rfl⟩
    have hP : va_P D Cl (u13.set j15 (cA t c14 f19)) H := hP
    have hD : va_D (Az z) (u13.set j15 (cA t c14 f19)) := hD
    have hF : Fr t ws (u13.set j15 (cA t c14 f19)) := hF.setA hcc14 (Or.inr h42c14)
    have hI := hI.setB (f1 := f19) h42c14 hcc14 (fun h => absurd h hnec14) hfn
    have hq9 : nul (u13.set j15 (cA t c14 f19)) = nul u13 := nul_set (fun h => by have := mds_lt h; omega)
    rw [← hw] at hP hD hF hI hq9
    clear hw
    have hn : nul w20 ≤ nul ws := by omega
    refine W.widen (k := Kc ws w20) (n := Ks ws w20) (by show 2 * (nul ws - nul u13) ≤ 2 * (nul ws - nul w20); omega) (by show 257 * (nul ws - nul u13) ≤ 257 * (nul ws - nul w20); omega) ?_
    refine lv_aload_n hx hb d_S_bytesToChange_38 rfl (lv_at hl 1 rfl) ?_
    refine lv_iload_n hx hb d_S_bytesToChange_39 rfl (lv_at hl 3 rfl) ?_
    refine mu_V (n := 1) (As := [.int x9]) (rest := []) ⟨hx, hb, hml, hown, hts⟩ (c_Z_bytesOf (D := D) (t := t) (z := z) (sa := sa) (ws := w20) (j := jm) (i := i) hI hjm (by rw [Nn_j]; exact hi) hxi) ml_S_187 im_Z_bytesOf se_Z_bytesOf in_Z cd_Z_bytesOf (by decide +kernel) ⟨Nat.le_of_ble_eq_true rfl, Nat.le_of_ble_eq_true rfl⟩ (va_recv hK hP (ci := 4) rfl (hI.z hjm)) (Pz_at hP hK hD hz hM hS) rfl hl.1 rfl (Nat.le_of_ble_eq_true rfl) d_S_bytesToChange_40 ⟨by show 2 * (nul ws - nul w20) + (2 * nul w20 + 1) ≤ 2 * nul ws + 1; omega, by show 257 * (nul ws - nul w20) + (257 * nul w20 + 6) ≤ 257 * nul ws + 6; omega⟩ hS (fun _ _ _ _ _ _ h => h.elim) (fun r9 u21 H locs hp hP hD hS => ?_)
    obtain ⟨c22, j23, k24, f25, hr9, h42c22, hcc22, hsp, hI, hF9, hn9, hj9, -⟩ := hp
    have hk1 : k24 = k0 := hj9 (Or.inr (fun h => by have h9 := h.1; omega))
    rw [hk1] at hI hsp
    subst hr9
    have hF := hF.trans hF9
    have hnec22 : j23 ≠ k0 := fun h => by have h9 := (hsp.mp h).1; omega
    have hn : nul u21 ≤ nul ws := by omega
    refine W.widen (k := Kc ws u21) (n := Ks ws u21) (by show 2 * (nul ws - nul w20) + 2 * (nul w20 - nul u21) ≤ 2 * (nul ws - nul u21); omega) (by show 257 * (nul ws - nul w20) + 257 * (nul w20 - nul u21) ≤ 257 * (nul ws - nul u21); omega) ?_
    refine W.eq (g2 := F0 m 43 ls [.ref c22]) rfl ?_
    refine mu_end (u := u21) (v := (some (.ref c22))) ⟨_, _, _, rfl, h42c22, hcc22, hnec22, hI, hF, hn⟩ (Nat.le_refl _) (Nat.le_refl _) ?_
    exact W.aret (v := .ref c22) (rt := .array .byte) hx hb hr (Or.inr ⟨_, rfl⟩) (Or.inr ⟨_, rfl⟩) (fun t9 ht hW => ⟨rfl, ⟨by rw [ht]; exact hP, va_K.moved hW.alike hK, hD, by rw [ht]; exact Nat.le_trans hz hS.1⟩, hS.F ht⟩) hS.2.2 d_S_bytesToChange_43
