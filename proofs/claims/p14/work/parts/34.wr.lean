set_option maxHeartbeats 4000000 in
set_option maxRecDepth 100000 in
theorem c_S_write_f {l : Launch} {D : va_G} {t : Nat → ClassId} {z : Nat} {sa : Nat → Nat} {ws : va_W} {a : Nat → Nat} {k0 : Nat} {v : Nat → Int32} {x9 y9 w9 : Int32} {c9 A N L : Nat} (hI : Iv a t k0 v ws) (hxA : x9 = nI A) (hyN : y9 = nI N) (hAN : A + N ≤ 196608) (hBA : BA t ws c9 L) (hNL : N ≤ L) (hL31 : L ≤ 260) : Mu l y_S_write (Cond.code y_S_write b_S_write 6 (some .boolean) :: WS) ({ frames := 4, cells := 2 * nul ws + 1, slots := 257 * nul ws + 6, locals := 78 }) D t z sa ws [.ref (a 0), .ref (a 1), .ref c9, .int x9, .int y9, .int w9] (fun r u => ∃ v1 y, Iv a t k0 v1 u ∧ Fr t ws u ∧ nul u ≤ nul ws ∧ r = some (.int y) ∧ (y = 0 ∨ y = 1) ∧ (∀ i, i ≠ 5 → i ≠ 8 → i ≠ 10 → v1 i = v i)) Xno (Kc ws) (Ks ws) := by
  refine mu_ofW (cc := b_S_write) (maxL := 6) (ret := (some .boolean)) (by decide) rfl ?_
  intro p e s m args below meth c s₁ B hml hno hv
  obtain ⟨rfl, ⟨hP, hK, hD, hz⟩, hM⟩ := hv
  have hx := B.exec
  have hb := B.bytes
  have hr := B.returns
  have hts : ∀ w ∈ WS, w.before [.ref (a 0), .ref (a 1), .ref c9, .int x9, .int y9, .int w9].toArray s = true := fun w h => atoms_spec B.pre w (List.mem_cons_of_mem _ h)
  have hown : s.vm.findClass R_S = some m.cls := findClass_of_methodNamed B.named
  have hlocks := B.notSynchronized
  have hA : ∀ q, s.heap.size ≤ q → Az z q := fun q h => Nat.le_trans hz h
  have hS : va_S (Az z) s.heap s.heap [] := va_S.rf
  have hF : Fr t ws ws := Fr.rf
  have hn : nul ws ≤ nul ws := Nat.le_refl _
  have hl := lv_entry ([.ref (a 0), .ref (a 1), .ref c9, .int x9, .int y9, .int w9]) (n := 6) (Nat.le_of_ble_eq_true rfl)
  rw [lg_entry_eq]
  generalize (lg_sl ([.ref (a 0), .ref (a 1), .ref c9, .int x9, .int y9, .int w9]) ++ List.replicate (6 - (lg_sl ([.ref (a 0), .ref (a 1), .ref c9, .int x9, .int y9, .int w9])).length) Slot.unset).toArray = ls at hl ⊢
  have hl : lv_has ls 6 [(0, .ref (a 0)), (1, .ref (a 1)), (2, .ref c9), (3, .int x9), (4, .int y9), (5, .int w9)] := hl
  refine W.widen (k := Kc ws ws) (n := Ks ws ws) (Nat.zero_le _) (Nat.zero_le _) ?_
  refine lv_aload_n hx hb d_S_write_0 rfl (lv_at hl 1 rfl) ?_
  refine lv_iload_n hx hb d_S_write_1 rfl (lv_at hl 3 rfl) ?_
  refine lv_aload_n hx hb d_S_write_2 rfl (lv_at hl 2 rfl) ?_
  refine lv_aload_n hx hb d_S_write_3 rfl (lv_at hl 0 rfl) ?_
  refine va_get (D := D) (ci := 5) (v := .ref (a 8)) (C := R_S) (T := F_S) (N := 10) hx hb hts ws_S hown hK hP 0 hI.x rfl 3 (by decide) (hts _ fl_S_32) (fun _ h9 => h9) rfl d_S_write_4 ?_
  refine lv_iload hx hb d_S_write_7 (lv_at hl 5 rfl) ?_
  refine lv_iload hx hb d_S_write_9 (lv_at hl 4 rfl) ?_
  refine mu_V (n := 2) (As := [.int w9, .int y9]) (rest := [.ref c9, .int x9, .ref (a 1)]) ⟨hx, hb, hml, hown, hts⟩ (c_U_through (D := D) (t := t) (z := z) (sa := sa) (ws := ws) (x9 := w9) (y9 := y9) (n := N) hI hyN (by omega)) ml_S_227 im_U_bytesThrough se_U_bytesThrough in_U cd_U_bytesThrough (by decide +kernel) ⟨Nat.le_of_ble_eq_true rfl, Nat.le_of_ble_eq_true rfl⟩ (va_recv hK hP (ci := 2) rfl hI.u8) (Pz_at hP hK hD hz hM hS) rfl hl.1 rfl (Nat.le_of_ble_eq_true rfl) d_S_write_11 ⟨by show 2 * (nul ws - nul ws) + (2 * nul ws + 1) ≤ 2 * nul ws + 1; omega, by show 257 * (nul ws - nul ws) + (257 * nul ws + 6) ≤ 257 * nul ws + 6; omega⟩ hS (fun _ _ _ _ _ _ h => h.elim) (fun r9 u1 H locs hp hP hD hS => ?_)
  obtain ⟨vT, hI, hF9, hn9, ⟨m9, hm1, hr9, hm2⟩, nT, hoT⟩ := hp
  subst hr9
  have hF := hF.trans hF9
  have hBA := hBA.go hF9
  have hn : nul u1 ≤ nul ws := by omega
  refine W.widen (k := Kc ws u1) (n := Ks ws u1) (by show 2 * (nul ws - nul ws) + 2 * (nul ws - nul u1) ≤ 2 * (nul ws - nul u1); omega) (by show 257 * (nul ws - nul ws) + 257 * (nul ws - nul u1) ≤ 257 * (nul ws - nul u1); omega) ?_
  refine W.eq (g2 := F0 m 14 ls [.int (nI m9), .ref c9, .int x9, .ref (a 1)]) rfl ?_
  refine mu_V (n := 3) (As := [.int x9, .ref c9, .int (nI m9)]) (rest := []) ⟨hx, hb, hml, hown, hts⟩ (c_Y_write_f (D := D) (t := t) (z := z) (sa := sa) (ws := u1) (A := A) (N := m9) (L := L) hI hxA rfl (by omega) hBA (by omega) hL31) ml_S_231 im_Y_write se_Y_write in_Y cd_Y_write (by decide +kernel) ⟨Nat.le_of_ble_eq_true rfl, Nat.le_of_ble_eq_true rfl⟩ (va_recv hK hP (ci := 3) rfl hI.y1) (Pz_at hP hK hD hz hM hS) rfl hl.1 rfl (Nat.le_of_ble_eq_true rfl) d_S_write_14 ⟨by show 2 * (nul ws - nul u1) + (2 * nul u1 + 1) ≤ 2 * nul ws + 1; omega, by show 257 * (nul ws - nul u1) + (257 * nul u1 + 6) ≤ 257 * nul ws + 6; omega⟩ hS (fun _ _ _ _ _ _ h => h.elim) (fun r9 u2 H locs hp hP hD hS => ?_)
  obtain ⟨vW, hI, hF9, hn9, hr9, nW, -⟩ := hp
  subst hr9
  have hF := hF.trans hF9
  have hn : nul u2 ≤ nul ws := by omega
  refine W.widen (k := Kc ws u2) (n := Ks ws u2) (by show 2 * (nul ws - nul u1) + 2 * (nul u1 - nul u2) ≤ 2 * (nul ws - nul u2); omega) (by show 257 * (nul ws - nul u1) + 257 * (nul u1 - nul u2) ≤ 257 * (nul ws - nul u2); omega) ?_
  refine W.eq (g2 := F0 m 17 ls []) rfl ?_
  refine lv_aload_n hx hb d_S_write_17 rfl (lv_at hl 0 rfl) ?_
  refine va_get (D := D) (ci := 5) (v := .ref (a 8)) (C := R_S) (T := F_S) (N := 10) hx hb hts ws_S hown hK hP 0 hI.x rfl 3 (by decide) (hts _ fl_S_32) (fun _ h9 => h9) rfl d_S_write_18 ?_
  refine mu_V (n := 0) (As := []) (rest := []) ⟨hx, hb, hml, hown, hts⟩ (c_U_blown (D := D) (t := t) (z := z) (sa := sa) (ws := u2)  hI ) ml_S_233 im_U_blown se_U_blown in_U cd_U_blown (by decide +kernel) ⟨Nat.le_of_ble_eq_true rfl, Nat.le_of_ble_eq_true rfl⟩ (va_recv hK hP (ci := 2) rfl hI.u8) (Pz_at hP hK hD hz hM hS) rfl hl.1 rfl (Nat.le_of_ble_eq_true rfl) d_S_write_21 ⟨by show 2 * (nul ws - nul u2) + (2 * nul u2 + 1) ≤ 2 * nul ws + 1; omega, by show 257 * (nul ws - nul u2) + (257 * nul u2 + 6) ≤ 257 * nul ws + 6; omega⟩ hS (fun _ _ _ _ _ _ h => h.elim) (fun r9 u3 H locs hp hP hD hS => ?_)
  obtain ⟨hr9, hw9⟩ := hp
  rw [hw9] at hP hD
  subst hr9
  refine W.widen (k := Kc ws u2) (n := Ks ws u2) (by rw [hw9]; show 2 * (nul ws - nul u2) + 2 * (nul u2 - nul u2) ≤ 2 * (nul ws - nul u2); omega) (by rw [hw9]; show 257 * (nul ws - nul u2) + 257 * (nul u2 - nul u2) ≤ 257 * (nul ws - nul u2); omega) ?_
  clear hw9
  refine W.eq (g2 := F0 m 24 ls [.int (vW 10)]) rfl ?_
  refine lv_if_ne (tgt := 31) hx hb d_S_write_24 rfl (fun q4 => ?_) (fun q4 => ?_)
  · skip
    refine lv_iconst (v := 0) hx hb d_S_write_31 (by decide) ?_
    refine mu_end (u := u2) (v := (some (.int 0))) ⟨_, _, hI, hF, hn, rfl, by decide, fun i h1 h2 h3 => (nW i h1).trans (nT i h2 h3)⟩ (Nat.le_refl _) (Nat.le_refl _) ?_
    exact W.zret (v := 0) (ty := .boolean) hx hb hr rfl (fun t9 ht hW => ⟨rfl, ⟨by rw [ht]; exact hP, va_K.moved hW.alike hK, hD, by rw [ht]; exact Nat.le_trans hz hS.1⟩, hS.F ht⟩) hS.2.2 d_S_write_32
  · skip
    refine lv_iconst (v := 1) hx hb d_S_write_27 (by decide) ?_
    refine lv_goto (tgt := 32) hx hb d_S_write_28 rfl ?_
    refine mu_end (u := u2) (v := (some (.int 1))) ⟨_, _, hI, hF, hn, rfl, by decide, fun i h1 h2 h3 => (nW i h1).trans (nT i h2 h3)⟩ (Nat.le_refl _) (Nat.le_refl _) ?_
    exact W.zret (v := 1) (ty := .boolean) hx hb hr rfl (fun t9 ht hW => ⟨rfl, ⟨by rw [ht]; exact hP, va_K.moved hW.alike hK, hD, by rw [ht]; exact Nat.le_trans hz hS.1⟩, hS.F ht⟩) hS.2.2 d_S_write_32
set_option maxHeartbeats 4000000 in
set_option maxRecDepth 100000 in
theorem c_S_write_j {l : Launch} {D : va_G} {t : Nat → ClassId} {z : Nat} {sa : Nat → Nat} {ws : va_W} {a : Nat → Nat} {k0 : Nat} {v : Nat → Int32} {x9 y9 w9 : Int32} {c9 A N L : Nat} (hI : Iv a t k0 v ws) (hxA : x9 = nI A) (hyN : y9 = nI N) (hAN : A + N ≤ 199684) (hBA : BA t ws c9 L) (hNL : N ≤ L) (hL31 : L ≤ 260) (hA4 : 4 ≤ A) (hJ4 : 4 ≤ v 6) : Mu l y_S_write (Cond.code y_S_write b_S_write 6 (some .boolean) :: WS) ({ frames := 4, cells := 2 * nul ws + 1, slots := 257 * nul ws + 6, locals := 78 }) D t z sa ws [.ref (a 0), .ref (a 4), .ref c9, .int x9, .int y9, .int w9] (fun r u => ∃ v1 y, Iv a t k0 v1 u ∧ Fr t ws u ∧ nul u ≤ nul ws ∧ r = some (.int y) ∧ (y = 0 ∨ y = 1) ∧ ∃ (F m : Nat), F ≤ 199684 ∧ m ≤ N ∧ v 6 = nI F ∧ v1 6 = nI (max F (A + m))) Xno (Kc ws) (Ks ws) := by
  refine mu_ofW (cc := b_S_write) (maxL := 6) (ret := (some .boolean)) (by decide) rfl ?_
  intro p e s m args below meth c s₁ B hml hno hv
  obtain ⟨rfl, ⟨hP, hK, hD, hz⟩, hM⟩ := hv
  have hx := B.exec
  have hb := B.bytes
  have hr := B.returns
  have hts : ∀ w ∈ WS, w.before [.ref (a 0), .ref (a 4), .ref c9, .int x9, .int y9, .int w9].toArray s = true := fun w h => atoms_spec B.pre w (List.mem_cons_of_mem _ h)
  have hown : s.vm.findClass R_S = some m.cls := findClass_of_methodNamed B.named
  have hlocks := B.notSynchronized
  have hA : ∀ q, s.heap.size ≤ q → Az z q := fun q h => Nat.le_trans hz h
  have hS : va_S (Az z) s.heap s.heap [] := va_S.rf
  have hF : Fr t ws ws := Fr.rf
  have hn : nul ws ≤ nul ws := Nat.le_refl _
  have hl := lv_entry ([.ref (a 0), .ref (a 4), .ref c9, .int x9, .int y9, .int w9]) (n := 6) (Nat.le_of_ble_eq_true rfl)
  rw [lg_entry_eq]
  generalize (lg_sl ([.ref (a 0), .ref (a 4), .ref c9, .int x9, .int y9, .int w9]) ++ List.replicate (6 - (lg_sl ([.ref (a 0), .ref (a 4), .ref c9, .int x9, .int y9, .int w9])).length) Slot.unset).toArray = ls at hl ⊢
  have hl : lv_has ls 6 [(0, .ref (a 0)), (1, .ref (a 4)), (2, .ref c9), (3, .int x9), (4, .int y9), (5, .int w9)] := hl
  refine W.widen (k := Kc ws ws) (n := Ks ws ws) (Nat.zero_le _) (Nat.zero_le _) ?_
  refine lv_aload_n hx hb d_S_write_0 rfl (lv_at hl 1 rfl) ?_
  refine lv_iload_n hx hb d_S_write_1 rfl (lv_at hl 3 rfl) ?_
  refine lv_aload_n hx hb d_S_write_2 rfl (lv_at hl 2 rfl) ?_
  refine lv_aload_n hx hb d_S_write_3 rfl (lv_at hl 0 rfl) ?_
  refine va_get (D := D) (ci := 5) (v := .ref (a 8)) (C := R_S) (T := F_S) (N := 10) hx hb hts ws_S hown hK hP 0 hI.x rfl 3 (by decide) (hts _ fl_S_32) (fun _ h9 => h9) rfl d_S_write_4 ?_
  refine lv_iload hx hb d_S_write_7 (lv_at hl 5 rfl) ?_
  refine lv_iload hx hb d_S_write_9 (lv_at hl 4 rfl) ?_
  refine mu_V (n := 2) (As := [.int w9, .int y9]) (rest := [.ref c9, .int x9, .ref (a 4)]) ⟨hx, hb, hml, hown, hts⟩ (c_U_through (D := D) (t := t) (z := z) (sa := sa) (ws := ws) (x9 := w9) (y9 := y9) (n := N) hI hyN (by omega)) ml_S_227 im_U_bytesThrough se_U_bytesThrough in_U cd_U_bytesThrough (by decide +kernel) ⟨Nat.le_of_ble_eq_true rfl, Nat.le_of_ble_eq_true rfl⟩ (va_recv hK hP (ci := 2) rfl hI.u8) (Pz_at hP hK hD hz hM hS) rfl hl.1 rfl (Nat.le_of_ble_eq_true rfl) d_S_write_11 ⟨by show 2 * (nul ws - nul ws) + (2 * nul ws + 1) ≤ 2 * nul ws + 1; omega, by show 257 * (nul ws - nul ws) + (257 * nul ws + 6) ≤ 257 * nul ws + 6; omega⟩ hS (fun _ _ _ _ _ _ h => h.elim) (fun r9 u1 H locs hp hP hD hS => ?_)
  obtain ⟨vT, hI, hF9, hn9, ⟨m9, hm1, hr9, hm2⟩, nT, hoT⟩ := hp
  subst hr9
  have hF := hF.trans hF9
  have hBA := hBA.go hF9
  have hn : nul u1 ≤ nul ws := by omega
  refine W.widen (k := Kc ws u1) (n := Ks ws u1) (by show 2 * (nul ws - nul ws) + 2 * (nul ws - nul u1) ≤ 2 * (nul ws - nul u1); omega) (by show 257 * (nul ws - nul ws) + 257 * (nul ws - nul u1) ≤ 257 * (nul ws - nul u1); omega) ?_
  refine W.eq (g2 := F0 m 14 ls [.int (nI m9), .ref c9, .int x9, .ref (a 4)]) rfl ?_
  refine mu_V (n := 3) (As := [.int x9, .ref c9, .int (nI m9)]) (rest := []) ⟨hx, hb, hml, hown, hts⟩ (c_Y_write_j (D := D) (t := t) (z := z) (sa := sa) (ws := u1) (A := A) (N := m9) (L := L) hI hxA rfl (by omega) hBA (by omega) hL31 hA4 (by rw [nT 6 (by decide) (by decide)]; exact hJ4)) ml_S_231 im_Y_write se_Y_write in_Y cd_Y_write (by decide +kernel) ⟨Nat.le_of_ble_eq_true rfl, Nat.le_of_ble_eq_true rfl⟩ (va_recv hK hP (ci := 3) rfl hI.y4) (Pz_at hP hK hD hz hM hS) rfl hl.1 rfl (Nat.le_of_ble_eq_true rfl) d_S_write_14 ⟨by show 2 * (nul ws - nul u1) + (2 * nul u1 + 1) ≤ 2 * nul ws + 1; omega, by show 257 * (nul ws - nul u1) + (257 * nul u1 + 6) ≤ 257 * nul ws + 6; omega⟩ hS (fun _ _ _ _ _ _ h => h.elim) (fun r9 u2 H locs hp hP hD hS => ?_)
  obtain ⟨vW, hI, hF9, hn9, hr9, nW, F8, hF1, hF2, hF3⟩ := hp
  subst hr9
  have hF := hF.trans hF9
  have hn : nul u2 ≤ nul ws := by omega
  refine W.widen (k := Kc ws u2) (n := Ks ws u2) (by show 2 * (nul ws - nul u1) + 2 * (nul u1 - nul u2) ≤ 2 * (nul ws - nul u2); omega) (by show 257 * (nul ws - nul u1) + 257 * (nul u1 - nul u2) ≤ 257 * (nul ws - nul u2); omega) ?_
  refine W.eq (g2 := F0 m 17 ls []) rfl ?_
  refine lv_aload_n hx hb d_S_write_17 rfl (lv_at hl 0 rfl) ?_
  refine va_get (D := D) (ci := 5) (v := .ref (a 8)) (C := R_S) (T := F_S) (N := 10) hx hb hts ws_S hown hK hP 0 hI.x rfl 3 (by decide) (hts _ fl_S_32) (fun _ h9 => h9) rfl d_S_write_18 ?_
  refine mu_V (n := 0) (As := []) (rest := []) ⟨hx, hb, hml, hown, hts⟩ (c_U_blown (D := D) (t := t) (z := z) (sa := sa) (ws := u2)  hI ) ml_S_233 im_U_blown se_U_blown in_U cd_U_blown (by decide +kernel) ⟨Nat.le_of_ble_eq_true rfl, Nat.le_of_ble_eq_true rfl⟩ (va_recv hK hP (ci := 2) rfl hI.u8) (Pz_at hP hK hD hz hM hS) rfl hl.1 rfl (Nat.le_of_ble_eq_true rfl) d_S_write_21 ⟨by show 2 * (nul ws - nul u2) + (2 * nul u2 + 1) ≤ 2 * nul ws + 1; omega, by show 257 * (nul ws - nul u2) + (257 * nul u2 + 6) ≤ 257 * nul ws + 6; omega⟩ hS (fun _ _ _ _ _ _ h => h.elim) (fun r9 u3 H locs hp hP hD hS => ?_)
  obtain ⟨hr9, hw9⟩ := hp
  rw [hw9] at hP hD
  subst hr9
  refine W.widen (k := Kc ws u2) (n := Ks ws u2) (by rw [hw9]; show 2 * (nul ws - nul u2) + 2 * (nul u2 - nul u2) ≤ 2 * (nul ws - nul u2); omega) (by rw [hw9]; show 257 * (nul ws - nul u2) + 257 * (nul u2 - nul u2) ≤ 257 * (nul ws - nul u2); omega) ?_
  clear hw9
  refine W.eq (g2 := F0 m 24 ls [.int (vW 10)]) rfl ?_
  refine lv_if_ne (tgt := 31) hx hb d_S_write_24 rfl (fun q4 => ?_) (fun q4 => ?_)
  · skip
    refine lv_iconst (v := 0) hx hb d_S_write_31 (by decide) ?_
    refine mu_end (u := u2) (v := (some (.int 0))) ⟨_, _, hI, hF, hn, rfl, by decide, F8, m9, hF1, hm1, (nT 6 (by decide) (by decide)).symm.trans hF2, hF3⟩ (Nat.le_refl _) (Nat.le_refl _) ?_
    exact W.zret (v := 0) (ty := .boolean) hx hb hr rfl (fun t9 ht hW => ⟨rfl, ⟨by rw [ht]; exact hP, va_K.moved hW.alike hK, hD, by rw [ht]; exact Nat.le_trans hz hS.1⟩, hS.F ht⟩) hS.2.2 d_S_write_32
  · skip
    refine lv_iconst (v := 1) hx hb d_S_write_27 (by decide) ?_
    refine lv_goto (tgt := 32) hx hb d_S_write_28 rfl ?_
    refine mu_end (u := u2) (v := (some (.int 1))) ⟨_, _, hI, hF, hn, rfl, by decide, F8, m9, hF1, hm1, (nT 6 (by decide) (by decide)).symm.trans hF2, hF3⟩ (Nat.le_refl _) (Nat.le_refl _) ?_
    exact W.zret (v := 1) (ty := .boolean) hx hb hr rfl (fun t9 ht hW => ⟨rfl, ⟨by rw [ht]; exact hP, va_K.moved hW.alike hK, hD, by rw [ht]; exact Nat.le_trans hz hS.1⟩, hS.F ht⟩) hS.2.2 d_S_write_32
set_option maxHeartbeats 4000000 in
set_option maxRecDepth 100000 in
theorem c_S_write_n {l : Launch} {D : va_G} {t : Nat → ClassId} {z : Nat} {sa : Nat → Nat} {ws : va_W} {a : Nat → Nat} {k0 : Nat} {v : Nat → Int32} {x9 y9 w9 : Int32} {nn : Nat} {r0 : Nat → Int32} (hI : Iv a t k0 v ws) (hxA : x9 = nI 0) (hyN : y9 = nI 4) (hv6 : v 6 = 0) (hr0 : ws[9]? = some (a 9, .inl (t 0, 260, .inl r0))) (hrb : ∀ i, i < 4 → r0 i = byt nn i) (hnn : nn ≤ 768) : Mu l y_S_write (Cond.code y_S_write b_S_write 6 (some .boolean) :: WS) ({ frames := 4, cells := 2 * nul ws + 1, slots := 257 * nul ws + 6, locals := 78 }) D t z sa ws [.ref (a 0), .ref (a 4), .ref (a 9), .int x9, .int y9, .int w9] (fun r u => ∃ k1 v1 y, Iv a t k1 v1 u ∧ Fr t ws u ∧ nul u ≤ nul ws ∧ r = some (.int y) ∧ (y = 0 ∨ y = 1) ∧ (¬ y = 0 → v1 6 = nI 4)) Xno (Kc ws) (Ks ws) := by
  refine mu_ofW (cc := b_S_write) (maxL := 6) (ret := (some .boolean)) (by decide) rfl ?_
  intro p e s m args below meth c s₁ B hml hno hv
  obtain ⟨rfl, ⟨hP, hK, hD, hz⟩, hM⟩ := hv
  have hx := B.exec
  have hb := B.bytes
  have hr := B.returns
  have hts : ∀ w ∈ WS, w.before [.ref (a 0), .ref (a 4), .ref (a 9), .int x9, .int y9, .int w9].toArray s = true := fun w h => atoms_spec B.pre w (List.mem_cons_of_mem _ h)
  have hown : s.vm.findClass R_S = some m.cls := findClass_of_methodNamed B.named
  have hlocks := B.notSynchronized
  have hA : ∀ q, s.heap.size ≤ q → Az z q := fun q h => Nat.le_trans hz h
  have hS : va_S (Az z) s.heap s.heap [] := va_S.rf
  have hF : Fr t ws ws := Fr.rf
  have hn : nul ws ≤ nul ws := Nat.le_refl _
  have hl := lv_entry ([.ref (a 0), .ref (a 4), .ref (a 9), .int x9, .int y9, .int w9]) (n := 6) (Nat.le_of_ble_eq_true rfl)
  rw [lg_entry_eq]
  generalize (lg_sl ([.ref (a 0), .ref (a 4), .ref (a 9), .int x9, .int y9, .int w9]) ++ List.replicate (6 - (lg_sl ([.ref (a 0), .ref (a 4), .ref (a 9), .int x9, .int y9, .int w9])).length) Slot.unset).toArray = ls at hl ⊢
  have hl : lv_has ls 6 [(0, .ref (a 0)), (1, .ref (a 4)), (2, .ref (a 9)), (3, .int x9), (4, .int y9), (5, .int w9)] := hl
  refine W.widen (k := Kc ws ws) (n := Ks ws ws) (Nat.zero_le _) (Nat.zero_le _) ?_
  refine lv_aload_n hx hb d_S_write_0 rfl (lv_at hl 1 rfl) ?_
  refine lv_iload_n hx hb d_S_write_1 rfl (lv_at hl 3 rfl) ?_
  refine lv_aload_n hx hb d_S_write_2 rfl (lv_at hl 2 rfl) ?_
  refine lv_aload_n hx hb d_S_write_3 rfl (lv_at hl 0 rfl) ?_
  refine va_get (D := D) (ci := 5) (v := .ref (a 8)) (C := R_S) (T := F_S) (N := 10) hx hb hts ws_S hown hK hP 0 hI.x rfl 3 (by decide) (hts _ fl_S_32) (fun _ h9 => h9) rfl d_S_write_4 ?_
  refine lv_iload hx hb d_S_write_7 (lv_at hl 5 rfl) ?_
  refine lv_iload hx hb d_S_write_9 (lv_at hl 4 rfl) ?_
  refine mu_V (n := 2) (As := [.int w9, .int y9]) (rest := [.ref (a 9), .int x9, .ref (a 4)]) ⟨hx, hb, hml, hown, hts⟩ (c_U_through (D := D) (t := t) (z := z) (sa := sa) (ws := ws) (x9 := w9) (y9 := y9) (n := 4) hI hyN (by omega)) ml_S_227 im_U_bytesThrough se_U_bytesThrough in_U cd_U_bytesThrough (by decide +kernel) ⟨Nat.le_of_ble_eq_true rfl, Nat.le_of_ble_eq_true rfl⟩ (va_recv hK hP (ci := 2) rfl hI.u8) (Pz_at hP hK hD hz hM hS) rfl hl.1 rfl (Nat.le_of_ble_eq_true rfl) d_S_write_11 ⟨by show 2 * (nul ws - nul ws) + (2 * nul ws + 1) ≤ 2 * nul ws + 1; omega, by show 257 * (nul ws - nul ws) + (257 * nul ws + 6) ≤ 257 * nul ws + 6; omega⟩ hS (fun _ _ _ _ _ _ h => h.elim) (fun r9 u1 H locs hp hP hD hS => ?_)
  obtain ⟨vT, hI, hF9, hn9, ⟨m9, hm1, hr9, hm2⟩, nT, hoT⟩ := hp
  subst hr9
  have hF := hF.trans hF9
  have hr0 := (hoT 9 (by decide)).trans hr0
  have hn : nul u1 ≤ nul ws := by omega
  refine W.widen (k := Kc ws u1) (n := Ks ws u1) (by show 2 * (nul ws - nul ws) + 2 * (nul ws - nul u1) ≤ 2 * (nul ws - nul u1); omega) (by show 257 * (nul ws - nul ws) + 257 * (nul ws - nul u1) ≤ 257 * (nul ws - nul u1); omega) ?_
  refine W.eq (g2 := F0 m 14 ls [.int (nI m9), .ref (a 9), .int x9, .ref (a 4)]) rfl ?_
  refine mu_V (n := 3) (As := [.int x9, .ref (a 9), .int (nI m9)]) (rest := []) ⟨hx, hb, hml, hown, hts⟩ (c_Y_write_n (D := D) (t := t) (z := z) (sa := sa) (ws := u1) (N := m9) (nn := nn) hI hxA rfl hm1 (by rw [nT 6 (by decide) (by decide)]; exact hv6) hr0 hrb hnn) ml_S_231 im_Y_write se_Y_write in_Y cd_Y_write (by decide +kernel) ⟨Nat.le_of_ble_eq_true rfl, Nat.le_of_ble_eq_true rfl⟩ (va_recv hK hP (ci := 3) rfl hI.y4) (Pz_at hP hK hD hz hM hS) rfl hl.1 rfl (Nat.le_of_ble_eq_true rfl) d_S_write_14 ⟨by show 2 * (nul ws - nul u1) + (2 * nul u1 + 1) ≤ 2 * nul ws + 1; omega, by show 257 * (nul ws - nul u1) + (257 * nul u1 + 6) ≤ 257 * nul ws + 6; omega⟩ hS (fun _ _ _ _ _ _ h => h.elim) (fun r9 u2 H locs hp hP hD hS => ?_)
  obtain ⟨kW, vW, hI, hF9, hn9, hr9, nW, hW6⟩ := hp
  subst hr9
  have hF := hF.trans hF9
  have hn : nul u2 ≤ nul ws := by omega
  refine W.widen (k := Kc ws u2) (n := Ks ws u2) (by show 2 * (nul ws - nul u1) + 2 * (nul u1 - nul u2) ≤ 2 * (nul ws - nul u2); omega) (by show 257 * (nul ws - nul u1) + 257 * (nul u1 - nul u2) ≤ 257 * (nul ws - nul u2); omega) ?_
  refine W.eq (g2 := F0 m 17 ls []) rfl ?_
  refine lv_aload_n hx hb d_S_write_17 rfl (lv_at hl 0 rfl) ?_
  refine va_get (D := D) (ci := 5) (v := .ref (a 8)) (C := R_S) (T := F_S) (N := 10) hx hb hts ws_S hown hK hP 0 hI.x rfl 3 (by decide) (hts _ fl_S_32) (fun _ h9 => h9) rfl d_S_write_18 ?_
  refine mu_V (n := 0) (As := []) (rest := []) ⟨hx, hb, hml, hown, hts⟩ (c_U_blown (D := D) (t := t) (z := z) (sa := sa) (ws := u2)  hI ) ml_S_233 im_U_blown se_U_blown in_U cd_U_blown (by decide +kernel) ⟨Nat.le_of_ble_eq_true rfl, Nat.le_of_ble_eq_true rfl⟩ (va_recv hK hP (ci := 2) rfl hI.u8) (Pz_at hP hK hD hz hM hS) rfl hl.1 rfl (Nat.le_of_ble_eq_true rfl) d_S_write_21 ⟨by show 2 * (nul ws - nul u2) + (2 * nul u2 + 1) ≤ 2 * nul ws + 1; omega, by show 257 * (nul ws - nul u2) + (257 * nul u2 + 6) ≤ 257 * nul ws + 6; omega⟩ hS (fun _ _ _ _ _ _ h => h.elim) (fun r9 u3 H locs hp hP hD hS => ?_)
  obtain ⟨hr9, hw9⟩ := hp
  rw [hw9] at hP hD
  subst hr9
  refine W.widen (k := Kc ws u2) (n := Ks ws u2) (by rw [hw9]; show 2 * (nul ws - nul u2) + 2 * (nul u2 - nul u2) ≤ 2 * (nul ws - nul u2); omega) (by rw [hw9]; show 257 * (nul ws - nul u2) + 257 * (nul u2 - nul u2) ≤ 257 * (nul ws - nul u2); omega) ?_
  clear hw9
  refine W.eq (g2 := F0 m 24 ls [.int (vW 10)]) rfl ?_
  refine lv_if_ne (tgt := 31) hx hb d_S_write_24 rfl (fun q4 => ?_) (fun q4 => ?_)
  · skip
    refine lv_iconst (v := 0) hx hb d_S_write_31 (by decide) ?_
    refine mu_end (u := u2) (v := (some (.int 0))) ⟨_, _, _, hI, hF, hn, rfl, by decide, fun h => absurd rfl h⟩ (Nat.le_refl _) (Nat.le_refl _) ?_
    exact W.zret (v := 0) (ty := .boolean) hx hb hr rfl (fun t9 ht hW => ⟨rfl, ⟨by rw [ht]; exact hP, va_K.moved hW.alike hK, hD, by rw [ht]; exact Nat.le_trans hz hS.1⟩, hS.F ht⟩) hS.2.2 d_S_write_32
  · skip
    refine lv_iconst (v := 1) hx hb d_S_write_27 (by decide) ?_
    refine lv_goto (tgt := 32) hx hb d_S_write_28 rfl ?_
    refine mu_end (u := u2) (v := (some (.int 1))) ⟨_, _, _, hI, hF, hn, rfl, by decide, fun _ => by rw [hW6]; exact congrArg nI (hm2.elim id (fun h => absurd (by assumption : vW 10 = 0) (by rw [nW 10 (by decide), h]; decide)))⟩ (Nat.le_refl _) (Nat.le_refl _) ?_
    exact W.zret (v := 1) (ty := .boolean) hx hb hr rfl (fun t9 ht hW => ⟨rfl, ⟨by rw [ht]; exact hP, va_K.moved hW.alike hK, hD, by rw [ht]; exact Nat.le_trans hz hS.1⟩, hS.F ht⟩) hS.2.2 d_S_write_32
set_option maxHeartbeats 4000000 in
set_option maxRecDepth 100000 in
theorem c_S_writeJournal {l : Launch} {D : va_G} {t : Nat → ClassId} {z : Nat} {sa : Nat → Nat} {ws : va_W} {a : Nat → Nat} {k0 : Nat} {v : Nat → Int32}  (hI : Iv a t k0 v ws) (hv6 : v 6 = 0) : Mu l y_S_writeJournal (Cond.code y_S_writeJournal b_S_writeJournal 4 (some .boolean) :: WS) ({ frames := 5, cells := 2 * nul ws + 1, slots := 257 * nul ws + 6, locals := 103 }) D t z sa ws [.ref (a 0)] (fun r u => ∃ k1 v1 y, Iv a t k1 v1 u ∧ Fr t ws u ∧ nul u ≤ nul ws ∧ r = some (.int y) ∧ (y = 0 ∨ y = 1)) Xno (Kc ws) (Ks ws) := by
  refine mu_ofW (cc := b_S_writeJournal) (maxL := 4) (ret := (some .boolean)) (by decide) rfl ?_
  intro p e s m args below meth c s₁ B hml hno hv
  obtain ⟨rfl, ⟨hP, hK, hD, hz⟩, hM⟩ := hv
  have hx := B.exec
  have hb := B.bytes
  have hr := B.returns
  have hts : ∀ w ∈ WS, w.before [.ref (a 0)].toArray s = true := fun w h => atoms_spec B.pre w (List.mem_cons_of_mem _ h)
  have hown : s.vm.findClass R_S = some m.cls := findClass_of_methodNamed B.named
  have hlocks := B.notSynchronized
  have hA : ∀ q, s.heap.size ≤ q → Az z q := fun q h => Nat.le_trans hz h
  have hS : va_S (Az z) s.heap s.heap [] := va_S.rf
  have hF : Fr t ws ws := Fr.rf
  have hn : nul ws ≤ nul ws := Nat.le_refl _
  have hl := lv_entry ([.ref (a 0)]) (n := 4) (Nat.le_of_ble_eq_true rfl)
  rw [lg_entry_eq]
  generalize (lg_sl ([.ref (a 0)]) ++ List.replicate (4 - (lg_sl ([.ref (a 0)])).length) Slot.unset).toArray = ls at hl ⊢
  have hl : lv_has ls 4 [(0, .ref (a 0))] := hl
  refine W.widen (k := Kc ws ws) (n := Ks ws ws) (Nat.zero_le _) (Nat.zero_le _) ?_
  refine lv_aload_n hx hb d_S_writeJournal_0 rfl (lv_at hl 0 rfl) ?_
  refine va_get (D := D) (ci := 5) (v := .ref (a 7)) (C := R_S) (T := F_S) (N := 10) hx hb hts ws_S hown hK hP 0 hI.x rfl 2 (by decide) (hts _ fl_S_25) (fun _ h9 => h9) rfl d_S_writeJournal_1 ?_
  refine lv_iconst (v := 0) hx hb d_S_writeJournal_4 (by decide) ?_
  have h0 : 0 < 6 := by decide
  obtain ⟨gl, e7, g7⟩ := hI.l7
  refine va_aldq (D := D) hx hb hK hP 7 3 e7 rfl (i := 0) (by unfold vp_in; decide) d_S_writeJournal_5 ?_
  refine W.eq (g2 := F0 m 6 ls [.ref (a (10 + 4 * 0))]) (by rw [cl0, g7 0 h0]; rfl) ?_
  refine lv_aload_n hx hb d_S_writeJournal_6 rfl (lv_at hl 0 rfl) ?_
  refine va_get (D := D) (ci := 5) (v := .int (v 3)) (C := R_S) (T := F_S) (N := 10) hx hb hts ws_S hown hK hP 0 hI.x rfl 8 (by decide) (hts _ fl_S_51) (fun _ h9 => h9) rfl d_S_writeJournal_7 ?_
  obtain ⟨P9, hP8, hP9⟩ := hI.bd.2.1
  refine mu_V (n := 1) (As := [.int (v 3)]) (rest := []) ⟨hx, hb, hml, hown, hts⟩ (c_Z_holdsAny (D := D) (t := t) (z := z) (sa := sa) (ws := ws) (j := 0) (bl := v 3) (P9 := P9) hI h0 hP8 hP9) ml_S_209 im_Z_holdsAny se_Z_holdsAny in_Z cd_Z_holdsAny (by decide +kernel) ⟨Nat.le_of_ble_eq_true rfl, Nat.le_of_ble_eq_true rfl⟩ (va_recv hK hP (ci := 4) rfl (hI.z h0)) (Pz_at hP hK hD hz hM hS) rfl hl.1 rfl (Nat.le_of_ble_eq_true rfl) d_S_writeJournal_10 ⟨by show 2 * (nul ws - nul ws) + (2 * nul ws + 1) ≤ 2 * nul ws + 1; omega, by show 257 * (nul ws - nul ws) + (257 * nul ws + 6) ≤ 257 * nul ws + 6; omega⟩ hS (fun _ _ _ _ _ _ h => h.elim) (fun r9 u1 H locs hp hP hD hS => ?_)
  obtain ⟨ya, hr9, hw9, ha01⟩ := hp
  rw [hw9] at hP hD
  subst hr9
  refine W.widen (k := Kc ws ws) (n := Ks ws ws) (by rw [hw9]; show 2 * (nul ws - nul ws) + 2 * (nul ws - nul ws) ≤ 2 * (nul ws - nul ws); omega) (by rw [hw9]; show 257 * (nul ws - nul ws) + 257 * (nul ws - nul ws) ≤ 257 * (nul ws - nul ws); omega) ?_
  clear hw9
  refine W.eq (g2 := F0 m 13 ls [.int ya]) rfl ?_
  refine lv_if_ne (tgt := 18) hx hb d_S_writeJournal_13 rfl (fun q2 => ?_) (fun q2 => ?_)
  · skip
    refine lv_aload_n hx hb d_S_writeJournal_18 rfl (lv_at hl 0 rfl) ?_
    refine mu_V (n := 0) (As := []) (rest := []) ⟨hx, hb, hml, hown, hts⟩ (c_S_pagesInFile (D := D) (t := t) (z := z) (sa := sa) (ws := ws)  hI ) ml_S_195 im_S_pagesInFile se_S_pagesInFile in_S cd_S_pagesInFile (by decide +kernel) ⟨Nat.le_of_ble_eq_true rfl, Nat.le_of_ble_eq_true rfl⟩ (va_recv hK hP (ci := 5) rfl hI.x) (Pz_at hP hK hD hz hM hS) rfl hl.1 rfl (Nat.le_of_ble_eq_true rfl) d_S_writeJournal_19 ⟨by show 2 * (nul ws - nul ws) + (2 * nul ws + 1) ≤ 2 * nul ws + 1; omega, by show 257 * (nul ws - nul ws) + (257 * nul ws + 6) ≤ 257 * nul ws + 6; omega⟩ hS (fun _ _ _ _ _ _ h => h.elim) (fun r9 u3 H locs hp hP hD hS => ?_)
    obtain ⟨yc, hr9, hw9, C9, hC8, hC9⟩ := hp
    rw [hw9] at hP hD
    subst hr9
    refine W.widen (k := Kc ws ws) (n := Ks ws ws) (by rw [hw9]; show 2 * (nul ws - nul ws) + 2 * (nul ws - nul ws) ≤ 2 * (nul ws - nul ws); omega) (by rw [hw9]; show 257 * (nul ws - nul ws) + 257 * (nul ws - nul ws) ≤ 257 * (nul ws - nul ws); omega) ?_
    clear hw9
    refine W.eq (g2 := F0 m 22 ls [.int yc]) rfl ?_
    refine lv_istore_n (lv' := [(1, .int yc), (0, .ref (a 0))]) hx hb d_S_writeJournal_22 rfl hl (by decide) rfl (fun ls hl => ?_)
    refine lv_aload_n hx hb d_S_writeJournal_23 rfl (lv_at hl 1 rfl) ?_
    refine lv_iload_n hx hb d_S_writeJournal_24 rfl (lv_at hl 0 rfl) ?_
    refine mu_V (n := 1) (As := [.int yc]) (rest := []) ⟨hx, hb, hml, hown, hts⟩ (c_S_setNumber (D := D) (t := t) (z := z) (sa := sa) (ws := ws) (nn := C9) hI hC9) ml_S_212 im_S_setNumber se_S_setNumber in_S cd_S_setNumber (by decide +kernel) ⟨Nat.le_of_ble_eq_true rfl, Nat.le_of_ble_eq_true rfl⟩ (va_recv hK hP (ci := 5) rfl hI.x) (Pz_at hP hK hD hz hM hS) rfl hl.1 rfl (Nat.le_of_ble_eq_true rfl) d_S_writeJournal_25 ⟨by show 2 * (nul ws - nul ws) + (2 * nul ws + 1) ≤ 2 * nul ws + 1; omega, by show 257 * (nul ws - nul ws) + (257 * nul ws + 6) ≤ 257 * nul ws + 6; omega⟩ hS (fun _ _ _ _ _ _ h => h.elim) (fun r9 u4 H locs hp hP hD hS => ?_)
    obtain ⟨hI, hF9, hn9, hr9, r0, hr0, hrb⟩ := hp
    subst hr9
    have hF := hF.trans hF9
    have hn : nul u4 ≤ nul ws := by omega
    refine W.widen (k := Kc ws u4) (n := Ks ws u4) (by show 2 * (nul ws - nul ws) + 2 * (nul ws - nul u4) ≤ 2 * (nul ws - nul u4); omega) (by show 257 * (nul ws - nul ws) + 257 * (nul ws - nul u4) ≤ 257 * (nul ws - nul u4); omega) ?_
    refine W.eq (g2 := F0 m 28 ls []) rfl ?_
    refine lv_aload_n hx hb d_S_writeJournal_28 rfl (lv_at hl 1 rfl) ?_
    refine lv_aload_n hx hb d_S_writeJournal_29 rfl (lv_at hl 1 rfl) ?_
    refine va_get (D := D) (ci := 5) (v := .ref (a 4)) (C := R_S) (T := F_S) (N := 10) hx hb hts ws_S hown hK hP 0 hI.x rfl 1 (by decide) (hts _ fl_S_20) (fun _ h9 => h9) rfl d_S_writeJournal_30 ?_
    refine lv_aload_n hx hb d_S_writeJournal_33 rfl (lv_at hl 1 rfl) ?_
    refine va_get (D := D) (ci := 5) (v := .ref (a 9)) (C := R_S) (T := F_S) (N := 10) hx hb hts ws_S hown hK hP 0 hI.x rfl 4 (by decide) (hts _ fl_S_36) (fun _ h9 => h9) rfl d_S_writeJournal_34 ?_
    refine lv_iconst (v := 0) hx hb d_S_writeJournal_37 (by decide) ?_
    refine lv_iconst (v := 4) hx hb d_S_writeJournal_38 (by decide) ?_
    refine lv_iconst (v := 0) hx hb d_S_writeJournal_39 (by decide) ?_
    refine mu_V (n := 5) (As := [.ref (a 4), .ref (a 9), .int 0, .int 4, .int 0]) (rest := []) ⟨hx, hb, hml, hown, hts⟩ (c_S_write_n (D := D) (t := t) (z := z) (sa := sa) (ws := u4) (x9 := 0) (y9 := 4) (nn := C9) hI rfl rfl hv6 hr0 hrb hC8) ml_S_215 im_S_write se_S_write in_S cd_S_write (by decide +kernel) ⟨Nat.le_of_ble_eq_true rfl, Nat.le_of_ble_eq_true rfl⟩ (va_recv hK hP (ci := 5) rfl hI.x) (Pz_at hP hK hD hz hM hS) rfl hl.1 rfl (Nat.le_of_ble_eq_true rfl) d_S_writeJournal_40 ⟨by show 2 * (nul ws - nul u4) + (2 * nul u4 + 1) ≤ 2 * nul ws + 1; omega, by show 257 * (nul ws - nul u4) + (257 * nul u4 + 6) ≤ 257 * nul ws + 6; omega⟩ hS (fun _ _ _ _ _ _ h => h.elim) (fun r9 u5 H locs hp hP hD hS => ?_)
    obtain ⟨k1, v1, y1, hI, hF9, hn9, hr9, h01y, hJ1⟩ := hp
    subst hr9
    have hF := hF.trans hF9
    have hn : nul u5 ≤ nul ws := by omega
    refine W.widen (k := Kc ws u5) (n := Ks ws u5) (by show 2 * (nul ws - nul u4) + 2 * (nul u4 - nul u5) ≤ 2 * (nul ws - nul u5); omega) (by show 257 * (nul ws - nul u4) + 257 * (nul u4 - nul u5) ≤ 257 * (nul ws - nul u5); omega) ?_
    refine W.eq (g2 := F0 m 43 ls [.int y1]) rfl ?_
    refine lv_istore_n (lv' := [(2, .int y1), (1, .int yc), (0, .ref (a 0))]) hx hb d_S_writeJournal_43 rfl hl (by decide) rfl (fun ls hl => ?_)
    refine lv_iconst (v := 0) hx hb d_S_writeJournal_44 (by decide) ?_
    refine lv_istore_n (lv' := [(3, .int 0), (2, .int y1), (1, .int yc), (0, .ref (a 0))]) hx hb d_S_writeJournal_45 rfl hl (by decide) rfl (fun ls hl => ?_)
    have key : ∀ (n9 i k9 : Nat) (v9 : Nat → Int32) (y2 : Int32) (w9 : va_W) (H : Heap) (locs : List Loc) (ls : Array Slot), i + n9 = C9 → va_P D Cl w9 H → va_D (Az z) w9 → va_S (Az z) s.heap H locs → Iv a t k9 v9 w9 → Fr t ws w9 → nul w9 ≤ nul ws → (y2 = 0 ∨ y2 = 1) → (¬ y2 = 0 → ∃ J : Nat, v9 6 = nI J ∧ 4 ≤ J ∧ J ≤ 4 + 260 * i) → lv_has ls 4 [(3, .int (nI i)), (2, .int y2), (1, .int yc), (0, .ref (a 0))] → W p l e (headSpec (Cond.code y_S_writeJournal b_S_writeJournal 4 (some .boolean) :: WS) ({ frames := 5, cells := 2 * nul ws + 1, slots := 257 * nul ws + 6, locals := 103 })).room s m [.ref (a 0)].toArray below meth c H locs (Kc ws w9) (Ks ws w9) (mu_MQ below D t z (fun r u => ∃ k1 v1 y, Iv a t k1 v1 u ∧ Fr t ws u ∧ nul u ≤ nul ws ∧ r = some (.int y) ∧ (y = 0 ∨ y = 1)) Xno (Kc ws) (Ks ws) [.ref (a 0)].toArray s) (F0 m 46 ls []) := by
      intro n9
      induction n9 with
      | zero =>
        intro i k9 v9 y2 w9 H locs ls hi9 hP hD hS hI hF hn h01y hJ1 hl
        refine lv_iload_n hx hb d_S_writeJournal_46 rfl (lv_at hl 0 rfl) ?_
        refine lv_iload_n hx hb d_S_writeJournal_47 rfl (lv_at hl 2 rfl) ?_
        refine lv_icmp_ge (tgt := 123) hx hb d_S_writeJournal_48 rfl (fun _ => ?_) (fun h => absurd (by rw [hC9]; exact nI_le (by omega) (by omega)) h)
        refine lv_iload_n hx hb d_S_writeJournal_123 rfl (lv_at hl 1 rfl) ?_
        refine mu_end (u := w9) (v := (some (.int y2))) ⟨_, _, _, hI, hF, hn, rfl, h01y⟩ (Nat.le_refl _) (Nat.le_refl _) ?_
        exact W.zret (v := y2) (ty := .boolean) hx hb hr (nar01 h01y) (fun t9 ht hW => ⟨rfl, ⟨by rw [ht]; exact hP, va_K.moved hW.alike hK, hD, by rw [ht]; exact Nat.le_trans hz hS.1⟩, hS.F ht⟩) hS.2.2 d_S_writeJournal_124
      | succ n9 ih =>
        intro i k9 v9 y2 w9 H locs ls hi9 hP hD hS hI hF hn h01y hJ1 hl
        refine lv_iload_n hx hb d_S_writeJournal_46 rfl (lv_at hl 0 rfl) ?_
        refine lv_iload_n hx hb d_S_writeJournal_47 rfl (lv_at hl 2 rfl) ?_
        refine lv_icmp_ge (tgt := 123) hx hb d_S_writeJournal_48 rfl (fun h => absurd h (by rw [hC9]; exact nI_ge (by omega) (by omega))) (fun _ => ?_)
        refine lv_iload_n hx hb d_S_writeJournal_51 rfl (lv_at hl 1 rfl) ?_
        refine lv_if_eq (tgt := 123) hx hb d_S_writeJournal_52 rfl (fun _ => ?_) (fun hy20 => ?_)
        · skip
          refine lv_iload_n hx hb d_S_writeJournal_123 rfl (lv_at hl 1 rfl) ?_
          refine mu_end (u := w9) (v := (some (.int y2))) ⟨_, _, _, hI, hF, hn, rfl, h01y⟩ (Nat.le_refl _) (Nat.le_refl _) ?_
          exact W.zret (v := y2) (ty := .boolean) hx hb hr (nar01 h01y) (fun t9 ht hW => ⟨rfl, ⟨by rw [ht]; exact hP, va_K.moved hW.alike hK, hD, by rw [ht]; exact Nat.le_trans hz hS.1⟩, hS.F ht⟩) hS.2.2 d_S_writeJournal_124
        · obtain ⟨J, hJ2, hJ3, hJ5⟩ := hJ1 hy20
          have hi : i < 768 := by omega
          refine lv_aload_n hx hb d_S_writeJournal_55 rfl (lv_at hl 3 rfl) ?_
          refine va_get (D := D) (ci := 5) (v := .ref (a 7)) (C := R_S) (T := F_S) (N := 10) hx hb hts ws_S hown hK hP 0 hI.x rfl 2 (by decide) (hts _ fl_S_25) (fun _ h9 => h9) rfl d_S_writeJournal_56 ?_
          refine lv_iconst (v := 0) hx hb d_S_writeJournal_59 (by decide) ?_
          have h0 : 0 < 6 := by decide
          obtain ⟨gl, e7, g7⟩ := hI.l7
          refine va_aldq (D := D) hx hb hK hP 7 3 e7 rfl (i := 0) (by unfold vp_in; decide) d_S_writeJournal_60 ?_
          refine W.eq (g2 := F0 m 61 ls [.ref (a (10 + 4 * 0))]) (by rw [cl0, g7 0 h0]; rfl) ?_
          refine lv_iload_n hx hb d_S_writeJournal_61 rfl (lv_at hl 0 rfl) ?_
          refine mu_V (n := 1) (As := [.int (nI i)]) (rest := []) ⟨hx, hb, hml, hown, hts⟩ (c_Z_holds (D := D) (t := t) (z := z) (sa := sa) (ws := w9) (j := 0) (i := i) hI h0 hi rfl) ml_S_183 im_Z_holds se_Z_holds in_Z cd_Z_holds (by decide +kernel) ⟨Nat.le_of_ble_eq_true rfl, Nat.le_of_ble_eq_true rfl⟩ (va_recv hK hP (ci := 4) rfl (hI.z h0)) (Pz_at hP hK hD hz hM hS) rfl hl.1 rfl (Nat.le_of_ble_eq_true rfl) d_S_writeJournal_62 ⟨by show 2 * (nul ws - nul w9) + (2 * nul w9 + 1) ≤ 2 * nul ws + 1; omega, by show 257 * (nul ws - nul w9) + (257 * nul w9 + 6) ≤ 257 * nul ws + 6; omega⟩ hS (fun _ _ _ _ _ _ h => h.elim) (fun r9 u6 H locs hp hP hD hS => ?_)
          obtain ⟨yh, hr9, hw9, hb01⟩ := hp
          rw [hw9] at hP hD
          subst hr9
          refine W.widen (k := Kc ws w9) (n := Ks ws w9) (by rw [hw9]; show 2 * (nul ws - nul w9) + 2 * (nul w9 - nul w9) ≤ 2 * (nul ws - nul w9); omega) (by rw [hw9]; show 257 * (nul ws - nul w9) + 257 * (nul w9 - nul w9) ≤ 257 * (nul ws - nul w9); omega) ?_
          clear hw9
          refine W.eq (g2 := F0 m 65 ls [.int yh]) rfl ?_
          refine lv_if_eq (tgt := 117) hx hb d_S_writeJournal_65 rfl (fun q7 => ?_) (fun q7 => ?_)
          · skip
            refine lv_iinc (k := 0) (v := nI (i + 1)) (lv' := [(3, .int (nI (i + 1))), (2, .int y2), (1, .int yc), (0, .ref (a 0))]) hx hb d_S_writeJournal_117 hl rfl (nI_1 i) (by decide) rfl (fun ls hl => ?_)
            refine lv_goto (tgt := 46) hx hb d_S_writeJournal_120 rfl ?_
            exact ih (i + 1) _ _ _ w9 H locs ls (by omega) hP hD hS hI hF hn h01y (fun _ => ⟨J, hJ2, hJ3, by omega⟩) hl
          · skip
            refine lv_aload_n hx hb d_S_writeJournal_68 rfl (lv_at hl 3 rfl) ?_
            refine lv_iload_n hx hb d_S_writeJournal_69 rfl (lv_at hl 0 rfl) ?_
            refine mu_V (n := 1) (As := [.int (nI i)]) (rest := []) ⟨hx, hb, hml, hown, hts⟩ (c_S_setNumber (D := D) (t := t) (z := z) (sa := sa) (ws := w9) (nn := i) hI rfl) ml_S_212 im_S_setNumber se_S_setNumber in_S cd_S_setNumber (by decide +kernel) ⟨Nat.le_of_ble_eq_true rfl, Nat.le_of_ble_eq_true rfl⟩ (va_recv hK hP (ci := 5) rfl hI.x) (Pz_at hP hK hD hz hM hS) rfl hl.1 rfl (Nat.le_of_ble_eq_true rfl) d_S_writeJournal_70 ⟨by show 2 * (nul ws - nul w9) + (2 * nul w9 + 1) ≤ 2 * nul ws + 1; omega, by show 257 * (nul ws - nul w9) + (257 * nul w9 + 6) ≤ 257 * nul ws + 6; omega⟩ hS (fun _ _ _ _ _ _ h => h.elim) (fun r9 u8 H locs hp hP hD hS => ?_)
            obtain ⟨hI, hF9, hn9, hr9, r0, hr0, hrb⟩ := hp
            subst hr9
            have hF := hF.trans hF9
            have hn : nul u8 ≤ nul ws := by omega
            refine W.widen (k := Kc ws u8) (n := Ks ws u8) (by show 2 * (nul ws - nul w9) + 2 * (nul w9 - nul u8) ≤ 2 * (nul ws - nul u8); omega) (by show 257 * (nul ws - nul w9) + 257 * (nul w9 - nul u8) ≤ 257 * (nul ws - nul u8); omega) ?_
            refine W.eq (g2 := F0 m 73 ls []) rfl ?_
            refine lv_aload_n hx hb d_S_writeJournal_73 rfl (lv_at hl 3 rfl) ?_
            refine va_get (D := D) (ci := 5) (v := .ref (a 1)) (C := R_S) (T := F_S) (N := 10) hx hb hts ws_S hown hK hP 0 hI.x rfl 0 (by decide) (hts _ fl_S_15) (fun _ h9 => h9) rfl d_S_writeJournal_74 ?_
            refine lv_iload_n hx hb d_S_writeJournal_77 rfl (lv_at hl 0 rfl) ?_
            refine mu_V (n := 1) (As := [.int (nI i)]) (rest := []) ⟨hx, hb, hml, hown, hts⟩ (c_Y_block_f (D := D) (t := t) (z := z) (sa := sa) (ws := u8) (i := i) hI (show i < Nn 3 from hi) rfl) ml_S_188 im_Y_block se_Y_block in_Y cd_Y_block (by decide +kernel) ⟨Nat.le_of_ble_eq_true rfl, Nat.le_of_ble_eq_true rfl⟩ (va_recv hK hP (ci := 3) rfl hI.y1) (Pz_at hP hK hD hz hM hS) rfl hl.1 rfl (Nat.le_of_ble_eq_true rfl) d_S_writeJournal_78 ⟨by show 2 * (nul ws - nul u8) + (2 * nul u8 + 1) ≤ 2 * nul ws + 1; omega, by show 257 * (nul ws - nul u8) + (257 * nul u8 + 6) ≤ 257 * nul ws + 6; omega⟩ hS (fun _ _ _ _ _ _ h => h.elim) (fun r9 u10 H locs hp hP hD hS => ?_)
            obtain ⟨c8, k8, kb, f8, hr9, h42, hcc, hsp, hI, hF9, hn9, hj9, -⟩ := hp
            have hkb := hj9 (Or.inr (fun h => absurd h.1 (by decide)))
            rw [hkb] at hI hsp
            subst hr9
            have hF := hF.trans hF9
            have hn : nul u10 ≤ nul ws := by omega
            refine W.widen (k := Kc ws u10) (n := Ks ws u10) (by show 2 * (nul ws - nul u8) + 2 * (nul u8 - nul u10) ≤ 2 * (nul ws - nul u10); omega) (by show 257 * (nul ws - nul u8) + 257 * (nul u8 - nul u10) ≤ 257 * (nul ws - nul u10); omega) ?_
            refine W.eq (g2 := F0 m 81 ls [.ref c8]) rfl ?_
            refine lv_iconst (v := 0) hx hb d_S_writeJournal_81 (by decide) ?_
            refine lv_aload_n hx hb d_S_writeJournal_82 rfl (lv_at hl 3 rfl) ?_
            refine va_get (D := D) (ci := 5) (v := .ref (a 9)) (C := R_S) (T := F_S) (N := 10) hx hb hts ws_S hown hK hP 0 hI.x rfl 4 (by decide) (hts _ fl_S_36) (fun _ h9 => h9) rfl d_S_writeJournal_83 ?_
            refine lv_iconst (v := 4) hx hb d_S_writeJournal_86 (by decide) ?_
            refine lv_sipush (v := 256) hx hb d_S_writeJournal_87 (by decide) ?_
            obtain ⟨r1, hr1⟩ := hI.r9
            refine va_copyi (D := D) hx hb (hml.trans hl.1.symm) hown (hts _ ml_S_97) (hts _ cp_im) (hts _ cp_st) (hts _ in_System) hK hP hD hS k8 9 0 0 (ty := .byte) hcc hr1 rfl rfl rfl (sp := 0) (dp := 4) (n := 256) (by decide) (by decide) (by decide) (by decide) (by decide) (fun i9 _ => hI.bf k8 _ _ _ (Or.inr h42) hcc _) (Nat.le_of_ble_eq_true rfl) (Nat.le_of_ble_eq_true rfl) d_S_writeJournal_90 (fun H locs hP hD hS => ?_)
            have hfn := sb_fitC (sp := (0 : Int32).toNatClampNeg) (dp := (4 : Int32).toNatClampNeg) (n := (256 : Int32).toNatClampNeg) (hI.bf k8 _ _ _ (Or.inr h42) hcc) (hI.bf 9 _ _ _ (Or.inl rfl) hr1)
            obtain ⟨fn, hfn9⟩ : ∃ q, q = va_cpy f8 r1 (0 : Int32).toNatClampNeg (4 : Int32).toNatClampNeg (256 : Int32).toNatClampNeg := ⟨_, rfl⟩
            rw [← hfn9] at hP hD hfn
            obtain ⟨w11, hw⟩ : ∃ q, q = u10.set 9 (a 9, .inl (t 0, 260, .inl fn)) := ⟨_, rfl⟩
            have hP : va_P D Cl (u10.set 9 (a 9, .inl (t 0, 260, .inl fn))) H := hP
            have hD : va_D (Az z) (u10.set 9 (a 9, .inl (t 0, 260, .inl fn))) := hD
            have hF : Fr t ws (u10.set 9 (a 9, .inl (t 0, 260, .inl fn))) := hF.setA hr1 (Or.inl (by decide))
            have hI := hI.setR (r9 := fn) hfn
            have hq9 : nul (u10.set 9 (a 9, .inl (t 0, 260, .inl fn))) = nul u10 := nul_set (by decide)
            rw [← hw] at hP hD hF hI hq9
            clear hw
            have hn : nul w11 ≤ nul ws := by omega
            refine W.widen (k := Kc ws w11) (n := Ks ws w11) (by show 2 * (nul ws - nul u10) ≤ 2 * (nul ws - nul w11); omega) (by show 257 * (nul ws - nul u10) ≤ 257 * (nul ws - nul w11); omega) ?_
            refine lv_aload_n hx hb d_S_writeJournal_93 rfl (lv_at hl 3 rfl) ?_
            refine lv_aload_n hx hb d_S_writeJournal_94 rfl (lv_at hl 3 rfl) ?_
            refine va_get (D := D) (ci := 5) (v := .ref (a 4)) (C := R_S) (T := F_S) (N := 10) hx hb hts ws_S hown hK hP 0 hI.x rfl 1 (by decide) (hts _ fl_S_20) (fun _ h9 => h9) rfl d_S_writeJournal_95 ?_
            refine lv_aload_n hx hb d_S_writeJournal_98 rfl (lv_at hl 3 rfl) ?_
            refine va_get (D := D) (ci := 5) (v := .ref (a 9)) (C := R_S) (T := F_S) (N := 10) hx hb hts ws_S hown hK hP 0 hI.x rfl 4 (by decide) (hts _ fl_S_36) (fun _ h9 => h9) rfl d_S_writeJournal_99 ?_
            refine lv_aload_n hx hb d_S_writeJournal_102 rfl (lv_at hl 3 rfl) ?_
            refine va_get (D := D) (ci := 5) (v := .ref (a 4)) (C := R_S) (T := F_S) (N := 10) hx hb hts ws_S hown hK hP 0 hI.x rfl 1 (by decide) (hts _ fl_S_20) (fun _ h9 => h9) rfl d_S_writeJournal_103 ?_
            refine mu_V (n := 0) (As := []) (rest := [.ref (a 9), .ref (a 4), .ref (a 0)]) ⟨hx, hb, hml, hown, hts⟩ (c_Y_length_j (D := D) (t := t) (z := z) (sa := sa) (ws := w11)  hI ) ml_S_206 im_Y_length se_Y_length in_Y cd_Y_length (by decide +kernel) ⟨Nat.le_of_ble_eq_true rfl, Nat.le_of_ble_eq_true rfl⟩ (va_recv hK hP (ci := 3) rfl hI.y4) (Pz_at hP hK hD hz hM hS) rfl hl.1 rfl (Nat.le_of_ble_eq_true rfl) d_S_writeJournal_106 ⟨by show 2 * (nul ws - nul w11) + (2 * nul w11 + 1) ≤ 2 * nul ws + 1; omega, by show 257 * (nul ws - nul w11) + (257 * nul w11 + 6) ≤ 257 * nul ws + 6; omega⟩ hS (fun _ _ _ _ _ _ h => h.elim) (fun r9 u12 H locs hp hP hD hS => ?_)
            obtain ⟨hr9, hw9⟩ := hp
            rw [hw9] at hP hD
            subst hr9
            refine W.widen (k := Kc ws w11) (n := Ks ws w11) (by rw [hw9]; show 2 * (nul ws - nul w11) + 2 * (nul w11 - nul w11) ≤ 2 * (nul ws - nul w11); omega) (by rw [hw9]; show 257 * (nul ws - nul w11) + 257 * (nul w11 - nul w11) ≤ 257 * (nul ws - nul w11); omega) ?_
            clear hw9
            refine W.eq (g2 := F0 m 109 ls [.int (v9 6), .ref (a 9), .ref (a 4), .ref (a 0)]) rfl ?_
            refine lv_sipush (v := 260) hx hb d_S_writeJournal_109 (by decide) ?_
            refine lv_iconst (v := 0) hx hb d_S_writeJournal_112 (by decide) ?_
            obtain ⟨r2, hr2⟩ := hI.r9
            refine mu_V (n := 5) (As := [.ref (a 4), .ref (a 9), .int (v9 6), .int 260, .int 0]) (rest := []) ⟨hx, hb, hml, hown, hts⟩ (c_S_write_j (D := D) (t := t) (z := z) (sa := sa) (ws := w11) (x9 := v9 6) (y9 := 260) (A := J) (N := 260) (L := 260) hI hJ2 rfl (by omega) ⟨9, r2, Or.inl rfl, hr2⟩ (by omega) (by omega) hJ3 (by rw [hJ2]; exact nI_le (a := 4) hJ3 (by omega))) ml_S_215 im_S_write se_S_write in_S cd_S_write (by decide +kernel) ⟨Nat.le_of_ble_eq_true rfl, Nat.le_of_ble_eq_true rfl⟩ (va_recv hK hP (ci := 5) rfl hI.x) (Pz_at hP hK hD hz hM hS) rfl hl.1 rfl (Nat.le_of_ble_eq_true rfl) d_S_writeJournal_113 ⟨by show 2 * (nul ws - nul w11) + (2 * nul w11 + 1) ≤ 2 * nul ws + 1; omega, by show 257 * (nul ws - nul w11) + (257 * nul w11 + 6) ≤ 257 * nul ws + 6; omega⟩ hS (fun _ _ _ _ _ _ h => h.elim) (fun r9 u13 H locs hp hP hD hS => ?_)
            obtain ⟨v8, y8, hI, hF9, hn9, hr9, h01y, F8, m8, hF1, hm1, hF2, hF3⟩ := hp
            subst hr9
            have hF := hF.trans hF9
            have hFJ : F8 = J := (nI_eq (by omega) (by omega)).mp (hF2.symm.trans hJ2)
            have hn : nul u13 ≤ nul ws := by omega
            refine W.widen (k := Kc ws u13) (n := Ks ws u13) (by show 2 * (nul ws - nul w11) + 2 * (nul w11 - nul u13) ≤ 2 * (nul ws - nul u13); omega) (by show 257 * (nul ws - nul w11) + 257 * (nul w11 - nul u13) ≤ 257 * (nul ws - nul u13); omega) ?_
            refine W.eq (g2 := F0 m 116 ls [.int y8]) rfl ?_
            refine lv_istore_n (lv' := [(2, .int y8), (3, .int (nI i)), (1, .int yc), (0, .ref (a 0))]) hx hb d_S_writeJournal_116 rfl hl (by decide) rfl (fun ls hl => ?_)
            refine lv_iinc (k := 1) (v := nI (i + 1)) (lv' := [(3, .int (nI (i + 1))), (2, .int y8), (1, .int yc), (0, .ref (a 0))]) hx hb d_S_writeJournal_117 hl rfl (nI_1 i) (by decide) rfl (fun ls hl => ?_)
            refine lv_goto (tgt := 46) hx hb d_S_writeJournal_120 rfl ?_
            exact ih (i + 1) _ _ _ u13 H locs ls (by omega) hP hD hS hI hF hn h01y (fun _ => ⟨max F8 (J + m8), hF3, by omega, by omega⟩) hl
    exact key C9 0 k1 v1 y1 _ _ _ _ (Nat.zero_add _) hP hD hS hI hF hn h01y (fun h => ⟨4, hJ1 h, by omega, by omega⟩) hl
  · skip
    refine lv_iconst (v := 1) hx hb d_S_writeJournal_16 (by decide) ?_
    refine mu_end (u := ws) (v := (some (.int 1))) ⟨_, _, _, hI, hF, hn, rfl, by decide⟩ (Nat.le_refl _) (Nat.le_refl _) ?_
    exact W.zret (v := 1) (ty := .boolean) hx hb hr rfl (fun t9 ht hW => ⟨rfl, ⟨by rw [ht]; exact hP, va_K.moved hW.alike hK, hD, by rw [ht]; exact Nat.le_trans hz hS.1⟩, hS.F ht⟩) hS.2.2 d_S_writeJournal_17
set_option maxHeartbeats 4000000 in
set_option maxRecDepth 100000 in
theorem c_S_writeFile {l : Launch} {D : va_G} {t : Nat → ClassId} {z : Nat} {sa : Nat → Nat} {ws : va_W} {a : Nat → Nat} {k0 : Nat} {v : Nat → Int32}  (hI : Iv a t k0 v ws)  : Mu l y_S_writeFile (Cond.code y_S_writeFile b_S_writeFile 3 (some .boolean) :: WS) ({ frames := 5, cells := 2 * nul ws + 1, slots := 257 * nul ws + 6, locals := 103 }) D t z sa ws [.ref (a 0)] (fun r u => ∃ k1 v1 y, Iv a t k1 v1 u ∧ Fr t ws u ∧ nul u ≤ nul ws ∧ r = some (.int y) ∧ (y = 0 ∨ y = 1)) Xno (Kc ws) (Ks ws) := by
  refine mu_ofW (cc := b_S_writeFile) (maxL := 3) (ret := (some .boolean)) (by decide) rfl ?_
  intro p e s m args below meth c s₁ B hml hno hv
  obtain ⟨rfl, ⟨hP, hK, hD, hz⟩, hM⟩ := hv
  have hx := B.exec
  have hb := B.bytes
  have hr := B.returns
  have hts : ∀ w ∈ WS, w.before [.ref (a 0)].toArray s = true := fun w h => atoms_spec B.pre w (List.mem_cons_of_mem _ h)
  have hown : s.vm.findClass R_S = some m.cls := findClass_of_methodNamed B.named
  have hlocks := B.notSynchronized
  have hA : ∀ q, s.heap.size ≤ q → Az z q := fun q h => Nat.le_trans hz h
  have hS : va_S (Az z) s.heap s.heap [] := va_S.rf
  have hF : Fr t ws ws := Fr.rf
  have hn : nul ws ≤ nul ws := Nat.le_refl _
  have hl := lv_entry ([.ref (a 0)]) (n := 3) (Nat.le_of_ble_eq_true rfl)
  rw [lg_entry_eq]
  generalize (lg_sl ([.ref (a 0)]) ++ List.replicate (3 - (lg_sl ([.ref (a 0)])).length) Slot.unset).toArray = ls at hl ⊢
  have hl : lv_has ls 3 [(0, .ref (a 0))] := hl
  refine W.widen (k := Kc ws ws) (n := Ks ws ws) (Nat.zero_le _) (Nat.zero_le _) ?_
  refine lv_iconst (v := 1) hx hb d_S_writeFile_0 (by decide) ?_
  refine lv_istore_n (lv' := [(1, .int 1), (0, .ref (a 0))]) hx hb d_S_writeFile_1 rfl hl (by decide) rfl (fun ls hl => ?_)
  refine lv_iconst (v := 0) hx hb d_S_writeFile_2 (by decide) ?_
  refine lv_istore_n (lv' := [(2, .int 0), (1, .int 1), (0, .ref (a 0))]) hx hb d_S_writeFile_3 rfl hl (by decide) rfl (fun ls hl => ?_)
  have key : ∀ (n9 i : Nat) (v9 : Nat → Int32) (y2 : Int32) (w9 : va_W) (H : Heap) (locs : List Loc) (ls : Array Slot), i + n9 = 768 → va_P D Cl w9 H → va_D (Az z) w9 → va_S (Az z) s.heap H locs → Iv a t k0 v9 w9 → Fr t ws w9 → nul w9 ≤ nul ws → (y2 = 0 ∨ y2 = 1) → lv_has ls 3 [(2, .int (nI i)), (1, .int y2), (0, .ref (a 0))] → W p l e (headSpec (Cond.code y_S_writeFile b_S_writeFile 3 (some .boolean) :: WS) ({ frames := 5, cells := 2 * nul ws + 1, slots := 257 * nul ws + 6, locals := 103 })).room s m [.ref (a 0)].toArray below meth c H locs (Kc ws w9) (Ks ws w9) (mu_MQ below D t z (fun r u => ∃ k1 v1 y, Iv a t k1 v1 u ∧ Fr t ws u ∧ nul u ≤ nul ws ∧ r = some (.int y) ∧ (y = 0 ∨ y = 1)) Xno (Kc ws) (Ks ws) [.ref (a 0)].toArray s) (F0 m 4 ls []) := by
    intro n9
    induction n9 with
    | zero =>
      intro i v9 y2 w9 H locs ls hi9 hP hD hS hI hF hn h01y hl
      obtain ⟨C9, hC8, hC9⟩ := hI.bd.2.1
      refine lv_iload_n hx hb d_S_writeFile_4 rfl (lv_at hl 0 rfl) ?_
      refine lv_aload_n hx hb d_S_writeFile_5 rfl (lv_at hl 2 rfl) ?_
      refine va_get (D := D) (ci := 5) (v := .int (v9 3)) (C := R_S) (T := F_S) (N := 10) hx hb hts ws_S hown hK hP 0 hI.x rfl 8 (by decide) (hts _ fl_S_51) (fun _ h9 => h9) rfl d_S_writeFile_6 ?_
      refine lv_icmp_ge (tgt := 63) hx hb d_S_writeFile_9 rfl (fun _ => ?_) (fun q9 => ?_)
      · skip
        refine lv_iload_n hx hb d_S_writeFile_63 rfl (lv_at hl 1 rfl) ?_
        refine mu_end (u := w9) (v := (some (.int y2))) ⟨_, _, _, hI, hF, hn, rfl, h01y⟩ (Nat.le_refl _) (Nat.le_refl _) ?_
        exact W.zret (v := y2) (ty := .boolean) hx hb hr (nar01 h01y) (fun t9 ht hW => ⟨rfl, ⟨by rw [ht]; exact hP, va_K.moved hW.alike hK, hD, by rw [ht]; exact Nat.le_trans hz hS.1⟩, hS.F ht⟩) hS.2.2 d_S_writeFile_64
      · have hiC : i < C9 := Nat.not_le.mp (fun h => q9 (by rw [hC9]; exact nI_le h (by omega)))
        omega
    | succ n9 ih =>
      intro i v9 y2 w9 H locs ls hi9 hP hD hS hI hF hn h01y hl
      obtain ⟨C9, hC8, hC9⟩ := hI.bd.2.1
      refine lv_iload_n hx hb d_S_writeFile_4 rfl (lv_at hl 0 rfl) ?_
      refine lv_aload_n hx hb d_S_writeFile_5 rfl (lv_at hl 2 rfl) ?_
      refine va_get (D := D) (ci := 5) (v := .int (v9 3)) (C := R_S) (T := F_S) (N := 10) hx hb hts ws_S hown hK hP 0 hI.x rfl 8 (by decide) (hts _ fl_S_51) (fun _ h9 => h9) rfl d_S_writeFile_6 ?_
      refine lv_icmp_ge (tgt := 63) hx hb d_S_writeFile_9 rfl (fun _ => ?_) (fun q9 => ?_)
      · skip
        refine lv_iload_n hx hb d_S_writeFile_63 rfl (lv_at hl 1 rfl) ?_
        refine mu_end (u := w9) (v := (some (.int y2))) ⟨_, _, _, hI, hF, hn, rfl, h01y⟩ (Nat.le_refl _) (Nat.le_refl _) ?_
        exact W.zret (v := y2) (ty := .boolean) hx hb hr (nar01 h01y) (fun t9 ht hW => ⟨rfl, ⟨by rw [ht]; exact hP, va_K.moved hW.alike hK, hD, by rw [ht]; exact Nat.le_trans hz hS.1⟩, hS.F ht⟩) hS.2.2 d_S_writeFile_64
      · have hiC : i < C9 := Nat.not_le.mp (fun h => q9 (by rw [hC9]; exact nI_le h (by omega)))
        have hi : i < 768 := by omega
        refine lv_iload_n hx hb d_S_writeFile_12 rfl (lv_at hl 1 rfl) ?_
        refine lv_if_eq (tgt := 63) hx hb d_S_writeFile_13 rfl (fun _ => ?_) (fun hy20 => ?_)
        · skip
          refine lv_iload_n hx hb d_S_writeFile_63 rfl (lv_at hl 1 rfl) ?_
          refine mu_end (u := w9) (v := (some (.int y2))) ⟨_, _, _, hI, hF, hn, rfl, h01y⟩ (Nat.le_refl _) (Nat.le_refl _) ?_
          exact W.zret (v := y2) (ty := .boolean) hx hb hr (nar01 h01y) (fun t9 ht hW => ⟨rfl, ⟨by rw [ht]; exact hP, va_K.moved hW.alike hK, hD, by rw [ht]; exact Nat.le_trans hz hS.1⟩, hS.F ht⟩) hS.2.2 d_S_writeFile_64
        · skip
          refine lv_aload_n hx hb d_S_writeFile_16 rfl (lv_at hl 2 rfl) ?_
          refine va_get (D := D) (ci := 5) (v := .ref (a 7)) (C := R_S) (T := F_S) (N := 10) hx hb hts ws_S hown hK hP 0 hI.x rfl 2 (by decide) (hts _ fl_S_25) (fun _ h9 => h9) rfl d_S_writeFile_17 ?_
          refine lv_iconst (v := 0) hx hb d_S_writeFile_20 (by decide) ?_
          have h0 : 0 < 6 := by decide
          obtain ⟨gl, e7, g7⟩ := hI.l7
          refine va_aldq (D := D) hx hb hK hP 7 3 e7 rfl (i := 0) (by unfold vp_in; decide) d_S_writeFile_21 ?_
          refine W.eq (g2 := F0 m 22 ls [.ref (a (10 + 4 * 0))]) (by rw [cl0, g7 0 h0]; rfl) ?_
          refine lv_iload_n hx hb d_S_writeFile_22 rfl (lv_at hl 0 rfl) ?_
          refine mu_V (n := 1) (As := [.int (nI i)]) (rest := []) ⟨hx, hb, hml, hown, hts⟩ (c_Z_holds (D := D) (t := t) (z := z) (sa := sa) (ws := w9) (j := 0) (i := i) hI h0 hi rfl) ml_S_183 im_Z_holds se_Z_holds in_Z cd_Z_holds (by decide +kernel) ⟨Nat.le_of_ble_eq_true rfl, Nat.le_of_ble_eq_true rfl⟩ (va_recv hK hP (ci := 4) rfl (hI.z h0)) (Pz_at hP hK hD hz hM hS) rfl hl.1 rfl (Nat.le_of_ble_eq_true rfl) d_S_writeFile_23 ⟨by show 2 * (nul ws - nul w9) + (2 * nul w9 + 1) ≤ 2 * nul ws + 1; omega, by show 257 * (nul ws - nul w9) + (257 * nul w9 + 6) ≤ 257 * nul ws + 6; omega⟩ hS (fun _ _ _ _ _ _ h => h.elim) (fun r9 u1 H locs hp hP hD hS => ?_)
          obtain ⟨yh, hr9, hw9, hb01⟩ := hp
          rw [hw9] at hP hD
          subst hr9
          refine W.widen (k := Kc ws w9) (n := Ks ws w9) (by rw [hw9]; show 2 * (nul ws - nul w9) + 2 * (nul w9 - nul w9) ≤ 2 * (nul ws - nul w9); omega) (by rw [hw9]; show 257 * (nul ws - nul w9) + 257 * (nul w9 - nul w9) ≤ 257 * (nul ws - nul w9); omega) ?_
          clear hw9
          refine W.eq (g2 := F0 m 26 ls [.int yh]) rfl ?_
          refine lv_if_eq (tgt := 57) hx hb d_S_writeFile_26 rfl (fun q2 => ?_) (fun q2 => ?_)
          · skip
            refine lv_iinc (k := 0) (v := nI (i + 1)) (lv' := [(2, .int (nI (i + 1))), (1, .int y2), (0, .ref (a 0))]) hx hb d_S_writeFile_57 hl rfl (nI_1 i) (by decide) rfl (fun ls hl => ?_)
            refine lv_goto (tgt := 4) hx hb d_S_writeFile_60 rfl ?_
            exact ih (i + 1) _ _ w9 H locs ls (by omega) hP hD hS hI hF hn h01y hl
          · skip
            refine lv_aload_n hx hb d_S_writeFile_29 rfl (lv_at hl 2 rfl) ?_
            refine lv_aload_n hx hb d_S_writeFile_30 rfl (lv_at hl 2 rfl) ?_
            refine va_get (D := D) (ci := 5) (v := .ref (a 1)) (C := R_S) (T := F_S) (N := 10) hx hb hts ws_S hown hK hP 0 hI.x rfl 0 (by decide) (hts _ fl_S_15) (fun _ h9 => h9) rfl d_S_writeFile_31 ?_
            refine lv_aload_n hx hb d_S_writeFile_34 rfl (lv_at hl 2 rfl) ?_
            refine va_get (D := D) (ci := 5) (v := .ref (a 7)) (C := R_S) (T := F_S) (N := 10) hx hb hts ws_S hown hK hP 0 hI.x rfl 2 (by decide) (hts _ fl_S_25) (fun _ h9 => h9) rfl d_S_writeFile_35 ?_
            refine lv_iconst (v := 0) hx hb d_S_writeFile_38 (by decide) ?_
            have h0 : 0 < 6 := by decide
            obtain ⟨gl, e7, g7⟩ := hI.l7
            refine va_aldq (D := D) hx hb hK hP 7 3 e7 rfl (i := 0) (by unfold vp_in; decide) d_S_writeFile_39 ?_
            refine W.eq (g2 := F0 m 40 ls [.ref (a (10 + 4 * 0)), .ref (a 1), .ref (a 0)]) (by rw [cl0, g7 0 h0]; rfl) ?_
            refine lv_iload_n hx hb d_S_writeFile_40 rfl (lv_at hl 0 rfl) ?_
            refine mu_V (n := 1) (As := [.int (nI i)]) (rest := [.ref (a 1), .ref (a 0)]) ⟨hx, hb, hml, hown, hts⟩ (c_Z_bytesOf (D := D) (t := t) (z := z) (sa := sa) (ws := w9) (j := 0) (i := i) hI h0 (show i < Nn (12 + 4 * 0) from hi) rfl) ml_S_187 im_Z_bytesOf se_Z_bytesOf in_Z cd_Z_bytesOf (by decide +kernel) ⟨Nat.le_of_ble_eq_true rfl, Nat.le_of_ble_eq_true rfl⟩ (va_recv hK hP (ci := 4) rfl (hI.z h0)) (Pz_at hP hK hD hz hM hS) rfl hl.1 rfl (Nat.le_of_ble_eq_true rfl) d_S_writeFile_41 ⟨by show 2 * (nul ws - nul w9) + (2 * nul w9 + 1) ≤ 2 * nul ws + 1; omega, by show 257 * (nul ws - nul w9) + (257 * nul w9 + 6) ≤ 257 * nul ws + 6; omega⟩ hS (fun _ _ _ _ _ _ h => h.elim) (fun r9 u3 H locs hp hP hD hS => ?_)
            obtain ⟨c8, k8, kb, f8, hr9, h42, hcc, hsp, hI, hF9, hn9, hj9, -⟩ := hp
            have hkb := hj9 (Or.inr (fun h => absurd h.1 (by decide)))
            rw [hkb] at hI hsp
            subst hr9
            have hF := hF.trans hF9
            have hn : nul u3 ≤ nul ws := by omega
            refine W.widen (k := Kc ws u3) (n := Ks ws u3) (by show 2 * (nul ws - nul w9) + 2 * (nul w9 - nul u3) ≤ 2 * (nul ws - nul u3); omega) (by show 257 * (nul ws - nul w9) + 257 * (nul w9 - nul u3) ≤ 257 * (nul ws - nul u3); omega) ?_
            refine W.eq (g2 := F0 m 44 ls [.ref c8, .ref (a 1), .ref (a 0)]) rfl ?_
            refine lv_iload_n hx hb d_S_writeFile_44 rfl (lv_at hl 0 rfl) ?_
            refine lv_sipush (v := 256) hx hb d_S_writeFile_45 (by decide) ?_
            refine lv_imul hx hb d_S_writeFile_48 ?_
            refine lv_topi (fun y4 hy4 => ?_)
            have hy4 : y4 = nI (i * 256) := by rw [hy4]; exact pk_mul i 256
            refine lv_sipush (v := 256) hx hb d_S_writeFile_49 (by decide) ?_
            refine lv_iconst (v := 1) hx hb d_S_writeFile_52 (by decide) ?_
            refine mu_V (n := 5) (As := [.ref (a 1), .ref c8, .int y4, .int 256, .int 1]) (rest := []) ⟨hx, hb, hml, hown, hts⟩ (c_S_write_f (D := D) (t := t) (z := z) (sa := sa) (ws := u3) (A := i * 256) (N := 256) (L := 256) hI hy4 rfl (by omega) ⟨k8, f8, Or.inr h42, hcc⟩ (by omega) (by omega)) ml_S_215 im_S_write se_S_write in_S cd_S_write (by decide +kernel) ⟨Nat.le_of_ble_eq_true rfl, Nat.le_of_ble_eq_true rfl⟩ (va_recv hK hP (ci := 5) rfl hI.x) (Pz_at hP hK hD hz hM hS) rfl hl.1 rfl (Nat.le_of_ble_eq_true rfl) d_S_writeFile_53 ⟨by show 2 * (nul ws - nul u3) + (2 * nul u3 + 1) ≤ 2 * nul ws + 1; omega, by show 257 * (nul ws - nul u3) + (257 * nul u3 + 6) ≤ 257 * nul ws + 6; omega⟩ hS (fun _ _ _ _ _ _ h => h.elim) (fun r9 u5 H locs hp hP hD hS => ?_)
            obtain ⟨v8, y8, hI, hF9, hn9, hr9, h01y, n8⟩ := hp
            subst hr9
            have hF := hF.trans hF9
            have hn : nul u5 ≤ nul ws := by omega
            refine W.widen (k := Kc ws u5) (n := Ks ws u5) (by show 2 * (nul ws - nul u3) + 2 * (nul u3 - nul u5) ≤ 2 * (nul ws - nul u5); omega) (by show 257 * (nul ws - nul u3) + 257 * (nul u3 - nul u5) ≤ 257 * (nul ws - nul u5); omega) ?_
            refine W.eq (g2 := F0 m 56 ls [.int y8]) rfl ?_
            refine lv_istore_n (lv' := [(1, .int y8), (2, .int (nI i)), (0, .ref (a 0))]) hx hb d_S_writeFile_56 rfl hl (by decide) rfl (fun ls hl => ?_)
            refine lv_iinc (k := 1) (v := nI (i + 1)) (lv' := [(2, .int (nI (i + 1))), (1, .int y8), (0, .ref (a 0))]) hx hb d_S_writeFile_57 hl rfl (nI_1 i) (by decide) rfl (fun ls hl => ?_)
            refine lv_goto (tgt := 4) hx hb d_S_writeFile_60 rfl ?_
            exact ih (i + 1) _ _ u5 H locs ls (by omega) hP hD hS hI hF hn h01y hl
  exact key 768 0 v 1 ws _ _ _ rfl hP hD hS hI hF hn (Or.inr rfl) hl
