theorem un_rec {J : Nat} (h : 4 ≤ J) (hJ : J ≤ 199684) : (nI J - 4) / 260 = nI ((J - 4) / 260) := by
  rw [show (4 : Int32) = nI 4 from rfl, pk_sub h]
  exact pk_div (d := 260) (by omega) (by decide) (by decide)
theorem un_at {i : Nat} : (4 : Int32) + nI i * 260 = nI (4 + i * 260) := by
  rw [show (260 : Int32) = nI 260 from rfl, show (4 : Int32) = nI 4 from rfl, pk_mul, nI_add]
theorem un_at4 {i : Nat} : nI (4 + i * 260) + 4 = nI (4 + i * 260 + 4) := nI_add _ 4
set_option maxHeartbeats 4000000 in
set_option maxRecDepth 100000 in
theorem c_S_undo {l : Launch} {D : va_G} {t : Nat → ClassId} {z : Nat} {sa : Nat → Nat} {ws : va_W} {a : Nat → Nat} {k0 : Nat} {v : Nat → Int32}  (hI : Iv a t k0 v ws)  : Mu l y_S_undo (Cond.code y_S_undo b_S_undo 7 (some .boolean) :: WS) ({ frames := 5, cells := 2 * nul ws + 1, slots := 257 * nul ws + 6, locals := 103 }) D t z sa ws [.ref (a 0)] (fun r u => ∃ k1 v1 y, Iv a t k1 v1 u ∧ Fr t ws u ∧ nul u ≤ nul ws ∧ r = some (.int y) ∧ (y = 0 ∨ y = 1)) Xno (Kc ws) (Ks ws) := by
  refine mu_ofW (cc := b_S_undo) (maxL := 7) (ret := (some .boolean)) (by decide) rfl ?_
  intro p e s m args below meth c s₁ B hml hno hv
  obtain ⟨rfl, ⟨hP, hK, hD, hz⟩, hM⟩ := hv
  have hx := B.exec
  have hb := B.bytes
  have hr := B.returns
  have hts : ∀ w ∈ WS, w.before [.ref (a 0)].toArray s = true := fun w h => atoms_spec B.pre w (List.mem_cons_of_mem _ h)
  have hown : s.vm.findClass R_S = some m.cls := findClass_of_methodNamed B.named
  have hlocks := B.notSynchronized
  have hA : ∀ q, s.heap.size ≤ q → Az z q := fun q h => Nat.le_trans hz h
  have hS : va_S (Az z) s.heap s.heap [] := va_S.rf
  have hF : Fr t ws ws := Fr.rf
  have hn : nul ws ≤ nul ws := Nat.le_refl _
  have hl := lv_entry ([.ref (a 0)]) (n := 7) (Nat.le_of_ble_eq_true rfl)
  rw [lg_entry_eq]
  generalize (lg_sl ([.ref (a 0)]) ++ List.replicate (7 - (lg_sl ([.ref (a 0)])).length) Slot.unset).toArray = ls at hl ⊢
  have hl : lv_has ls 7 [(0, .ref (a 0))] := hl
  refine W.widen (k := Kc ws ws) (n := Ks ws ws) (Nat.zero_le _) (Nat.zero_le _) ?_
  refine lv_aload_n hx hb d_S_undo_0 rfl (lv_at hl 0 rfl) ?_
  refine va_get (D := D) (ci := 5) (v := .ref (a 4)) (C := R_S) (T := F_S) (N := 10) hx hb hts ws_S hown hK hP 0 hI.x rfl 1 (by decide) (hts _ fl_S_20) (fun _ h9 => h9) rfl d_S_undo_1 ?_
  refine mu_V (n := 0) (As := []) (rest := []) ⟨hx, hb, hml, hown, hts⟩ (c_Y_length_j (D := D) (t := t) (z := z) (sa := sa) (ws := ws)  hI ) ml_S_206 im_Y_length se_Y_length in_Y cd_Y_length (by decide +kernel) ⟨Nat.le_of_ble_eq_true rfl, Nat.le_of_ble_eq_true rfl⟩ (va_recv hK hP (ci := 3) rfl hI.y4) (Pz_at hP hK hD hz hM hS) rfl hl.1 rfl (Nat.le_of_ble_eq_true rfl) d_S_undo_4 ⟨by show 2 * (nul ws - nul ws) + (2 * nul ws + 1) ≤ 2 * nul ws + 1; omega, by show 257 * (nul ws - nul ws) + (257 * nul ws + 6) ≤ 257 * nul ws + 6; omega⟩ hS (fun _ _ _ _ _ _ h => h.elim) (fun r9 u1 H locs hp hP hD hS => ?_)
  obtain ⟨hr9, hw9⟩ := hp
  rw [hw9] at hP hD
  subst hr9
  refine W.widen (k := Kc ws ws) (n := Ks ws ws) (by rw [hw9]; show 2 * (nul ws - nul ws) + 2 * (nul ws - nul ws) ≤ 2 * (nul ws - nul ws); omega) (by rw [hw9]; show 257 * (nul ws - nul ws) + 257 * (nul ws - nul ws) ≤ 257 * (nul ws - nul ws); omega) ?_
  clear hw9
  refine W.eq (g2 := F0 m 7 ls [.int (v 6)]) rfl ?_
  refine lv_iconst (v := 4) hx hb d_S_undo_7 (by decide) ?_
  refine lv_icmp_ge (tgt := 13) hx hb d_S_undo_8 rfl (fun q2 => ?_) (fun q2 => ?_)
  · skip
    refine lv_aload_n hx hb d_S_undo_13 rfl (lv_at hl 0 rfl) ?_
    refine lv_iconst (v := 0) hx hb d_S_undo_14 (by decide) ?_
    have hJ4 : 4 ≤ v 6 := by assumption
    obtain ⟨J, hJ1, hJ2⟩ := hI.bd.2.2.2.1
    have hJ3 : 4 ≤ J := (nI_leI (a := 4) (by decide) (by omega)).mp (by rw [← hJ2]; exact hJ4)
    refine mu_V (n := 1) (As := [.int 0]) (rest := []) ⟨hx, hb, hml, hown, hts⟩ (c_S_journalNumber_0 (D := D) (t := t) (z := z) (sa := sa) (ws := ws) (x9 := 0) hI rfl hJ4) ml_S_219 im_S_journalNumber se_S_journalNumber in_S cd_S_journalNumber (by decide +kernel) ⟨Nat.le_of_ble_eq_true rfl, Nat.le_of_ble_eq_true rfl⟩ (va_recv hK hP (ci := 5) rfl hI.x) (Pz_at hP hK hD hz hM hS) rfl hl.1 rfl (Nat.le_of_ble_eq_true rfl) d_S_undo_15 ⟨by show 2 * (nul ws - nul ws) + (2 * nul ws + 1) ≤ 2 * nul ws + 1; omega, by show 257 * (nul ws - nul ws) + (257 * nul ws + 6) ≤ 257 * nul ws + 6; omega⟩ hS (fun _ _ _ _ _ _ h => h.elim) (fun r9 u3 H locs hp hP hD hS => ?_)
    obtain ⟨hI, hF9, hn9, nn, hnn, hr9⟩ := hp
    subst hr9
    have hF := hF.trans hF9
    have hn : nul u3 ≤ nul ws := by omega
    refine W.widen (k := Kc ws u3) (n := Ks ws u3) (by show 2 * (nul ws - nul ws) + 2 * (nul ws - nul u3) ≤ 2 * (nul ws - nul u3); omega) (by show 257 * (nul ws - nul ws) + 257 * (nul ws - nul u3) ≤ 257 * (nul ws - nul u3); omega) ?_
    refine W.eq (g2 := F0 m 18 ls [.int (nI nn)]) rfl ?_
    refine lv_istore_n (lv' := [(1, .int (nI nn)), (0, .ref (a 0))]) hx hb d_S_undo_18 rfl hl (by decide) rfl (fun ls hl => ?_)
    refine lv_aload_n hx hb d_S_undo_19 rfl (lv_at hl 1 rfl) ?_
    refine va_get (D := D) (ci := 5) (v := .ref (a 4)) (C := R_S) (T := F_S) (N := 10) hx hb hts ws_S hown hK hP 0 hI.x rfl 1 (by decide) (hts _ fl_S_20) (fun _ h9 => h9) rfl d_S_undo_20 ?_
    refine mu_V (n := 0) (As := []) (rest := []) ⟨hx, hb, hml, hown, hts⟩ (c_Y_length_j (D := D) (t := t) (z := z) (sa := sa) (ws := u3)  hI ) ml_S_206 im_Y_length se_Y_length in_Y cd_Y_length (by decide +kernel) ⟨Nat.le_of_ble_eq_true rfl, Nat.le_of_ble_eq_true rfl⟩ (va_recv hK hP (ci := 3) rfl hI.y4) (Pz_at hP hK hD hz hM hS) rfl hl.1 rfl (Nat.le_of_ble_eq_true rfl) d_S_undo_23 ⟨by show 2 * (nul ws - nul u3) + (2 * nul u3 + 1) ≤ 2 * nul ws + 1; omega, by show 257 * (nul ws - nul u3) + (257 * nul u3 + 6) ≤ 257 * nul ws + 6; omega⟩ hS (fun _ _ _ _ _ _ h => h.elim) (fun r9 u4 H locs hp hP hD hS => ?_)
    obtain ⟨hr9, hw9⟩ := hp
    rw [hw9] at hP hD
    subst hr9
    refine W.widen (k := Kc ws u3) (n := Ks ws u3) (by rw [hw9]; show 2 * (nul ws - nul u3) + 2 * (nul u3 - nul u3) ≤ 2 * (nul ws - nul u3); omega) (by rw [hw9]; show 257 * (nul ws - nul u3) + 257 * (nul u3 - nul u3) ≤ 257 * (nul ws - nul u3); omega) ?_
    clear hw9
    refine W.eq (g2 := F0 m 26 ls [.int (v 6)]) rfl ?_
    refine lv_iconst (v := 4) hx hb d_S_undo_26 (by decide) ?_
    refine lv_isub hx hb d_S_undo_27 ?_
    refine lv_sipush (v := 260) hx hb d_S_undo_28 (by decide) ?_
    refine lv_idiv hx hb d_S_undo_31 (by decide) ?_
    refine lv_topi (fun yr hyr => ?_)
    have hyr : yr = nI ((J - 4) / 260) := by rw [hyr, hJ2]; exact un_rec hJ3 hJ1
    obtain ⟨R9, hR9⟩ : ∃ q, q = (J - 4) / 260 := ⟨_, rfl⟩
    rw [← hR9] at hyr
    refine lv_istore_n (lv' := [(2, .int yr), (1, .int (nI nn)), (0, .ref (a 0))]) hx hb d_S_undo_32 rfl hl (by decide) rfl (fun ls hl => ?_)
    refine lv_iconst (v := 1) hx hb d_S_undo_33 (by decide) ?_
    refine lv_istore_n (lv' := [(3, .int 1), (2, .int yr), (1, .int (nI nn)), (0, .ref (a 0))]) hx hb d_S_undo_34 rfl hl (by decide) rfl (fun ls hl => ?_)
    refine lv_iconst (v := 0) hx hb d_S_undo_35 (by decide) ?_
    refine lv_istore (lv' := [(4, .int 0), (3, .int 1), (2, .int yr), (1, .int (nI nn)), (0, .ref (a 0))]) hx hb d_S_undo_36 hl (by decide) rfl (fun ls hl => ?_)
    have key : ∀ (n9 i : Nat) (v9 : Nat → Int32) (y2 : Int32) (w9 : va_W) (H : Heap) (locs : List Loc) (ls : Array Slot), i + n9 = R9 → va_P D Cl w9 H → va_D (Az z) w9 → va_S (Az z) s.heap H locs → Iv a t k0 v9 w9 → Fr t ws w9 → nul w9 ≤ nul ws → (y2 = 0 ∨ y2 = 1) → v9 6 = nI J → lv_has ls 7 [(4, .int (nI i)), (3, .int y2), (2, .int yr), (1, .int (nI nn)), (0, .ref (a 0))] → W p l e (headSpec (Cond.code y_S_undo b_S_undo 7 (some .boolean) :: WS) ({ frames := 5, cells := 2 * nul ws + 1, slots := 257 * nul ws + 6, locals := 103 })).room s m [.ref (a 0)].toArray below meth c H locs (Kc ws w9) (Ks ws w9) (mu_MQ below D t z (fun r u => ∃ k1 v1 y, Iv a t k1 v1 u ∧ Fr t ws u ∧ nul u ≤ nul ws ∧ r = some (.int y) ∧ (y = 0 ∨ y = 1)) Xno (Kc ws) (Ks ws) [.ref (a 0)].toArray s) (F0 m 38 ls []) := by
      intro n9
      induction n9 with
      | zero =>
        intro i v9 y2 w9 H locs ls hi9 hP hD hS hI hF hn h01y hv96 hl
        refine lv_iload hx hb d_S_undo_38 (lv_at hl 0 rfl) ?_
        refine lv_iload_n hx hb d_S_undo_40 rfl (lv_at hl 2 rfl) ?_
        refine lv_icmp_ge (tgt := 126) hx hb d_S_undo_41 rfl (fun _ => ?_) (fun h => absurd (by rw [hyr]; exact nI_le (by omega) (by omega)) h)
        refine lv_iload_n hx hb d_S_undo_126 rfl (lv_at hl 1 rfl) ?_
        refine lv_if_eq (tgt := 142) hx hb d_S_undo_127 rfl (fun q5 => ?_) (fun q5 => ?_)
        · skip
          refine lv_iload_n hx hb d_S_undo_142 rfl (lv_at hl 1 rfl) ?_
          refine mu_end (u := w9) (v := (some (.int y2))) ⟨_, _, _, hI, hF, hn, rfl, h01y⟩ (Nat.le_refl _) (Nat.le_refl _) ?_
          exact W.zret (v := y2) (ty := .boolean) hx hb hr (nar01 h01y) (fun t9 ht hW => ⟨rfl, ⟨by rw [ht]; exact hP, va_K.moved hW.alike hK, hD, by rw [ht]; exact Nat.le_trans hz hS.1⟩, hS.F ht⟩) hS.2.2 d_S_undo_143
        · skip
          refine lv_aload_n hx hb d_S_undo_130 rfl (lv_at hl 4 rfl) ?_
          refine va_get (D := D) (ci := 5) (v := .ref (a 1)) (C := R_S) (T := F_S) (N := 10) hx hb hts ws_S hown hK hP 0 hI.x rfl 0 (by decide) (hts _ fl_S_15) (fun _ h9 => h9) rfl d_S_undo_131 ?_
          refine lv_iload_n hx hb d_S_undo_134 rfl (lv_at hl 3 rfl) ?_
          refine lv_sipush (v := 256) hx hb d_S_undo_135 (by decide) ?_
          refine lv_imul hx hb d_S_undo_138 ?_
          refine lv_topi (fun y6 hy6 => ?_)
          have hy6 : y6 = nI (nn * 256) := by rw [hy6]; exact pk_mul nn 256
          refine mu_V (n := 1) (As := [.int y6]) (rest := []) ⟨hx, hb, hml, hown, hts⟩ (c_Y_cutTo_f (D := D) (t := t) (z := z) (sa := sa) (ws := w9) (n := nn * 256) hI hy6 (by omega)) ml_S_122 im_Y_cutTo se_Y_cutTo in_Y cd_Y_cutTo (by decide +kernel) ⟨Nat.le_of_ble_eq_true rfl, Nat.le_of_ble_eq_true rfl⟩ (va_recv hK hP (ci := 3) rfl hI.y1) (Pz_at hP hK hD hz hM hS) rfl hl.1 rfl (Nat.le_of_ble_eq_true rfl) d_S_undo_139 ⟨by show 2 * (nul ws - nul w9) + (2 * nul w9 + 1) ≤ 2 * nul ws + 1; omega, by show 257 * (nul ws - nul w9) + (257 * nul w9 + 6) ≤ 257 * nul ws + 6; omega⟩ hS (fun _ _ _ _ _ _ h => h.elim) (fun r9 u7 H locs hp hP hD hS => ?_)
          obtain ⟨v8, hI, hF9, hn9, hr9, nv8⟩ := hp
          subst hr9
          have hF := hF.trans hF9
          have hn : nul u7 ≤ nul ws := by omega
          refine W.widen (k := Kc ws u7) (n := Ks ws u7) (by show 2 * (nul ws - nul w9) + 2 * (nul w9 - nul u7) ≤ 2 * (nul ws - nul u7); omega) (by show 257 * (nul ws - nul w9) + 257 * (nul w9 - nul u7) ≤ 257 * (nul ws - nul u7); omega) ?_
          refine W.eq (g2 := F0 m 142 ls []) rfl ?_
          refine lv_iload_n hx hb d_S_undo_142 rfl (lv_at hl 1 rfl) ?_
          refine mu_end (u := u7) (v := (some (.int y2))) ⟨_, _, _, hI, hF, hn, rfl, h01y⟩ (Nat.le_refl _) (Nat.le_refl _) ?_
          exact W.zret (v := y2) (ty := .boolean) hx hb hr (nar01 h01y) (fun t9 ht hW => ⟨rfl, ⟨by rw [ht]; exact hP, va_K.moved hW.alike hK, hD, by rw [ht]; exact Nat.le_trans hz hS.1⟩, hS.F ht⟩) hS.2.2 d_S_undo_143
      | succ n9 ih =>
        intro i v9 y2 w9 H locs ls hi9 hP hD hS hI hF hn h01y hv96 hl
        refine lv_iload hx hb d_S_undo_38 (lv_at hl 0 rfl) ?_
        refine lv_iload_n hx hb d_S_undo_40 rfl (lv_at hl 2 rfl) ?_
        refine lv_icmp_ge (tgt := 126) hx hb d_S_undo_41 rfl (fun h => absurd h (by rw [hyr]; exact nI_ge (by omega) (by omega))) (fun _ => ?_)
        refine lv_iload_n hx hb d_S_undo_44 rfl (lv_at hl 1 rfl) ?_
        refine lv_if_eq (tgt := 126) hx hb d_S_undo_45 rfl (fun _ => ?_) (fun hy20 => ?_)
        · skip
          refine lv_iload_n hx hb d_S_undo_126 rfl (lv_at hl 1 rfl) ?_
          refine lv_if_eq (tgt := 142) hx hb d_S_undo_127 rfl (fun q10 => ?_) (fun q10 => ?_)
          · skip
            refine lv_iload_n hx hb d_S_undo_142 rfl (lv_at hl 1 rfl) ?_
            refine mu_end (u := w9) (v := (some (.int y2))) ⟨_, _, _, hI, hF, hn, rfl, h01y⟩ (Nat.le_refl _) (Nat.le_refl _) ?_
            exact W.zret (v := y2) (ty := .boolean) hx hb hr (nar01 h01y) (fun t9 ht hW => ⟨rfl, ⟨by rw [ht]; exact hP, va_K.moved hW.alike hK, hD, by rw [ht]; exact Nat.le_trans hz hS.1⟩, hS.F ht⟩) hS.2.2 d_S_undo_143
          · skip
            refine lv_aload_n hx hb d_S_undo_130 rfl (lv_at hl 4 rfl) ?_
            refine va_get (D := D) (ci := 5) (v := .ref (a 1)) (C := R_S) (T := F_S) (N := 10) hx hb hts ws_S hown hK hP 0 hI.x rfl 0 (by decide) (hts _ fl_S_15) (fun _ h9 => h9) rfl d_S_undo_131 ?_
            refine lv_iload_n hx hb d_S_undo_134 rfl (lv_at hl 3 rfl) ?_
            refine lv_sipush (v := 256) hx hb d_S_undo_135 (by decide) ?_
            refine lv_imul hx hb d_S_undo_138 ?_
            refine lv_topi (fun y11 hy11 => ?_)
            have hy11 : y11 = nI (nn * 256) := by rw [hy11]; exact pk_mul nn 256
            refine mu_V (n := 1) (As := [.int y11]) (rest := []) ⟨hx, hb, hml, hown, hts⟩ (c_Y_cutTo_f (D := D) (t := t) (z := z) (sa := sa) (ws := w9) (n := nn * 256) hI hy11 (by omega)) ml_S_122 im_Y_cutTo se_Y_cutTo in_Y cd_Y_cutTo (by decide +kernel) ⟨Nat.le_of_ble_eq_true rfl, Nat.le_of_ble_eq_true rfl⟩ (va_recv hK hP (ci := 3) rfl hI.y1) (Pz_at hP hK hD hz hM hS) rfl hl.1 rfl (Nat.le_of_ble_eq_true rfl) d_S_undo_139 ⟨by show 2 * (nul ws - nul w9) + (2 * nul w9 + 1) ≤ 2 * nul ws + 1; omega, by show 257 * (nul ws - nul w9) + (257 * nul w9 + 6) ≤ 257 * nul ws + 6; omega⟩ hS (fun _ _ _ _ _ _ h => h.elim) (fun r9 u12 H locs hp hP hD hS => ?_)
            obtain ⟨v13, hI, hF9, hn9, hr9, nv13⟩ := hp
            subst hr9
            have hF := hF.trans hF9
            have hn : nul u12 ≤ nul ws := by omega
            refine W.widen (k := Kc ws u12) (n := Ks ws u12) (by show 2 * (nul ws - nul w9) + 2 * (nul w9 - nul u12) ≤ 2 * (nul ws - nul u12); omega) (by show 257 * (nul ws - nul w9) + 257 * (nul w9 - nul u12) ≤ 257 * (nul ws - nul u12); omega) ?_
            refine W.eq (g2 := F0 m 142 ls []) rfl ?_
            refine lv_iload_n hx hb d_S_undo_142 rfl (lv_at hl 1 rfl) ?_
            refine mu_end (u := u12) (v := (some (.int y2))) ⟨_, _, _, hI, hF, hn, rfl, h01y⟩ (Nat.le_refl _) (Nat.le_refl _) ?_
            exact W.zret (v := y2) (ty := .boolean) hx hb hr (nar01 h01y) (fun t9 ht hW => ⟨rfl, ⟨by rw [ht]; exact hP, va_K.moved hW.alike hK, hD, by rw [ht]; exact Nat.le_trans hz hS.1⟩, hS.F ht⟩) hS.2.2 d_S_undo_143
        · skip
          have hJ9 : 4 ≤ v9 6 := by rw [hv96]; exact nI_le (a := 4) hJ3 (by omega)
          have hat : 4 + i * 260 + 260 ≤ J := by omega
          refine lv_iconst (v := 4) hx hb d_S_undo_48 (by decide) ?_
          refine lv_iload hx hb d_S_undo_49 (lv_at hl 0 rfl) ?_
          refine lv_sipush (v := 260) hx hb d_S_undo_51 (by decide) ?_
          refine lv_imul hx hb d_S_undo_54 ?_
          refine lv_iadd hx hb d_S_undo_55 ?_
          refine lv_topi (fun ya hya => ?_)
          have hya : ya = nI (4 + i * 260) := hya.trans un_at
          refine lv_istore (lv' := [(5, .int ya), (4, .int (nI i)), (3, .int y2), (2, .int yr), (1, .int (nI nn)), (0, .ref (a 0))]) hx hb d_S_undo_56 hl (by decide) rfl (fun ls hl => ?_)
          refine lv_aload_n hx hb d_S_undo_58 rfl (lv_at hl 5 rfl) ?_
          refine lv_iload hx hb d_S_undo_59 (lv_at hl 0 rfl) ?_
          refine mu_V (n := 1) (As := [.int ya]) (rest := []) ⟨hx, hb, hml, hown, hts⟩ (c_S_journalNumber_j (D := D) (t := t) (z := z) (sa := sa) (ws := w9) (A := 4 + i * 260) hI hya (by omega) hJ9) ml_S_219 im_S_journalNumber se_S_journalNumber in_S cd_S_journalNumber (by decide +kernel) ⟨Nat.le_of_ble_eq_true rfl, Nat.le_of_ble_eq_true rfl⟩ (va_recv hK hP (ci := 5) rfl hI.x) (Pz_at hP hK hD hz hM hS) rfl hl.1 rfl (Nat.le_of_ble_eq_true rfl) d_S_undo_61 ⟨by show 2 * (nul ws - nul w9) + (2 * nul w9 + 1) ≤ 2 * nul ws + 1; omega, by show 257 * (nul ws - nul w9) + (257 * nul w9 + 6) ≤ 257 * nul ws + 6; omega⟩ hS (fun _ _ _ _ _ _ h => h.elim) (fun r9 u14 H locs hp hP hD hS => ?_)
          obtain ⟨hI, hF9, hn9, yp, hr9⟩ := hp
          subst hr9
          have hF := hF.trans hF9
          have hn : nul u14 ≤ nul ws := by omega
          refine W.widen (k := Kc ws u14) (n := Ks ws u14) (by show 2 * (nul ws - nul w9) + 2 * (nul w9 - nul u14) ≤ 2 * (nul ws - nul u14); omega) (by show 257 * (nul ws - nul w9) + 257 * (nul w9 - nul u14) ≤ 257 * (nul ws - nul u14); omega) ?_
          refine W.eq (g2 := F0 m 64 ls [.int yp]) rfl ?_
          refine lv_istore (lv' := [(6, .int yp), (5, .int ya), (4, .int (nI i)), (3, .int y2), (2, .int yr), (1, .int (nI nn)), (0, .ref (a 0))]) hx hb d_S_undo_64 hl (by decide) rfl (fun ls hl => ?_)
          refine lv_iload hx hb d_S_undo_66 (lv_at hl 0 rfl) ?_
          refine lv_if_lt (tgt := 120) hx hb d_S_undo_68 rfl (fun q15 => ?_) (fun q15 => ?_)
          · skip
            refine lv_iinc (k := 2) (v := nI (i + 1)) (lv' := [(4, .int (nI (i + 1))), (6, .int yp), (5, .int ya), (3, .int y2), (2, .int yr), (1, .int (nI nn)), (0, .ref (a 0))]) hx hb d_S_undo_120 hl rfl (nI_1 i) (by decide) rfl (fun ls hl => ?_)
            refine lv_goto (tgt := 38) hx hb d_S_undo_123 rfl ?_
            exact ih (i + 1) _ _ u14 H locs ls (by omega) hP hD hS hI hF hn h01y hv96 (lv_sub hl [0, 3, 4, 5, 6] rfl)
          · skip
            refine lv_iload hx hb d_S_undo_71 (lv_at hl 0 rfl) ?_
            refine lv_sipush (v := 768) hx hb d_S_undo_73 (by decide) ?_
            refine lv_icmp_ge (tgt := 120) hx hb d_S_undo_76 rfl (fun q16 => ?_) (fun q16 => ?_)
            · skip
              refine lv_iinc (k := 2) (v := nI (i + 1)) (lv' := [(4, .int (nI (i + 1))), (6, .int yp), (5, .int ya), (3, .int y2), (2, .int yr), (1, .int (nI nn)), (0, .ref (a 0))]) hx hb d_S_undo_120 hl rfl (nI_1 i) (by decide) rfl (fun ls hl => ?_)
              refine lv_goto (tgt := 38) hx hb d_S_undo_123 rfl ?_
              exact ih (i + 1) _ _ u14 H locs ls (by omega) hP hD hS hI hF hn h01y hv96 (lv_sub hl [0, 3, 4, 5, 6] rfl)
            · skip
              refine lv_aload_n hx hb d_S_undo_79 rfl (lv_at hl 6 rfl) ?_
              refine va_get (D := D) (ci := 5) (v := .ref (a 4)) (C := R_S) (T := F_S) (N := 10) hx hb hts ws_S hown hK hP 0 hI.x rfl 1 (by decide) (hts _ fl_S_20) (fun _ h9 => h9) rfl d_S_undo_80 ?_
              refine lv_iload hx hb d_S_undo_83 (lv_at hl 1 rfl) ?_
              refine lv_iconst (v := 4) hx hb d_S_undo_85 (by decide) ?_
              refine lv_iadd hx hb d_S_undo_86 ?_
              refine lv_topi (fun yb hyb => ?_)
              have hyb : yb = nI (4 + i * 260 + 4) := by rw [hyb, hya]; exact un_at4
              obtain ⟨pp, hpp, hyp⟩ : ∃ q : Nat, q < 768 ∧ yp = nI q := by obtain ⟨q, h1, h2⟩ := nI_of (x := yp) (by assumption); exact ⟨q, Nat.not_le.mp (fun h => (by assumption : ¬ (768 : Int32) ≤ yp) (by rw [h2]; exact nI_le (a := 768) h h1)), h2⟩
              refine lv_aload_n hx hb d_S_undo_87 rfl (lv_at hl 6 rfl) ?_
              refine va_get (D := D) (ci := 5) (v := .ref (a 9)) (C := R_S) (T := F_S) (N := 10) hx hb hts ws_S hown hK hP 0 hI.x rfl 4 (by decide) (hts _ fl_S_36) (fun _ h9 => h9) rfl d_S_undo_88 ?_
              refine lv_sipush (v := 256) hx hb d_S_undo_91 (by decide) ?_
              refine mu_V (n := 3) (As := [.int yb, .ref (a 9), .int 256]) (rest := []) ⟨hx, hb, hml, hown, hts⟩ (c_Y_read_j (D := D) (t := t) (z := z) (sa := sa) (ws := u14) (A := 4 + i * 260 + 4) (N := 256) hI hyb rfl (by omega) (by decide) hJ9) ml_S_223 im_Y_read se_Y_read in_Y cd_Y_read (by decide +kernel) ⟨Nat.le_of_ble_eq_true rfl, Nat.le_of_ble_eq_true rfl⟩ (va_recv hK hP (ci := 3) rfl hI.y4) (Pz_at hP hK hD hz hM hS) rfl hl.1 rfl (Nat.le_of_ble_eq_true rfl) d_S_undo_94 ⟨by show 2 * (nul ws - nul u14) + (2 * nul u14 + 1) ≤ 2 * nul ws + 1; omega, by show 257 * (nul ws - nul u14) + (257 * nul u14 + 6) ≤ 257 * nul ws + 6; omega⟩ hS (fun _ _ _ _ _ _ h => h.elim) (fun r9 u17 H locs hp hP hD hS => ?_)
              obtain ⟨hI, hF9, hn9, hr9⟩ := hp
              subst hr9
              have hF := hF.trans hF9
              obtain ⟨r2, hr2⟩ := hI.r9
              have hn : nul u17 ≤ nul ws := by omega
              refine W.widen (k := Kc ws u17) (n := Ks ws u17) (by show 2 * (nul ws - nul u14) + 2 * (nul u14 - nul u17) ≤ 2 * (nul ws - nul u17); omega) (by show 257 * (nul ws - nul u14) + 257 * (nul u14 - nul u17) ≤ 257 * (nul ws - nul u17); omega) ?_
              refine W.eq (g2 := F0 m 97 ls []) rfl ?_
              refine lv_aload_n hx hb d_S_undo_97 rfl (lv_at hl 6 rfl) ?_
              refine lv_aload_n hx hb d_S_undo_98 rfl (lv_at hl 6 rfl) ?_
              refine va_get (D := D) (ci := 5) (v := .ref (a 1)) (C := R_S) (T := F_S) (N := 10) hx hb hts ws_S hown hK hP 0 hI.x rfl 0 (by decide) (hts _ fl_S_15) (fun _ h9 => h9) rfl d_S_undo_99 ?_
              refine lv_aload_n hx hb d_S_undo_102 rfl (lv_at hl 6 rfl) ?_
              refine va_get (D := D) (ci := 5) (v := .ref (a 9)) (C := R_S) (T := F_S) (N := 10) hx hb hts ws_S hown hK hP 0 hI.x rfl 4 (by decide) (hts _ fl_S_36) (fun _ h9 => h9) rfl d_S_undo_103 ?_
              refine lv_iload hx hb d_S_undo_106 (lv_at hl 0 rfl) ?_
              refine lv_sipush (v := 256) hx hb d_S_undo_108 (by decide) ?_
              refine lv_imul hx hb d_S_undo_111 ?_
              refine lv_topi (fun y18 hy18 => ?_)
              have hy18 : y18 = nI (pp * 256) := by rw [hy18, hyp]; exact pk_mul pp 256
              refine lv_sipush (v := 256) hx hb d_S_undo_112 (by decide) ?_
              refine lv_iconst (v := 3) hx hb d_S_undo_115 (by decide) ?_
              refine mu_V (n := 5) (As := [.ref (a 1), .ref (a 9), .int y18, .int 256, .int 3]) (rest := []) ⟨hx, hb, hml, hown, hts⟩ (c_S_write_f (D := D) (t := t) (z := z) (sa := sa) (ws := u17) (A := pp * 256) (N := 256) (L := 260) hI hy18 rfl (by omega) ⟨9, r2, Or.inl rfl, hr2⟩ (by omega) (by omega)) ml_S_215 im_S_write se_S_write in_S cd_S_write (by decide +kernel) ⟨Nat.le_of_ble_eq_true rfl, Nat.le_of_ble_eq_true rfl⟩ (va_recv hK hP (ci := 5) rfl hI.x) (Pz_at hP hK hD hz hM hS) rfl hl.1 rfl (Nat.le_of_ble_eq_true rfl) d_S_undo_116 ⟨by show 2 * (nul ws - nul u17) + (2 * nul u17 + 1) ≤ 2 * nul ws + 1; omega, by show 257 * (nul ws - nul u17) + (257 * nul u17 + 6) ≤ 257 * nul ws + 6; omega⟩ hS (fun _ _ _ _ _ _ h => h.elim) (fun r9 u19 H locs hp hP hD hS => ?_)
              obtain ⟨v8, y8, hI, hF9, hn9, hr9, h01y, n8⟩ := hp
              subst hr9
              have hF := hF.trans hF9
              have hv96 := (n8 6 (by decide) (by decide) (by decide)).trans hv96
              have hn : nul u19 ≤ nul ws := by omega
              refine W.widen (k := Kc ws u19) (n := Ks ws u19) (by show 2 * (nul ws - nul u17) + 2 * (nul u17 - nul u19) ≤ 2 * (nul ws - nul u19); omega) (by show 257 * (nul ws - nul u17) + 257 * (nul u17 - nul u19) ≤ 257 * (nul ws - nul u19); omega) ?_
              refine W.eq (g2 := F0 m 119 ls [.int y8]) rfl ?_
              refine lv_istore_n (lv' := [(3, .int y8), (6, .int yp), (5, .int ya), (4, .int (nI i)), (2, .int yr), (1, .int (nI nn)), (0, .ref (a 0))]) hx hb d_S_undo_119 rfl hl (by decide) rfl (fun ls hl => ?_)
              refine lv_iinc (k := 3) (v := nI (i + 1)) (lv' := [(4, .int (nI (i + 1))), (3, .int y8), (6, .int yp), (5, .int ya), (2, .int yr), (1, .int (nI nn)), (0, .ref (a 0))]) hx hb d_S_undo_120 hl rfl (nI_1 i) (by decide) rfl (fun ls hl => ?_)
              refine lv_goto (tgt := 38) hx hb d_S_undo_123 rfl ?_
              exact ih (i + 1) _ _ u19 H locs ls (by omega) hP hD hS hI hF hn h01y hv96 (lv_sub hl [0, 1, 4, 5, 6] rfl)
    exact key R9 0 v 1 _ _ _ _ (Nat.zero_add _) hP hD hS hI hF hn (Or.inr rfl) hJ2 hl
  · skip
    refine lv_iconst (v := 1) hx hb d_S_undo_11 (by decide) ?_
    refine mu_end (u := ws) (v := (some (.int 1))) ⟨_, _, _, hI, hF, hn, rfl, by decide⟩ (Nat.le_refl _) (Nat.le_refl _) ?_
    exact W.zret (v := 1) (ty := .boolean) hx hb hr rfl (fun t9 ht hW => ⟨rfl, ⟨by rw [ht]; exact hP, va_K.moved hW.alike hK, hD, by rw [ht]; exact Nat.le_trans hz hS.1⟩, hS.F ht⟩) hS.2.2 d_S_undo_12
set_option maxHeartbeats 4000000 in
set_option maxRecDepth 100000 in
theorem c_S_commit {l : Launch} {D : va_G} {t : Nat → ClassId} {z : Nat} {sa : Nat → Nat} {ws : va_W} {a : Nat → Nat} {k0 : Nat} {v : Nat → Int32}  (hl0 : l.stackTraces = false) (hI : Iv a t k0 v ws) (hc1 : C1 v) : Mu l y_S_commit (Cond.code y_S_commit b_S_commit 2 (.none : Option Jvm.ClassFile.FieldType) :: WS) ({ frames := 8, cells := 2 * nul ws + 1, slots := 257 * nul ws + 6, locals := 126 }) D t z sa ws [.ref (a 0)] (fun r u => r = none ∧ So a t ws u) (fun E u => (E = xISE ∨ E = xAE) ∧ So a t ws u) (Kc ws) (Ks ws) := by
  refine mu_ofW (cc := b_S_commit) (maxL := 2) (ret := (.none : Option Jvm.ClassFile.FieldType)) (by decide) rfl ?_
  intro p e s m args below meth c s₁ B hml hno hv
  obtain ⟨rfl, ⟨hP, hK, hD, hz⟩, hM⟩ := hv
  have hx := B.exec
  have hb := B.bytes
  have hr := B.returns
  have hts : ∀ w ∈ WS, w.before [.ref (a 0)].toArray s = true := fun w h => atoms_spec B.pre w (List.mem_cons_of_mem _ h)
  have hown : s.vm.findClass R_S = some m.cls := findClass_of_methodNamed B.named
  have hlocks := B.notSynchronized
  have hA : ∀ q, s.heap.size ≤ q → Az z q := fun q h => Nat.le_trans hz h
  have hS : va_S (Az z) s.heap s.heap [] := va_S.rf
  have hF : Fr t ws ws := Fr.rf
  have hn : nul ws ≤ nul ws := Nat.le_refl _
  have hl := lv_entry ([.ref (a 0)]) (n := 2) (Nat.le_of_ble_eq_true rfl)
  rw [lg_entry_eq]
  generalize (lg_sl ([.ref (a 0)]) ++ List.replicate (2 - (lg_sl ([.ref (a 0)])).length) Slot.unset).toArray = ls at hl ⊢
  have hl : lv_has ls 2 [(0, .ref (a 0))] := hl
  refine W.widen (k := Kc ws ws) (n := Ks ws ws) (Nat.zero_le _) (Nat.zero_le _) ?_
  refine lv_aload_n hx hb d_S_commit_0 rfl (lv_at hl 0 rfl) ?_
  refine mu_V (n := 0) (As := []) (rest := []) ⟨hx, hb, hml, hown, hts⟩ (c_S_requireOpen (D := D) (t := t) (z := z) (sa := sa) (ws := ws)  hl0 hI ) ml_S_61 im_S_requireOpen se_S_requireOpen in_S cd_S_requireOpen (by decide +kernel) ⟨Nat.le_of_ble_eq_true rfl, Nat.le_of_ble_eq_true rfl⟩ (va_recv hK hP (ci := 5) rfl hI.x) (Pz_at hP hK hD hz hM hS) rfl hl.1 rfl (Nat.le_of_ble_eq_true rfl) d_S_commit_1 ⟨by show 2 * (nul ws - nul ws) + (2 * nul ws + 1) ≤ 2 * nul ws + 1; omega, by show 257 * (nul ws - nul ws) + (257 * nul ws + 6) ≤ 257 * nul ws + 6; omega⟩ hS (fun E ce q u H locs hxp hP hD hS h1 h2 h3 => by obtain ⟨hE, hu⟩ := hxp; rw [hu] at hP hD; exact mu_out (u := ws) hno hlocks h1 h2 h3 hP hK hD hz hS ⟨Or.inl hE, _, _, hI, hF, hn, hc1⟩ (by rw [hu]; show 2 * (nul ws - nul ws) + (2 * (nul ws - nul ws) + 1) ≤ 2 * (nul ws - nul ws) + 1; omega) (by rw [hu]; show 257 * (nul ws - nul ws) + (257 * (nul ws - nul ws) + 6) ≤ 257 * (nul ws - nul ws) + 6; omega)) (fun r9 u1 H locs hp hP hD hS => ?_)
  obtain ⟨hr9, hw9, h01⟩ := hp
  rw [hw9] at hP hD
  subst hr9
  refine W.widen (k := Kc ws ws) (n := Ks ws ws) (by rw [hw9]; show 2 * (nul ws - nul ws) + 2 * (nul ws - nul ws) ≤ 2 * (nul ws - nul ws); omega) (by rw [hw9]; show 257 * (nul ws - nul ws) + 257 * (nul ws - nul ws) ≤ 257 * (nul ws - nul ws); omega) ?_
  clear hw9
  refine W.eq (g2 := F0 m 4 ls []) rfl ?_
  refine lv_aload_n hx hb d_S_commit_4 rfl (lv_at hl 0 rfl) ?_
  refine lv_iconst (v := 1) hx hb d_S_commit_5 (by decide) ?_
  have hv6 : v 6 = 0 := hc1 h01.1
  refine mu_V (n := 1) (As := [.int 1]) (rest := []) ⟨hx, hb, hml, hown, hts⟩ (c_S_foldMarks (D := D) (t := t) (z := z) (sa := sa) (ws := ws) (j1 := 0) hI (by decide) rfl) ml_S_109 im_S_foldMarks se_S_foldMarks in_S cd_S_foldMarks (by decide +kernel) ⟨Nat.le_of_ble_eq_true rfl, Nat.le_of_ble_eq_true rfl⟩ (va_recv hK hP (ci := 5) rfl hI.x) (Pz_at hP hK hD hz hM hS) rfl hl.1 rfl (Nat.le_of_ble_eq_true rfl) d_S_commit_6 ⟨by show 2 * (nul ws - nul ws) + (2 * nul ws + 1) ≤ 2 * nul ws + 1; omega, by show 257 * (nul ws - nul ws) + (257 * nul ws + 6) ≤ 257 * nul ws + 6; omega⟩ hS (fun _ _ _ _ _ _ h => h.elim) (fun r9 u2 H locs hp hP hD hS => ?_)
  obtain ⟨vF, hI, hF9, hn9, hr9, nvF⟩ := hp
  subst hr9
  have hF := hF.trans hF9
  have hn : nul u2 ≤ nul ws := by omega
  refine W.widen (k := Kc ws u2) (n := Ks ws u2) (by show 2 * (nul ws - nul ws) + 2 * (nul ws - nul u2) ≤ 2 * (nul ws - nul u2); omega) (by show 257 * (nul ws - nul ws) + 257 * (nul ws - nul u2) ≤ 257 * (nul ws - nul u2); omega) ?_
  refine W.eq (g2 := F0 m 9 ls []) rfl ?_
  refine lv_aload_n hx hb d_S_commit_9 rfl (lv_at hl 0 rfl) ?_
  refine mu_V (n := 0) (As := []) (rest := []) ⟨hx, hb, hml, hown, hts⟩ (c_S_writeJournal (D := D) (t := t) (z := z) (sa := sa) (ws := u2)  hI ((nvF 6 (by decide)).trans hv6)) ml_S_112 im_S_writeJournal se_S_writeJournal in_S cd_S_writeJournal (by decide +kernel) ⟨Nat.le_of_ble_eq_true rfl, Nat.le_of_ble_eq_true rfl⟩ (va_recv hK hP (ci := 5) rfl hI.x) (Pz_at hP hK hD hz hM hS) rfl hl.1 rfl (Nat.le_of_ble_eq_true rfl) d_S_commit_10 ⟨by show 2 * (nul ws - nul u2) + (2 * nul u2 + 1) ≤ 2 * nul ws + 1; omega, by show 257 * (nul ws - nul u2) + (257 * nul u2 + 6) ≤ 257 * nul ws + 6; omega⟩ hS (fun _ _ _ _ _ _ h => h.elim) (fun r9 u4 H locs hp hP hD hS => ?_)
  obtain ⟨k5, v6, y3, hI, hF9, hn9, hr9, -⟩ := hp
  subst hr9
  have hF := hF.trans hF9
  have hn : nul u4 ≤ nul ws := by omega
  refine W.widen (k := Kc ws u4) (n := Ks ws u4) (by show 2 * (nul ws - nul u2) + 2 * (nul u2 - nul u4) ≤ 2 * (nul ws - nul u4); omega) (by show 257 * (nul ws - nul u2) + 257 * (nul u2 - nul u4) ≤ 257 * (nul ws - nul u4); omega) ?_
  refine W.eq (g2 := F0 m 13 ls [.int y3]) rfl ?_
  refine lv_if_eq (tgt := 37) hx hb d_S_commit_13 rfl (fun q7 => ?_) (fun q7 => ?_)
  · skip
    refine lv_iconst (v := 0) hx hb d_S_commit_37 (by decide) ?_
    refine lv_istore_n (lv' := [(1, .int 0), (0, .ref (a 0))]) hx hb d_S_commit_38 rfl hl (by decide) rfl (fun ls hl => ?_)
    refine lv_iload_n hx hb d_S_commit_39 rfl (lv_at hl 0 rfl) ?_
    refine lv_if_eq (tgt := 77) hx hb d_S_commit_40 rfl (fun _ => ?_) (fun h => absurd h (by decide))
    refine lv_aload_n hx hb d_S_commit_77 rfl (lv_at hl 1 rfl) ?_
    refine lv_iload_n hx hb d_S_commit_78 rfl (lv_at hl 0 rfl) ?_
    refine mu_V (n := 1) (As := [.int 0]) (rest := []) ⟨hx, hb, hml, hown, hts⟩ (c_S_settle (D := D) (t := t) (z := z) (sa := sa) (ws := u4) (p9 := 0) hl0 hI (by decide)) ml_S_128 im_S_settle se_S_settle in_S cd_S_settle (by decide +kernel) ⟨Nat.le_of_ble_eq_true rfl, Nat.le_of_ble_eq_true rfl⟩ (va_recv hK hP (ci := 5) rfl hI.x) (Pz_at hP hK hD hz hM hS) rfl hl.1 rfl (Nat.le_of_ble_eq_true rfl) d_S_commit_79 ⟨by show 2 * (nul ws - nul u4) + (2 * nul u4 + 1) ≤ 2 * nul ws + 1; omega, by show 257 * (nul ws - nul u4) + (257 * nul u4 + 6) ≤ 257 * nul ws + 6; omega⟩ hS (fun E ce q u H locs hxp hP hD hS h1 h2 h3 => by obtain ⟨hE, -, v1, hI1, hF1, hn1, h01⟩ := hxp; exact mu_out (u := u) hno hlocks h1 h2 h3 hP hK hD hz hS ⟨Or.inr hE, _, _, hI1, hF.trans hF1, by omega, fun h => absurd h01 h⟩ (by show 2 * (nul ws - nul u4) + (2 * (nul u4 - nul u) + 1) ≤ 2 * (nul ws - nul u) + 1; omega) (by show 257 * (nul ws - nul u4) + (257 * (nul u4 - nul u) + 6) ≤ 257 * (nul ws - nul u) + 6; omega)) (fun r9 u8 H locs hp hP hD hS => ?_)
    obtain ⟨vS, hI, hF9, hn9, hr9, nvS, hnp⟩ := hp
    subst hr9
    have hF := hF.trans hF9
    have hn : nul u8 ≤ nul ws := by omega
    refine W.widen (k := Kc ws u8) (n := Ks ws u8) (by show 2 * (nul ws - nul u4) + 2 * (nul u4 - nul u8) ≤ 2 * (nul ws - nul u8); omega) (by show 257 * (nul ws - nul u4) + 257 * (nul u4 - nul u8) ≤ 257 * (nul ws - nul u8); omega) ?_
    refine W.eq (g2 := F0 m 82 ls []) rfl ?_
    refine mu_end (u := u8) (v := (none)) (absurd rfl hnp) (Nat.le_refl _) (Nat.le_refl _) ?_
    exact W.vret hx hb hr (fun t9 ht hW => ⟨rfl, ⟨by rw [ht]; exact hP, va_K.moved hW.alike hK, hD, by rw [ht]; exact Nat.le_trans hz hS.1⟩, hS.F ht⟩) hS.2.2 d_S_commit_82
  · skip
    refine lv_aload_n hx hb d_S_commit_16 rfl (lv_at hl 0 rfl) ?_
    refine mu_V (n := 0) (As := []) (rest := []) ⟨hx, hb, hml, hown, hts⟩ (c_S_writeFile (D := D) (t := t) (z := z) (sa := sa) (ws := u4)  hI ) ml_S_116 im_S_writeFile se_S_writeFile in_S cd_S_writeFile (by decide +kernel) ⟨Nat.le_of_ble_eq_true rfl, Nat.le_of_ble_eq_true rfl⟩ (va_recv hK hP (ci := 5) rfl hI.x) (Pz_at hP hK hD hz hM hS) rfl hl.1 rfl (Nat.le_of_ble_eq_true rfl) d_S_commit_17 ⟨by show 2 * (nul ws - nul u4) + (2 * nul u4 + 1) ≤ 2 * nul ws + 1; omega, by show 257 * (nul ws - nul u4) + (257 * nul u4 + 6) ≤ 257 * nul ws + 6; omega⟩ hS (fun _ _ _ _ _ _ h => h.elim) (fun r9 u11 H locs hp hP hD hS => ?_)
    obtain ⟨k12, v13, y10, hI, hF9, hn9, hr9, -⟩ := hp
    subst hr9
    have hF := hF.trans hF9
    have hn : nul u11 ≤ nul ws := by omega
    refine W.widen (k := Kc ws u11) (n := Ks ws u11) (by show 2 * (nul ws - nul u4) + 2 * (nul u4 - nul u11) ≤ 2 * (nul ws - nul u11); omega) (by show 257 * (nul ws - nul u4) + 257 * (nul u4 - nul u11) ≤ 257 * (nul ws - nul u11); omega) ?_
    refine W.eq (g2 := F0 m 20 ls [.int y10]) rfl ?_
    refine lv_if_eq (tgt := 37) hx hb d_S_commit_20 rfl (fun q14 => ?_) (fun q14 => ?_)
    · skip
      refine lv_iconst (v := 0) hx hb d_S_commit_37 (by decide) ?_
      refine lv_istore_n (lv' := [(1, .int 0), (0, .ref (a 0))]) hx hb d_S_commit_38 rfl hl (by decide) rfl (fun ls hl => ?_)
      refine lv_iload_n hx hb d_S_commit_39 rfl (lv_at hl 0 rfl) ?_
      refine lv_if_eq (tgt := 77) hx hb d_S_commit_40 rfl (fun _ => ?_) (fun h => absurd h (by decide))
      refine lv_aload_n hx hb d_S_commit_77 rfl (lv_at hl 1 rfl) ?_
      refine lv_iload_n hx hb d_S_commit_78 rfl (lv_at hl 0 rfl) ?_
      refine mu_V (n := 1) (As := [.int 0]) (rest := []) ⟨hx, hb, hml, hown, hts⟩ (c_S_settle (D := D) (t := t) (z := z) (sa := sa) (ws := u11) (p9 := 0) hl0 hI (by decide)) ml_S_128 im_S_settle se_S_settle in_S cd_S_settle (by decide +kernel) ⟨Nat.le_of_ble_eq_true rfl, Nat.le_of_ble_eq_true rfl⟩ (va_recv hK hP (ci := 5) rfl hI.x) (Pz_at hP hK hD hz hM hS) rfl hl.1 rfl (Nat.le_of_ble_eq_true rfl) d_S_commit_79 ⟨by show 2 * (nul ws - nul u11) + (2 * nul u11 + 1) ≤ 2 * nul ws + 1; omega, by show 257 * (nul ws - nul u11) + (257 * nul u11 + 6) ≤ 257 * nul ws + 6; omega⟩ hS (fun E ce q u H locs hxp hP hD hS h1 h2 h3 => by obtain ⟨hE, -, v1, hI1, hF1, hn1, h01⟩ := hxp; exact mu_out (u := u) hno hlocks h1 h2 h3 hP hK hD hz hS ⟨Or.inr hE, _, _, hI1, hF.trans hF1, by omega, fun h => absurd h01 h⟩ (by show 2 * (nul ws - nul u11) + (2 * (nul u11 - nul u) + 1) ≤ 2 * (nul ws - nul u) + 1; omega) (by show 257 * (nul ws - nul u11) + (257 * (nul u11 - nul u) + 6) ≤ 257 * (nul ws - nul u) + 6; omega)) (fun r9 u15 H locs hp hP hD hS => ?_)
      obtain ⟨vS, hI, hF9, hn9, hr9, nvS, hnp⟩ := hp
      subst hr9
      have hF := hF.trans hF9
      have hn : nul u15 ≤ nul ws := by omega
      refine W.widen (k := Kc ws u15) (n := Ks ws u15) (by show 2 * (nul ws - nul u11) + 2 * (nul u11 - nul u15) ≤ 2 * (nul ws - nul u15); omega) (by show 257 * (nul ws - nul u11) + 257 * (nul u11 - nul u15) ≤ 257 * (nul ws - nul u15); omega) ?_
      refine W.eq (g2 := F0 m 82 ls []) rfl ?_
      refine mu_end (u := u15) (v := (none)) (absurd rfl hnp) (Nat.le_refl _) (Nat.le_refl _) ?_
      exact W.vret hx hb hr (fun t9 ht hW => ⟨rfl, ⟨by rw [ht]; exact hP, va_K.moved hW.alike hK, hD, by rw [ht]; exact Nat.le_trans hz hS.1⟩, hS.F ht⟩) hS.2.2 d_S_commit_82
    · skip
      refine lv_aload_n hx hb d_S_commit_23 rfl (lv_at hl 0 rfl) ?_
      refine va_get (D := D) (ci := 5) (v := .ref (a 8)) (C := R_S) (T := F_S) (N := 10) hx hb hts ws_S hown hK hP 0 hI.x rfl 3 (by decide) (hts _ fl_S_32) (fun _ h9 => h9) rfl d_S_commit_24 ?_
      refine mu_V (n := 0) (As := []) (rest := []) ⟨hx, hb, hml, hown, hts⟩ (c_U_blowsBeforeEmptying (D := D) (t := t) (z := z) (sa := sa) (ws := u11)  hI ) ml_S_119 im_U_blowsBeforeEmptying se_U_blowsBeforeEmptying in_U cd_U_blowsBeforeEmptying (by decide +kernel) ⟨Nat.le_of_ble_eq_true rfl, Nat.le_of_ble_eq_true rfl⟩ (va_recv hK hP (ci := 2) rfl hI.u8) (Pz_at hP hK hD hz hM hS) rfl hl.1 rfl (Nat.le_of_ble_eq_true rfl) d_S_commit_27 ⟨by show 2 * (nul ws - nul u11) + (2 * nul u11 + 1) ≤ 2 * nul ws + 1; omega, by show 257 * (nul ws - nul u11) + (257 * nul u11 + 6) ≤ 257 * nul ws + 6; omega⟩ hS (fun _ _ _ _ _ _ h => h.elim) (fun r9 u17 H locs hp hP hD hS => ?_)
      obtain ⟨y16, hr9, hw9, -⟩ := hp
      rw [hw9] at hP hD
      subst hr9
      refine W.widen (k := Kc ws u11) (n := Ks ws u11) (by rw [hw9]; show 2 * (nul ws - nul u11) + 2 * (nul u11 - nul u11) ≤ 2 * (nul ws - nul u11); omega) (by rw [hw9]; show 257 * (nul ws - nul u11) + 257 * (nul u11 - nul u11) ≤ 257 * (nul ws - nul u11); omega) ?_
      clear hw9
      refine W.eq (g2 := F0 m 30 ls [.int y16]) rfl ?_
      refine lv_if_ne (tgt := 37) hx hb d_S_commit_30 rfl (fun q18 => ?_) (fun q18 => ?_)
      · skip
        refine lv_iconst (v := 0) hx hb d_S_commit_37 (by decide) ?_
        refine lv_istore_n (lv' := [(1, .int 0), (0, .ref (a 0))]) hx hb d_S_commit_38 rfl hl (by decide) rfl (fun ls hl => ?_)
        refine lv_iload_n hx hb d_S_commit_39 rfl (lv_at hl 0 rfl) ?_
        refine lv_if_eq (tgt := 77) hx hb d_S_commit_40 rfl (fun _ => ?_) (fun h => absurd h (by decide))
        refine lv_aload_n hx hb d_S_commit_77 rfl (lv_at hl 1 rfl) ?_
        refine lv_iload_n hx hb d_S_commit_78 rfl (lv_at hl 0 rfl) ?_
        refine mu_V (n := 1) (As := [.int 0]) (rest := []) ⟨hx, hb, hml, hown, hts⟩ (c_S_settle (D := D) (t := t) (z := z) (sa := sa) (ws := u11) (p9 := 0) hl0 hI (by decide)) ml_S_128 im_S_settle se_S_settle in_S cd_S_settle (by decide +kernel) ⟨Nat.le_of_ble_eq_true rfl, Nat.le_of_ble_eq_true rfl⟩ (va_recv hK hP (ci := 5) rfl hI.x) (Pz_at hP hK hD hz hM hS) rfl hl.1 rfl (Nat.le_of_ble_eq_true rfl) d_S_commit_79 ⟨by show 2 * (nul ws - nul u11) + (2 * nul u11 + 1) ≤ 2 * nul ws + 1; omega, by show 257 * (nul ws - nul u11) + (257 * nul u11 + 6) ≤ 257 * nul ws + 6; omega⟩ hS (fun E ce q u H locs hxp hP hD hS h1 h2 h3 => by obtain ⟨hE, -, v1, hI1, hF1, hn1, h01⟩ := hxp; exact mu_out (u := u) hno hlocks h1 h2 h3 hP hK hD hz hS ⟨Or.inr hE, _, _, hI1, hF.trans hF1, by omega, fun h => absurd h01 h⟩ (by show 2 * (nul ws - nul u11) + (2 * (nul u11 - nul u) + 1) ≤ 2 * (nul ws - nul u) + 1; omega) (by show 257 * (nul ws - nul u11) + (257 * (nul u11 - nul u) + 6) ≤ 257 * (nul ws - nul u) + 6; omega)) (fun r9 u19 H locs hp hP hD hS => ?_)
        obtain ⟨vS, hI, hF9, hn9, hr9, nvS, hnp⟩ := hp
        subst hr9
        have hF := hF.trans hF9
        have hn : nul u19 ≤ nul ws := by omega
        refine W.widen (k := Kc ws u19) (n := Ks ws u19) (by show 2 * (nul ws - nul u11) + 2 * (nul u11 - nul u19) ≤ 2 * (nul ws - nul u19); omega) (by show 257 * (nul ws - nul u11) + 257 * (nul u11 - nul u19) ≤ 257 * (nul ws - nul u19); omega) ?_
        refine W.eq (g2 := F0 m 82 ls []) rfl ?_
        refine mu_end (u := u19) (v := (none)) (absurd rfl hnp) (Nat.le_refl _) (Nat.le_refl _) ?_
        exact W.vret hx hb hr (fun t9 ht hW => ⟨rfl, ⟨by rw [ht]; exact hP, va_K.moved hW.alike hK, hD, by rw [ht]; exact Nat.le_trans hz hS.1⟩, hS.F ht⟩) hS.2.2 d_S_commit_82
      · skip
        refine lv_iconst (v := 1) hx hb d_S_commit_33 (by decide) ?_
        refine lv_goto (tgt := 38) hx hb d_S_commit_34 rfl ?_
        refine lv_istore_n (lv' := [(1, .int 1), (0, .ref (a 0))]) hx hb d_S_commit_38 rfl hl (by decide) rfl (fun ls hl => ?_)
        refine lv_iload_n hx hb d_S_commit_39 rfl (lv_at hl 0 rfl) ?_
        refine lv_if_eq (tgt := 77) hx hb d_S_commit_40 rfl (fun h => absurd h (by decide)) (fun _ => ?_)
        refine lv_aload_n hx hb d_S_commit_43 rfl (lv_at hl 1 rfl) ?_
        refine va_get (D := D) (ci := 5) (v := .ref (a 4)) (C := R_S) (T := F_S) (N := 10) hx hb hts ws_S hown hK hP 0 hI.x rfl 1 (by decide) (hts _ fl_S_20) (fun _ h9 => h9) rfl d_S_commit_44 ?_
        refine lv_iconst (v := 0) hx hb d_S_commit_47 (by decide) ?_
        refine mu_V (n := 1) (As := [.int 0]) (rest := []) ⟨hx, hb, hml, hown, hts⟩ (c_Y_cutTo_j (D := D) (t := t) (z := z) (sa := sa) (ws := u11)  hI ) ml_S_122 im_Y_cutTo se_Y_cutTo in_Y cd_Y_cutTo (by decide +kernel) ⟨Nat.le_of_ble_eq_true rfl, Nat.le_of_ble_eq_true rfl⟩ (va_recv hK hP (ci := 3) rfl hI.y4) (Pz_at hP hK hD hz hM hS) rfl hl.1 rfl (Nat.le_of_ble_eq_true rfl) d_S_commit_48 ⟨by show 2 * (nul ws - nul u11) + (2 * nul u11 + 1) ≤ 2 * nul ws + 1; omega, by show 257 * (nul ws - nul u11) + (257 * nul u11 + 6) ≤ 257 * nul ws + 6; omega⟩ hS (fun _ _ _ _ _ _ h => h.elim) (fun r9 u20 H locs hp hP hD hS => ?_)
        obtain ⟨vC, hI, hF9, hn9, hr9, nvC, hC6⟩ := hp
        subst hr9
        have hF := hF.trans hF9
        have hn : nul u20 ≤ nul ws := by omega
        refine W.widen (k := Kc ws u20) (n := Ks ws u20) (by show 2 * (nul ws - nul u11) + 2 * (nul u11 - nul u20) ≤ 2 * (nul ws - nul u20); omega) (by show 257 * (nul ws - nul u11) + 257 * (nul u11 - nul u20) ≤ 257 * (nul ws - nul u20); omega) ?_
        refine W.eq (g2 := F0 m 51 ls []) rfl ?_
        refine lv_aload_n hx hb d_S_commit_51 rfl (lv_at hl 1 rfl) ?_
        refine lv_dup hx hb d_S_commit_52 rfl ?_
        refine va_get (D := D) (ci := 5) (v := .int (vC 4)) (C := R_S) (T := F_S) (N := 10) hx hb hts ws_S hown hK hP 0 hI.x rfl 9 (by decide) (hts _ fl_S_54) (fun _ h9 => h9) rfl d_S_commit_53 ?_
        refine lv_iconst (v := 1) hx hb d_S_commit_56 (by decide) ?_
        refine lv_iadd hx hb d_S_commit_57 ?_
        refine lv_topi (fun v21 hv21 => ?_)
        refine va_put (D := D) (ci := 5) (v := .int v21) (ty := .int) (C := R_S) (T := F_S) (N := 10) hx hb hts ws_S t_S ok_S n_S hown hK hP hD hS 0 hI.x rfl 9 (by decide) (hts _ fl_S_54) (fun _ h9 => h9) rfl (by decide +kernel) rfl rfl (Nat.le_of_ble_eq_true rfl) d_S_commit_58 (fun H locs hP hD hS => ?_)
        obtain ⟨v22, hv22⟩ : ∃ q : Nat → Int32, q = upd vC 4 v21 := ⟨_, rfl⟩
        have gv22 : v22 4 = v21 := by rw [hv22]; exact pk_us
        have nv22 : ∀ i, i ≠ 4 → v22 i = vC i := fun i hi => by rw [hv22]; exact pk_un hi
        have hP : va_P D Cl (u20.set 0 (cX a v22)) H := by rw [hv22]; exact hP
        have hD : va_D (Az z) (u20.set 0 (cX a v22)) := by rw [hv22]; exact hD
        obtain ⟨w23, hw⟩ : ∃ q, q = u20.set 0 (cX a v22) := ⟨_, rfl⟩
        have hP : va_P D Cl (u20.set 0 (cX a v22)) H := hP
        have hD : va_D (Az z) (u20.set 0 (cX a v22)) := hD
        have hF : Fr t ws (u20.set 0 (cX a v22)) := hF.set (by decide) (by decide)
        have hI := hI.setX (v' := v22) (fun i hi => nv22 i (by omega)) (by rw [nv22 2 (by decide)]; exact hI.bd.1) (by rw [nv22 3 (by decide)]; exact hI.bd.2.1)
        have hq9 : nul (u20.set 0 (cX a v22)) = nul u20 := nul_set (by decide)
        rw [← hw] at hP hD hF hI hq9
        clear hw
        have hn : nul w23 ≤ nul ws := by omega
        refine W.widen (k := Kc ws w23) (n := Ks ws w23) (by show 2 * (nul ws - nul u20) ≤ 2 * (nul ws - nul w23); omega) (by show 257 * (nul ws - nul u20) ≤ 257 * (nul ws - nul w23); omega) ?_
        refine lv_aload_n hx hb d_S_commit_61 rfl (lv_at hl 1 rfl) ?_
        refine va_get (D := D) (ci := 5) (v := .ref (a 8)) (C := R_S) (T := F_S) (N := 10) hx hb hts ws_S hown hK hP 0 hI.x rfl 3 (by decide) (hts _ fl_S_32) (fun _ h9 => h9) rfl d_S_commit_62 ?_
        refine mu_V (n := 0) (As := []) (rest := []) ⟨hx, hb, hml, hown, hts⟩ (c_U_blowsBehindEmptying (D := D) (t := t) (z := z) (sa := sa) (ws := w23)  hI ) ml_S_125 im_U_blowsBehindEmptying se_U_blowsBehindEmptying in_U cd_U_blowsBehindEmptying (by decide +kernel) ⟨Nat.le_of_ble_eq_true rfl, Nat.le_of_ble_eq_true rfl⟩ (va_recv hK hP (ci := 2) rfl hI.u8) (Pz_at hP hK hD hz hM hS) rfl hl.1 rfl (Nat.le_of_ble_eq_true rfl) d_S_commit_65 ⟨by show 2 * (nul ws - nul w23) + (2 * nul w23 + 1) ≤ 2 * nul ws + 1; omega, by show 257 * (nul ws - nul w23) + (257 * nul w23 + 6) ≤ 257 * nul ws + 6; omega⟩ hS (fun _ _ _ _ _ _ h => h.elim) (fun r9 u25 H locs hp hP hD hS => ?_)
        obtain ⟨y24, hr9, hw9, -⟩ := hp
        rw [hw9] at hP hD
        subst hr9
        refine W.widen (k := Kc ws w23) (n := Ks ws w23) (by rw [hw9]; show 2 * (nul ws - nul w23) + 2 * (nul w23 - nul w23) ≤ 2 * (nul ws - nul w23); omega) (by rw [hw9]; show 257 * (nul ws - nul w23) + 257 * (nul w23 - nul w23) ≤ 257 * (nul ws - nul w23); omega) ?_
        clear hw9
        refine W.eq (g2 := F0 m 68 ls [.int y24]) rfl ?_
        refine lv_if_ne (tgt := 75) hx hb d_S_commit_68 rfl (fun q26 => ?_) (fun q26 => ?_)
        · skip
          refine lv_iconst (v := 0) hx hb d_S_commit_75 (by decide) ?_
          refine lv_istore_n (lv' := [(1, .int 0), (0, .ref (a 0))]) hx hb d_S_commit_76 rfl hl (by decide) rfl (fun ls hl => ?_)
          refine lv_aload_n hx hb d_S_commit_77 rfl (lv_at hl 1 rfl) ?_
          refine lv_iload_n hx hb d_S_commit_78 rfl (lv_at hl 0 rfl) ?_
          refine mu_V (n := 1) (As := [.int 0]) (rest := []) ⟨hx, hb, hml, hown, hts⟩ (c_S_settle (D := D) (t := t) (z := z) (sa := sa) (ws := w23) (p9 := 0) hl0 hI (by decide)) ml_S_128 im_S_settle se_S_settle in_S cd_S_settle (by decide +kernel) ⟨Nat.le_of_ble_eq_true rfl, Nat.le_of_ble_eq_true rfl⟩ (va_recv hK hP (ci := 5) rfl hI.x) (Pz_at hP hK hD hz hM hS) rfl hl.1 rfl (Nat.le_of_ble_eq_true rfl) d_S_commit_79 ⟨by show 2 * (nul ws - nul w23) + (2 * nul w23 + 1) ≤ 2 * nul ws + 1; omega, by show 257 * (nul ws - nul w23) + (257 * nul w23 + 6) ≤ 257 * nul ws + 6; omega⟩ hS (fun E ce q u H locs hxp hP hD hS h1 h2 h3 => by obtain ⟨hE, -, v1, hI1, hF1, hn1, h01⟩ := hxp; exact mu_out (u := u) hno hlocks h1 h2 h3 hP hK hD hz hS ⟨Or.inr hE, _, _, hI1, hF.trans hF1, by omega, fun h => absurd h01 h⟩ (by show 2 * (nul ws - nul w23) + (2 * (nul w23 - nul u) + 1) ≤ 2 * (nul ws - nul u) + 1; omega) (by show 257 * (nul ws - nul w23) + (257 * (nul w23 - nul u) + 6) ≤ 257 * (nul ws - nul u) + 6; omega)) (fun r9 u27 H locs hp hP hD hS => ?_)
          obtain ⟨vS, hI, hF9, hn9, hr9, nvS, hnp⟩ := hp
          subst hr9
          have hF := hF.trans hF9
          have hn : nul u27 ≤ nul ws := by omega
          refine W.widen (k := Kc ws u27) (n := Ks ws u27) (by show 2 * (nul ws - nul w23) + 2 * (nul w23 - nul u27) ≤ 2 * (nul ws - nul u27); omega) (by show 257 * (nul ws - nul w23) + 257 * (nul w23 - nul u27) ≤ 257 * (nul ws - nul u27); omega) ?_
          refine W.eq (g2 := F0 m 82 ls []) rfl ?_
          refine mu_end (u := u27) (v := (none)) (absurd rfl hnp) (Nat.le_refl _) (Nat.le_refl _) ?_
          exact W.vret hx hb hr (fun t9 ht hW => ⟨rfl, ⟨by rw [ht]; exact hP, va_K.moved hW.alike hK, hD, by rw [ht]; exact Nat.le_trans hz hS.1⟩, hS.F ht⟩) hS.2.2 d_S_commit_82
        · skip
          refine lv_iconst (v := 1) hx hb d_S_commit_71 (by decide) ?_
          refine lv_goto (tgt := 76) hx hb d_S_commit_72 rfl ?_
          refine lv_istore_n (lv' := [(1, .int 1), (0, .ref (a 0))]) hx hb d_S_commit_76 rfl hl (by decide) rfl (fun ls hl => ?_)
          refine lv_aload_n hx hb d_S_commit_77 rfl (lv_at hl 1 rfl) ?_
          refine lv_iload_n hx hb d_S_commit_78 rfl (lv_at hl 0 rfl) ?_
          refine mu_V (n := 1) (As := [.int 1]) (rest := []) ⟨hx, hb, hml, hown, hts⟩ (c_S_settle (D := D) (t := t) (z := z) (sa := sa) (ws := w23) (p9 := 1) hl0 hI (by decide)) ml_S_128 im_S_settle se_S_settle in_S cd_S_settle (by decide +kernel) ⟨Nat.le_of_ble_eq_true rfl, Nat.le_of_ble_eq_true rfl⟩ (va_recv hK hP (ci := 5) rfl hI.x) (Pz_at hP hK hD hz hM hS) rfl hl.1 rfl (Nat.le_of_ble_eq_true rfl) d_S_commit_79 ⟨by show 2 * (nul ws - nul w23) + (2 * nul w23 + 1) ≤ 2 * nul ws + 1; omega, by show 257 * (nul ws - nul w23) + (257 * nul w23 + 6) ≤ 257 * nul ws + 6; omega⟩ hS (fun E ce q u H locs hxp hP hD hS h1 h2 h3 => by obtain ⟨hE, -, v1, hI1, hF1, hn1, h01⟩ := hxp; exact mu_out (u := u) hno hlocks h1 h2 h3 hP hK hD hz hS ⟨Or.inr hE, _, _, hI1, hF.trans hF1, by omega, fun h => absurd h01 h⟩ (by show 2 * (nul ws - nul w23) + (2 * (nul w23 - nul u) + 1) ≤ 2 * (nul ws - nul u) + 1; omega) (by show 257 * (nul ws - nul w23) + (257 * (nul w23 - nul u) + 6) ≤ 257 * (nul ws - nul u) + 6; omega)) (fun r9 u28 H locs hp hP hD hS => ?_)
          obtain ⟨vS, hI, hF9, hn9, hr9, nvS, hnp⟩ := hp
          subst hr9
          have hF := hF.trans hF9
          have hn : nul u28 ≤ nul ws := by omega
          refine W.widen (k := Kc ws u28) (n := Ks ws u28) (by show 2 * (nul ws - nul w23) + 2 * (nul w23 - nul u28) ≤ 2 * (nul ws - nul u28); omega) (by show 257 * (nul ws - nul w23) + 257 * (nul w23 - nul u28) ≤ 257 * (nul ws - nul u28); omega) ?_
          refine W.eq (g2 := F0 m 82 ls []) rfl ?_
          refine mu_end (u := u28) (v := (none)) ⟨rfl, _, _, hI, hF, hn, fun _ => by rw [nvS 6 (Or.inr rfl), nv22 6 (by decide), hC6]⟩ (Nat.le_refl _) (Nat.le_refl _) ?_
          exact W.vret hx hb hr (fun t9 ht hW => ⟨rfl, ⟨by rw [ht]; exact hP, va_K.moved hW.alike hK, hD, by rw [ht]; exact Nat.le_trans hz hS.1⟩, hS.F ht⟩) hS.2.2 d_S_commit_82
set_option maxHeartbeats 4000000 in
set_option maxRecDepth 100000 in
theorem c_S_reopen {l : Launch} {D : va_G} {t : Nat → ClassId} {z : Nat} {sa : Nat → Nat} {ws : va_W} {a : Nat → Nat} {k0 : Nat} {v : Nat → Int32}  (hl0 : l.stackTraces = false) (hI : Iv a t k0 v ws) (hc1 : C1 v) : Mu l y_S_reopen (Cond.code y_S_reopen b_S_reopen 2 (some .int) :: WS) ({ frames := 7, cells := 2 * nul ws + 1, slots := 257 * nul ws + 6, locals := 129 }) D t z sa ws [.ref (a 0)] (fun r u => (∃ y, r = some (.int y)) ∧ So a t ws u) (fun E u => E = xAE ∧ So a t ws u) (Kc ws) (Ks ws) := by
  refine mu_ofW (cc := b_S_reopen) (maxL := 2) (ret := (some .int)) (by decide) rfl ?_
  intro p e s m args below meth c s₁ B hml hno hv
  obtain ⟨rfl, ⟨hP, hK, hD, hz⟩, hM⟩ := hv
  have hx := B.exec
  have hb := B.bytes
  have hr := B.returns
  have hts : ∀ w ∈ WS, w.before [.ref (a 0)].toArray s = true := fun w h => atoms_spec B.pre w (List.mem_cons_of_mem _ h)
  have hown : s.vm.findClass R_S = some m.cls := findClass_of_methodNamed B.named
  have hlocks := B.notSynchronized
  have hA : ∀ q, s.heap.size ≤ q → Az z q := fun q h => Nat.le_trans hz h
  have hS : va_S (Az z) s.heap s.heap [] := va_S.rf
  have hF : Fr t ws ws := Fr.rf
  have hn : nul ws ≤ nul ws := Nat.le_refl _
  have hl := lv_entry ([.ref (a 0)]) (n := 2) (Nat.le_of_ble_eq_true rfl)
  rw [lg_entry_eq]
  generalize (lg_sl ([.ref (a 0)]) ++ List.replicate (2 - (lg_sl ([.ref (a 0)])).length) Slot.unset).toArray = ls at hl ⊢
  have hl : lv_has ls 2 [(0, .ref (a 0))] := hl
  refine W.widen (k := Kc ws ws) (n := Ks ws ws) (Nat.zero_le _) (Nat.zero_le _) ?_
  refine lv_aload_n hx hb d_S_reopen_0 rfl (lv_at hl 0 rfl) ?_
  refine mu_V (n := 0) (As := []) (rest := []) ⟨hx, hb, hml, hown, hts⟩ (c_S_undo (D := D) (t := t) (z := z) (sa := sa) (ws := ws)  hI ) ml_S_160 im_S_undo se_S_undo in_S cd_S_undo (by decide +kernel) ⟨Nat.le_of_ble_eq_true rfl, Nat.le_of_ble_eq_true rfl⟩ (va_recv hK hP (ci := 5) rfl hI.x) (Pz_at hP hK hD hz hM hS) rfl hl.1 rfl (Nat.le_of_ble_eq_true rfl) d_S_reopen_1 ⟨by show 2 * (nul ws - nul ws) + (2 * nul ws + 1) ≤ 2 * nul ws + 1; omega, by show 257 * (nul ws - nul ws) + (257 * nul ws + 6) ≤ 257 * nul ws + 6; omega⟩ hS (fun _ _ _ _ _ _ h => h.elim) (fun r9 u2 H locs hp hP hD hS => ?_)
  obtain ⟨k3, v4, y1, hI, hF9, hn9, hr9, -⟩ := hp
  subst hr9
  have hF := hF.trans hF9
  have hn : nul u2 ≤ nul ws := by omega
  refine W.widen (k := Kc ws u2) (n := Ks ws u2) (by show 2 * (nul ws - nul ws) + 2 * (nul ws - nul u2) ≤ 2 * (nul ws - nul u2); omega) (by show 257 * (nul ws - nul ws) + 257 * (nul ws - nul u2) ≤ 257 * (nul ws - nul u2); omega) ?_
  refine W.eq (g2 := F0 m 4 ls [.int y1]) rfl ?_
  refine lv_if_eq (tgt := 21) hx hb d_S_reopen_4 rfl (fun q5 => ?_) (fun q5 => ?_)
  · skip
    refine lv_iconst (v := 0) hx hb d_S_reopen_21 (by decide) ?_
    refine lv_istore_n (lv' := [(1, .int 0), (0, .ref (a 0))]) hx hb d_S_reopen_22 rfl hl (by decide) rfl (fun ls hl => ?_)
    refine lv_iload_n hx hb d_S_reopen_23 rfl (lv_at hl 0 rfl) ?_
    refine lv_if_eq (tgt := 35) hx hb d_S_reopen_24 rfl (fun _ => ?_) (fun h => absurd h (by decide))
    refine lv_aload_n hx hb d_S_reopen_35 rfl (lv_at hl 1 rfl) ?_
    refine lv_iload_n hx hb d_S_reopen_36 rfl (lv_at hl 0 rfl) ?_
    refine mu_V (n := 1) (As := [.int 0]) (rest := []) ⟨hx, hb, hml, hown, hts⟩ (c_S_settle (D := D) (t := t) (z := z) (sa := sa) (ws := u2) (p9 := 0) hl0 hI (by decide)) ml_S_128 im_S_settle se_S_settle in_S cd_S_settle (by decide +kernel) ⟨Nat.le_of_ble_eq_true rfl, Nat.le_of_ble_eq_true rfl⟩ (va_recv hK hP (ci := 5) rfl hI.x) (Pz_at hP hK hD hz hM hS) rfl hl.1 rfl (Nat.le_of_ble_eq_true rfl) d_S_reopen_37 ⟨by show 2 * (nul ws - nul u2) + (2 * nul u2 + 1) ≤ 2 * nul ws + 1; omega, by show 257 * (nul ws - nul u2) + (257 * nul u2 + 6) ≤ 257 * nul ws + 6; omega⟩ hS (fun E ce q u H locs hxp hP hD hS h1 h2 h3 => by obtain ⟨hE, -, v1, hI1, hF1, hn1, h01⟩ := hxp; exact mu_out (u := u) hno hlocks h1 h2 h3 hP hK hD hz hS ⟨hE, _, _, hI1, hF.trans hF1, by omega, fun h => absurd h01 h⟩ (by show 2 * (nul ws - nul u2) + (2 * (nul u2 - nul u) + 1) ≤ 2 * (nul ws - nul u) + 1; omega) (by show 257 * (nul ws - nul u2) + (257 * (nul u2 - nul u) + 6) ≤ 257 * (nul ws - nul u) + 6; omega)) (fun r9 u6 H locs hp hP hD hS => ?_)
    obtain ⟨vS, hI, hF9, hn9, hr9, nvS, hnp⟩ := hp
    subst hr9
    have hF := hF.trans hF9
    have hn : nul u6 ≤ nul ws := by omega
    refine W.widen (k := Kc ws u6) (n := Ks ws u6) (by show 2 * (nul ws - nul u2) + 2 * (nul u2 - nul u6) ≤ 2 * (nul ws - nul u6); omega) (by show 257 * (nul ws - nul u2) + 257 * (nul u2 - nul u6) ≤ 257 * (nul ws - nul u6); omega) ?_
    refine W.eq (g2 := F0 m 40 ls []) rfl ?_
    refine lv_aload_n hx hb d_S_reopen_40 rfl (lv_at hl 1 rfl) ?_
    refine va_get (D := D) (ci := 5) (v := .int (vS 3)) (C := R_S) (T := F_S) (N := 10) hx hb hts ws_S hown hK hP 0 hI.x rfl 8 (by decide) (hts _ fl_S_51) (fun _ h9 => h9) rfl d_S_reopen_41 ?_
    refine mu_end (u := u6) (v := (some (.int (vS 3)))) (absurd rfl hnp) (Nat.le_refl _) (Nat.le_refl _) ?_
    exact W.iret (v := (vS 3)) hx hb hr (fun t9 ht hW => ⟨rfl, ⟨by rw [ht]; exact hP, va_K.moved hW.alike hK, hD, by rw [ht]; exact Nat.le_trans hz hS.1⟩, hS.F ht⟩) hS.2.2 d_S_reopen_44
  · skip
    refine lv_aload_n hx hb d_S_reopen_7 rfl (lv_at hl 0 rfl) ?_
    refine va_get (D := D) (ci := 5) (v := .ref (a 8)) (C := R_S) (T := F_S) (N := 10) hx hb hts ws_S hown hK hP 0 hI.x rfl 3 (by decide) (hts _ fl_S_32) (fun _ h9 => h9) rfl d_S_reopen_8 ?_
    refine mu_V (n := 0) (As := []) (rest := []) ⟨hx, hb, hml, hown, hts⟩ (c_U_blowsInReopen (D := D) (t := t) (z := z) (sa := sa) (ws := u2)  hI ) ml_S_163 im_U_blowsInReopen se_U_blowsInReopen in_U cd_U_blowsInReopen (by decide +kernel) ⟨Nat.le_of_ble_eq_true rfl, Nat.le_of_ble_eq_true rfl⟩ (va_recv hK hP (ci := 2) rfl hI.u8) (Pz_at hP hK hD hz hM hS) rfl hl.1 rfl (Nat.le_of_ble_eq_true rfl) d_S_reopen_11 ⟨by show 2 * (nul ws - nul u2) + (2 * nul u2 + 1) ≤ 2 * nul ws + 1; omega, by show 257 * (nul ws - nul u2) + (257 * nul u2 + 6) ≤ 257 * nul ws + 6; omega⟩ hS (fun _ _ _ _ _ _ h => h.elim) (fun r9 u8 H locs hp hP hD hS => ?_)
    obtain ⟨y7, hr9, hw9, -⟩ := hp
    rw [hw9] at hP hD
    subst hr9
    refine W.widen (k := Kc ws u2) (n := Ks ws u2) (by rw [hw9]; show 2 * (nul ws - nul u2) + 2 * (nul u2 - nul u2) ≤ 2 * (nul ws - nul u2); omega) (by rw [hw9]; show 257 * (nul ws - nul u2) + 257 * (nul u2 - nul u2) ≤ 257 * (nul ws - nul u2); omega) ?_
    clear hw9
    refine W.eq (g2 := F0 m 14 ls [.int y7]) rfl ?_
    refine lv_if_ne (tgt := 21) hx hb d_S_reopen_14 rfl (fun q10 => ?_) (fun q10 => ?_)
    · skip
      refine lv_iconst (v := 0) hx hb d_S_reopen_21 (by decide) ?_
      refine lv_istore_n (lv' := [(1, .int 0), (0, .ref (a 0))]) hx hb d_S_reopen_22 rfl hl (by decide) rfl (fun ls hl => ?_)
      refine lv_iload_n hx hb d_S_reopen_23 rfl (lv_at hl 0 rfl) ?_
      refine lv_if_eq (tgt := 35) hx hb d_S_reopen_24 rfl (fun _ => ?_) (fun h => absurd h (by decide))
      refine lv_aload_n hx hb d_S_reopen_35 rfl (lv_at hl 1 rfl) ?_
      refine lv_iload_n hx hb d_S_reopen_36 rfl (lv_at hl 0 rfl) ?_
      refine mu_V (n := 1) (As := [.int 0]) (rest := []) ⟨hx, hb, hml, hown, hts⟩ (c_S_settle (D := D) (t := t) (z := z) (sa := sa) (ws := u2) (p9 := 0) hl0 hI (by decide)) ml_S_128 im_S_settle se_S_settle in_S cd_S_settle (by decide +kernel) ⟨Nat.le_of_ble_eq_true rfl, Nat.le_of_ble_eq_true rfl⟩ (va_recv hK hP (ci := 5) rfl hI.x) (Pz_at hP hK hD hz hM hS) rfl hl.1 rfl (Nat.le_of_ble_eq_true rfl) d_S_reopen_37 ⟨by show 2 * (nul ws - nul u2) + (2 * nul u2 + 1) ≤ 2 * nul ws + 1; omega, by show 257 * (nul ws - nul u2) + (257 * nul u2 + 6) ≤ 257 * nul ws + 6; omega⟩ hS (fun E ce q u H locs hxp hP hD hS h1 h2 h3 => by obtain ⟨hE, -, v1, hI1, hF1, hn1, h01⟩ := hxp; exact mu_out (u := u) hno hlocks h1 h2 h3 hP hK hD hz hS ⟨hE, _, _, hI1, hF.trans hF1, by omega, fun h => absurd h01 h⟩ (by show 2 * (nul ws - nul u2) + (2 * (nul u2 - nul u) + 1) ≤ 2 * (nul ws - nul u) + 1; omega) (by show 257 * (nul ws - nul u2) + (257 * (nul u2 - nul u) + 6) ≤ 257 * (nul ws - nul u) + 6; omega)) (fun r9 u11 H locs hp hP hD hS => ?_)
      obtain ⟨vS, hI, hF9, hn9, hr9, nvS, hnp⟩ := hp
      subst hr9
      have hF := hF.trans hF9
      have hn : nul u11 ≤ nul ws := by omega
      refine W.widen (k := Kc ws u11) (n := Ks ws u11) (by show 2 * (nul ws - nul u2) + 2 * (nul u2 - nul u11) ≤ 2 * (nul ws - nul u11); omega) (by show 257 * (nul ws - nul u2) + 257 * (nul u2 - nul u11) ≤ 257 * (nul ws - nul u11); omega) ?_
      refine W.eq (g2 := F0 m 40 ls []) rfl ?_
      refine lv_aload_n hx hb d_S_reopen_40 rfl (lv_at hl 1 rfl) ?_
      refine va_get (D := D) (ci := 5) (v := .int (vS 3)) (C := R_S) (T := F_S) (N := 10) hx hb hts ws_S hown hK hP 0 hI.x rfl 8 (by decide) (hts _ fl_S_51) (fun _ h9 => h9) rfl d_S_reopen_41 ?_
      refine mu_end (u := u11) (v := (some (.int (vS 3)))) (absurd rfl hnp) (Nat.le_refl _) (Nat.le_refl _) ?_
      exact W.iret (v := (vS 3)) hx hb hr (fun t9 ht hW => ⟨rfl, ⟨by rw [ht]; exact hP, va_K.moved hW.alike hK, hD, by rw [ht]; exact Nat.le_trans hz hS.1⟩, hS.F ht⟩) hS.2.2 d_S_reopen_44
    · skip
      refine lv_iconst (v := 1) hx hb d_S_reopen_17 (by decide) ?_
      refine lv_goto (tgt := 22) hx hb d_S_reopen_18 rfl ?_
      refine lv_istore_n (lv' := [(1, .int 1), (0, .ref (a 0))]) hx hb d_S_reopen_22 rfl hl (by decide) rfl (fun ls hl => ?_)
      refine lv_iload_n hx hb d_S_reopen_23 rfl (lv_at hl 0 rfl) ?_
      refine lv_if_eq (tgt := 35) hx hb d_S_reopen_24 rfl (fun h => absurd h (by decide)) (fun _ => ?_)
      refine lv_aload_n hx hb d_S_reopen_27 rfl (lv_at hl 1 rfl) ?_
      refine va_get (D := D) (ci := 5) (v := .ref (a 4)) (C := R_S) (T := F_S) (N := 10) hx hb hts ws_S hown hK hP 0 hI.x rfl 1 (by decide) (hts _ fl_S_20) (fun _ h9 => h9) rfl d_S_reopen_28 ?_
      refine lv_iconst (v := 0) hx hb d_S_reopen_31 (by decide) ?_
      refine mu_V (n := 1) (As := [.int 0]) (rest := []) ⟨hx, hb, hml, hown, hts⟩ (c_Y_cutTo_j (D := D) (t := t) (z := z) (sa := sa) (ws := u2)  hI ) ml_S_122 im_Y_cutTo se_Y_cutTo in_Y cd_Y_cutTo (by decide +kernel) ⟨Nat.le_of_ble_eq_true rfl, Nat.le_of_ble_eq_true rfl⟩ (va_recv hK hP (ci := 3) rfl hI.y4) (Pz_at hP hK hD hz hM hS) rfl hl.1 rfl (Nat.le_of_ble_eq_true rfl) d_S_reopen_32 ⟨by show 2 * (nul ws - nul u2) + (2 * nul u2 + 1) ≤ 2 * nul ws + 1; omega, by show 257 * (nul ws - nul u2) + (257 * nul u2 + 6) ≤ 257 * nul ws + 6; omega⟩ hS (fun _ _ _ _ _ _ h => h.elim) (fun r9 u12 H locs hp hP hD hS => ?_)
      obtain ⟨vC, hI, hF9, hn9, hr9, nvC, hC6⟩ := hp
      subst hr9
      have hF := hF.trans hF9
      have hn : nul u12 ≤ nul ws := by omega
      refine W.widen (k := Kc ws u12) (n := Ks ws u12) (by show 2 * (nul ws - nul u2) + 2 * (nul u2 - nul u12) ≤ 2 * (nul ws - nul u12); omega) (by show 257 * (nul ws - nul u2) + 257 * (nul u2 - nul u12) ≤ 257 * (nul ws - nul u12); omega) ?_
      refine W.eq (g2 := F0 m 35 ls []) rfl ?_
      refine lv_aload_n hx hb d_S_reopen_35 rfl (lv_at hl 1 rfl) ?_
      refine lv_iload_n hx hb d_S_reopen_36 rfl (lv_at hl 0 rfl) ?_
      refine mu_V (n := 1) (As := [.int 1]) (rest := []) ⟨hx, hb, hml, hown, hts⟩ (c_S_settle (D := D) (t := t) (z := z) (sa := sa) (ws := u12) (p9 := 1) hl0 hI (by decide)) ml_S_128 im_S_settle se_S_settle in_S cd_S_settle (by decide +kernel) ⟨Nat.le_of_ble_eq_true rfl, Nat.le_of_ble_eq_true rfl⟩ (va_recv hK hP (ci := 5) rfl hI.x) (Pz_at hP hK hD hz hM hS) rfl hl.1 rfl (Nat.le_of_ble_eq_true rfl) d_S_reopen_37 ⟨by show 2 * (nul ws - nul u12) + (2 * nul u12 + 1) ≤ 2 * nul ws + 1; omega, by show 257 * (nul ws - nul u12) + (257 * nul u12 + 6) ≤ 257 * nul ws + 6; omega⟩ hS (fun E ce q u H locs hxp hP hD hS h1 h2 h3 => by obtain ⟨hE, -, v1, hI1, hF1, hn1, h01⟩ := hxp; exact mu_out (u := u) hno hlocks h1 h2 h3 hP hK hD hz hS ⟨hE, _, _, hI1, hF.trans hF1, by omega, fun h => absurd h01 h⟩ (by show 2 * (nul ws - nul u12) + (2 * (nul u12 - nul u) + 1) ≤ 2 * (nul ws - nul u) + 1; omega) (by show 257 * (nul ws - nul u12) + (257 * (nul u12 - nul u) + 6) ≤ 257 * (nul ws - nul u) + 6; omega)) (fun r9 u13 H locs hp hP hD hS => ?_)
      obtain ⟨vS, hI, hF9, hn9, hr9, nvS, hnp⟩ := hp
      subst hr9
      have hF := hF.trans hF9
      have hn : nul u13 ≤ nul ws := by omega
      refine W.widen (k := Kc ws u13) (n := Ks ws u13) (by show 2 * (nul ws - nul u12) + 2 * (nul u12 - nul u13) ≤ 2 * (nul ws - nul u13); omega) (by show 257 * (nul ws - nul u12) + 257 * (nul u12 - nul u13) ≤ 257 * (nul ws - nul u13); omega) ?_
      refine W.eq (g2 := F0 m 40 ls []) rfl ?_
      refine lv_aload_n hx hb d_S_reopen_40 rfl (lv_at hl 1 rfl) ?_
      refine va_get (D := D) (ci := 5) (v := .int (vS 3)) (C := R_S) (T := F_S) (N := 10) hx hb hts ws_S hown hK hP 0 hI.x rfl 8 (by decide) (hts _ fl_S_51) (fun _ h9 => h9) rfl d_S_reopen_41 ?_
      refine mu_end (u := u13) (v := (some (.int (vS 3)))) ⟨⟨_, rfl⟩, _, _, hI, hF, hn, fun _ => by rw [nvS 6 (Or.inr rfl), hC6]⟩ (Nat.le_refl _) (Nat.le_refl _) ?_
      exact W.iret (v := (vS 3)) hx hb hr (fun t9 ht hW => ⟨rfl, ⟨by rw [ht]; exact hP, va_K.moved hW.alike hK, hD, by rw [ht]; exact Nat.le_trans hz hS.1⟩, hS.F ht⟩) hS.2.2 d_S_reopen_44
