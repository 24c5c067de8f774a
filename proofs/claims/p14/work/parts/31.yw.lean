theorem wr_div {A i : Nat} (h : A + i ≤ 199936) : (nI A + nI i) / 256 = nI ((A + i) / 256) := by rw [nI_add]; exact pk_div (d := 256) (by omega) (by decide) (by decide)
theorem wr_rem {A i : Nat} (h : A + i ≤ 199936) : (nI A + nI i) - (nI A + nI i) / 256 * 256 = nI ((A + i) % 256) := by rw [nI_add]; exact pk_rem (d := 256) (by omega) (by decide) (by decide)
theorem mx_nat {m n : Nat} (hm : m < 2 ^ 31) (hn : n < 2 ^ 31) : (if nI m < nI n then nI n else nI m) = nI (max m n) := by
  by_cases h : m < n
  · rw [if_pos ((nI_ltI hm hn).mpr h), Nat.max_eq_right (Nat.le_of_lt h)]
  · rw [if_neg (fun q => h ((nI_ltI hm hn).mp q)), Nat.max_eq_left (Nat.not_lt.mp h)]
/-- a byte array of L places: the record, or a block's -/
def BA (t : Nat → ClassId) (ws : va_W) (c L : Nat) : Prop := ∃ (k : Nat) (f : Nat → Int32), (k = 9 ∨ 42 ≤ k) ∧ ws[k]? = some (c, .inl (t 0, L, .inl f))
theorem BA.go {t : Nat → ClassId} {ws u : va_W} {c L : Nat} (h : BA t ws c L) (hF : Fr t ws u) : BA t u c L := by
  obtain ⟨k, f, h1, h2⟩ := h
  obtain ⟨f', h3⟩ := hF.2.2 k c L f h1 h2
  exact ⟨k, f', h1, h3⟩
theorem upd4 {f : Nat → Int32} {k : Nat} {x : Int32} (h : 4 ≤ k) : ∀ i, i < 4 → upd f k x i = f i := fun i hi => pk_un (by omega)
set_option maxHeartbeats 4000000 in
set_option maxRecDepth 100000 in
theorem c_Y_write_f {l : Launch} {D : va_G} {t : Nat → ClassId} {z : Nat} {sa : Nat → Nat} {ws : va_W} {a : Nat → Nat} {k0 : Nat} {v : Nat → Int32} {x9 y9 : Int32} {c9 A N L : Nat} (hI : Iv a t k0 v ws) (hxA : x9 = nI A) (hyN : y9 = nI N) (hAN : A + N ≤ 196608) (hBA : BA t ws c9 L) (hNL : N ≤ L) (hL31 : L ≤ 260)  : Mu l y_Y_write (Cond.code y_Y_write b_Y_write 5 (.none : Option Jvm.ClassFile.FieldType) :: WS) ({ frames := 3, cells := 2 * nul ws + 1, slots := 257 * nul ws + 6, locals := 54 }) D t z sa ws [.ref (a 1), .int x9, .ref c9, .int y9] (fun r u => ∃ v1, Iv a t k0 v1 u ∧ Fr t ws u ∧ nul u ≤ nul ws ∧ r = none ∧ (∀ i, i ≠ 5 → v1 i = v i) ∧ ∃ F : Nat, F ≤ 196608 ∧ v 5 = nI F ∧ v1 5 = nI (max F (A + N))) Xno (Kc ws) (Ks ws) := by
  refine mu_ofW (cc := b_Y_write) (maxL := 5) (ret := (.none : Option Jvm.ClassFile.FieldType)) (by decide) rfl ?_
  intro p e s m args below meth c s₁ B hml hno hv
  obtain ⟨rfl, ⟨hP, hK, hD, hz⟩, hM⟩ := hv
  have hx := B.exec
  have hb := B.bytes
  have hr := B.returns
  have hts : ∀ w ∈ WS, w.before [.ref (a 1), .int x9, .ref c9, .int y9].toArray s = true := fun w h => atoms_spec B.pre w (List.mem_cons_of_mem _ h)
  have hown : s.vm.findClass R_Y = some m.cls := findClass_of_methodNamed B.named
  have hlocks := B.notSynchronized
  have hA : ∀ q, s.heap.size ≤ q → Az z q := fun q h => Nat.le_trans hz h
  have hS : va_S (Az z) s.heap s.heap [] := va_S.rf
  have hF : Fr t ws ws := Fr.rf
  have hn : nul ws ≤ nul ws := Nat.le_refl _
  have hl := lv_entry ([.ref (a 1), .int x9, .ref c9, .int y9]) (n := 5) (Nat.le_of_ble_eq_true rfl)
  rw [lg_entry_eq]
  generalize (lg_sl ([.ref (a 1), .int x9, .ref c9, .int y9]) ++ List.replicate (5 - (lg_sl ([.ref (a 1), .int x9, .ref c9, .int y9])).length) Slot.unset).toArray = ls at hl ⊢
  have hl : lv_has ls 5 [(0, .ref (a 1)), (1, .int x9), (2, .ref c9), (3, .int y9)] := hl
  refine W.widen (k := Kc ws ws) (n := Ks ws ws) (Nat.zero_le _) (Nat.zero_le _) ?_
  refine lv_iconst (v := 0) hx hb d_Y_write_0 (by decide) ?_
  refine lv_istore (lv' := [(4, .int 0), (0, .ref (a 1)), (1, .int x9), (2, .ref c9), (3, .int y9)]) hx hb d_Y_write_1 hl (by decide) rfl (fun ls hl => ?_)
  have key : ∀ (n9 i : Nat) (w9 : va_W) (H : Heap) (locs : List Loc) (ls : Array Slot), i + n9 = N → va_P D Cl w9 H → va_D (Az z) w9 → va_S (Az z) s.heap H locs → Iv a t k0 v w9 → Fr t ws w9 → nul w9 ≤ nul ws → lv_has ls 5 [(4, .int (nI i)), (0, .ref (a 1)), (1, .int x9), (2, .ref c9), (3, .int y9)] → W p l e (headSpec (Cond.code y_Y_write b_Y_write 5 (.none : Option Jvm.ClassFile.FieldType) :: WS) ({ frames := 3, cells := 2 * nul ws + 1, slots := 257 * nul ws + 6, locals := 54 })).room s m [.ref (a 1), .int x9, .ref c9, .int y9].toArray below meth c H locs (Kc ws w9) (Ks ws w9) (mu_MQ below D t z (fun r u => ∃ v1, Iv a t k0 v1 u ∧ Fr t ws u ∧ nul u ≤ nul ws ∧ r = none ∧ (∀ i, i ≠ 5 → v1 i = v i) ∧ ∃ F : Nat, F ≤ 196608 ∧ v 5 = nI F ∧ v1 5 = nI (max F (A + N))) Xno (Kc ws) (Ks ws) [.ref (a 1), .int x9, .ref c9, .int y9].toArray s) (F0 m 3 ls []) := by
    intro n9
    induction n9 with
    | zero =>
      intro i w9 H locs ls hi9 hP hD hS hI hF hn hl
      refine lv_iload hx hb d_Y_write_3 (lv_at hl 0 rfl) ?_
      refine lv_iload_n hx hb d_Y_write_5 rfl (lv_at hl 4 rfl) ?_
      refine lv_icmp_ge (tgt := 43) hx hb d_Y_write_6 rfl (fun _ => ?_) (fun h => absurd (by rw [hyN]; exact nI_le (by omega) (by omega)) h)
      refine lv_aload_n hx hb d_Y_write_43 rfl (lv_at hl 1 rfl) ?_
      refine lv_aload_n hx hb d_Y_write_44 rfl (lv_at hl 1 rfl) ?_
      refine va_get (D := D) (ci := 3) (v := .int (v 5)) (C := R_Y) (T := F_Y) (N := 2) hx hb hts ws_Y hown hK hP 1 hI.y1 rfl 1 (by decide) (hts _ fl_Y_9) (fun _ h9 => h9) rfl d_Y_write_45 ?_
      refine lv_iload_n hx hb d_Y_write_48 rfl (lv_at hl 2 rfl) ?_
      refine lv_iload_n hx hb d_Y_write_49 rfl (lv_at hl 4 rfl) ?_
      refine lv_iadd hx hb d_Y_write_50 ?_
      refine va_mmax hx hb (hml.trans hl.1.symm) hown (hts _ ml_Y_28) (hts _ mx_st) (hts _ in_Math) (hts _ mx_cd) (Nat.le_of_ble_eq_true rfl) (Nat.le_of_ble_eq_true rfl) (by show 2 * (nul ws - nul w9) ≤ 2 * nul ws + 1; omega) (by show 257 * (nul ws - nul w9) ≤ 257 * nul ws + 6; omega) d_Y_write_51 ?_
      refine lv_topi (fun ym hym => ?_)
      obtain ⟨F9, hF1, hF2⟩ := hI.bd.2.2.1
      have hym : ym = nI (max F9 (A + N)) := by rw [hym, hF2, hxA, hyN, nI_add]; exact mx_nat (by omega) (by omega)
      refine va_put (D := D) (ci := 3) (v := .int ym) (ty := .int) (C := R_Y) (T := F_Y) (N := 2) hx hb hts ws_Y t_Y ok_Y n_Y hown hK hP hD hS 1 hI.y1 rfl 1 (by decide) (hts _ fl_Y_9) (fun _ h9 => h9) rfl (by decide +kernel) rfl rfl (Nat.le_of_ble_eq_true rfl) d_Y_write_54 (fun H locs hP hD hS => ?_)
      obtain ⟨v1, hv1⟩ : ∃ q : Nat → Int32, q = upd v 5 ym := ⟨_, rfl⟩
      have gv1 : v1 5 = ym := by rw [hv1]; exact pk_us
      have nv1 : ∀ i, i ≠ 5 → v1 i = v i := fun i hi => by rw [hv1]; exact pk_un hi
      have hP : va_P D Cl (w9.set 1 (cY1 a v1)) H := by rw [hv1]; exact hP
      have hD : va_D (Az z) (w9.set 1 (cY1 a v1)) := by rw [hv1]; exact hD
      obtain ⟨w2, hw⟩ : ∃ q, q = w9.set 1 (cY1 a v1) := ⟨_, rfl⟩
      have hP : va_P D Cl (w9.set 1 (cY1 a v1)) H := hP
      have hD : va_D (Az z) (w9.set 1 (cY1 a v1)) := hD
      have hF : Fr t ws (w9.set 1 (cY1 a v1)) := hF.set (by decide) (by decide)
      have hI := (by have h9 := hI.setF (F := max F9 (A + N)) (by omega); rw [show upd v 5 (nI (max F9 (A + N))) = v1 from by rw [hv1, hym]] at h9; exact h9)
      have hq9 : nul (w9.set 1 (cY1 a v1)) = nul w9 := nul_set (by decide)
      rw [← hw] at hP hD hF hI hq9
      clear hw
      have hn : nul w2 ≤ nul ws := by omega
      refine W.widen (k := Kc ws w2) (n := Ks ws w2) (by show 2 * (nul ws - nul w9) ≤ 2 * (nul ws - nul w2); omega) (by show 257 * (nul ws - nul w9) ≤ 257 * (nul ws - nul w2); omega) ?_
      refine mu_end (u := w2) (v := (none)) ⟨_, hI, hF, hn, rfl, nv1, F9, hF1, hF2, by rw [gv1]; exact hym⟩ (Nat.le_refl _) (Nat.le_refl _) ?_
      exact W.vret hx hb hr (fun t9 ht hW => ⟨rfl, ⟨by rw [ht]; exact hP, va_K.moved hW.alike hK, hD, by rw [ht]; exact Nat.le_trans hz hS.1⟩, hS.F ht⟩) hS.2.2 d_Y_write_57
    | succ n9 ih =>
      intro i w9 H locs ls hi9 hP hD hS hI hF hn hl
      refine lv_iload hx hb d_Y_write_3 (lv_at hl 0 rfl) ?_
      refine lv_iload_n hx hb d_Y_write_5 rfl (lv_at hl 4 rfl) ?_
      refine lv_icmp_ge (tgt := 43) hx hb d_Y_write_6 rfl (fun h => absurd h (by rw [hyN]; exact nI_ge (by omega) (by omega))) (fun _ => ?_)
      refine lv_aload_n hx hb d_Y_write_9 rfl (lv_at hl 1 rfl) ?_
      refine va_get (D := D) (ci := 3) (v := .ref (a 2)) (C := R_Y) (T := F_Y) (N := 2) hx hb hts ws_Y hown hK hP 1 hI.y1 rfl 0 (by decide) (hts _ fl_Y_20) (fun _ h9 => h9) rfl d_Y_write_10 ?_
      refine lv_iload_n hx hb d_Y_write_13 rfl (lv_at hl 2 rfl) ?_
      refine lv_iload hx hb d_Y_write_14 (lv_at hl 0 rfl) ?_
      refine lv_iadd hx hb d_Y_write_16 ?_
      refine lv_sipush (v := 256) hx hb d_Y_write_17 (by decide) ?_
      refine lv_idiv hx hb d_Y_write_20 (by decide) ?_
      refine lv_topi (fun y3 hy3 => ?_)
      have hy3 : y3 = nI ((A + i) / 256) := by rw [hy3, hxA]; exact wr_div (by omega)
      refine mu_V (n := 1) (As := [.int y3]) (rest := []) ⟨hx, hb, hml, hown, hts⟩ (c_K_bytesOf' (D := D) (t := t) (z := z) (sa := sa) (ws := w9) (pm := 3) (i := (A + i) / 256) hI hI.k2 (by decide) (show (A + i) / 256 < Nn 3 from by show (A + i) / 256 < 768; omega) hy3) ml_Y_24 im_K_bytesOf se_K_bytesOf in_K cd_K_bytesOf (by decide +kernel) ⟨Nat.le_of_ble_eq_true rfl, Nat.le_of_ble_eq_true rfl⟩ (va_recv hK hP (ci := 1) rfl hI.k2) (Pz_at hP hK hD hz hM hS) rfl hl.1 rfl (Nat.le_of_ble_eq_true rfl) d_Y_write_21 ⟨by show 2 * (nul ws - nul w9) + (2 * nul w9 + 1) ≤ 2 * nul ws + 1; omega, by show 257 * (nul ws - nul w9) + (257 * nul w9 + 6) ≤ 257 * nul ws + 6; omega⟩ hS (fun _ _ _ _ _ _ h => h.elim) (fun r9 u4 H locs hp hP hD hS => ?_)
      obtain ⟨c5, j6, k8, f7, hr9, h42, hcc, hsp, hI, hF9, hn9, hj9, -⟩ := hp
      subst hr9
      have hF := hF.trans hF9
      have hk1 : k8 = k0 := hj9 (Or.inr (fun h => absurd h.1 (by decide)))
      rw [hk1] at hI hsp
      have hn : nul u4 ≤ nul ws := by omega
      refine W.widen (k := Kc ws u4) (n := Ks ws u4) (by show 2 * (nul ws - nul w9) + 2 * (nul w9 - nul u4) ≤ 2 * (nul ws - nul u4); omega) (by show 257 * (nul ws - nul w9) + 257 * (nul w9 - nul u4) ≤ 257 * (nul ws - nul u4); omega) ?_
      refine W.eq (g2 := F0 m 24 ls [.ref c5]) rfl ?_
      refine lv_iload_n hx hb d_Y_write_24 rfl (lv_at hl 2 rfl) ?_
      refine lv_iload hx hb d_Y_write_25 (lv_at hl 0 rfl) ?_
      refine lv_iadd hx hb d_Y_write_27 ?_
      refine lv_sipush (v := 256) hx hb d_Y_write_28 (by decide) ?_
      refine lv_irem hx hb d_Y_write_31 (by decide) ?_
      refine lv_topi (fun r8 hr8 => ?_)
      have hr8 : r8 = nI ((A + i) % 256) := by rw [hr8, hxA]; exact wr_rem (by omega)
      refine lv_aload_n hx hb d_Y_write_32 rfl (lv_at hl 3 rfl) ?_
      refine lv_iload hx hb d_Y_write_33 (lv_at hl 0 rfl) ?_
      obtain ⟨kf, ff, hkf, hcf⟩ := hBA.go hF
      refine va_bald (D := D) hx hb hK hP kf 0 hcf rfl (i := nI i) (vp_in_nI (by omega) (by omega)) d_Y_write_35 ?_
      generalize ff (nI i).toNatClampNeg = y10
      refine va_bast (D := D) hx hb hK hP hD hS j6 0 hcc rfl (i := r8) (x := y10) (by rw [hr8]; exact vp_in_nI (by omega) (by decide)) d_Y_write_36 (fun H locs hP hD hS => ?_)
      rw [hr8, nI_clamp (by omega)] at hP hD
      have hfn := sb_fitU (k := (A + i) % 256) (hI.bf j6 _ _ _ (Or.inr h42) hcc) (bfit y10)
      obtain ⟨f11, hff11⟩ : ∃ q, q = upd f7 ((A + i) % 256) (vp_nar .byte y10) := ⟨_, rfl⟩
      rw [← hff11] at hP hD hfn
      obtain ⟨w12, hw⟩ : ∃ q, q = u4.set j6 (cA t c5 f11) := ⟨_, rfl⟩
      have hP : va_P D Cl (u4.set j6 (cA t c5 f11)) H := hP
      have hD : va_D (Az z) (u4.set j6 (cA t c5 f11)) := hD
      have hF : Fr t ws (u4.set j6 (cA t c5 f11)) := hF.setA hcc (Or.inr h42)
      have hI := hI.setB (f1 := f11) h42 hcc (fun h => absurd (hsp.mp h).1 (by decide)) hfn
      have hq9 : nul (u4.set j6 (cA t c5 f11)) = nul u4 := nul_set (fun h => by have := mds_lt h; omega)
      rw [← hw] at hP hD hF hI hq9
      clear hw
      have hn : nul w12 ≤ nul ws := by omega
      refine W.widen (k := Kc ws w12) (n := Ks ws w12) (by show 2 * (nul ws - nul u4) ≤ 2 * (nul ws - nul w12); omega) (by show 257 * (nul ws - nul u4) ≤ 257 * (nul ws - nul w12); omega) ?_
      refine lv_iinc (k := 0) (v := nI (i + 1)) (lv' := [(4, .int (nI (i + 1))), (0, .ref (a 1)), (1, .int x9), (2, .ref c9), (3, .int y9)]) hx hb d_Y_write_37 hl rfl (nI_1 i) (by decide) rfl (fun ls hl => ?_)
      refine lv_goto (tgt := 3) hx hb d_Y_write_40 rfl ?_
      exact ih (i + 1) w12 H locs ls (by omega) hP hD hS hI hF hn hl
  exact key N 0 ws _ _ _ (Nat.zero_add _) hP hD hS hI hF hn hl
set_option maxHeartbeats 4000000 in
set_option maxRecDepth 100000 in
theorem c_Y_write_j {l : Launch} {D : va_G} {t : Nat → ClassId} {z : Nat} {sa : Nat → Nat} {ws : va_W} {a : Nat → Nat} {k0 : Nat} {v : Nat → Int32} {x9 y9 : Int32} {c9 A N L : Nat} (hI : Iv a t k0 v ws) (hxA : x9 = nI A) (hyN : y9 = nI N) (hAN : A + N ≤ 199684) (hBA : BA t ws c9 L) (hNL : N ≤ L) (hL31 : L ≤ 260) (hA4 : 4 ≤ A) (hJ4 : 4 ≤ v 6) : Mu l y_Y_write (Cond.code y_Y_write b_Y_write 5 (.none : Option Jvm.ClassFile.FieldType) :: WS) ({ frames := 3, cells := 2 * nul ws + 1, slots := 257 * nul ws + 6, locals := 54 }) D t z sa ws [.ref (a 4), .int x9, .ref c9, .int y9] (fun r u => ∃ v1, Iv a t k0 v1 u ∧ Fr t ws u ∧ nul u ≤ nul ws ∧ r = none ∧ (∀ i, i ≠ 6 → v1 i = v i) ∧ ∃ F : Nat, F ≤ 199684 ∧ v 6 = nI F ∧ v1 6 = nI (max F (A + N))) Xno (Kc ws) (Ks ws) := by
  refine mu_ofW (cc := b_Y_write) (maxL := 5) (ret := (.none : Option Jvm.ClassFile.FieldType)) (by decide) rfl ?_
  intro p e s m args below meth c s₁ B hml hno hv
  obtain ⟨rfl, ⟨hP, hK, hD, hz⟩, hM⟩ := hv
  have hx := B.exec
  have hb := B.bytes
  have hr := B.returns
  have hts : ∀ w ∈ WS, w.before [.ref (a 4), .int x9, .ref c9, .int y9].toArray s = true := fun w h => atoms_spec B.pre w (List.mem_cons_of_mem _ h)
  have hown : s.vm.findClass R_Y = some m.cls := findClass_of_methodNamed B.named
  have hlocks := B.notSynchronized
  have hA : ∀ q, s.heap.size ≤ q → Az z q := fun q h => Nat.le_trans hz h
  have hS : va_S (Az z) s.heap s.heap [] := va_S.rf
  have hF : Fr t ws ws := Fr.rf
  have hn : nul ws ≤ nul ws := Nat.le_refl _
  have hl := lv_entry ([.ref (a 4), .int x9, .ref c9, .int y9]) (n := 5) (Nat.le_of_ble_eq_true rfl)
  rw [lg_entry_eq]
  generalize (lg_sl ([.ref (a 4), .int x9, .ref c9, .int y9]) ++ List.replicate (5 - (lg_sl ([.ref (a 4), .int x9, .ref c9, .int y9])).length) Slot.unset).toArray = ls at hl ⊢
  have hl : lv_has ls 5 [(0, .ref (a 4)), (1, .int x9), (2, .ref c9), (3, .int y9)] := hl
  refine W.widen (k := Kc ws ws) (n := Ks ws ws) (Nat.zero_le _) (Nat.zero_le _) ?_
  refine lv_iconst (v := 0) hx hb d_Y_write_0 (by decide) ?_
  refine lv_istore (lv' := [(4, .int 0), (0, .ref (a 4)), (1, .int x9), (2, .ref c9), (3, .int y9)]) hx hb d_Y_write_1 hl (by decide) rfl (fun ls hl => ?_)
  have key : ∀ (n9 i : Nat) (w9 : va_W) (H : Heap) (locs : List Loc) (ls : Array Slot), i + n9 = N → va_P D Cl w9 H → va_D (Az z) w9 → va_S (Az z) s.heap H locs → Iv a t k0 v w9 → Fr t ws w9 → nul w9 ≤ nul ws → lv_has ls 5 [(4, .int (nI i)), (0, .ref (a 4)), (1, .int x9), (2, .ref c9), (3, .int y9)] → W p l e (headSpec (Cond.code y_Y_write b_Y_write 5 (.none : Option Jvm.ClassFile.FieldType) :: WS) ({ frames := 3, cells := 2 * nul ws + 1, slots := 257 * nul ws + 6, locals := 54 })).room s m [.ref (a 4), .int x9, .ref c9, .int y9].toArray below meth c H locs (Kc ws w9) (Ks ws w9) (mu_MQ below D t z (fun r u => ∃ v1, Iv a t k0 v1 u ∧ Fr t ws u ∧ nul u ≤ nul ws ∧ r = none ∧ (∀ i, i ≠ 6 → v1 i = v i) ∧ ∃ F : Nat, F ≤ 199684 ∧ v 6 = nI F ∧ v1 6 = nI (max F (A + N))) Xno (Kc ws) (Ks ws) [.ref (a 4), .int x9, .ref c9, .int y9].toArray s) (F0 m 3 ls []) := by
    intro n9
    induction n9 with
    | zero =>
      intro i w9 H locs ls hi9 hP hD hS hI hF hn hl
      refine lv_iload hx hb d_Y_write_3 (lv_at hl 0 rfl) ?_
      refine lv_iload_n hx hb d_Y_write_5 rfl (lv_at hl 4 rfl) ?_
      refine lv_icmp_ge (tgt := 43) hx hb d_Y_write_6 rfl (fun _ => ?_) (fun h => absurd (by rw [hyN]; exact nI_le (by omega) (by omega)) h)
      refine lv_aload_n hx hb d_Y_write_43 rfl (lv_at hl 1 rfl) ?_
      refine lv_aload_n hx hb d_Y_write_44 rfl (lv_at hl 1 rfl) ?_
      refine va_get (D := D) (ci := 3) (v := .int (v 6)) (C := R_Y) (T := F_Y) (N := 2) hx hb hts ws_Y hown hK hP 4 hI.y4 rfl 1 (by decide) (hts _ fl_Y_9) (fun _ h9 => h9) rfl d_Y_write_45 ?_
      refine lv_iload_n hx hb d_Y_write_48 rfl (lv_at hl 2 rfl) ?_
      refine lv_iload_n hx hb d_Y_write_49 rfl (lv_at hl 4 rfl) ?_
      refine lv_iadd hx hb d_Y_write_50 ?_
      refine va_mmax hx hb (hml.trans hl.1.symm) hown (hts _ ml_Y_28) (hts _ mx_st) (hts _ in_Math) (hts _ mx_cd) (Nat.le_of_ble_eq_true rfl) (Nat.le_of_ble_eq_true rfl) (by show 2 * (nul ws - nul w9) ≤ 2 * nul ws + 1; omega) (by show 257 * (nul ws - nul w9) ≤ 257 * nul ws + 6; omega) d_Y_write_51 ?_
      refine lv_topi (fun ym hym => ?_)
      obtain ⟨F9, hF1, hF2⟩ := hI.bd.2.2.2.1
      have hym : ym = nI (max F9 (A + N)) := by rw [hym, hF2, hxA, hyN, nI_add]; exact mx_nat (by omega) (by omega)
      refine va_put (D := D) (ci := 3) (v := .int ym) (ty := .int) (C := R_Y) (T := F_Y) (N := 2) hx hb hts ws_Y t_Y ok_Y n_Y hown hK hP hD hS 4 hI.y4 rfl 1 (by decide) (hts _ fl_Y_9) (fun _ h9 => h9) rfl (by decide +kernel) rfl rfl (Nat.le_of_ble_eq_true rfl) d_Y_write_54 (fun H locs hP hD hS => ?_)
      obtain ⟨v1, hv1⟩ : ∃ q : Nat → Int32, q = upd v 6 ym := ⟨_, rfl⟩
      have gv1 : v1 6 = ym := by rw [hv1]; exact pk_us
      have nv1 : ∀ i, i ≠ 6 → v1 i = v i := fun i hi => by rw [hv1]; exact pk_un hi
      have hP : va_P D Cl (w9.set 4 (cY4 a v1)) H := by rw [hv1]; exact hP
      have hD : va_D (Az z) (w9.set 4 (cY4 a v1)) := by rw [hv1]; exact hD
      obtain ⟨w2, hw⟩ : ∃ q, q = w9.set 4 (cY4 a v1) := ⟨_, rfl⟩
      have hP : va_P D Cl (w9.set 4 (cY4 a v1)) H := hP
      have hD : va_D (Az z) (w9.set 4 (cY4 a v1)) := hD
      have hF : Fr t ws (w9.set 4 (cY4 a v1)) := hF.set (by decide) (by decide)
      have hI := (by have h9 := hI.setJ (J := max F9 (A + N)) (by omega) (fun _ => hI.2.2.2.1 hJ4); rw [show upd v 6 (nI (max F9 (A + N))) = v1 from by rw [hv1, hym]] at h9; exact h9)
      have hq9 : nul (w9.set 4 (cY4 a v1)) = nul w9 := nul_set (by decide)
      rw [← hw] at hP hD hF hI hq9
      clear hw
      have hn : nul w2 ≤ nul ws := by omega
      refine W.widen (k := Kc ws w2) (n := Ks ws w2) (by show 2 * (nul ws - nul w9) ≤ 2 * (nul ws - nul w2); omega) (by show 257 * (nul ws - nul w9) ≤ 257 * (nul ws - nul w2); omega) ?_
      refine mu_end (u := w2) (v := (none)) ⟨_, hI, hF, hn, rfl, nv1, F9, hF1, hF2, by rw [gv1]; exact hym⟩ (Nat.le_refl _) (Nat.le_refl _) ?_
      exact W.vret hx hb hr (fun t9 ht hW => ⟨rfl, ⟨by rw [ht]; exact hP, va_K.moved hW.alike hK, hD, by rw [ht]; exact Nat.le_trans hz hS.1⟩, hS.F ht⟩) hS.2.2 d_Y_write_57
    | succ n9 ih =>
      intro i w9 H locs ls hi9 hP hD hS hI hF hn hl
      refine lv_iload hx hb d_Y_write_3 (lv_at hl 0 rfl) ?_
      refine lv_iload_n hx hb d_Y_write_5 rfl (lv_at hl 4 rfl) ?_
      refine lv_icmp_ge (tgt := 43) hx hb d_Y_write_6 rfl (fun h => absurd h (by rw [hyN]; exact nI_ge (by omega) (by omega))) (fun _ => ?_)
      refine lv_aload_n hx hb d_Y_write_9 rfl (lv_at hl 1 rfl) ?_
      refine va_get (D := D) (ci := 3) (v := .ref (a 5)) (C := R_Y) (T := F_Y) (N := 2) hx hb hts ws_Y hown hK hP 4 hI.y4 rfl 0 (by decide) (hts _ fl_Y_20) (fun _ h9 => h9) rfl d_Y_write_10 ?_
      refine lv_iload_n hx hb d_Y_write_13 rfl (lv_at hl 2 rfl) ?_
      refine lv_iload hx hb d_Y_write_14 (lv_at hl 0 rfl) ?_
      refine lv_iadd hx hb d_Y_write_16 ?_
      refine lv_sipush (v := 256) hx hb d_Y_write_17 (by decide) ?_
      refine lv_idiv hx hb d_Y_write_20 (by decide) ?_
      refine lv_topi (fun y3 hy3 => ?_)
      have hy3 : y3 = nI ((A + i) / 256) := by rw [hy3, hxA]; exact wr_div (by omega)
      refine mu_V (n := 1) (As := [.int y3]) (rest := []) ⟨hx, hb, hml, hown, hts⟩ (c_K_bytesOf' (D := D) (t := t) (z := z) (sa := sa) (ws := w9) (pm := 6) (i := (A + i) / 256) hI hI.k5 (by decide) (show (A + i) / 256 < Nn 6 from by show (A + i) / 256 < 781; omega) hy3) ml_Y_24 im_K_bytesOf se_K_bytesOf in_K cd_K_bytesOf (by decide +kernel) ⟨Nat.le_of_ble_eq_true rfl, Nat.le_of_ble_eq_true rfl⟩ (va_recv hK hP (ci := 1) rfl hI.k5) (Pz_at hP hK hD hz hM hS) rfl hl.1 rfl (Nat.le_of_ble_eq_true rfl) d_Y_write_21 ⟨by show 2 * (nul ws - nul w9) + (2 * nul w9 + 1) ≤ 2 * nul ws + 1; omega, by show 257 * (nul ws - nul w9) + (257 * nul w9 + 6) ≤ 257 * nul ws + 6; omega⟩ hS (fun _ _ _ _ _ _ h => h.elim) (fun r9 u4 H locs hp hP hD hS => ?_)
      obtain ⟨c5, j6, k8, f7, hr9, h42, hcc, hsp, hI, hF9, hn9, hj9, -⟩ := hp
      subst hr9
      have hF := hF.trans hF9
      have hk1 : k8 = k0 := hj9 (Or.inl hJ4)
      rw [hk1] at hI hsp
      have hn : nul u4 ≤ nul ws := by omega
      refine W.widen (k := Kc ws u4) (n := Ks ws u4) (by show 2 * (nul ws - nul w9) + 2 * (nul w9 - nul u4) ≤ 2 * (nul ws - nul u4); omega) (by show 257 * (nul ws - nul w9) + 257 * (nul w9 - nul u4) ≤ 257 * (nul ws - nul u4); omega) ?_
      refine W.eq (g2 := F0 m 24 ls [.ref c5]) rfl ?_
      refine lv_iload_n hx hb d_Y_write_24 rfl (lv_at hl 2 rfl) ?_
      refine lv_iload hx hb d_Y_write_25 (lv_at hl 0 rfl) ?_
      refine lv_iadd hx hb d_Y_write_27 ?_
      refine lv_sipush (v := 256) hx hb d_Y_write_28 (by decide) ?_
      refine lv_irem hx hb d_Y_write_31 (by decide) ?_
      refine lv_topi (fun r8 hr8 => ?_)
      have hr8 : r8 = nI ((A + i) % 256) := by rw [hr8, hxA]; exact wr_rem (by omega)
      refine lv_aload_n hx hb d_Y_write_32 rfl (lv_at hl 3 rfl) ?_
      refine lv_iload hx hb d_Y_write_33 (lv_at hl 0 rfl) ?_
      obtain ⟨kf, ff, hkf, hcf⟩ := hBA.go hF
      refine va_bald (D := D) hx hb hK hP kf 0 hcf rfl (i := nI i) (vp_in_nI (by omega) (by omega)) d_Y_write_35 ?_
      generalize ff (nI i).toNatClampNeg = y10
      refine va_bast (D := D) hx hb hK hP hD hS j6 0 hcc rfl (i := r8) (x := y10) (by rw [hr8]; exact vp_in_nI (by omega) (by decide)) d_Y_write_36 (fun H locs hP hD hS => ?_)
      rw [hr8, nI_clamp (by omega)] at hP hD
      have hfn := sb_fitU (k := (A + i) % 256) (hI.bf j6 _ _ _ (Or.inr h42) hcc) (bfit y10)
      obtain ⟨f11, hff11⟩ : ∃ q, q = upd f7 ((A + i) % 256) (vp_nar .byte y10) := ⟨_, rfl⟩
      rw [← hff11] at hP hD hfn
      obtain ⟨w12, hw⟩ : ∃ q, q = u4.set j6 (cA t c5 f11) := ⟨_, rfl⟩
      have hP : va_P D Cl (u4.set j6 (cA t c5 f11)) H := hP
      have hD : va_D (Az z) (u4.set j6 (cA t c5 f11)) := hD
      have hF : Fr t ws (u4.set j6 (cA t c5 f11)) := hF.setA hcc (Or.inr h42)
      have hI := hI.setB (f1 := f11) h42 hcc (fun h _ => by rw [hff11]; exact upd4 (by have h9 := (hsp.mp h).2; omega)) hfn
      have hq9 : nul (u4.set j6 (cA t c5 f11)) = nul u4 := nul_set (fun h => by have := mds_lt h; omega)
      rw [← hw] at hP hD hF hI hq9
      clear hw
      have hn : nul w12 ≤ nul ws := by omega
      refine W.widen (k := Kc ws w12) (n := Ks ws w12) (by show 2 * (nul ws - nul u4) ≤ 2 * (nul ws - nul w12); omega) (by show 257 * (nul ws - nul u4) ≤ 257 * (nul ws - nul w12); omega) ?_
      refine lv_iinc (k := 0) (v := nI (i + 1)) (lv' := [(4, .int (nI (i + 1))), (0, .ref (a 4)), (1, .int x9), (2, .ref c9), (3, .int y9)]) hx hb d_Y_write_37 hl rfl (nI_1 i) (by decide) rfl (fun ls hl => ?_)
      refine lv_goto (tgt := 3) hx hb d_Y_write_40 rfl ?_
      exact ih (i + 1) w12 H locs ls (by omega) hP hD hS hI hF hn hl
  exact key N 0 ws _ _ _ (Nat.zero_add _) hP hD hS hI hF hn hl
