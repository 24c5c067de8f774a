/-- bytes that were asked for, in a world that has gone on -/
def Bq (a : Nat → Nat) (t : Nat → ClassId) (k0 pm i : Nat) (v : Nat → Int32) (ws : va_W) : Option Value → va_W → Prop := fun r u =>
  ∃ (c k' k1 : Nat) (f : Nat → Int32), r = some (.ref c) ∧ 42 ≤ k' ∧ u[k']? = some (cA t c f) ∧ (k' = k1 ↔ pm = 6 ∧ i = 0) ∧ Iv a t k1 v u ∧ Fr t ws u ∧ nul u ≤ nul ws ∧ (4 ≤ v 6 ∨ ¬ (pm = 6 ∧ i = 0) → k1 = k0)
theorem up01 {h : Nat → Int32} {k : Nat} {x : Int32} (h0 : ∀ i, h i = 0 ∨ h i = 1) (hx : x = 0 ∨ x = 1) : ∀ i, upd h k x i = 0 ∨ upd h k x i = 1 := fun i => by
  by_cases e : i = k
  · subst e; rw [pk_us]; exact hx
  · rw [pk_un e]; exact h0 i
theorem nar01 {x : Int32} (h : x = 0 ∨ x = 1) : narrow .boolean (.int x) = .int x := by rcases h with rfl | rfl <;> rfl
theorem fit01 {x : Int32} (h : x = 0 ∨ x = 1) : fits .boolean (.int x) = true := by rcases h with rfl | rfl <;> rfl
theorem zz_lt {x9 : Int32} {i : Nat} (hxi : x9 = nI i) (hi : i < 768) : vp_in x9 768 := by rw [hxi]; exact vp_in_nI hi (by decide)
theorem nm13 {j : Nat} : 13 + 4 * j ∉ Mds := fun q => by rcases mds_cases q with q | q | ⟨_, _, q⟩ <;> omega
theorem nm10 {j : Nat} : 10 + 4 * j ∉ Mds := fun q => by rcases mds_cases q with q | q | ⟨_, _, q⟩ <;> omega
set_option maxHeartbeats 4000000 in
set_option maxRecDepth 100000 in
theorem c_Z_holds {l : Launch} {D : va_G} {t : Nat → ClassId} {z : Nat} {sa : Nat → Nat} {ws : va_W} {a : Nat → Nat} {k0 : Nat} {v : Nat → Int32} {j : Nat}{i : Nat} {x9 : Int32} (hI : Iv a t k0 v ws) (hj : j < 6)(hi : i < 768) (hxi : x9 = nI i) : Mu l y_Z_holds (Cond.code y_Z_holds b_Z_holds 2 (some .boolean) :: WS) ({ frames := 0, cells := 2 * nul ws + 1, slots := 257 * nul ws + 6, locals := 0 }) D t z sa ws [.ref (a (10 + 4 * j)), .int x9] (fun r u => ∃ y, r = some (.int y) ∧ u = ws ∧ (y = 0 ∨ y = 1)) Xno (Kc ws) (Ks ws) := by
  refine mu_ofW (cc := b_Z_holds) (maxL := 2) (ret := (some .boolean)) (by decide) rfl ?_
  intro p e s m args below meth c s₁ B hml hno hv
  obtain ⟨rfl, ⟨hP, hK, hD, hz⟩, hM⟩ := hv
  have hx := B.exec
  have hb := B.bytes
  have hr := B.returns
  have hts : ∀ w ∈ WS, w.before [.ref (a (10 + 4 * j)), .int x9].toArray s = true := fun w h => atoms_spec B.pre w (List.mem_cons_of_mem _ h)
  have hown : s.vm.findClass R_Z = some m.cls := findClass_of_methodNamed B.named
  have hlocks := B.notSynchronized
  have hA : ∀ q, s.heap.size ≤ q → Az z q := fun q h => Nat.le_trans hz h
  have hS : va_S (Az z) s.heap s.heap [] := va_S.rf
  have hF : Fr t ws ws := Fr.rf
  have hn : nul ws ≤ nul ws := Nat.le_refl _
  have hl := lv_entry ([.ref (a (10 + 4 * j)), .int x9]) (n := 2) (Nat.le_of_ble_eq_true rfl)
  rw [lg_entry_eq]
  generalize (lg_sl ([.ref (a (10 + 4 * j)), .int x9]) ++ List.replicate (2 - (lg_sl ([.ref (a (10 + 4 * j)), .int x9])).length) Slot.unset).toArray = ls at hl ⊢
  have hl : lv_has ls 2 [(0, .ref (a (10 + 4 * j))), (1, .int x9)] := hl
  refine W.widen (k := Kc ws ws) (n := Ks ws ws) (Nat.zero_le _) (Nat.zero_le _) ?_
  refine lv_aload_n hx hb d_Z_holds_0 rfl (lv_at hl 0 rfl) ?_
  refine va_get (D := D) (ci := 4) (v := .ref (a (13 + 4 * j))) (C := R_Z) (T := F_Z) (N := 3) hx hb hts ws_Z hown hK hP (10 + 4 * j) (hI.z hj) rfl 1 (by decide) (hts _ fl_Z_20) (fun _ h9 => h9) rfl d_Z_holds_1 ?_
  refine lv_iload_n hx hb d_Z_holds_4 rfl (lv_at hl 1 rfl) ?_
  obtain ⟨h13, e13, e14⟩ := hI.zh hj
  refine va_zald (D := D) hx hb hK hP (13 + 4 * j) 1 e13 rfl (i := x9) (zz_lt hxi hi) d_Z_holds_5 ?_
  obtain ⟨y1, hy1⟩ : ∃ q, q = h13 (x9 : Int32).toNatClampNeg := ⟨_, rfl⟩
  have e14 : y1 = 0 ∨ y1 = 1 := by rw [hy1]; exact e14 _
  rw [← hy1]
  refine mu_end (u := ws) (v := (some (.int y1))) ⟨_, rfl, rfl, e14⟩ (Nat.le_refl _) (Nat.le_refl _) ?_
  exact W.zret (v := y1) (ty := .boolean) hx hb hr (nar01 e14) (fun t9 ht hW => ⟨rfl, ⟨by rw [ht]; exact hP, va_K.moved hW.alike hK, hD, by rw [ht]; exact Nat.le_trans hz hS.1⟩, hS.F ht⟩) hS.2.2 d_Z_holds_6
set_option maxHeartbeats 4000000 in
set_option maxRecDepth 100000 in
theorem c_Z_hold {l : Launch} {D : va_G} {t : Nat → ClassId} {z : Nat} {sa : Nat → Nat} {ws : va_W} {a : Nat → Nat} {k0 : Nat} {v : Nat → Int32} {j : Nat}{i : Nat} {x9 : Int32} (hI : Iv a t k0 v ws) (hj : j < 6)(hi : i < 768) (hxi : x9 = nI i) : Mu l y_Z_hold (Cond.code y_Z_hold b_Z_hold 2 (some (.array .byte)) :: WS) ({ frames := 3, cells := 2 * nul ws + 1, slots := 257 * nul ws + 6, locals := 54 }) D t z sa ws [.ref (a (10 + 4 * j)), .int x9] (fun r u => Bq a t k0 (12 + 4 * j) i v ws r u) Xno (Kc ws) (Ks ws) := by
  refine mu_ofW (cc := b_Z_hold) (maxL := 2) (ret := (some (.array .byte))) (by decide) rfl ?_
  intro p e s m args below meth c s₁ B hml hno hv
  obtain ⟨rfl, ⟨hP, hK, hD, hz⟩, hM⟩ := hv
  have hx := B.exec
  have hb := B.bytes
  have hr := B.returns
  have hts : ∀ w ∈ WS, w.before [.ref (a (10 + 4 * j)), .int x9].toArray s = true := fun w h => atoms_spec B.pre w (List.mem_cons_of_mem _ h)
  have hown : s.vm.findClass R_Z = some m.cls := findClass_of_methodNamed B.named
  have hlocks := B.notSynchronized
  have hA : ∀ q, s.heap.size ≤ q → Az z q := fun q h => Nat.le_trans hz h
  have hS : va_S (Az z) s.heap s.heap [] := va_S.rf
  have hF : Fr t ws ws := Fr.rf
  have hn : nul ws ≤ nul ws := Nat.le_refl _
  have hl := lv_entry ([.ref (a (10 + 4 * j)), .int x9]) (n := 2) (Nat.le_of_ble_eq_true rfl)
  rw [lg_entry_eq]
  generalize (lg_sl ([.ref (a (10 + 4 * j)), .int x9]) ++ List.replicate (2 - (lg_sl ([.ref (a (10 + 4 * j)), .int x9])).length) Slot.unset).toArray = ls at hl ⊢
  have hl : lv_has ls 2 [(0, .ref (a (10 + 4 * j))), (1, .int x9)] := hl
  refine W.widen (k := Kc ws ws) (n := Ks ws ws) (Nat.zero_le _) (Nat.zero_le _) ?_
  refine lv_aload_n hx hb d_Z_hold_0 rfl (lv_at hl 0 rfl) ?_
  refine va_get (D := D) (ci := 4) (v := .ref (a (13 + 4 * j))) (C := R_Z) (T := F_Z) (N := 3) hx hb hts ws_Z hown hK hP (10 + 4 * j) (hI.z hj) rfl 1 (by decide) (hts _ fl_Z_20) (fun _ h9 => h9) rfl d_Z_hold_1 ?_
  refine lv_iload_n hx hb d_Z_hold_4 rfl (lv_at hl 1 rfl) ?_
  refine lv_iconst (v := 1) hx hb d_Z_hold_5 (by decide) ?_
  obtain ⟨h13, e13, e14⟩ := hI.zh hj
  refine va_zast (D := D) hx hb hK hP hD hS (13 + 4 * j) 1 e13 rfl (x := 1) (i := x9) (zz_lt hxi hi) d_Z_hold_6 (fun H locs hP hD hS => ?_)
  obtain ⟨h15, hh15⟩ : ∃ q, q = upd h13 (x9 : Int32).toNatClampNeg (vp_nar .boolean 1) := ⟨_, rfl⟩
  have e15 : ∀ i, h15 i = 0 ∨ h15 i = 1 := by rw [hh15]; exact up01 e14 (by decide)
  rw [← hh15] at hP hD
  obtain ⟨w1, hw⟩ : ∃ q, q = ws.set (13 + 4 * j) (a (13 + 4 * j), .inl (t 1, 768, .inl h15)) := ⟨_, rfl⟩
  have hP : va_P D Cl (ws.set (13 + 4 * j) (a (13 + 4 * j), .inl (t 1, 768, .inl h15))) H := hP
  have hD : va_D (Az z) (ws.set (13 + 4 * j) (a (13 + 4 * j), .inl (t 1, 768, .inl h15))) := hD
  have hF : Fr t ws (ws.set (13 + 4 * j) (a (13 + 4 * j), .inl (t 1, 768, .inl h15))) := hF.set (by omega) (by omega)
  have hI := hI.setH hj e15
  have hq9 : nul (ws.set (13 + 4 * j) (a (13 + 4 * j), .inl (t 1, 768, .inl h15))) = nul ws := nul_set nm13
  rw [← hw] at hP hD hF hI hq9
  clear hw
  have hn : nul w1 ≤ nul ws := by omega
  refine W.widen (k := Kc ws w1) (n := Ks ws w1) (by show 2 * (nul ws - nul ws) ≤ 2 * (nul ws - nul w1); omega) (by show 257 * (nul ws - nul ws) ≤ 257 * (nul ws - nul w1); omega) ?_
  refine lv_aload_n hx hb d_Z_hold_7 rfl (lv_at hl 0 rfl) ?_
  refine va_get (D := D) (ci := 4) (v := .ref (a (11 + 4 * j))) (C := R_Z) (T := F_Z) (N := 3) hx hb hts ws_Z hown hK hP (10 + 4 * j) (hI.z hj) rfl 0 (by decide) (hts _ fl_Z_14) (fun _ h9 => h9) rfl d_Z_hold_8 ?_
  refine lv_iload_n hx hb d_Z_hold_11 rfl (lv_at hl 1 rfl) ?_
  refine mu_V (n := 1) (As := [.int x9]) (rest := []) ⟨hx, hb, hml, hown, hts⟩ (c_K_bytesOf' (D := D) (t := t) (z := z) (sa := sa) (ws := w1) (pm := 12 + 4 * j) (i := i) hI (hI.zk hj) (mds_j hj) (by rw [Nn_j]; exact hi) hxi) ml_Z_28 im_K_bytesOf se_K_bytesOf in_K cd_K_bytesOf (by decide +kernel) ⟨Nat.le_of_ble_eq_true rfl, Nat.le_of_ble_eq_true rfl⟩ (va_recv hK hP (ci := 1) rfl (hI.zk hj)) (Pz_at hP hK hD hz hM hS) rfl hl.1 rfl (Nat.le_of_ble_eq_true rfl) d_Z_hold_12 ⟨by show 2 * (nul ws - nul w1) + (2 * nul w1 + 1) ≤ 2 * nul ws + 1; omega, by show 257 * (nul ws - nul w1) + (257 * nul w1 + 6) ≤ 257 * nul ws + 6; omega⟩ hS (fun _ _ _ _ _ _ h => h.elim) (fun r9 u2 H locs hp hP hD hS => ?_)
  obtain ⟨c3, j4, k5, f6, hr9, hk42, hkc, hsp, hI, hF9, hn9, hj9, hq9⟩ := hp
  subst hr9
  have hF := hF.trans hF9
  have hn : nul u2 ≤ nul ws := by omega
  refine W.widen (k := Kc ws u2) (n := Ks ws u2) (by show 2 * (nul ws - nul w1) + 2 * (nul w1 - nul u2) ≤ 2 * (nul ws - nul u2); omega) (by show 257 * (nul ws - nul w1) + 257 * (nul w1 - nul u2) ≤ 257 * (nul ws - nul u2); omega) ?_
  refine W.eq (g2 := F0 m 15 ls [.ref c3]) rfl ?_
  refine mu_end (u := u2) (v := (some (.ref c3))) ⟨_, _, _, _, rfl, hk42, hkc, hsp, hI, hF, by omega, hj9⟩ (Nat.le_refl _) (Nat.le_refl _) ?_
  exact W.aret (v := .ref c3) (rt := .array .byte) hx hb hr (Or.inr ⟨_, rfl⟩) (Or.inr ⟨_, rfl⟩) (fun t9 ht hW => ⟨rfl, ⟨by rw [ht]; exact hP, va_K.moved hW.alike hK, hD, by rw [ht]; exact Nat.le_trans hz hS.1⟩, hS.F ht⟩) hS.2.2 d_Z_hold_15
set_option maxHeartbeats 4000000 in
set_option maxRecDepth 100000 in
theorem c_U_set {l : Launch} {D : va_G} {t : Nat → ClassId} {z : Nat} {sa : Nat → Nat} {ws : va_W} {a : Nat → Nat} {k0 : Nat} {v : Nat → Int32} {x9 y9 w9 : Int32} (hI : Iv a t k0 v ws) (hB : ∃ B : Nat, B ≤ 300 ∧ w9 = nI B) : Mu l y_U_set (Cond.code y_U_set b_U_set 4 (.none : Option Jvm.ClassFile.FieldType) :: WS) ({ frames := 0, cells := 2 * nul ws + 1, slots := 257 * nul ws + 6, locals := 0 }) D t z sa ws [.ref (a 8), .int x9, .int y9, .int w9] (fun r u => ∃ v1, Iv a t k0 v1 u ∧ Fr t ws u ∧ nul u ≤ nul ws ∧ r = none ∧ (∀ i, i < 7 ∨ 11 ≤ i → v1 i = v i) ∧ v1 7 = x9 ∧ v1 8 = y9 ∧ v1 9 = w9 ∧ v1 10 = 0) Xno (Kc ws) (Ks ws) := by
  refine mu_ofW (cc := b_U_set) (maxL := 4) (ret := (.none : Option Jvm.ClassFile.FieldType)) (by decide) rfl ?_
  intro p e s m args below meth c s₁ B hml hno hv
  obtain ⟨rfl, ⟨hP, hK, hD, hz⟩, hM⟩ := hv
  have hx := B.exec
  have hb := B.bytes
  have hr := B.returns
  have hts : ∀ w ∈ WS, w.before [.ref (a 8), .int x9, .int y9, .int w9].toArray s = true := fun w h => atoms_spec B.pre w (List.mem_cons_of_mem _ h)
  have hown : s.vm.findClass R_U = some m.cls := findClass_of_methodNamed B.named
  have hlocks := B.notSynchronized
  have hA : ∀ q, s.heap.size ≤ q → Az z q := fun q h => Nat.le_trans hz h
  have hS : va_S (Az z) s.heap s.heap [] := va_S.rf
  have hF : Fr t ws ws := Fr.rf
  have hn : nul ws ≤ nul ws := Nat.le_refl _
  have hl := lv_entry ([.ref (a 8), .int x9, .int y9, .int w9]) (n := 4) (Nat.le_of_ble_eq_true rfl)
  rw [lg_entry_eq]
  generalize (lg_sl ([.ref (a 8), .int x9, .int y9, .int w9]) ++ List.replicate (4 - (lg_sl ([.ref (a 8), .int x9, .int y9, .int w9])).length) Slot.unset).toArray = ls at hl ⊢
  have hl : lv_has ls 4 [(0, .ref (a 8)), (1, .int x9), (2, .int y9), (3, .int w9)] := hl
  refine W.widen (k := Kc ws ws) (n := Ks ws ws) (Nat.zero_le _) (Nat.zero_le _) ?_
  refine lv_aload_n hx hb d_U_set_0 rfl (lv_at hl 0 rfl) ?_
  refine lv_iload_n hx hb d_U_set_1 rfl (lv_at hl 1 rfl) ?_
  refine va_put (D := D) (ci := 2) (v := .int x9) (ty := .int) (C := R_U) (T := F_U) (N := 4) hx hb hts ws_U t_U ok_U n_U hown hK hP hD hS 8 hI.u8 rfl 0 (by decide) (hts _ fl_U_9) (fun _ h9 => h9) rfl (by decide +kernel) rfl rfl (Nat.le_of_ble_eq_true rfl) d_U_set_2 (fun H locs hP hD hS => ?_)
  obtain ⟨v1, hv1⟩ : ∃ q : Nat → Int32, q = upd v 7 x9 := ⟨_, rfl⟩
  have gv1 : v1 7 = x9 := by rw [hv1]; exact pk_us
  have nv1 : ∀ i, i ≠ 7 → v1 i = v i := fun i hi => by rw [hv1]; exact pk_un hi
  have hP : va_P D Cl (ws.set 8 (cU a v1)) H := by rw [hv1]; exact hP
  have hD : va_D (Az z) (ws.set 8 (cU a v1)) := by rw [hv1]; exact hD
  obtain ⟨w2, hw⟩ : ∃ q, q = ws.set 8 (cU a v1) := ⟨_, rfl⟩
  have hP : va_P D Cl (ws.set 8 (cU a v1)) H := hP
  have hD : va_D (Az z) (ws.set 8 (cU a v1)) := hD
  have hF : Fr t ws (ws.set 8 (cU a v1)) := hF.set (by decide) (by decide)
  have hI := hI.setU (v' := v1) (fun i hi => nv1 i (by omega)) (by rw [nv1 9 (by decide)]; exact hI.bd.2.2.2.2.1) (by rw [nv1 10 (by decide)]; exact hI.bd.2.2.2.2.2.2)
  have hq9 : nul (ws.set 8 (cU a v1)) = nul ws := nul_set (by decide)
  rw [← hw] at hP hD hF hI hq9
  clear hw
  have hn : nul w2 ≤ nul ws := by omega
  refine W.widen (k := Kc ws w2) (n := Ks ws w2) (by show 2 * (nul ws - nul ws) ≤ 2 * (nul ws - nul w2); omega) (by show 257 * (nul ws - nul ws) ≤ 257 * (nul ws - nul w2); omega) ?_
  refine lv_aload_n hx hb d_U_set_5 rfl (lv_at hl 0 rfl) ?_
  refine lv_iload_n hx hb d_U_set_6 rfl (lv_at hl 2 rfl) ?_
  refine va_put (D := D) (ci := 2) (v := .int y9) (ty := .int) (C := R_U) (T := F_U) (N := 4) hx hb hts ws_U t_U ok_U n_U hown hK hP hD hS 8 hI.u8 rfl 1 (by decide) (hts _ fl_U_15) (fun _ h9 => h9) rfl (by decide +kernel) rfl rfl (Nat.le_of_ble_eq_true rfl) d_U_set_7 (fun H locs hP hD hS => ?_)
  obtain ⟨v3, hv3⟩ : ∃ q : Nat → Int32, q = upd v1 8 y9 := ⟨_, rfl⟩
  have gv3 : v3 8 = y9 := by rw [hv3]; exact pk_us
  have nv3 : ∀ i, i ≠ 8 → v3 i = v1 i := fun i hi => by rw [hv3]; exact pk_un hi
  have hP : va_P D Cl (w2.set 8 (cU a v3)) H := by rw [hv3]; exact hP
  have hD : va_D (Az z) (w2.set 8 (cU a v3)) := by rw [hv3]; exact hD
  obtain ⟨w4, hw⟩ : ∃ q, q = w2.set 8 (cU a v3) := ⟨_, rfl⟩
  have hP : va_P D Cl (w2.set 8 (cU a v3)) H := hP
  have hD : va_D (Az z) (w2.set 8 (cU a v3)) := hD
  have hF : Fr t ws (w2.set 8 (cU a v3)) := hF.set (by decide) (by decide)
  have hI := hI.setU (v' := v3) (fun i hi => nv3 i (by omega)) (by rw [nv3 9 (by decide)]; exact hI.bd.2.2.2.2.1) (by rw [nv3 10 (by decide)]; exact hI.bd.2.2.2.2.2.2)
  have hq9 : nul (w2.set 8 (cU a v3)) = nul w2 := nul_set (by decide)
  rw [← hw] at hP hD hF hI hq9
  clear hw
  have hn : nul w4 ≤ nul ws := by omega
  refine W.widen (k := Kc ws w4) (n := Ks ws w4) (by show 2 * (nul ws - nul w2) ≤ 2 * (nul ws - nul w4); omega) (by show 257 * (nul ws - nul w2) ≤ 257 * (nul ws - nul w4); omega) ?_
  refine lv_aload_n hx hb d_U_set_10 rfl (lv_at hl 0 rfl) ?_
  refine lv_iload_n hx hb d_U_set_11 rfl (lv_at hl 3 rfl) ?_
  refine va_put (D := D) (ci := 2) (v := .int w9) (ty := .int) (C := R_U) (T := F_U) (N := 4) hx hb hts ws_U t_U ok_U n_U hown hK hP hD hS 8 hI.u8 rfl 2 (by decide) (hts _ fl_U_18) (fun _ h9 => h9) rfl (by decide +kernel) rfl rfl (Nat.le_of_ble_eq_true rfl) d_U_set_12 (fun H locs hP hD hS => ?_)
  obtain ⟨v5, hv5⟩ : ∃ q : Nat → Int32, q = upd v3 9 w9 := ⟨_, rfl⟩
  have gv5 : v5 9 = w9 := by rw [hv5]; exact pk_us
  have nv5 : ∀ i, i ≠ 9 → v5 i = v3 i := fun i hi => by rw [hv5]; exact pk_un hi
  have hP : va_P D Cl (w4.set 8 (cU a v5)) H := by rw [hv5]; exact hP
  have hD : va_D (Az z) (w4.set 8 (cU a v5)) := by rw [hv5]; exact hD
  obtain ⟨w6, hw⟩ : ∃ q, q = w4.set 8 (cU a v5) := ⟨_, rfl⟩
  have hP : va_P D Cl (w4.set 8 (cU a v5)) H := hP
  have hD : va_D (Az z) (w4.set 8 (cU a v5)) := hD
  have hF : Fr t ws (w4.set 8 (cU a v5)) := hF.set (by decide) (by decide)
  have hI := hI.setU (v' := v5) (fun i hi => nv5 i (by omega)) (by rw [gv5]; exact hB) (by rw [nv5 10 (by decide)]; exact hI.bd.2.2.2.2.2.2)
  have hq9 : nul (w4.set 8 (cU a v5)) = nul w4 := nul_set (by decide)
  rw [← hw] at hP hD hF hI hq9
  clear hw
  have hn : nul w6 ≤ nul ws := by omega
  refine W.widen (k := Kc ws w6) (n := Ks ws w6) (by show 2 * (nul ws - nul w4) ≤ 2 * (nul ws - nul w6); omega) (by show 257 * (nul ws - nul w4) ≤ 257 * (nul ws - nul w6); omega) ?_
  refine lv_aload_n hx hb d_U_set_15 rfl (lv_at hl 0 rfl) ?_
  refine lv_iconst (v := 0) hx hb d_U_set_16 (by decide) ?_
  refine va_put (D := D) (ci := 2) (v := .int 0) (ty := .boolean) (C := R_U) (T := F_U) (N := 4) hx hb hts ws_U t_U ok_U n_U hown hK hP hD hS 8 hI.u8 rfl 3 (by decide) (hts _ fl_U_21) (fun _ h9 => h9) rfl (by decide +kernel) rfl rfl (Nat.le_of_ble_eq_true rfl) d_U_set_17 (fun H locs hP hD hS => ?_)
  obtain ⟨v7, hv7⟩ : ∃ q : Nat → Int32, q = upd v5 10 0 := ⟨_, rfl⟩
  have gv7 : v7 10 = 0 := by rw [hv7]; exact pk_us
  have nv7 : ∀ i, i ≠ 10 → v7 i = v5 i := fun i hi => by rw [hv7]; exact pk_un hi
  have hP : va_P D Cl (w6.set 8 (cU a v7)) H := by rw [hv7]; exact hP
  have hD : va_D (Az z) (w6.set 8 (cU a v7)) := by rw [hv7]; exact hD
  obtain ⟨w8, hw⟩ : ∃ q, q = w6.set 8 (cU a v7) := ⟨_, rfl⟩
  have hP : va_P D Cl (w6.set 8 (cU a v7)) H := hP
  have hD : va_D (Az z) (w6.set 8 (cU a v7)) := hD
  have hF : Fr t ws (w6.set 8 (cU a v7)) := hF.set (by decide) (by decide)
  have hI := hI.setU (v' := v7) (fun i hi => nv7 i (by omega)) (by rw [nv7 9 (by decide)]; exact hI.bd.2.2.2.2.1) (by rw [gv7]; decide)
  have hq9 : nul (w6.set 8 (cU a v7)) = nul w6 := nul_set (by decide)
  rw [← hw] at hP hD hF hI hq9
  clear hw
  have hn : nul w8 ≤ nul ws := by omega
  refine W.widen (k := Kc ws w8) (n := Ks ws w8) (by show 2 * (nul ws - nul w6) ≤ 2 * (nul ws - nul w8); omega) (by show 257 * (nul ws - nul w6) ≤ 257 * (nul ws - nul w8); omega) ?_
  refine mu_end (u := w8) (v := (none)) ⟨_, hI, hF, hn, rfl, fun i hi => by rw [nv7 i (by omega), nv5 i (by omega), nv3 i (by omega), nv1 i (by omega)], (by rw [nv7 7 (by decide), nv5 7 (by decide), nv3 7 (by decide), gv1]), (by rw [nv7 8 (by decide), nv5 8 (by decide), gv3]), (by rw [nv7 9 (by decide), gv5]), (by rw [gv7])⟩ (Nat.le_refl _) (Nat.le_refl _) ?_
  exact W.vret hx hb hr (fun t9 ht hW => ⟨rfl, ⟨by rw [ht]; exact hP, va_K.moved hW.alike hK, hD, by rw [ht]; exact Nat.le_trans hz hS.1⟩, hS.F ht⟩) hS.2.2 d_U_set_20
set_option maxHeartbeats 4000000 in
set_option maxRecDepth 100000 in
theorem c_U_forget {l : Launch} {D : va_G} {t : Nat → ClassId} {z : Nat} {sa : Nat → Nat} {ws : va_W} {a : Nat → Nat} {k0 : Nat} {v : Nat → Int32}  (hI : Iv a t k0 v ws)  : Mu l y_U_forget (Cond.code y_U_forget b_U_forget 1 (.none : Option Jvm.ClassFile.FieldType) :: WS) ({ frames := 1, cells := 2 * nul ws + 1, slots := 257 * nul ws + 6, locals := 23 }) D t z sa ws [.ref (a 8)] (fun r u => ∃ v1, Iv a t k0 v1 u ∧ Fr t ws u ∧ nul u ≤ nul ws ∧ r = none ∧ (∀ i, i < 7 ∨ 11 ≤ i → v1 i = v i) ∧ v1 10 = 0) Xno (Kc ws) (Ks ws) := by
  refine mu_ofW (cc := b_U_forget) (maxL := 1) (ret := (.none : Option Jvm.ClassFile.FieldType)) (by decide) rfl ?_
  intro p e s m args below meth c s₁ B hml hno hv
  obtain ⟨rfl, ⟨hP, hK, hD, hz⟩, hM⟩ := hv
  have hx := B.exec
  have hb := B.bytes
  have hr := B.returns
  have hts : ∀ w ∈ WS, w.before [.ref (a 8)].toArray s = true := fun w h => atoms_spec B.pre w (List.mem_cons_of_mem _ h)
  have hown : s.vm.findClass R_U = some m.cls := findClass_of_methodNamed B.named
  have hlocks := B.notSynchronized
  have hA : ∀ q, s.heap.size ≤ q → Az z q := fun q h => Nat.le_trans hz h
  have hS : va_S (Az z) s.heap s.heap [] := va_S.rf
  have hF : Fr t ws ws := Fr.rf
  have hn : nul ws ≤ nul ws := Nat.le_refl _
  have hl := lv_entry ([.ref (a 8)]) (n := 1) (Nat.le_of_ble_eq_true rfl)
  rw [lg_entry_eq]
  generalize (lg_sl ([.ref (a 8)]) ++ List.replicate (1 - (lg_sl ([.ref (a 8)])).length) Slot.unset).toArray = ls at hl ⊢
  have hl : lv_has ls 1 [(0, .ref (a 8))] := hl
  refine W.widen (k := Kc ws ws) (n := Ks ws ws) (Nat.zero_le _) (Nat.zero_le _) ?_
  refine lv_aload_n hx hb d_U_forget_0 rfl (lv_at hl 0 rfl) ?_
  refine lv_iconst (v := 4) hx hb d_U_forget_1 (by decide) ?_
  refine lv_iconst (v := 0) hx hb d_U_forget_2 (by decide) ?_
  refine lv_iconst (v := 0) hx hb d_U_forget_3 (by decide) ?_
  refine mu_V (n := 3) (As := [.int 4, .int 0, .int 0]) (rest := []) ⟨hx, hb, hml, hown, hts⟩ (c_U_set (D := D) (t := t) (z := z) (sa := sa) (ws := ws) (x9 := 4) (y9 := 0) (w9 := 0) hI ⟨0, by decide, rfl⟩) ml_U_25 im_U_set se_U_set in_U cd_U_set (by decide +kernel) ⟨Nat.le_of_ble_eq_true rfl, Nat.le_of_ble_eq_true rfl⟩ (va_recv hK hP (ci := 2) rfl hI.u8) (Pz_at hP hK hD hz hM hS) rfl hl.1 rfl (Nat.le_of_ble_eq_true rfl) d_U_forget_4 ⟨by show 2 * (nul ws - nul ws) + (2 * nul ws + 1) ≤ 2 * nul ws + 1; omega, by show 257 * (nul ws - nul ws) + (257 * nul ws + 6) ≤ 257 * nul ws + 6; omega⟩ hS (fun _ _ _ _ _ _ h => h.elim) (fun r9 u1 H locs hp hP hD hS => ?_)
  obtain ⟨v2, hI, hF9, hn9, hr9, ho9, -, -, -, h109⟩ := hp
  subst hr9
  have hF := hF.trans hF9
  have hn : nul u1 ≤ nul ws := by omega
  refine W.widen (k := Kc ws u1) (n := Ks ws u1) (by show 2 * (nul ws - nul ws) + 2 * (nul ws - nul u1) ≤ 2 * (nul ws - nul u1); omega) (by show 257 * (nul ws - nul ws) + 257 * (nul ws - nul u1) ≤ 257 * (nul ws - nul u1); omega) ?_
  refine W.eq (g2 := F0 m 7 ls []) rfl ?_
  refine mu_end (u := u1) (v := (none)) ⟨_, hI, hF, hn, rfl, ho9, h109⟩ (Nat.le_refl _) (Nat.le_refl _) ?_
  exact W.vret hx hb hr (fun t9 ht hW => ⟨rfl, ⟨by rw [ht]; exact hP, va_K.moved hW.alike hK, hD, by rw [ht]; exact Nat.le_trans hz hS.1⟩, hS.F ht⟩) hS.2.2 d_U_forget_7
set_option maxHeartbeats 4000000 in
set_option maxRecDepth 100000 in
theorem c_U_blowsBeforeEmptying {l : Launch} {D : va_G} {t : Nat → ClassId} {z : Nat} {sa : Nat → Nat} {ws : va_W} {a : Nat → Nat} {k0 : Nat} {v : Nat → Int32}  (hI : Iv a t k0 v ws)  : Mu l y_U_blowsBeforeEmptying (Cond.code y_U_blowsBeforeEmptying b_U_blowsBeforeEmptying 1 (some .boolean) :: WS) ({ frames := 0, cells := 2 * nul ws + 1, slots := 257 * nul ws + 6, locals := 0 }) D t z sa ws [.ref (a 8)] (fun r u => ∃ y, r = some (.int y) ∧ u = ws ∧ (y = 0 ∨ y = 1)) Xno (Kc ws) (Ks ws) := by
  refine mu_ofW (cc := b_U_blowsBeforeEmptying) (maxL := 1) (ret := (some .boolean)) (by decide) rfl ?_
  intro p e s m args below meth c s₁ B hml hno hv
  obtain ⟨rfl, ⟨hP, hK, hD, hz⟩, hM⟩ := hv
  have hx := B.exec
  have hb := B.bytes
  have hr := B.returns
  have hts : ∀ w ∈ WS, w.before [.ref (a 8)].toArray s = true := fun w h => atoms_spec B.pre w (List.mem_cons_of_mem _ h)
  have hown : s.vm.findClass R_U = some m.cls := findClass_of_methodNamed B.named
  have hlocks := B.notSynchronized
  have hA : ∀ q, s.heap.size ≤ q → Az z q := fun q h => Nat.le_trans hz h
  have hS : va_S (Az z) s.heap s.heap [] := va_S.rf
  have hF : Fr t ws ws := Fr.rf
  have hn : nul ws ≤ nul ws := Nat.le_refl _
  have hl := lv_entry ([.ref (a 8)]) (n := 1) (Nat.le_of_ble_eq_true rfl)
  rw [lg_entry_eq]
  generalize (lg_sl ([.ref (a 8)]) ++ List.replicate (1 - (lg_sl ([.ref (a 8)])).length) Slot.unset).toArray = ls at hl ⊢
  have hl : lv_has ls 1 [(0, .ref (a 8))] := hl
  refine W.widen (k := Kc ws ws) (n := Ks ws ws) (Nat.zero_le _) (Nat.zero_le _) ?_
  refine lv_aload_n hx hb d_U_blowsBeforeEmptying_0 rfl (lv_at hl 0 rfl) ?_
  refine va_get (D := D) (ci := 2) (v := .int (v 7)) (C := R_U) (T := F_U) (N := 4) hx hb hts ws_U hown hK hP 8 hI.u8 rfl 0 (by decide) (hts _ fl_U_9) (fun _ h9 => h9) rfl d_U_blowsBeforeEmptying_1 ?_
  refine lv_if_eq (tgt := 30) hx hb d_U_blowsBeforeEmptying_4 rfl (fun q1 => ?_) (fun q1 => ?_)
  · skip
    refine lv_iconst (v := 1) hx hb d_U_blowsBeforeEmptying_30 (by decide) ?_
    refine lv_goto (tgt := 35) hx hb d_U_blowsBeforeEmptying_31 rfl ?_
    refine mu_end (u := ws) (v := (some (.int 1))) ⟨_, rfl, rfl, by decide⟩ (Nat.le_refl _) (Nat.le_refl _) ?_
    exact W.zret (v := 1) (ty := .boolean) hx hb hr rfl (fun t9 ht hW => ⟨rfl, ⟨by rw [ht]; exact hP, va_K.moved hW.alike hK, hD, by rw [ht]; exact Nat.le_trans hz hS.1⟩, hS.F ht⟩) hS.2.2 d_U_blowsBeforeEmptying_35
  · skip
    refine lv_aload_n hx hb d_U_blowsBeforeEmptying_7 rfl (lv_at hl 0 rfl) ?_
    refine va_get (D := D) (ci := 2) (v := .int (v 7)) (C := R_U) (T := F_U) (N := 4) hx hb hts ws_U hown hK hP 8 hI.u8 rfl 0 (by decide) (hts _ fl_U_9) (fun _ h9 => h9) rfl d_U_blowsBeforeEmptying_8 ?_
    refine lv_iconst (v := 1) hx hb d_U_blowsBeforeEmptying_11 (by decide) ?_
    refine lv_icmp_eq (tgt := 30) hx hb d_U_blowsBeforeEmptying_12 rfl (fun q2 => ?_) (fun q2 => ?_)
    · skip
      refine lv_iconst (v := 1) hx hb d_U_blowsBeforeEmptying_30 (by decide) ?_
      refine lv_goto (tgt := 35) hx hb d_U_blowsBeforeEmptying_31 rfl ?_
      refine mu_end (u := ws) (v := (some (.int 1))) ⟨_, rfl, rfl, by decide⟩ (Nat.le_refl _) (Nat.le_refl _) ?_
      exact W.zret (v := 1) (ty := .boolean) hx hb hr rfl (fun t9 ht hW => ⟨rfl, ⟨by rw [ht]; exact hP, va_K.moved hW.alike hK, hD, by rw [ht]; exact Nat.le_trans hz hS.1⟩, hS.F ht⟩) hS.2.2 d_U_blowsBeforeEmptying_35
    · skip
      refine lv_aload_n hx hb d_U_blowsBeforeEmptying_15 rfl (lv_at hl 0 rfl) ?_
      refine va_get (D := D) (ci := 2) (v := .int (v 7)) (C := R_U) (T := F_U) (N := 4) hx hb hts ws_U hown hK hP 8 hI.u8 rfl 0 (by decide) (hts _ fl_U_9) (fun _ h9 => h9) rfl d_U_blowsBeforeEmptying_16 ?_
      refine lv_iconst (v := 2) hx hb d_U_blowsBeforeEmptying_19 (by decide) ?_
      refine lv_icmp_ne (tgt := 34) hx hb d_U_blowsBeforeEmptying_20 rfl (fun q3 => ?_) (fun q3 => ?_)
      · skip
        refine lv_iconst (v := 0) hx hb d_U_blowsBeforeEmptying_34 (by decide) ?_
        refine mu_end (u := ws) (v := (some (.int 0))) ⟨_, rfl, rfl, by decide⟩ (Nat.le_refl _) (Nat.le_refl _) ?_
        exact W.zret (v := 0) (ty := .boolean) hx hb hr rfl (fun t9 ht hW => ⟨rfl, ⟨by rw [ht]; exact hP, va_K.moved hW.alike hK, hD, by rw [ht]; exact Nat.le_trans hz hS.1⟩, hS.F ht⟩) hS.2.2 d_U_blowsBeforeEmptying_35
      · skip
        refine lv_aload_n hx hb d_U_blowsBeforeEmptying_23 rfl (lv_at hl 0 rfl) ?_
        refine va_get (D := D) (ci := 2) (v := .int (v 8)) (C := R_U) (T := F_U) (N := 4) hx hb hts ws_U hown hK hP 8 hI.u8 rfl 1 (by decide) (hts _ fl_U_15) (fun _ h9 => h9) rfl d_U_blowsBeforeEmptying_24 ?_
        refine lv_if_ne (tgt := 34) hx hb d_U_blowsBeforeEmptying_27 rfl (fun q4 => ?_) (fun q4 => ?_)
        · skip
          refine lv_iconst (v := 0) hx hb d_U_blowsBeforeEmptying_34 (by decide) ?_
          refine mu_end (u := ws) (v := (some (.int 0))) ⟨_, rfl, rfl, by decide⟩ (Nat.le_refl _) (Nat.le_refl _) ?_
          exact W.zret (v := 0) (ty := .boolean) hx hb hr rfl (fun t9 ht hW => ⟨rfl, ⟨by rw [ht]; exact hP, va_K.moved hW.alike hK, hD, by rw [ht]; exact Nat.le_trans hz hS.1⟩, hS.F ht⟩) hS.2.2 d_U_blowsBeforeEmptying_35
        · skip
          refine lv_iconst (v := 1) hx hb d_U_blowsBeforeEmptying_30 (by decide) ?_
          refine lv_goto (tgt := 35) hx hb d_U_blowsBeforeEmptying_31 rfl ?_
          refine mu_end (u := ws) (v := (some (.int 1))) ⟨_, rfl, rfl, by decide⟩ (Nat.le_refl _) (Nat.le_refl _) ?_
          exact W.zret (v := 1) (ty := .boolean) hx hb hr rfl (fun t9 ht hW => ⟨rfl, ⟨by rw [ht]; exact hP, va_K.moved hW.alike hK, hD, by rw [ht]; exact Nat.le_trans hz hS.1⟩, hS.F ht⟩) hS.2.2 d_U_blowsBeforeEmptying_35
set_option maxHeartbeats 4000000 in
set_option maxRecDepth 100000 in
theorem c_U_blowsBehindEmptying {l : Launch} {D : va_G} {t : Nat → ClassId} {z : Nat} {sa : Nat → Nat} {ws : va_W} {a : Nat → Nat} {k0 : Nat} {v : Nat → Int32}  (hI : Iv a t k0 v ws)  : Mu l y_U_blowsBehindEmptying (Cond.code y_U_blowsBehindEmptying b_U_blowsBehindEmptying 1 (some .boolean) :: WS) ({ frames := 0, cells := 2 * nul ws + 1, slots := 257 * nul ws + 6, locals := 0 }) D t z sa ws [.ref (a 8)] (fun r u => ∃ y, r = some (.int y) ∧ u = ws ∧ (y = 0 ∨ y = 1)) Xno (Kc ws) (Ks ws) := by
  refine mu_ofW (cc := b_U_blowsBehindEmptying) (maxL := 1) (ret := (some .boolean)) (by decide) rfl ?_
  intro p e s m args below meth c s₁ B hml hno hv
  obtain ⟨rfl, ⟨hP, hK, hD, hz⟩, hM⟩ := hv
  have hx := B.exec
  have hb := B.bytes
  have hr := B.returns
  have hts : ∀ w ∈ WS, w.before [.ref (a 8)].toArray s = true := fun w h => atoms_spec B.pre w (List.mem_cons_of_mem _ h)
  have hown : s.vm.findClass R_U = some m.cls := findClass_of_methodNamed B.named
  have hlocks := B.notSynchronized
  have hA : ∀ q, s.heap.size ≤ q → Az z q := fun q h => Nat.le_trans hz h
  have hS : va_S (Az z) s.heap s.heap [] := va_S.rf
  have hF : Fr t ws ws := Fr.rf
  have hn : nul ws ≤ nul ws := Nat.le_refl _
  have hl := lv_entry ([.ref (a 8)]) (n := 1) (Nat.le_of_ble_eq_true rfl)
  rw [lg_entry_eq]
  generalize (lg_sl ([.ref (a 8)]) ++ List.replicate (1 - (lg_sl ([.ref (a 8)])).length) Slot.unset).toArray = ls at hl ⊢
  have hl : lv_has ls 1 [(0, .ref (a 8))] := hl
  refine W.widen (k := Kc ws ws) (n := Ks ws ws) (Nat.zero_le _) (Nat.zero_le _) ?_
  refine lv_aload_n hx hb d_U_blowsBehindEmptying_0 rfl (lv_at hl 0 rfl) ?_
  refine va_get (D := D) (ci := 2) (v := .int (v 7)) (C := R_U) (T := F_U) (N := 4) hx hb hts ws_U hown hK hP 8 hI.u8 rfl 0 (by decide) (hts _ fl_U_9) (fun _ h9 => h9) rfl d_U_blowsBehindEmptying_1 ?_
  refine lv_iconst (v := 2) hx hb d_U_blowsBehindEmptying_4 (by decide) ?_
  refine lv_icmp_ne (tgt := 12) hx hb d_U_blowsBehindEmptying_5 rfl (fun q1 => ?_) (fun q1 => ?_)
  · skip
    refine lv_iconst (v := 0) hx hb d_U_blowsBehindEmptying_12 (by decide) ?_
    refine mu_end (u := ws) (v := (some (.int 0))) ⟨_, rfl, rfl, by decide⟩ (Nat.le_refl _) (Nat.le_refl _) ?_
    exact W.zret (v := 0) (ty := .boolean) hx hb hr rfl (fun t9 ht hW => ⟨rfl, ⟨by rw [ht]; exact hP, va_K.moved hW.alike hK, hD, by rw [ht]; exact Nat.le_trans hz hS.1⟩, hS.F ht⟩) hS.2.2 d_U_blowsBehindEmptying_13
  · skip
    refine lv_iconst (v := 1) hx hb d_U_blowsBehindEmptying_8 (by decide) ?_
    refine lv_goto (tgt := 13) hx hb d_U_blowsBehindEmptying_9 rfl ?_
    refine mu_end (u := ws) (v := (some (.int 1))) ⟨_, rfl, rfl, by decide⟩ (Nat.le_refl _) (Nat.le_refl _) ?_
    exact W.zret (v := 1) (ty := .boolean) hx hb hr rfl (fun t9 ht hW => ⟨rfl, ⟨by rw [ht]; exact hP, va_K.moved hW.alike hK, hD, by rw [ht]; exact Nat.le_trans hz hS.1⟩, hS.F ht⟩) hS.2.2 d_U_blowsBehindEmptying_13
set_option maxHeartbeats 4000000 in
set_option maxRecDepth 100000 in
theorem c_U_blowsInReopen {l : Launch} {D : va_G} {t : Nat → ClassId} {z : Nat} {sa : Nat → Nat} {ws : va_W} {a : Nat → Nat} {k0 : Nat} {v : Nat → Int32}  (hI : Iv a t k0 v ws)  : Mu l y_U_blowsInReopen (Cond.code y_U_blowsInReopen b_U_blowsInReopen 1 (some .boolean) :: WS) ({ frames := 0, cells := 2 * nul ws + 1, slots := 257 * nul ws + 6, locals := 0 }) D t z sa ws [.ref (a 8)] (fun r u => ∃ y, r = some (.int y) ∧ u = ws ∧ (y = 0 ∨ y = 1)) Xno (Kc ws) (Ks ws) := by
  refine mu_ofW (cc := b_U_blowsInReopen) (maxL := 1) (ret := (some .boolean)) (by decide) rfl ?_
  intro p e s m args below meth c s₁ B hml hno hv
  obtain ⟨rfl, ⟨hP, hK, hD, hz⟩, hM⟩ := hv
  have hx := B.exec
  have hb := B.bytes
  have hr := B.returns
  have hts : ∀ w ∈ WS, w.before [.ref (a 8)].toArray s = true := fun w h => atoms_spec B.pre w (List.mem_cons_of_mem _ h)
  have hown : s.vm.findClass R_U = some m.cls := findClass_of_methodNamed B.named
  have hlocks := B.notSynchronized
  have hA : ∀ q, s.heap.size ≤ q → Az z q := fun q h => Nat.le_trans hz h
  have hS : va_S (Az z) s.heap s.heap [] := va_S.rf
  have hF : Fr t ws ws := Fr.rf
  have hn : nul ws ≤ nul ws := Nat.le_refl _
  have hl := lv_entry ([.ref (a 8)]) (n := 1) (Nat.le_of_ble_eq_true rfl)
  rw [lg_entry_eq]
  generalize (lg_sl ([.ref (a 8)]) ++ List.replicate (1 - (lg_sl ([.ref (a 8)])).length) Slot.unset).toArray = ls at hl ⊢
  have hl : lv_has ls 1 [(0, .ref (a 8))] := hl
  refine W.widen (k := Kc ws ws) (n := Ks ws ws) (Nat.zero_le _) (Nat.zero_le _) ?_
  refine lv_aload_n hx hb d_U_blowsInReopen_0 rfl (lv_at hl 0 rfl) ?_
  refine va_get (D := D) (ci := 2) (v := .int (v 7)) (C := R_U) (T := F_U) (N := 4) hx hb hts ws_U hown hK hP 8 hI.u8 rfl 0 (by decide) (hts _ fl_U_9) (fun _ h9 => h9) rfl d_U_blowsInReopen_1 ?_
  refine lv_iconst (v := 3) hx hb d_U_blowsInReopen_4 (by decide) ?_
  refine lv_icmp_ne (tgt := 12) hx hb d_U_blowsInReopen_5 rfl (fun q1 => ?_) (fun q1 => ?_)
  · skip
    refine lv_iconst (v := 0) hx hb d_U_blowsInReopen_12 (by decide) ?_
    refine mu_end (u := ws) (v := (some (.int 0))) ⟨_, rfl, rfl, by decide⟩ (Nat.le_refl _) (Nat.le_refl _) ?_
    exact W.zret (v := 0) (ty := .boolean) hx hb hr rfl (fun t9 ht hW => ⟨rfl, ⟨by rw [ht]; exact hP, va_K.moved hW.alike hK, hD, by rw [ht]; exact Nat.le_trans hz hS.1⟩, hS.F ht⟩) hS.2.2 d_U_blowsInReopen_13
  · skip
    refine lv_iconst (v := 1) hx hb d_U_blowsInReopen_8 (by decide) ?_
    refine lv_goto (tgt := 13) hx hb d_U_blowsInReopen_9 rfl ?_
    refine mu_end (u := ws) (v := (some (.int 1))) ⟨_, rfl, rfl, by decide⟩ (Nat.le_refl _) (Nat.le_refl _) ?_
    exact W.zret (v := 1) (ty := .boolean) hx hb hr rfl (fun t9 ht hW => ⟨rfl, ⟨by rw [ht]; exact hP, va_K.moved hW.alike hK, hD, by rw [ht]; exact Nat.le_trans hz hS.1⟩, hS.F ht⟩) hS.2.2 d_U_blowsInReopen_13
set_option maxHeartbeats 4000000 in
set_option maxRecDepth 100000 in
theorem c_U_blown {l : Launch} {D : va_G} {t : Nat → ClassId} {z : Nat} {sa : Nat → Nat} {ws : va_W} {a : Nat → Nat} {k0 : Nat} {v : Nat → Int32}  (hI : Iv a t k0 v ws)  : Mu l y_U_blown (Cond.code y_U_blown b_U_blown 1 (some .boolean) :: WS) ({ frames := 0, cells := 2 * nul ws + 1, slots := 257 * nul ws + 6, locals := 0 }) D t z sa ws [.ref (a 8)] (fun r u => r = some (.int (v 10)) ∧ u = ws) Xno (Kc ws) (Ks ws) := by
  refine mu_ofW (cc := b_U_blown) (maxL := 1) (ret := (some .boolean)) (by decide) rfl ?_
  intro p e s m args below meth c s₁ B hml hno hv
  obtain ⟨rfl, ⟨hP, hK, hD, hz⟩, hM⟩ := hv
  have hx := B.exec
  have hb := B.bytes
  have hr := B.returns
  have hts : ∀ w ∈ WS, w.before [.ref (a 8)].toArray s = true := fun w h => atoms_spec B.pre w (List.mem_cons_of_mem _ h)
  have hown : s.vm.findClass R_U = some m.cls := findClass_of_methodNamed B.named
  have hlocks := B.notSynchronized
  have hA : ∀ q, s.heap.size ≤ q → Az z q := fun q h => Nat.le_trans hz h
  have hS : va_S (Az z) s.heap s.heap [] := va_S.rf
  have hF : Fr t ws ws := Fr.rf
  have hn : nul ws ≤ nul ws := Nat.le_refl _
  have hl := lv_entry ([.ref (a 8)]) (n := 1) (Nat.le_of_ble_eq_true rfl)
  rw [lg_entry_eq]
  generalize (lg_sl ([.ref (a 8)]) ++ List.replicate (1 - (lg_sl ([.ref (a 8)])).length) Slot.unset).toArray = ls at hl ⊢
  have hl : lv_has ls 1 [(0, .ref (a 8))] := hl
  refine W.widen (k := Kc ws ws) (n := Ks ws ws) (Nat.zero_le _) (Nat.zero_le _) ?_
  refine lv_aload_n hx hb d_U_blown_0 rfl (lv_at hl 0 rfl) ?_
  refine va_get (D := D) (ci := 2) (v := .int (v 10)) (C := R_U) (T := F_U) (N := 4) hx hb hts ws_U hown hK hP 8 hI.u8 rfl 3 (by decide) (hts _ fl_U_21) (fun _ h9 => h9) rfl d_U_blown_1 ?_
  refine mu_end (u := ws) (v := (some (.int (v 10)))) ⟨rfl, rfl⟩ (Nat.le_refl _) (Nat.le_refl _) ?_
  exact W.zret (v := (v 10)) (ty := .boolean) hx hb hr (nar01 hI.bd.2.2.2.2.2.2) (fun t9 ht hW => ⟨rfl, ⟨by rw [ht]; exact hP, va_K.moved hW.alike hK, hD, by rw [ht]; exact Nat.le_trans hz hS.1⟩, hS.F ht⟩) hS.2.2 d_U_blown_4
