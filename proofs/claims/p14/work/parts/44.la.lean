section SM
variable {a : Nat → Nat} {t : Nat → ClassId} {k0 NV : Nat} {v : Nat → Int32} {ws u : va_W}
theorem Iv.same (h : Iv a t k0 v ws) (hl : u.length = ws.length) (hq : ∀ p, p < 34 ∨ 42 ≤ p → u[p]? = ws[p]?) : Iv a t k0 v u := by
  obtain ⟨⟨h0, h1, h2, h4, h5, ⟨gl, h7, hg⟩, h8, ⟨r, h9⟩, hz, hk, hh⟩, hb, hB, hN, hl2, hk0, hk1, hbf⟩ := h
  have f : ∀ {p : Nat} {e : Nat × va_E}, p < 34 → ws[p]? = some e → u[p]? = some e := fun hp q => (hq _ (Or.inl hp)).trans q
  have g : ∀ {p : Nat} {e : Nat × va_E}, 42 ≤ p → ws[p]? = some e → u[p]? = some e := fun hp q => (hq _ (Or.inr hp)).trans q
  refine ⟨⟨f (by decide) h0, f (by decide) h1, f (by decide) h2, f (by decide) h4, f (by decide) h5, ⟨gl, f (by decide) h7, hg⟩, f (by decide) h8, ⟨r, f (by decide) h9⟩, fun j hj => f (by omega) (hz j hj), fun j hj => f (by omega) (hk j hj), fun j hj => ?_⟩, hb, fun pm hp => ?_, fun q => ?_, by omega, hk0, by omega, fun k c L f9 hk9 q => ?_⟩
  · obtain ⟨h11, e9, e8⟩ := hh j hj
    exact ⟨h11, f (by omega) e9, e8⟩
  · obtain ⟨g9, q1, q2⟩ := hB pm hp
    refine ⟨g9, f (mds_lt hp) q1, fun i hi b hb9 => ?_⟩
    obtain ⟨k, c9, k', f9, z1, z2, z3, z4, z5⟩ := q2 i hi b hb9
    exact ⟨k, c9, k', f9, z1, z2, g z1 z3, g z2 z4, z5⟩
  · obtain ⟨g1, ⟨g9, b9, g2, g3⟩, c9, f9, n, q1, q2, q3⟩ := hN q
    exact ⟨g1, ⟨g9, b9, f (by decide) g2, g3⟩, c9, f9, n, g g1 q1, q2, q3⟩
  · rw [hq k (by omega)] at q
    exact hbf k c L f9 hk9 q
theorem Mi.same (h : Mi a t NV v ws) (hq : ∀ p, 34 ≤ p → p < 41 → u[p]? = ws[p]?) : Mi a t NV v u := by
  obtain ⟨h1, h2, ⟨f3, h3⟩, ⟨f4, h4⟩, ⟨f5, h5, l5⟩, ⟨f6, h6, l6⟩, ⟨f7, h7, l7⟩, ⟨f8, h8, l8⟩⟩ := h
  have f : ∀ {p : Nat} {e : Nat × va_E}, 34 ≤ p → p < 41 → ws[p]? = some e → u[p]? = some e := fun h1 h2 q => (hq _ h1 h2).trans q
  exact ⟨f (by decide) (by decide) h1, h2, ⟨f3, f (by decide) (by decide) h3⟩, ⟨f4, f (by decide) (by decide) h4⟩, ⟨f5, f (by decide) (by decide) h5, l5⟩, ⟨f6, f (by decide) (by decide) h6, l6⟩, ⟨f7, f (by decide) (by decide) h7, l7⟩, ⟨f8, f (by decide) (by decide) h8, l8⟩⟩
end SM
/-- what a helper of the law leaves: the class's shape, the model's cells, out -/
def Lw (a : Nat → Nat) (t : Nat → ClassId) (ws u : va_W) : Prop := ∃ (k1 : Nat) (v1 : Nat → Int32), Iv a t k1 v1 u ∧ nul u ≤ nul ws ∧ C1 v1 ∧ (∀ p, 34 ≤ p → p < 41 → u[p]? = ws[p]?) ∧ Ou a t u
def Kl (ws u : va_W) : Nat := 2 * (nul ws - nul u) + 1
def Kt (ws u : va_W) : Nat := 257 * (nul ws - nul u) + 6
set_option maxHeartbeats 4000000 in
set_option maxRecDepth 100000 in
theorem c_L_pages {l : Launch} {D : va_G} {t : Nat → ClassId} {z : Nat} {sa : Nat → Nat} {ws : va_W} {a : Nat → Nat} {k0 : Nat} {v : Nat → Int32}  (hl0 : l.stackTraces = false) (hI : Iv a t k0 v ws) (hc1 : C1 v) (ho : Ou a t ws) : Mu l y_L_pages (Cond.codeWith y_L_pages b_L_pages 3 (some .int) [(0, 8, 11, 13)] :: WS) ({ frames := 8, cells := 2 * nul ws + 1, slots := 257 * nul ws + 6, locals := 122 }) D t z sa ws [.ref (a 0), .ref (a 41)] (fun r u => (∃ y, r = some (.int y)) ∧ Lw a t ws u) Xno (Kl ws) (Kt ws) := by
  refine mu_ofWH (cc := b_L_pages) (maxL := 3) (ret := (some .int)) (by decide) rfl ?_
  intro p e s m args below meth c s₁ B hml hv
  obtain ⟨rfl, ⟨hP, hK, hD, hz⟩, hM⟩ := hv
  have hx := B.exec
  have hb := B.bytes
  have hr := B.returns
  have hts : ∀ w ∈ WS, w.before [.ref (a 0), .ref (a 41)].toArray s = true := fun w h => atoms_spec B.pre w (List.mem_cons_of_mem _ h)
  have hown : s.vm.findClass R_L = some m.cls := findClass_of_methodNamed B.named
  have hlocks := B.notSynchronized
  have htab := vx_table (x := y_L_pages) B (atoms_spec B.pre _ List.mem_cons_self)
  have hA : ∀ q, s.heap.size ≤ q → Az z q := fun q h => Nat.le_trans hz h
  have hS : va_S (Az z) s.heap s.heap [] := va_S.rf
  have hF : Fr t ws ws := Fr.rf
  have hn : nul ws ≤ nul ws := Nat.le_refl _
  have hl := lv_entry ([.ref (a 0), .ref (a 41)]) (n := 3) (Nat.le_of_ble_eq_true rfl)
  rw [lg_entry_eq]
  generalize (lg_sl ([.ref (a 0), .ref (a 41)]) ++ List.replicate (3 - (lg_sl ([.ref (a 0), .ref (a 41)])).length) Slot.unset).toArray = ls at hl ⊢
  have hl : lv_has ls 3 [(0, .ref (a 0)), (1, .ref (a 41))] := hl
  refine W.widen (k := Kc ws ws) (n := Ks ws ws) (Nat.zero_le _) (Nat.zero_le _) ?_
  refine lv_aload_n hx hb d_L_pages_0 rfl (lv_at hl 1 rfl) ?_
  refine lv_iconst (v := 0) hx hb d_L_pages_1 (by decide) ?_
  refine lv_aload_n hx hb d_L_pages_2 rfl (lv_at hl 0 rfl) ?_
  refine mu_V (n := 0) (As := []) (rest := [.int 0, .ref (a 41)]) ⟨hx, hb, hml, hown, hts⟩ (c_S_pages (D := D) (t := t) (z := z) (sa := sa) (ws := ws)  hl0 hI hc1) ml_L_7 im_S_pages se_S_pages in_S cd_S_pages (by decide +kernel) ⟨Nat.le_of_ble_eq_true rfl, Nat.le_of_ble_eq_true rfl⟩ (va_recv hK hP (ci := 5) rfl hI.x) (Pz_at hP hK hD hz hM hS) rfl hl.1 rfl (Nat.le_of_ble_eq_true rfl) d_L_pages_3 ⟨by show 2 * (nul ws - nul ws) + (2 * nul ws + 1) ≤ 2 * nul ws + 1; omega, by show 257 * (nul ws - nul ws) + (257 * nul ws + 6) ≤ 257 * nul ws + 6; omega⟩ hS (fun E ce qx u1 H locs hxp hP hD hS hce hcv hcl => ?_) (fun r9 u1 H locs hp hP hD hS => ?_)
  · skip
    obtain ⟨hE, hu⟩ := hxp
    have hSo : So a t ws u1 := by rw [hu]; exact ⟨_, _, hI, Fr.rf, Nat.le_refl _, hc1⟩
    obtain ⟨k1, v1, hI, hF, hn, hc1⟩ := hSo
    have hq : ∀ p, 34 ≤ p → p < 41 → u1[p]? = ws[p]? := fun p h1 h2 => hF.2.1 p h1 (by omega)
    obtain ⟨fo, ho⟩ := ho
    have ho : u1[41]? = _ := (hF.2.1 41 (by decide) (by decide)).trans ho
    subst hE
    refine vx_catch (name := xISE) hown [] ⟨0, 8, 11, 13⟩ [] (htab.trans rfl) (fun z hz => nomatch hz) (by decide) (by decide) (hts _ cl_L_13) (nw_use rfl (hM.2.2.2.2.2.2.1 (.castable xISE xISE) (by decide +kernel))) hce hcv hcl ?_
    refine W.widen (k := Kl ws u1) (n := Kt ws u1) (by show 2 * (nul ws - nul ws) + (2 * (nul ws - nul u1) + 1) ≤ 2 * (nul ws - nul u1) + 1; omega) (by show 257 * (nul ws - nul ws) + (257 * (nul ws - nul u1) + 6) ≤ 257 * (nul ws - nul u1) + 6; omega) ?_
    refine lv_astore_n (lv' := [(2, .ref qx), (0, .ref (a 0)), (1, .ref (a 41))]) hx hb d_L_pages_11 rfl hl (by decide) rfl (fun ls hl => ?_)
    refine lv_iconst (v := 1) hx hb d_L_pages_12 (by decide) ?_
    refine mu_end (u := u1) (v := (some (.int 1))) ⟨⟨_, rfl⟩, _, _, hI, hn, hc1, hq, _, ho⟩ (Nat.le_refl _) (Nat.le_refl _) ?_
    exact W.iret (v := 1) hx hb hr (fun t9 ht hW => ⟨rfl, ⟨by rw [ht]; exact hP, va_K.moved hW.alike hK, hD, by rw [ht]; exact Nat.le_trans hz hS.1⟩, hS.F ht⟩) hS.2.2 d_L_pages_13
  · skip
    obtain ⟨⟨yo, hr9⟩, hSo⟩ := hp
    subst hr9
    obtain ⟨k1, v1, hI, hF, hn, hc1⟩ := hSo
    have hq : ∀ p, 34 ≤ p → p < 41 → u1[p]? = ws[p]? := fun p h1 h2 => hF.2.1 p h1 (by omega)
    obtain ⟨fo, ho⟩ := ho
    have ho : u1[41]? = _ := (hF.2.1 41 (by decide) (by decide)).trans ho
    refine W.widen (k := Kl ws u1) (n := Kt ws u1) (by show 2 * (nul ws - nul ws) + 2 * (nul ws - nul u1) ≤ 2 * (nul ws - nul u1) + 1; omega) (by show 257 * (nul ws - nul ws) + 257 * (nul ws - nul u1) ≤ 257 * (nul ws - nul u1) + 6; omega) ?_
    obtain ⟨yr, hyr⟩ : ∃ q, q = yo := ⟨_, rfl⟩
    rw [← hyr]
    refine W.eq (g2 := F0 m 6 ls [.int yr, .int 0, .ref (a 41)]) rfl ?_
    refine lv_i2l (v := yr.toInt64) hx hb d_L_pages_6 rfl ?_
    refine va_last (D := D) hx hb hK hP hD hS 41 5 ho rfl (i := 0) (x := yr.toInt64) (by unfold vp_in; decide) d_L_pages_7 (fun H locs hP hD hS => ?_)
    obtain ⟨w2, hw⟩ : ∃ q, q = u1.set 41 (a 41, .inl (t 5, 1, .inr (.inl (vp_updL fo 0 yr.toInt64)))) := ⟨_, rfl⟩
    have hP : va_P D Cl (u1.set 41 (a 41, .inl (t 5, 1, .inr (.inl (vp_updL fo 0 yr.toInt64))))) H := hP
    have hD : va_D (Az z) (u1.set 41 (a 41, .inl (t 5, 1, .inr (.inl (vp_updL fo 0 yr.toInt64))))) := hD
    rw [← hw] at hP hD
    have hI : Iv a t k1 v1 w2 := by rw [hw]; exact hI.same (by rw [List.length_set]) (fun p hp => List.getElem?_set_ne (by omega))
    have hq : ∀ p, 34 ≤ p → p < 41 → w2[p]? = ws[p]? := fun p h1 h2 => by rw [hw, List.getElem?_set_ne (by omega)]; exact hq p h1 h2
    have hq9 : nul w2 = nul u1 := by rw [hw]; exact nul_set (by decide)
    have ho : w2[41]? = some (a 41, .inl (t 5, 1, .inr (.inl (vp_updL fo 0 yr.toInt64)))) := by rw [hw]; exact lk_set ho
    clear hw
    have hn : nul w2 ≤ nul ws := by omega
    refine W.widen (k := Kl ws w2) (n := Kt ws w2) (by show 2 * (nul ws - nul u1) + 1 ≤ 2 * (nul ws - nul w2) + 1; omega) (by show 257 * (nul ws - nul u1) + 6 ≤ 257 * (nul ws - nul w2) + 6; omega) ?_
    refine lv_goto (tgt := 14) hx hb d_L_pages_8 rfl ?_
    refine lv_iconst (v := 0) hx hb d_L_pages_14 (by decide) ?_
    refine mu_end (u := w2) (v := (some (.int 0))) ⟨⟨_, rfl⟩, _, _, hI, hn, hc1, hq, _, ho⟩ (Nat.le_refl _) (Nat.le_refl _) ?_
    exact W.iret (v := 0) hx hb hr (fun t9 ht hW => ⟨rfl, ⟨by rw [ht]; exact hP, va_K.moved hW.alike hK, hD, by rw [ht]; exact Nat.le_trans hz hS.1⟩, hS.F ht⟩) hS.2.2 d_L_pages_15
set_option maxHeartbeats 4000000 in
set_option maxRecDepth 100000 in
theorem c_L_add {l : Launch} {D : va_G} {t : Nat → ClassId} {z : Nat} {sa : Nat → Nat} {ws : va_W} {a : Nat → Nat} {k0 : Nat} {v : Nat → Int32}  (hl0 : l.stackTraces = false) (hI : Iv a t k0 v ws) (hc1 : C1 v) (ho : Ou a t ws) : Mu l y_L_add (Cond.codeWith y_L_add b_L_add 3 (some .int) [(0, 8, 11, 13)] :: WS) ({ frames := 9, cells := 2 * nul ws + 1, slots := 257 * nul ws + 6, locals := 142 }) D t z sa ws [.ref (a 0), .ref (a 41)] (fun r u => (∃ y, r = some (.int y)) ∧ Lw a t ws u) Xno (Kl ws) (Kt ws) := by
  refine mu_ofWH (cc := b_L_add) (maxL := 3) (ret := (some .int)) (by decide) rfl ?_
  intro p e s m args below meth c s₁ B hml hv
  obtain ⟨rfl, ⟨hP, hK, hD, hz⟩, hM⟩ := hv
  have hx := B.exec
  have hb := B.bytes
  have hr := B.returns
  have hts : ∀ w ∈ WS, w.before [.ref (a 0), .ref (a 41)].toArray s = true := fun w h => atoms_spec B.pre w (List.mem_cons_of_mem _ h)
  have hown : s.vm.findClass R_L = some m.cls := findClass_of_methodNamed B.named
  have hlocks := B.notSynchronized
  have htab := vx_table (x := y_L_add) B (atoms_spec B.pre _ List.mem_cons_self)
  have hA : ∀ q, s.heap.size ≤ q → Az z q := fun q h => Nat.le_trans hz h
  have hS : va_S (Az z) s.heap s.heap [] := va_S.rf
  have hF : Fr t ws ws := Fr.rf
  have hn : nul ws ≤ nul ws := Nat.le_refl _
  have hl := lv_entry ([.ref (a 0), .ref (a 41)]) (n := 3) (Nat.le_of_ble_eq_true rfl)
  rw [lg_entry_eq]
  generalize (lg_sl ([.ref (a 0), .ref (a 41)]) ++ List.replicate (3 - (lg_sl ([.ref (a 0), .ref (a 41)])).length) Slot.unset).toArray = ls at hl ⊢
  have hl : lv_has ls 3 [(0, .ref (a 0)), (1, .ref (a 41))] := hl
  refine W.widen (k := Kc ws ws) (n := Ks ws ws) (Nat.zero_le _) (Nat.zero_le _) ?_
  refine lv_aload_n hx hb d_L_add_0 rfl (lv_at hl 1 rfl) ?_
  refine lv_iconst (v := 0) hx hb d_L_add_1 (by decide) ?_
  refine lv_aload_n hx hb d_L_add_2 rfl (lv_at hl 0 rfl) ?_
  refine mu_V (n := 0) (As := []) (rest := [.int 0, .ref (a 41)]) ⟨hx, hb, hml, hown, hts⟩ (c_S_add (D := D) (t := t) (z := z) (sa := sa) (ws := ws)  hl0 hI hc1) ml_L_15 im_S_add se_S_add in_S cd_S_add (by decide +kernel) ⟨Nat.le_of_ble_eq_true rfl, Nat.le_of_ble_eq_true rfl⟩ (va_recv hK hP (ci := 5) rfl hI.x) (Pz_at hP hK hD hz hM hS) rfl hl.1 rfl (Nat.le_of_ble_eq_true rfl) d_L_add_3 ⟨by show 2 * (nul ws - nul ws) + (2 * nul ws + 1) ≤ 2 * nul ws + 1; omega, by show 257 * (nul ws - nul ws) + (257 * nul ws + 6) ≤ 257 * nul ws + 6; omega⟩ hS (fun E ce qx u1 H locs hxp hP hD hS hce hcv hcl => ?_) (fun r9 u1 H locs hp hP hD hS => ?_)
  · skip
    obtain ⟨hE, hu⟩ := hxp
    have hSo : So a t ws u1 := by rw [hu]; exact ⟨_, _, hI, Fr.rf, Nat.le_refl _, hc1⟩
    obtain ⟨k1, v1, hI, hF, hn, hc1⟩ := hSo
    have hq : ∀ p, 34 ≤ p → p < 41 → u1[p]? = ws[p]? := fun p h1 h2 => hF.2.1 p h1 (by omega)
    obtain ⟨fo, ho⟩ := ho
    have ho : u1[41]? = _ := (hF.2.1 41 (by decide) (by decide)).trans ho
    subst hE
    refine vx_catch (name := xISE) hown [] ⟨0, 8, 11, 13⟩ [] (htab.trans rfl) (fun z hz => nomatch hz) (by decide) (by decide) (hts _ cl_L_13) (nw_use rfl (hM.2.2.2.2.2.2.1 (.castable xISE xISE) (by decide +kernel))) hce hcv hcl ?_
    refine W.widen (k := Kl ws u1) (n := Kt ws u1) (by show 2 * (nul ws - nul ws) + (2 * (nul ws - nul u1) + 1) ≤ 2 * (nul ws - nul u1) + 1; omega) (by show 257 * (nul ws - nul ws) + (257 * (nul ws - nul u1) + 6) ≤ 257 * (nul ws - nul u1) + 6; omega) ?_
    refine lv_astore_n (lv' := [(2, .ref qx), (0, .ref (a 0)), (1, .ref (a 41))]) hx hb d_L_add_11 rfl hl (by decide) rfl (fun ls hl => ?_)
    refine lv_iconst (v := 1) hx hb d_L_add_12 (by decide) ?_
    refine mu_end (u := u1) (v := (some (.int 1))) ⟨⟨_, rfl⟩, _, _, hI, hn, hc1, hq, _, ho⟩ (Nat.le_refl _) (Nat.le_refl _) ?_
    exact W.iret (v := 1) hx hb hr (fun t9 ht hW => ⟨rfl, ⟨by rw [ht]; exact hP, va_K.moved hW.alike hK, hD, by rw [ht]; exact Nat.le_trans hz hS.1⟩, hS.F ht⟩) hS.2.2 d_L_add_13
  · skip
    obtain ⟨⟨yo, hr9⟩, hSo⟩ := hp
    subst hr9
    obtain ⟨k1, v1, hI, hF, hn, hc1⟩ := hSo
    have hq : ∀ p, 34 ≤ p → p < 41 → u1[p]? = ws[p]? := fun p h1 h2 => hF.2.1 p h1 (by omega)
    obtain ⟨fo, ho⟩ := ho
    have ho : u1[41]? = _ := (hF.2.1 41 (by decide) (by decide)).trans ho
    refine W.widen (k := Kl ws u1) (n := Kt ws u1) (by show 2 * (nul ws - nul ws) + 2 * (nul ws - nul u1) ≤ 2 * (nul ws - nul u1) + 1; omega) (by show 257 * (nul ws - nul ws) + 257 * (nul ws - nul u1) ≤ 257 * (nul ws - nul u1) + 6; omega) ?_
    obtain ⟨yr, hyr⟩ : ∃ q, q = yo := ⟨_, rfl⟩
    rw [← hyr]
    refine W.eq (g2 := F0 m 6 ls [.int yr, .int 0, .ref (a 41)]) rfl ?_
    refine lv_i2l (v := yr.toInt64) hx hb d_L_add_6 rfl ?_
    refine va_last (D := D) hx hb hK hP hD hS 41 5 ho rfl (i := 0) (x := yr.toInt64) (by unfold vp_in; decide) d_L_add_7 (fun H locs hP hD hS => ?_)
    obtain ⟨w2, hw⟩ : ∃ q, q = u1.set 41 (a 41, .inl (t 5, 1, .inr (.inl (vp_updL fo 0 yr.toInt64)))) := ⟨_, rfl⟩
    have hP : va_P D Cl (u1.set 41 (a 41, .inl (t 5, 1, .inr (.inl (vp_updL fo 0 yr.toInt64))))) H := hP
    have hD : va_D (Az z) (u1.set 41 (a 41, .inl (t 5, 1, .inr (.inl (vp_updL fo 0 yr.toInt64))))) := hD
    rw [← hw] at hP hD
    have hI : Iv a t k1 v1 w2 := by rw [hw]; exact hI.same (by rw [List.length_set]) (fun p hp => List.getElem?_set_ne (by omega))
    have hq : ∀ p, 34 ≤ p → p < 41 → w2[p]? = ws[p]? := fun p h1 h2 => by rw [hw, List.getElem?_set_ne (by omega)]; exact hq p h1 h2
    have hq9 : nul w2 = nul u1 := by rw [hw]; exact nul_set (by decide)
    have ho : w2[41]? = some (a 41, .inl (t 5, 1, .inr (.inl (vp_updL fo 0 yr.toInt64)))) := by rw [hw]; exact lk_set ho
    clear hw
    have hn : nul w2 ≤ nul ws := by omega
    refine W.widen (k := Kl ws w2) (n := Kt ws w2) (by show 2 * (nul ws - nul u1) + 1 ≤ 2 * (nul ws - nul w2) + 1; omega) (by show 257 * (nul ws - nul u1) + 6 ≤ 257 * (nul ws - nul w2) + 6; omega) ?_
    refine lv_goto (tgt := 14) hx hb d_L_add_8 rfl ?_
    refine lv_iconst (v := 0) hx hb d_L_add_14 (by decide) ?_
    refine mu_end (u := w2) (v := (some (.int 0))) ⟨⟨_, rfl⟩, _, _, hI, hn, hc1, hq, _, ho⟩ (Nat.le_refl _) (Nat.le_refl _) ?_
    exact W.iret (v := 0) hx hb hr (fun t9 ht hW => ⟨rfl, ⟨by rw [ht]; exact hP, va_K.moved hW.alike hK, hD, by rw [ht]; exact Nat.le_trans hz hS.1⟩, hS.F ht⟩) hS.2.2 d_L_add_15
set_option maxHeartbeats 4000000 in
set_option maxRecDepth 100000 in
theorem c_L_get {l : Launch} {D : va_G} {t : Nat → ClassId} {z : Nat} {sa : Nat → Nat} {ws : va_W} {a : Nat → Nat} {k0 : Nat} {v : Nat → Int32} {x9 y9 : Int32} (hl0 : l.stackTraces = false) (hI : Iv a t k0 v ws) (hc1 : C1 v) (ho : Ou a t ws) : Mu l y_L_get (Cond.codeWith y_L_get b_L_get 5 (some .int) [(0, 10, 13, 13), (0, 10, 17, 22)] :: WS) ({ frames := 9, cells := 2 * nul ws + 1, slots := 257 * nul ws + 6, locals := 147 }) D t z sa ws [.ref (a 0), .int x9, .int y9, .ref (a 41)] (fun r u => (∃ y, r = some (.int y)) ∧ Lw a t ws u) Xno (Kl ws) (Kt ws) := by
  refine mu_ofWH (cc := b_L_get) (maxL := 5) (ret := (some .int)) (by decide) rfl ?_
  intro p e s m args below meth c s₁ B hml hv
  obtain ⟨rfl, ⟨hP, hK, hD, hz⟩, hM⟩ := hv
  have hx := B.exec
  have hb := B.bytes
  have hr := B.returns
  have hts : ∀ w ∈ WS, w.before [.ref (a 0), .int x9, .int y9, .ref (a 41)].toArray s = true := fun w h => atoms_spec B.pre w (List.mem_cons_of_mem _ h)
  have hown : s.vm.findClass R_L = some m.cls := findClass_of_methodNamed B.named
  have hlocks := B.notSynchronized
  have htab := vx_table (x := y_L_get) B (atoms_spec B.pre _ List.mem_cons_self)
  have hA : ∀ q, s.heap.size ≤ q → Az z q := fun q h => Nat.le_trans hz h
  have hS : va_S (Az z) s.heap s.heap [] := va_S.rf
  have hF : Fr t ws ws := Fr.rf
  have hn : nul ws ≤ nul ws := Nat.le_refl _
  have hl := lv_entry ([.ref (a 0), .int x9, .int y9, .ref (a 41)]) (n := 5) (Nat.le_of_ble_eq_true rfl)
  rw [lg_entry_eq]
  generalize (lg_sl ([.ref (a 0), .int x9, .int y9, .ref (a 41)]) ++ List.replicate (5 - (lg_sl ([.ref (a 0), .int x9, .int y9, .ref (a 41)])).length) Slot.unset).toArray = ls at hl ⊢
  have hl : lv_has ls 5 [(0, .ref (a 0)), (1, .int x9), (2, .int y9), (3, .ref (a 41))] := hl
  refine W.widen (k := Kc ws ws) (n := Ks ws ws) (Nat.zero_le _) (Nat.zero_le _) ?_
  refine lv_aload_n hx hb d_L_get_0 rfl (lv_at hl 3 rfl) ?_
  refine lv_iconst (v := 0) hx hb d_L_get_1 (by decide) ?_
  refine lv_aload_n hx hb d_L_get_2 rfl (lv_at hl 0 rfl) ?_
  refine lv_iload_n hx hb d_L_get_3 rfl (lv_at hl 1 rfl) ?_
  refine lv_iload_n hx hb d_L_get_4 rfl (lv_at hl 2 rfl) ?_
  refine mu_V (n := 2) (As := [.int x9, .int y9]) (rest := [.int 0, .ref (a 41)]) ⟨hx, hb, hml, hown, hts⟩ (c_S_get (D := D) (t := t) (z := z) (sa := sa) (ws := ws) (x9 := x9) (y9 := y9) hl0 hI hc1) ml_L_18 im_S_get se_S_get in_S cd_S_get (by decide +kernel) ⟨Nat.le_of_ble_eq_true rfl, Nat.le_of_ble_eq_true rfl⟩ (va_recv hK hP (ci := 5) rfl hI.x) (Pz_at hP hK hD hz hM hS) rfl hl.1 rfl (Nat.le_of_ble_eq_true rfl) d_L_get_5 ⟨by show 2 * (nul ws - nul ws) + (2 * nul ws + 1) ≤ 2 * nul ws + 1; omega, by show 257 * (nul ws - nul ws) + (257 * nul ws + 6) ≤ 257 * nul ws + 6; omega⟩ hS (fun E ce qx u1 H locs hxp hP hD hS hce hcv hcl => ?_) (fun r9 u1 H locs hp hP hD hS => ?_)
  · skip
    obtain ⟨hE, hu⟩ := hxp
    have hSo : So a t ws u1 := by rw [hu]; exact ⟨_, _, hI, Fr.rf, Nat.le_refl _, hc1⟩
    obtain ⟨k1, v1, hI, hF, hn, hc1⟩ := hSo
    have hq : ∀ p, 34 ≤ p → p < 41 → u1[p]? = ws[p]? := fun p h1 h2 => hF.2.1 p h1 (by omega)
    obtain ⟨fo, ho⟩ := ho
    have ho : u1[41]? = _ := (hF.2.1 41 (by decide) (by decide)).trans ho
    rcases hE with hE | hE
    · skip
      subst hE
      refine vx_catch (name := xISE) hown [] ⟨0, 10, 13, 13⟩ [⟨0, 10, 17, 22⟩] (htab.trans rfl) (fun z hz => nomatch hz) (by decide) (by decide) (hts _ cl_L_13) (nw_use rfl (hM.2.2.2.2.2.2.1 (.castable xISE xISE) (by decide +kernel))) hce hcv hcl ?_
      refine W.widen (k := Kl ws u1) (n := Kt ws u1) (by show 2 * (nul ws - nul ws) + (2 * (nul ws - nul u1) + 1) ≤ 2 * (nul ws - nul u1) + 1; omega) (by show 257 * (nul ws - nul ws) + (257 * (nul ws - nul u1) + 6) ≤ 257 * (nul ws - nul u1) + 6; omega) ?_
      refine lv_astore (lv' := [(4, .ref qx), (0, .ref (a 0)), (1, .int x9), (2, .int y9), (3, .ref (a 41))]) hx hb d_L_get_13 hl (by decide) rfl (fun ls hl => ?_)
      refine lv_iconst (v := 1) hx hb d_L_get_15 (by decide) ?_
      refine mu_end (u := u1) (v := (some (.int 1))) ⟨⟨_, rfl⟩, _, _, hI, hn, hc1, hq, _, ho⟩ (Nat.le_refl _) (Nat.le_refl _) ?_
      exact W.iret (v := 1) hx hb hr (fun t9 ht hW => ⟨rfl, ⟨by rw [ht]; exact hP, va_K.moved hW.alike hK, hD, by rw [ht]; exact Nat.le_trans hz hS.1⟩, hS.F ht⟩) hS.2.2 d_L_get_16
    · skip
      subst hE
      refine vx_catch (name := xIOB) hown [⟨0, 10, 13, 13⟩] ⟨0, 10, 17, 22⟩ [] (htab.trans rfl) (fun z9 hz9 => by rcases List.mem_singleton.mp hz9 with rfl; exact Or.inr ⟨by decide, xISE, hts _ cl_L_13, hM.2.2.2.2.2.2.2.1 (xIOB, xISE) (by decide +kernel)⟩) (by decide) (by decide) (hts _ cl_L_22) (nw_use rfl (hM.2.2.2.2.2.2.1 (.castable xIOB xIOB) (by decide +kernel))) hce hcv hcl ?_
      refine W.widen (k := Kl ws u1) (n := Kt ws u1) (by show 2 * (nul ws - nul ws) + (2 * (nul ws - nul u1) + 1) ≤ 2 * (nul ws - nul u1) + 1; omega) (by show 257 * (nul ws - nul ws) + (257 * (nul ws - nul u1) + 6) ≤ 257 * (nul ws - nul u1) + 6; omega) ?_
      refine lv_astore (lv' := [(4, .ref qx), (0, .ref (a 0)), (1, .int x9), (2, .int y9), (3, .ref (a 41))]) hx hb d_L_get_17 hl (by decide) rfl (fun ls hl => ?_)
      refine lv_iconst (v := 2) hx hb d_L_get_19 (by decide) ?_
      refine mu_end (u := u1) (v := (some (.int 2))) ⟨⟨_, rfl⟩, _, _, hI, hn, hc1, hq, _, ho⟩ (Nat.le_refl _) (Nat.le_refl _) ?_
      exact W.iret (v := 2) hx hb hr (fun t9 ht hW => ⟨rfl, ⟨by rw [ht]; exact hP, va_K.moved hW.alike hK, hD, by rw [ht]; exact Nat.le_trans hz hS.1⟩, hS.F ht⟩) hS.2.2 d_L_get_20
  · skip
    obtain ⟨⟨yo, hr9⟩, hSo⟩ := hp
    subst hr9
    obtain ⟨k1, v1, hI, hF, hn, hc1⟩ := hSo
    have hq : ∀ p, 34 ≤ p → p < 41 → u1[p]? = ws[p]? := fun p h1 h2 => hF.2.1 p h1 (by omega)
    obtain ⟨fo, ho⟩ := ho
    have ho : u1[41]? = _ := (hF.2.1 41 (by decide) (by decide)).trans ho
    refine W.widen (k := Kl ws u1) (n := Kt ws u1) (by show 2 * (nul ws - nul ws) + 2 * (nul ws - nul u1) ≤ 2 * (nul ws - nul u1) + 1; omega) (by show 257 * (nul ws - nul ws) + 257 * (nul ws - nul u1) ≤ 257 * (nul ws - nul u1) + 6; omega) ?_
    obtain ⟨yr, hyr⟩ : ∃ q, q = yo := ⟨_, rfl⟩
    rw [← hyr]
    refine W.eq (g2 := F0 m 8 ls [.int yr, .int 0, .ref (a 41)]) rfl ?_
    refine lv_i2l (v := yr.toInt64) hx hb d_L_get_8 rfl ?_
    refine va_last (D := D) hx hb hK hP hD hS 41 5 ho rfl (i := 0) (x := yr.toInt64) (by unfold vp_in; decide) d_L_get_9 (fun H locs hP hD hS => ?_)
    obtain ⟨w2, hw⟩ : ∃ q, q = u1.set 41 (a 41, .inl (t 5, 1, .inr (.inl (vp_updL fo 0 yr.toInt64)))) := ⟨_, rfl⟩
    have hP : va_P D Cl (u1.set 41 (a 41, .inl (t 5, 1, .inr (.inl (vp_updL fo 0 yr.toInt64))))) H := hP
    have hD : va_D (Az z) (u1.set 41 (a 41, .inl (t 5, 1, .inr (.inl (vp_updL fo 0 yr.toInt64))))) := hD
    rw [← hw] at hP hD
    have hI : Iv a t k1 v1 w2 := by rw [hw]; exact hI.same (by rw [List.length_set]) (fun p hp => List.getElem?_set_ne (by omega))
    have hq : ∀ p, 34 ≤ p → p < 41 → w2[p]? = ws[p]? := fun p h1 h2 => by rw [hw, List.getElem?_set_ne (by omega)]; exact hq p h1 h2
    have hq9 : nul w2 = nul u1 := by rw [hw]; exact nul_set (by decide)
    have ho : w2[41]? = some (a 41, .inl (t 5, 1, .inr (.inl (vp_updL fo 0 yr.toInt64)))) := by rw [hw]; exact lk_set ho
    clear hw
    have hn : nul w2 ≤ nul ws := by omega
    refine W.widen (k := Kl ws w2) (n := Kt ws w2) (by show 2 * (nul ws - nul u1) + 1 ≤ 2 * (nul ws - nul w2) + 1; omega) (by show 257 * (nul ws - nul u1) + 6 ≤ 257 * (nul ws - nul w2) + 6; omega) ?_
    refine lv_goto (tgt := 21) hx hb d_L_get_10 rfl ?_
    refine lv_iconst (v := 0) hx hb d_L_get_21 (by decide) ?_
    refine mu_end (u := w2) (v := (some (.int 0))) ⟨⟨_, rfl⟩, _, _, hI, hn, hc1, hq, _, ho⟩ (Nat.le_refl _) (Nat.le_refl _) ?_
    exact W.iret (v := 0) hx hb hr (fun t9 ht hW => ⟨rfl, ⟨by rw [ht]; exact hP, va_K.moved hW.alike hK, hD, by rw [ht]; exact Nat.le_trans hz hS.1⟩, hS.F ht⟩) hS.2.2 d_L_get_22
set_option maxHeartbeats 4000000 in
set_option maxRecDepth 100000 in
theorem c_L_put {l : Launch} {D : va_G} {t : Nat → ClassId} {z : Nat} {sa : Nat → Nat} {ws : va_W} {a : Nat → Nat} {k0 : Nat} {v : Nat → Int32} {x9 y9 w9 : Int32} (hl0 : l.stackTraces = false) (hI : Iv a t k0 v ws) (hc1 : C1 v) (ho : Ou a t ws) : Mu l y_L_put (Cond.codeWith y_L_put b_L_put 6 (some .int) [(0, 12, 15, 13), (0, 12, 19, 22)] :: WS) ({ frames := 9, cells := 2 * nul ws + 1, slots := 257 * nul ws + 6, locals := 150 }) D t z sa ws [.ref (a 0), .int x9, .int y9, .int w9, .ref (a 41)] (fun r u => (∃ y, r = some (.int y)) ∧ Lw a t ws u) Xno (Kl ws) (Kt ws) := by
  refine mu_ofWH (cc := b_L_put) (maxL := 6) (ret := (some .int)) (by decide) rfl ?_
  intro p e s m args below meth c s₁ B hml hv
  obtain ⟨rfl, ⟨hP, hK, hD, hz⟩, hM⟩ := hv
  have hx := B.exec
  have hb := B.bytes
  have hr := B.returns
  have hts : ∀ w ∈ WS, w.before [.ref (a 0), .int x9, .int y9, .int w9, .ref (a 41)].toArray s = true := fun w h => atoms_spec B.pre w (List.mem_cons_of_mem _ h)
  have hown : s.vm.findClass R_L = some m.cls := findClass_of_methodNamed B.named
  have hlocks := B.notSynchronized
  have htab := vx_table (x := y_L_put) B (atoms_spec B.pre _ List.mem_cons_self)
  have hA : ∀ q, s.heap.size ≤ q → Az z q := fun q h => Nat.le_trans hz h
  have hS : va_S (Az z) s.heap s.heap [] := va_S.rf
  have hF : Fr t ws ws := Fr.rf
  have hn : nul ws ≤ nul ws := Nat.le_refl _
  have hl := lv_entry ([.ref (a 0), .int x9, .int y9, .int w9, .ref (a 41)]) (n := 6) (Nat.le_of_ble_eq_true rfl)
  rw [lg_entry_eq]
  generalize (lg_sl ([.ref (a 0), .int x9, .int y9, .int w9, .ref (a 41)]) ++ List.replicate (6 - (lg_sl ([.ref (a 0), .int x9, .int y9, .int w9, .ref (a 41)])).length) Slot.unset).toArray = ls at hl ⊢
  have hl : lv_has ls 6 [(0, .ref (a 0)), (1, .int x9), (2, .int y9), (3, .int w9), (4, .ref (a 41))] := hl
  refine W.widen (k := Kc ws ws) (n := Ks ws ws) (Nat.zero_le _) (Nat.zero_le _) ?_
  refine lv_aload hx hb d_L_put_0 (lv_at hl 4 rfl) ?_
  refine lv_iconst (v := 0) hx hb d_L_put_2 (by decide) ?_
  refine lv_aload_n hx hb d_L_put_3 rfl (lv_at hl 0 rfl) ?_
  refine lv_iload_n hx hb d_L_put_4 rfl (lv_at hl 1 rfl) ?_
  refine lv_iload_n hx hb d_L_put_5 rfl (lv_at hl 2 rfl) ?_
  refine lv_iload_n hx hb d_L_put_6 rfl (lv_at hl 3 rfl) ?_
  refine mu_V (n := 3) (As := [.int x9, .int y9, .int w9]) (rest := [.int 0, .ref (a 41)]) ⟨hx, hb, hml, hown, hts⟩ (c_S_put (D := D) (t := t) (z := z) (sa := sa) (ws := ws) (x9 := x9) (y9 := y9) (w9 := w9) hl0 hI hc1) ml_L_24 im_S_put se_S_put in_S cd_S_put (by decide +kernel) ⟨Nat.le_of_ble_eq_true rfl, Nat.le_of_ble_eq_true rfl⟩ (va_recv hK hP (ci := 5) rfl hI.x) (Pz_at hP hK hD hz hM hS) rfl hl.1 rfl (Nat.le_of_ble_eq_true rfl) d_L_put_7 ⟨by show 2 * (nul ws - nul ws) + (2 * nul ws + 1) ≤ 2 * nul ws + 1; omega, by show 257 * (nul ws - nul ws) + (257 * nul ws + 6) ≤ 257 * nul ws + 6; omega⟩ hS (fun E ce qx u1 H locs hxp hP hD hS hce hcv hcl => ?_) (fun r9 u1 H locs hp hP hD hS => ?_)
  · skip
    obtain ⟨hE, hu⟩ := hxp
    have hSo : So a t ws u1 := by rw [hu]; exact ⟨_, _, hI, Fr.rf, Nat.le_refl _, hc1⟩
    obtain ⟨k1, v1, hI, hF, hn, hc1⟩ := hSo
    have hq : ∀ p, 34 ≤ p → p < 41 → u1[p]? = ws[p]? := fun p h1 h2 => hF.2.1 p h1 (by omega)
    obtain ⟨fo, ho⟩ := ho
    have ho : u1[41]? = _ := (hF.2.1 41 (by decide) (by decide)).trans ho
    rcases hE with hE | hE
    · skip
      subst hE
      refine vx_catch (name := xISE) hown [] ⟨0, 12, 15, 13⟩ [⟨0, 12, 19, 22⟩] (htab.trans rfl) (fun z hz => nomatch hz) (by decide) (by decide) (hts _ cl_L_13) (nw_use rfl (hM.2.2.2.2.2.2.1 (.castable xISE xISE) (by decide +kernel))) hce hcv hcl ?_
      refine W.widen (k := Kl ws u1) (n := Kt ws u1) (by show 2 * (nul ws - nul ws) + (2 * (nul ws - nul u1) + 1) ≤ 2 * (nul ws - nul u1) + 1; omega) (by show 257 * (nul ws - nul ws) + (257 * (nul ws - nul u1) + 6) ≤ 257 * (nul ws - nul u1) + 6; omega) ?_
      refine lv_astore (lv' := [(5, .ref qx), (0, .ref (a 0)), (1, .int x9), (2, .int y9), (3, .int w9), (4, .ref (a 41))]) hx hb d_L_put_15 hl (by decide) rfl (fun ls hl => ?_)
      refine lv_iconst (v := 1) hx hb d_L_put_17 (by decide) ?_
      refine mu_end (u := u1) (v := (some (.int 1))) ⟨⟨_, rfl⟩, _, _, hI, hn, hc1, hq, _, ho⟩ (Nat.le_refl _) (Nat.le_refl _) ?_
      exact W.iret (v := 1) hx hb hr (fun t9 ht hW => ⟨rfl, ⟨by rw [ht]; exact hP, va_K.moved hW.alike hK, hD, by rw [ht]; exact Nat.le_trans hz hS.1⟩, hS.F ht⟩) hS.2.2 d_L_put_18
    · skip
      subst hE
      refine vx_catch (name := xIOB) hown [⟨0, 12, 15, 13⟩] ⟨0, 12, 19, 22⟩ [] (htab.trans rfl) (fun z9 hz9 => by rcases List.mem_singleton.mp hz9 with rfl; exact Or.inr ⟨by decide, xISE, hts _ cl_L_13, hM.2.2.2.2.2.2.2.1 (xIOB, xISE) (by decide +kernel)⟩) (by decide) (by decide) (hts _ cl_L_22) (nw_use rfl (hM.2.2.2.2.2.2.1 (.castable xIOB xIOB) (by decide +kernel))) hce hcv hcl ?_
      refine W.widen (k := Kl ws u1) (n := Kt ws u1) (by show 2 * (nul ws - nul ws) + (2 * (nul ws - nul u1) + 1) ≤ 2 * (nul ws - nul u1) + 1; omega) (by show 257 * (nul ws - nul ws) + (257 * (nul ws - nul u1) + 6) ≤ 257 * (nul ws - nul u1) + 6; omega) ?_
      refine lv_astore (lv' := [(5, .ref qx), (0, .ref (a 0)), (1, .int x9), (2, .int y9), (3, .int w9), (4, .ref (a 41))]) hx hb d_L_put_19 hl (by decide) rfl (fun ls hl => ?_)
      refine lv_iconst (v := 2) hx hb d_L_put_21 (by decide) ?_
      refine mu_end (u := u1) (v := (some (.int 2))) ⟨⟨_, rfl⟩, _, _, hI, hn, hc1, hq, _, ho⟩ (Nat.le_refl _) (Nat.le_refl _) ?_
      exact W.iret (v := 2) hx hb hr (fun t9 ht hW => ⟨rfl, ⟨by rw [ht]; exact hP, va_K.moved hW.alike hK, hD, by rw [ht]; exact Nat.le_trans hz hS.1⟩, hS.F ht⟩) hS.2.2 d_L_put_22
  · skip
    obtain ⟨⟨yo, hr9⟩, hSo⟩ := hp
    subst hr9
    obtain ⟨k1, v1, hI, hF, hn, hc1⟩ := hSo
    have hq : ∀ p, 34 ≤ p → p < 41 → u1[p]? = ws[p]? := fun p h1 h2 => hF.2.1 p h1 (by omega)
    obtain ⟨fo, ho⟩ := ho
    have ho : u1[41]? = _ := (hF.2.1 41 (by decide) (by decide)).trans ho
    refine W.widen (k := Kl ws u1) (n := Kt ws u1) (by show 2 * (nul ws - nul ws) + 2 * (nul ws - nul u1) ≤ 2 * (nul ws - nul u1) + 1; omega) (by show 257 * (nul ws - nul ws) + 257 * (nul ws - nul u1) ≤ 257 * (nul ws - nul u1) + 6; omega) ?_
    obtain ⟨yr, hyr⟩ : ∃ q, q = yo := ⟨_, rfl⟩
    rw [← hyr]
    refine W.eq (g2 := F0 m 10 ls [.int yr, .int 0, .ref (a 41)]) rfl ?_
    refine lv_i2l (v := yr.toInt64) hx hb d_L_put_10 rfl ?_
    refine va_last (D := D) hx hb hK hP hD hS 41 5 ho rfl (i := 0) (x := yr.toInt64) (by unfold vp_in; decide) d_L_put_11 (fun H locs hP hD hS => ?_)
    obtain ⟨w2, hw⟩ : ∃ q, q = u1.set 41 (a 41, .inl (t 5, 1, .inr (.inl (vp_updL fo 0 yr.toInt64)))) := ⟨_, rfl⟩
    have hP : va_P D Cl (u1.set 41 (a 41, .inl (t 5, 1, .inr (.inl (vp_updL fo 0 yr.toInt64))))) H := hP
    have hD : va_D (Az z) (u1.set 41 (a 41, .inl (t 5, 1, .inr (.inl (vp_updL fo 0 yr.toInt64))))) := hD
    rw [← hw] at hP hD
    have hI : Iv a t k1 v1 w2 := by rw [hw]; exact hI.same (by rw [List.length_set]) (fun p hp => List.getElem?_set_ne (by omega))
    have hq : ∀ p, 34 ≤ p → p < 41 → w2[p]? = ws[p]? := fun p h1 h2 => by rw [hw, List.getElem?_set_ne (by omega)]; exact hq p h1 h2
    have hq9 : nul w2 = nul u1 := by rw [hw]; exact nul_set (by decide)
    have ho : w2[41]? = some (a 41, .inl (t 5, 1, .inr (.inl (vp_updL fo 0 yr.toInt64)))) := by rw [hw]; exact lk_set ho
    clear hw
    have hn : nul w2 ≤ nul ws := by omega
    refine W.widen (k := Kl ws w2) (n := Kt ws w2) (by show 2 * (nul ws - nul u1) + 1 ≤ 2 * (nul ws - nul w2) + 1; omega) (by show 257 * (nul ws - nul u1) + 6 ≤ 257 * (nul ws - nul w2) + 6; omega) ?_
    refine lv_goto (tgt := 23) hx hb d_L_put_12 rfl ?_
    refine lv_iconst (v := 0) hx hb d_L_put_23 (by decide) ?_
    refine mu_end (u := w2) (v := (some (.int 0))) ⟨⟨_, rfl⟩, _, _, hI, hn, hc1, hq, _, ho⟩ (Nat.le_refl _) (Nat.le_refl _) ?_
    exact W.iret (v := 0) hx hb hr (fun t9 ht hW => ⟨rfl, ⟨by rw [ht]; exact hP, va_K.moved hW.alike hK, hD, by rw [ht]; exact Nat.le_trans hz hS.1⟩, hS.F ht⟩) hS.2.2 d_L_put_24
set_option maxHeartbeats 4000000 in
set_option maxRecDepth 100000 in
theorem c_L_move {l : Launch} {D : va_G} {t : Nat → ClassId} {z : Nat} {sa : Nat → Nat} {ws : va_W} {a : Nat → Nat} {k0 : Nat} {v : Nat → Int32} {p9 f9 q9 t9 n9 : Int32} (hl0 : l.stackTraces = false) (hI : Iv a t k0 v ws) (hc1 : C1 v) (ho : Ou a t ws) : Mu l y_L_move (Cond.codeWith y_L_move b_L_move 7 (some .int) [(0, 11, 14, 13), (0, 11, 18, 22)] :: WS) ({ frames := 9, cells := 2 * nul ws + 1, slots := 257 * nul ws + 6, locals := 148 }) D t z sa ws [.ref (a 0), .int p9, .int f9, .int q9, .int t9, .int n9] (fun r u => (∃ y, r = some (.int y)) ∧ Lw a t ws u) Xno (Kl ws) (Kt ws) := by
  refine mu_ofWH (cc := b_L_move) (maxL := 7) (ret := (some .int)) (by decide) rfl ?_
  intro p e s m args below meth c s₁ B hml hv
  obtain ⟨rfl, ⟨hP, hK, hD, hz⟩, hM⟩ := hv
  have hx := B.exec
  have hb := B.bytes
  have hr := B.returns
  have hts : ∀ w ∈ WS, w.before [.ref (a 0), .int p9, .int f9, .int q9, .int t9, .int n9].toArray s = true := fun w h => atoms_spec B.pre w (List.mem_cons_of_mem _ h)
  have hown : s.vm.findClass R_L = some m.cls := findClass_of_methodNamed B.named
  have hlocks := B.notSynchronized
  have htab := vx_table (x := y_L_move) B (atoms_spec B.pre _ List.mem_cons_self)
  have hA : ∀ q, s.heap.size ≤ q → Az z q := fun q h => Nat.le_trans hz h
  have hS : va_S (Az z) s.heap s.heap [] := va_S.rf
  have hF : Fr t ws ws := Fr.rf
  have hn : nul ws ≤ nul ws := Nat.le_refl _
  have hl := lv_entry ([.ref (a 0), .int p9, .int f9, .int q9, .int t9, .int n9]) (n := 7) (Nat.le_of_ble_eq_true rfl)
  rw [lg_entry_eq]
  generalize (lg_sl ([.ref (a 0), .int p9, .int f9, .int q9, .int t9, .int n9]) ++ List.replicate (7 - (lg_sl ([.ref (a 0), .int p9, .int f9, .int q9, .int t9, .int n9])).length) Slot.unset).toArray = ls at hl ⊢
  have hl : lv_has ls 7 [(0, .ref (a 0)), (1, .int p9), (2, .int f9), (3, .int q9), (4, .int t9), (5, .int n9)] := hl
  refine W.widen (k := Kc ws ws) (n := Ks ws ws) (Nat.zero_le _) (Nat.zero_le _) ?_
  refine lv_aload_n hx hb d_L_move_0 rfl (lv_at hl 0 rfl) ?_
  refine lv_iload_n hx hb d_L_move_1 rfl (lv_at hl 1 rfl) ?_
  refine lv_iload_n hx hb d_L_move_2 rfl (lv_at hl 2 rfl) ?_
  refine lv_iload_n hx hb d_L_move_3 rfl (lv_at hl 3 rfl) ?_
  refine lv_iload hx hb d_L_move_4 (lv_at hl 4 rfl) ?_
  refine lv_iload hx hb d_L_move_6 (lv_at hl 5 rfl) ?_
  refine mu_V (n := 5) (As := [.int p9, .int f9, .int q9, .int t9, .int n9]) (rest := []) ⟨hx, hb, hml, hown, hts⟩ (c_S_move (D := D) (t := t) (z := z) (sa := sa) (ws := ws) (p9 := p9) (f9 := f9) (q9 := q9) (t9 := t9) (n9 := n9) hl0 hI hc1) ml_L_28 im_S_move se_S_move in_S cd_S_move (by decide +kernel) ⟨Nat.le_of_ble_eq_true rfl, Nat.le_of_ble_eq_true rfl⟩ (va_recv hK hP (ci := 5) rfl hI.x) (Pz_at hP hK hD hz hM hS) rfl hl.1 rfl (Nat.le_of_ble_eq_true rfl) d_L_move_8 ⟨by show 2 * (nul ws - nul ws) + (2 * nul ws + 1) ≤ 2 * nul ws + 1; omega, by show 257 * (nul ws - nul ws) + (257 * nul ws + 6) ≤ 257 * nul ws + 6; omega⟩ hS (fun E ce qx u1 H locs hxp hP hD hS hce hcv hcl => ?_) (fun r9 u1 H locs hp hP hD hS => ?_)
  · skip
    obtain ⟨hE, hu⟩ := hxp
    have hSo : So a t ws u1 := by rw [hu]; exact ⟨_, _, hI, Fr.rf, Nat.le_refl _, hc1⟩
    obtain ⟨k1, v1, hI, hF, hn, hc1⟩ := hSo
    have hq : ∀ p, 34 ≤ p → p < 41 → u1[p]? = ws[p]? := fun p h1 h2 => hF.2.1 p h1 (by omega)
    obtain ⟨fo, ho⟩ := ho
    have ho : u1[41]? = _ := (hF.2.1 41 (by decide) (by decide)).trans ho
    rcases hE with hE | hE
    · skip
      subst hE
      refine vx_catch (name := xISE) hown [] ⟨0, 11, 14, 13⟩ [⟨0, 11, 18, 22⟩] (htab.trans rfl) (fun z hz => nomatch hz) (by decide) (by decide) (hts _ cl_L_13) (nw_use rfl (hM.2.2.2.2.2.2.1 (.castable xISE xISE) (by decide +kernel))) hce hcv hcl ?_
      refine W.widen (k := Kl ws u1) (n := Kt ws u1) (by show 2 * (nul ws - nul ws) + (2 * (nul ws - nul u1) + 1) ≤ 2 * (nul ws - nul u1) + 1; omega) (by show 257 * (nul ws - nul ws) + (257 * (nul ws - nul u1) + 6) ≤ 257 * (nul ws - nul u1) + 6; omega) ?_
      refine lv_astore (lv' := [(6, .ref qx), (0, .ref (a 0)), (1, .int p9), (2, .int f9), (3, .int q9), (4, .int t9), (5, .int n9)]) hx hb d_L_move_14 hl (by decide) rfl (fun ls hl => ?_)
      refine lv_iconst (v := 1) hx hb d_L_move_16 (by decide) ?_
      refine mu_end (u := u1) (v := (some (.int 1))) ⟨⟨_, rfl⟩, _, _, hI, hn, hc1, hq, _, ho⟩ (Nat.le_refl _) (Nat.le_refl _) ?_
      exact W.iret (v := 1) hx hb hr (fun t9 ht hW => ⟨rfl, ⟨by rw [ht]; exact hP, va_K.moved hW.alike hK, hD, by rw [ht]; exact Nat.le_trans hz hS.1⟩, hS.F ht⟩) hS.2.2 d_L_move_17
    · skip
      subst hE
      refine vx_catch (name := xIOB) hown [⟨0, 11, 14, 13⟩] ⟨0, 11, 18, 22⟩ [] (htab.trans rfl) (fun z9 hz9 => by rcases List.mem_singleton.mp hz9 with rfl; exact Or.inr ⟨by decide, xISE, hts _ cl_L_13, hM.2.2.2.2.2.2.2.1 (xIOB, xISE) (by decide +kernel)⟩) (by decide) (by decide) (hts _ cl_L_22) (nw_use rfl (hM.2.2.2.2.2.2.1 (.castable xIOB xIOB) (by decide +kernel))) hce hcv hcl ?_
      refine W.widen (k := Kl ws u1) (n := Kt ws u1) (by show 2 * (nul ws - nul ws) + (2 * (nul ws - nul u1) + 1) ≤ 2 * (nul ws - nul u1) + 1; omega) (by show 257 * (nul ws - nul ws) + (257 * (nul ws - nul u1) + 6) ≤ 257 * (nul ws - nul u1) + 6; omega) ?_
      refine lv_astore (lv' := [(6, .ref qx), (0, .ref (a 0)), (1, .int p9), (2, .int f9), (3, .int q9), (4, .int t9), (5, .int n9)]) hx hb d_L_move_18 hl (by decide) rfl (fun ls hl => ?_)
      refine lv_iconst (v := 2) hx hb d_L_move_20 (by decide) ?_
      refine mu_end (u := u1) (v := (some (.int 2))) ⟨⟨_, rfl⟩, _, _, hI, hn, hc1, hq, _, ho⟩ (Nat.le_refl _) (Nat.le_refl _) ?_
      exact W.iret (v := 2) hx hb hr (fun t9 ht hW => ⟨rfl, ⟨by rw [ht]; exact hP, va_K.moved hW.alike hK, hD, by rw [ht]; exact Nat.le_trans hz hS.1⟩, hS.F ht⟩) hS.2.2 d_L_move_21
  · skip
    obtain ⟨hr9, hSo⟩ := hp
    subst hr9
    obtain ⟨k1, v1, hI, hF, hn, hc1⟩ := hSo
    have hq : ∀ p, 34 ≤ p → p < 41 → u1[p]? = ws[p]? := fun p h1 h2 => hF.2.1 p h1 (by omega)
    obtain ⟨fo, ho⟩ := ho
    have ho : u1[41]? = _ := (hF.2.1 41 (by decide) (by decide)).trans ho
    refine W.widen (k := Kl ws u1) (n := Kt ws u1) (by show 2 * (nul ws - nul ws) + 2 * (nul ws - nul u1) ≤ 2 * (nul ws - nul u1) + 1; omega) (by show 257 * (nul ws - nul ws) + 257 * (nul ws - nul u1) ≤ 257 * (nul ws - nul u1) + 6; omega) ?_
    refine W.eq (g2 := F0 m 11 ls []) rfl ?_
    refine lv_goto (tgt := 22) hx hb d_L_move_11 rfl ?_
    refine lv_iconst (v := 0) hx hb d_L_move_22 (by decide) ?_
    refine mu_end (u := u1) (v := (some (.int 0))) ⟨⟨_, rfl⟩, _, _, hI, hn, hc1, hq, _, ho⟩ (Nat.le_refl _) (Nat.le_refl _) ?_
    exact W.iret (v := 0) hx hb hr (fun t9 ht hW => ⟨rfl, ⟨by rw [ht]; exact hP, va_K.moved hW.alike hK, hD, by rw [ht]; exact Nat.le_trans hz hS.1⟩, hS.F ht⟩) hS.2.2 d_L_move_23
set_option maxHeartbeats 4000000 in
set_option maxRecDepth 100000 in
theorem c_L_sum {l : Launch} {D : va_G} {t : Nat → ClassId} {z : Nat} {sa : Nat → Nat} {ws : va_W} {a : Nat → Nat} {k0 : Nat} {v : Nat → Int32} {x9 : Int32} (hl0 : l.stackTraces = false) (hI : Iv a t k0 v ws) (hc1 : C1 v) (ho : Ou a t ws) : Mu l y_L_sum (Cond.codeWith y_L_sum b_L_sum 4 (some .int) [(0, 8, 11, 13), (0, 8, 14, 22)] :: WS) ({ frames := 8, cells := 2 * nul ws + 1, slots := 257 * nul ws + 6, locals := 128 }) D t z sa ws [.ref (a 0), .int x9, .ref (a 41)] (fun r u => (∃ y, r = some (.int y)) ∧ Lw a t ws u) Xno (Kl ws) (Kt ws) := by
  refine mu_ofWH (cc := b_L_sum) (maxL := 4) (ret := (some .int)) (by decide) rfl ?_
  intro p e s m args below meth c s₁ B hml hv
  obtain ⟨rfl, ⟨hP, hK, hD, hz⟩, hM⟩ := hv
  have hx := B.exec
  have hb := B.bytes
  have hr := B.returns
  have hts : ∀ w ∈ WS, w.before [.ref (a 0), .int x9, .ref (a 41)].toArray s = true := fun w h => atoms_spec B.pre w (List.mem_cons_of_mem _ h)
  have hown : s.vm.findClass R_L = some m.cls := findClass_of_methodNamed B.named
  have hlocks := B.notSynchronized
  have htab := vx_table (x := y_L_sum) B (atoms_spec B.pre _ List.mem_cons_self)
  have hA : ∀ q, s.heap.size ≤ q → Az z q := fun q h => Nat.le_trans hz h
  have hS : va_S (Az z) s.heap s.heap [] := va_S.rf
  have hF : Fr t ws ws := Fr.rf
  have hn : nul ws ≤ nul ws := Nat.le_refl _
  have hl := lv_entry ([.ref (a 0), .int x9, .ref (a 41)]) (n := 4) (Nat.le_of_ble_eq_true rfl)
  rw [lg_entry_eq]
  generalize (lg_sl ([.ref (a 0), .int x9, .ref (a 41)]) ++ List.replicate (4 - (lg_sl ([.ref (a 0), .int x9, .ref (a 41)])).length) Slot.unset).toArray = ls at hl ⊢
  have hl : lv_has ls 4 [(0, .ref (a 0)), (1, .int x9), (2, .ref (a 41))] := hl
  refine W.widen (k := Kc ws ws) (n := Ks ws ws) (Nat.zero_le _) (Nat.zero_le _) ?_
  refine lv_aload_n hx hb d_L_sum_0 rfl (lv_at hl 2 rfl) ?_
  refine lv_iconst (v := 0) hx hb d_L_sum_1 (by decide) ?_
  refine lv_aload_n hx hb d_L_sum_2 rfl (lv_at hl 0 rfl) ?_
  refine lv_iload_n hx hb d_L_sum_3 rfl (lv_at hl 1 rfl) ?_
  refine mu_V (n := 1) (As := [.int x9]) (rest := [.int 0, .ref (a 41)]) ⟨hx, hb, hml, hown, hts⟩ (c_S_sum (D := D) (t := t) (z := z) (sa := sa) (ws := ws) (x9 := x9) hl0 hI hc1) ml_L_32 im_S_sum se_S_sum in_S cd_S_sum (by decide +kernel) ⟨Nat.le_of_ble_eq_true rfl, Nat.le_of_ble_eq_true rfl⟩ (va_recv hK hP (ci := 5) rfl hI.x) (Pz_at hP hK hD hz hM hS) rfl hl.1 rfl (Nat.le_of_ble_eq_true rfl) d_L_sum_4 ⟨by show 2 * (nul ws - nul ws) + (2 * nul ws + 1) ≤ 2 * nul ws + 1; omega, by show 257 * (nul ws - nul ws) + (257 * nul ws + 6) ≤ 257 * nul ws + 6; omega⟩ hS (fun E ce qx u1 H locs hxp hP hD hS hce hcv hcl => ?_) (fun r9 u1 H locs hp hP hD hS => ?_)
  · skip
    obtain ⟨hE, hu⟩ := hxp
    have hSo : So a t ws u1 := by rw [hu]; exact ⟨_, _, hI, Fr.rf, Nat.le_refl _, hc1⟩
    obtain ⟨k1, v1, hI, hF, hn, hc1⟩ := hSo
    have hq : ∀ p, 34 ≤ p → p < 41 → u1[p]? = ws[p]? := fun p h1 h2 => hF.2.1 p h1 (by omega)
    obtain ⟨fo, ho⟩ := ho
    have ho : u1[41]? = _ := (hF.2.1 41 (by decide) (by decide)).trans ho
    rcases hE with hE | hE
    · skip
      subst hE
      refine vx_catch (name := xISE) hown [] ⟨0, 8, 11, 13⟩ [⟨0, 8, 14, 22⟩] (htab.trans rfl) (fun z hz => nomatch hz) (by decide) (by decide) (hts _ cl_L_13) (nw_use rfl (hM.2.2.2.2.2.2.1 (.castable xISE xISE) (by decide +kernel))) hce hcv hcl ?_
      refine W.widen (k := Kl ws u1) (n := Kt ws u1) (by show 2 * (nul ws - nul ws) + (2 * (nul ws - nul u1) + 1) ≤ 2 * (nul ws - nul u1) + 1; omega) (by show 257 * (nul ws - nul ws) + (257 * (nul ws - nul u1) + 6) ≤ 257 * (nul ws - nul u1) + 6; omega) ?_
      refine lv_astore_n (lv' := [(3, .ref qx), (0, .ref (a 0)), (1, .int x9), (2, .ref (a 41))]) hx hb d_L_sum_11 rfl hl (by decide) rfl (fun ls hl => ?_)
      refine lv_iconst (v := 1) hx hb d_L_sum_12 (by decide) ?_
      refine mu_end (u := u1) (v := (some (.int 1))) ⟨⟨_, rfl⟩, _, _, hI, hn, hc1, hq, _, ho⟩ (Nat.le_refl _) (Nat.le_refl _) ?_
      exact W.iret (v := 1) hx hb hr (fun t9 ht hW => ⟨rfl, ⟨by rw [ht]; exact hP, va_K.moved hW.alike hK, hD, by rw [ht]; exact Nat.le_trans hz hS.1⟩, hS.F ht⟩) hS.2.2 d_L_sum_13
    · skip
      subst hE
      refine vx_catch (name := xIOB) hown [⟨0, 8, 11, 13⟩] ⟨0, 8, 14, 22⟩ [] (htab.trans rfl) (fun z9 hz9 => by rcases List.mem_singleton.mp hz9 with rfl; exact Or.inr ⟨by decide, xISE, hts _ cl_L_13, hM.2.2.2.2.2.2.2.1 (xIOB, xISE) (by decide +kernel)⟩) (by decide) (by decide) (hts _ cl_L_22) (nw_use rfl (hM.2.2.2.2.2.2.1 (.castable xIOB xIOB) (by decide +kernel))) hce hcv hcl ?_
      refine W.widen (k := Kl ws u1) (n := Kt ws u1) (by show 2 * (nul ws - nul ws) + (2 * (nul ws - nul u1) + 1) ≤ 2 * (nul ws - nul u1) + 1; omega) (by show 257 * (nul ws - nul ws) + (257 * (nul ws - nul u1) + 6) ≤ 257 * (nul ws - nul u1) + 6; omega) ?_
      refine lv_astore_n (lv' := [(3, .ref qx), (0, .ref (a 0)), (1, .int x9), (2, .ref (a 41))]) hx hb d_L_sum_14 rfl hl (by decide) rfl (fun ls hl => ?_)
      refine lv_iconst (v := 2) hx hb d_L_sum_15 (by decide) ?_
      refine mu_end (u := u1) (v := (some (.int 2))) ⟨⟨_, rfl⟩, _, _, hI, hn, hc1, hq, _, ho⟩ (Nat.le_refl _) (Nat.le_refl _) ?_
      exact W.iret (v := 2) hx hb hr (fun t9 ht hW => ⟨rfl, ⟨by rw [ht]; exact hP, va_K.moved hW.alike hK, hD, by rw [ht]; exact Nat.le_trans hz hS.1⟩, hS.F ht⟩) hS.2.2 d_L_sum_16
  · skip
    obtain ⟨⟨yo, hr9⟩, hSo⟩ := hp
    subst hr9
    obtain ⟨k1, v1, hI, hF, hn, hc1⟩ := hSo
    have hq : ∀ p, 34 ≤ p → p < 41 → u1[p]? = ws[p]? := fun p h1 h2 => hF.2.1 p h1 (by omega)
    obtain ⟨fo, ho⟩ := ho
    have ho : u1[41]? = _ := (hF.2.1 41 (by decide) (by decide)).trans ho
    refine W.widen (k := Kl ws u1) (n := Kt ws u1) (by show 2 * (nul ws - nul ws) + 2 * (nul ws - nul u1) ≤ 2 * (nul ws - nul u1) + 1; omega) (by show 257 * (nul ws - nul ws) + 257 * (nul ws - nul u1) ≤ 257 * (nul ws - nul u1) + 6; omega) ?_
    obtain ⟨yr, hyr⟩ : ∃ q, q = yo := ⟨_, rfl⟩
    rw [← hyr]
    refine W.eq (g2 := F0 m 7 ls [.long yr, .int 0, .ref (a 41)]) rfl ?_
    refine va_last (D := D) hx hb hK hP hD hS 41 5 ho rfl (i := 0) (x := yr) (by unfold vp_in; decide) d_L_sum_7 (fun H locs hP hD hS => ?_)
    obtain ⟨w2, hw⟩ : ∃ q, q = u1.set 41 (a 41, .inl (t 5, 1, .inr (.inl (vp_updL fo 0 yr)))) := ⟨_, rfl⟩
    have hP : va_P D Cl (u1.set 41 (a 41, .inl (t 5, 1, .inr (.inl (vp_updL fo 0 yr))))) H := hP
    have hD : va_D (Az z) (u1.set 41 (a 41, .inl (t 5, 1, .inr (.inl (vp_updL fo 0 yr))))) := hD
    rw [← hw] at hP hD
    have hI : Iv a t k1 v1 w2 := by rw [hw]; exact hI.same (by rw [List.length_set]) (fun p hp => List.getElem?_set_ne (by omega))
    have hq : ∀ p, 34 ≤ p → p < 41 → w2[p]? = ws[p]? := fun p h1 h2 => by rw [hw, List.getElem?_set_ne (by omega)]; exact hq p h1 h2
    have hq9 : nul w2 = nul u1 := by rw [hw]; exact nul_set (by decide)
    have ho : w2[41]? = some (a 41, .inl (t 5, 1, .inr (.inl (vp_updL fo 0 yr)))) := by rw [hw]; exact lk_set ho
    clear hw
    have hn : nul w2 ≤ nul ws := by omega
    refine W.widen (k := Kl ws w2) (n := Kt ws w2) (by show 2 * (nul ws - nul u1) + 1 ≤ 2 * (nul ws - nul w2) + 1; omega) (by show 257 * (nul ws - nul u1) + 6 ≤ 257 * (nul ws - nul w2) + 6; omega) ?_
    refine lv_goto (tgt := 17) hx hb d_L_sum_8 rfl ?_
    refine lv_iconst (v := 0) hx hb d_L_sum_17 (by decide) ?_
    refine mu_end (u := w2) (v := (some (.int 0))) ⟨⟨_, rfl⟩, _, _, hI, hn, hc1, hq, _, ho⟩ (Nat.le_refl _) (Nat.le_refl _) ?_
    exact W.iret (v := 0) hx hb hr (fun t9 ht hW => ⟨rfl, ⟨by rw [ht]; exact hP, va_K.moved hW.alike hK, hD, by rw [ht]; exact Nat.le_trans hz hS.1⟩, hS.F ht⟩) hS.2.2 d_L_sum_18
set_option maxHeartbeats 4000000 in
set_option maxRecDepth 100000 in
theorem c_L_begin {l : Launch} {D : va_G} {t : Nat → ClassId} {z : Nat} {sa : Nat → Nat} {ws : va_W} {a : Nat → Nat} {k0 : Nat} {v : Nat → Int32}  (hl0 : l.stackTraces = false) (hI : Iv a t k0 v ws) (hc1 : C1 v) (ho : Ou a t ws) : Mu l y_L_begin (Cond.codeWith y_L_begin b_L_begin 2 (some .int) [(0, 4, 7, 13)] :: WS) ({ frames := 8, cells := 2 * nul ws + 1, slots := 257 * nul ws + 6, locals := 122 }) D t z sa ws [.ref (a 0)] (fun r u => (∃ y, r = some (.int y)) ∧ Lw a t ws u) Xno (Kl ws) (Kt ws) := by
  refine mu_ofWH (cc := b_L_begin) (maxL := 2) (ret := (some .int)) (by decide) rfl ?_
  intro p e s m args below meth c s₁ B hml hv
  obtain ⟨rfl, ⟨hP, hK, hD, hz⟩, hM⟩ := hv
  have hx := B.exec
  have hb := B.bytes
  have hr := B.returns
  have hts : ∀ w ∈ WS, w.before [.ref (a 0)].toArray s = true := fun w h => atoms_spec B.pre w (List.mem_cons_of_mem _ h)
  have hown : s.vm.findClass R_L = some m.cls := findClass_of_methodNamed B.named
  have hlocks := B.notSynchronized
  have htab := vx_table (x := y_L_begin) B (atoms_spec B.pre _ List.mem_cons_self)
  have hA : ∀ q, s.heap.size ≤ q → Az z q := fun q h => Nat.le_trans hz h
  have hS : va_S (Az z) s.heap s.heap [] := va_S.rf
  have hF : Fr t ws ws := Fr.rf
  have hn : nul ws ≤ nul ws := Nat.le_refl _
  have hl := lv_entry ([.ref (a 0)]) (n := 2) (Nat.le_of_ble_eq_true rfl)
  rw [lg_entry_eq]
  generalize (lg_sl ([.ref (a 0)]) ++ List.replicate (2 - (lg_sl ([.ref (a 0)])).length) Slot.unset).toArray = ls at hl ⊢
  have hl : lv_has ls 2 [(0, .ref (a 0))] := hl
  refine W.widen (k := Kc ws ws) (n := Ks ws ws) (Nat.zero_le _) (Nat.zero_le _) ?_
  refine lv_aload_n hx hb d_L_begin_0 rfl (lv_at hl 0 rfl) ?_
  refine mu_V (n := 0) (As := []) (rest := []) ⟨hx, hb, hml, hown, hts⟩ (c_S_begin (D := D) (t := t) (z := z) (sa := sa) (ws := ws)  hl0 hI hc1) ml_L_36 im_S_begin se_S_begin in_S cd_S_begin (by decide +kernel) ⟨Nat.le_of_ble_eq_true rfl, Nat.le_of_ble_eq_true rfl⟩ (va_recv hK hP (ci := 5) rfl hI.x) (Pz_at hP hK hD hz hM hS) rfl hl.1 rfl (Nat.le_of_ble_eq_true rfl) d_L_begin_1 ⟨by show 2 * (nul ws - nul ws) + (2 * nul ws + 1) ≤ 2 * nul ws + 1; omega, by show 257 * (nul ws - nul ws) + (257 * nul ws + 6) ≤ 257 * nul ws + 6; omega⟩ hS (fun E ce qx u1 H locs hxp hP hD hS hce hcv hcl => ?_) (fun r9 u1 H locs hp hP hD hS => ?_)
  · skip
    obtain ⟨hE, hu⟩ := hxp
    have hSo : So a t ws u1 := by rw [hu]; exact ⟨_, _, hI, Fr.rf, Nat.le_refl _, hc1⟩
    obtain ⟨k1, v1, hI, hF, hn, hc1⟩ := hSo
    have hq : ∀ p, 34 ≤ p → p < 41 → u1[p]? = ws[p]? := fun p h1 h2 => hF.2.1 p h1 (by omega)
    obtain ⟨fo, ho⟩ := ho
    have ho : u1[41]? = _ := (hF.2.1 41 (by decide) (by decide)).trans ho
    subst hE
    refine vx_catch (name := xISE) hown [] ⟨0, 4, 7, 13⟩ [] (htab.trans rfl) (fun z hz => nomatch hz) (by decide) (by decide) (hts _ cl_L_13) (nw_use rfl (hM.2.2.2.2.2.2.1 (.castable xISE xISE) (by decide +kernel))) hce hcv hcl ?_
    refine W.widen (k := Kl ws u1) (n := Kt ws u1) (by show 2 * (nul ws - nul ws) + (2 * (nul ws - nul u1) + 1) ≤ 2 * (nul ws - nul u1) + 1; omega) (by show 257 * (nul ws - nul ws) + (257 * (nul ws - nul u1) + 6) ≤ 257 * (nul ws - nul u1) + 6; omega) ?_
    refine lv_astore_n (lv' := [(1, .ref qx), (0, .ref (a 0))]) hx hb d_L_begin_7 rfl hl (by decide) rfl (fun ls hl => ?_)
    refine lv_iconst (v := 1) hx hb d_L_begin_8 (by decide) ?_
    refine mu_end (u := u1) (v := (some (.int 1))) ⟨⟨_, rfl⟩, _, _, hI, hn, hc1, hq, _, ho⟩ (Nat.le_refl _) (Nat.le_refl _) ?_
    exact W.iret (v := 1) hx hb hr (fun t9 ht hW => ⟨rfl, ⟨by rw [ht]; exact hP, va_K.moved hW.alike hK, hD, by rw [ht]; exact Nat.le_trans hz hS.1⟩, hS.F ht⟩) hS.2.2 d_L_begin_9
  · skip
    obtain ⟨hr9, hSo⟩ := hp
    subst hr9
    obtain ⟨k1, v1, hI, hF, hn, hc1⟩ := hSo
    have hq : ∀ p, 34 ≤ p → p < 41 → u1[p]? = ws[p]? := fun p h1 h2 => hF.2.1 p h1 (by omega)
    obtain ⟨fo, ho⟩ := ho
    have ho : u1[41]? = _ := (hF.2.1 41 (by decide) (by decide)).trans ho
    refine W.widen (k := Kl ws u1) (n := Kt ws u1) (by show 2 * (nul ws - nul ws) + 2 * (nul ws - nul u1) ≤ 2 * (nul ws - nul u1) + 1; omega) (by show 257 * (nul ws - nul ws) + 257 * (nul ws - nul u1) ≤ 257 * (nul ws - nul u1) + 6; omega) ?_
    refine W.eq (g2 := F0 m 4 ls []) rfl ?_
    refine lv_goto (tgt := 10) hx hb d_L_begin_4 rfl ?_
    refine lv_iconst (v := 0) hx hb d_L_begin_10 (by decide) ?_
    refine mu_end (u := u1) (v := (some (.int 0))) ⟨⟨_, rfl⟩, _, _, hI, hn, hc1, hq, _, ho⟩ (Nat.le_refl _) (Nat.le_refl _) ?_
    exact W.iret (v := 0) hx hb hr (fun t9 ht hW => ⟨rfl, ⟨by rw [ht]; exact hP, va_K.moved hW.alike hK, hD, by rw [ht]; exact Nat.le_trans hz hS.1⟩, hS.F ht⟩) hS.2.2 d_L_begin_11
set_option maxHeartbeats 4000000 in
set_option maxRecDepth 100000 in
theorem c_L_commit {l : Launch} {D : va_G} {t : Nat → ClassId} {z : Nat} {sa : Nat → Nat} {ws : va_W} {a : Nat → Nat} {k0 : Nat} {v : Nat → Int32}  (hl0 : l.stackTraces = false) (hI : Iv a t k0 v ws) (hc1 : C1 v) (ho : Ou a t ws) : Mu l y_L_commit (Cond.codeWith y_L_commit b_L_commit 2 (some .int) [(0, 4, 7, 13), (0, 4, 10, 42)] :: WS) ({ frames := 9, cells := 2 * nul ws + 1, slots := 257 * nul ws + 6, locals := 147 }) D t z sa ws [.ref (a 0)] (fun r u => (∃ y, r = some (.int y)) ∧ Lw a t ws u) Xno (Kl ws) (Kt ws) := by
  refine mu_ofWH (cc := b_L_commit) (maxL := 2) (ret := (some .int)) (by decide) rfl ?_
  intro p e s m args below meth c s₁ B hml hv
  obtain ⟨rfl, ⟨hP, hK, hD, hz⟩, hM⟩ := hv
  have hx := B.exec
  have hb := B.bytes
  have hr := B.returns
  have hts : ∀ w ∈ WS, w.before [.ref (a 0)].toArray s = true := fun w h => atoms_spec B.pre w (List.mem_cons_of_mem _ h)
  have hown : s.vm.findClass R_L = some m.cls := findClass_of_methodNamed B.named
  have hlocks := B.notSynchronized
  have htab := vx_table (x := y_L_commit) B (atoms_spec B.pre _ List.mem_cons_self)
  have hA : ∀ q, s.heap.size ≤ q → Az z q := fun q h => Nat.le_trans hz h
  have hS : va_S (Az z) s.heap s.heap [] := va_S.rf
  have hF : Fr t ws ws := Fr.rf
  have hn : nul ws ≤ nul ws := Nat.le_refl _
  have hl := lv_entry ([.ref (a 0)]) (n := 2) (Nat.le_of_ble_eq_true rfl)
  rw [lg_entry_eq]
  generalize (lg_sl ([.ref (a 0)]) ++ List.replicate (2 - (lg_sl ([.ref (a 0)])).length) Slot.unset).toArray = ls at hl ⊢
  have hl : lv_has ls 2 [(0, .ref (a 0))] := hl
  refine W.widen (k := Kc ws ws) (n := Ks ws ws) (Nat.zero_le _) (Nat.zero_le _) ?_
  refine lv_aload_n hx hb d_L_commit_0 rfl (lv_at hl 0 rfl) ?_
  refine mu_V (n := 0) (As := []) (rest := []) ⟨hx, hb, hml, hown, hts⟩ (c_S_commit (D := D) (t := t) (z := z) (sa := sa) (ws := ws)  hl0 hI hc1) ml_L_39 im_S_commit se_S_commit in_S cd_S_commit (by decide +kernel) ⟨Nat.le_of_ble_eq_true rfl, Nat.le_of_ble_eq_true rfl⟩ (va_recv hK hP (ci := 5) rfl hI.x) (Pz_at hP hK hD hz hM hS) rfl hl.1 rfl (Nat.le_of_ble_eq_true rfl) d_L_commit_1 ⟨by show 2 * (nul ws - nul ws) + (2 * nul ws + 1) ≤ 2 * nul ws + 1; omega, by show 257 * (nul ws - nul ws) + (257 * nul ws + 6) ≤ 257 * nul ws + 6; omega⟩ hS (fun E ce qx u1 H locs hxp hP hD hS hce hcv hcl => ?_) (fun r9 u1 H locs hp hP hD hS => ?_)
  · skip
    obtain ⟨hE, hSo⟩ := hxp
    obtain ⟨k1, v1, hI, hF, hn, hc1⟩ := hSo
    have hq : ∀ p, 34 ≤ p → p < 41 → u1[p]? = ws[p]? := fun p h1 h2 => hF.2.1 p h1 (by omega)
    obtain ⟨fo, ho⟩ := ho
    have ho : u1[41]? = _ := (hF.2.1 41 (by decide) (by decide)).trans ho
    rcases hE with hE | hE
    · skip
      subst hE
      refine vx_catch (name := xISE) hown [] ⟨0, 4, 7, 13⟩ [⟨0, 4, 10, 42⟩] (htab.trans rfl) (fun z hz => nomatch hz) (by decide) (by decide) (hts _ cl_L_13) (nw_use rfl (hM.2.2.2.2.2.2.1 (.castable xISE xISE) (by decide +kernel))) hce hcv hcl ?_
      refine W.widen (k := Kl ws u1) (n := Kt ws u1) (by show 2 * (nul ws - nul ws) + (2 * (nul ws - nul u1) + 1) ≤ 2 * (nul ws - nul u1) + 1; omega) (by show 257 * (nul ws - nul ws) + (257 * (nul ws - nul u1) + 6) ≤ 257 * (nul ws - nul u1) + 6; omega) ?_
      refine lv_astore_n (lv' := [(1, .ref qx), (0, .ref (a 0))]) hx hb d_L_commit_7 rfl hl (by decide) rfl (fun ls hl => ?_)
      refine lv_iconst (v := 1) hx hb d_L_commit_8 (by decide) ?_
      refine mu_end (u := u1) (v := (some (.int 1))) ⟨⟨_, rfl⟩, _, _, hI, hn, hc1, hq, _, ho⟩ (Nat.le_refl _) (Nat.le_refl _) ?_
      exact W.iret (v := 1) hx hb hr (fun t9 ht hW => ⟨rfl, ⟨by rw [ht]; exact hP, va_K.moved hW.alike hK, hD, by rw [ht]; exact Nat.le_trans hz hS.1⟩, hS.F ht⟩) hS.2.2 d_L_commit_9
    · skip
      subst hE
      refine vx_catch (name := xAE) hown [⟨0, 4, 7, 13⟩] ⟨0, 4, 10, 42⟩ [] (htab.trans rfl) (fun z9 hz9 => by rcases List.mem_singleton.mp hz9 with rfl; exact Or.inr ⟨by decide, xISE, hts _ cl_L_13, hM.2.2.2.2.2.2.2.1 (xAE, xISE) (by decide +kernel)⟩) (by decide) (by decide) (hts _ cl_L_42) (nw_use rfl (hM.2.2.2.2.2.2.1 (.castable xAE xAE) (by decide +kernel))) hce hcv hcl ?_
      refine W.widen (k := Kl ws u1) (n := Kt ws u1) (by show 2 * (nul ws - nul ws) + (2 * (nul ws - nul u1) + 1) ≤ 2 * (nul ws - nul u1) + 1; omega) (by show 257 * (nul ws - nul ws) + (257 * (nul ws - nul u1) + 6) ≤ 257 * (nul ws - nul u1) + 6; omega) ?_
      refine lv_astore_n (lv' := [(1, .ref qx), (0, .ref (a 0))]) hx hb d_L_commit_10 rfl hl (by decide) rfl (fun ls hl => ?_)
      refine lv_iconst (v := 2) hx hb d_L_commit_11 (by decide) ?_
      refine mu_end (u := u1) (v := (some (.int 2))) ⟨⟨_, rfl⟩, _, _, hI, hn, hc1, hq, _, ho⟩ (Nat.le_refl _) (Nat.le_refl _) ?_
      exact W.iret (v := 2) hx hb hr (fun t9 ht hW => ⟨rfl, ⟨by rw [ht]; exact hP, va_K.moved hW.alike hK, hD, by rw [ht]; exact Nat.le_trans hz hS.1⟩, hS.F ht⟩) hS.2.2 d_L_commit_12
  · skip
    obtain ⟨hr9, hSo⟩ := hp
    subst hr9
    obtain ⟨k1, v1, hI, hF, hn, hc1⟩ := hSo
    have hq : ∀ p, 34 ≤ p → p < 41 → u1[p]? = ws[p]? := fun p h1 h2 => hF.2.1 p h1 (by omega)
    obtain ⟨fo, ho⟩ := ho
    have ho : u1[41]? = _ := (hF.2.1 41 (by decide) (by decide)).trans ho
    refine W.widen (k := Kl ws u1) (n := Kt ws u1) (by show 2 * (nul ws - nul ws) + 2 * (nul ws - nul u1) ≤ 2 * (nul ws - nul u1) + 1; omega) (by show 257 * (nul ws - nul ws) + 257 * (nul ws - nul u1) ≤ 257 * (nul ws - nul u1) + 6; omega) ?_
    refine W.eq (g2 := F0 m 4 ls []) rfl ?_
    refine lv_goto (tgt := 13) hx hb d_L_commit_4 rfl ?_
    refine lv_iconst (v := 0) hx hb d_L_commit_13 (by decide) ?_
    refine mu_end (u := u1) (v := (some (.int 0))) ⟨⟨_, rfl⟩, _, _, hI, hn, hc1, hq, _, ho⟩ (Nat.le_refl _) (Nat.le_refl _) ?_
    exact W.iret (v := 0) hx hb hr (fun t9 ht hW => ⟨rfl, ⟨by rw [ht]; exact hP, va_K.moved hW.alike hK, hD, by rw [ht]; exact Nat.le_trans hz hS.1⟩, hS.F ht⟩) hS.2.2 d_L_commit_14
set_option maxHeartbeats 4000000 in
set_option maxRecDepth 100000 in
theorem c_L_rollback {l : Launch} {D : va_G} {t : Nat → ClassId} {z : Nat} {sa : Nat → Nat} {ws : va_W} {a : Nat → Nat} {k0 : Nat} {v : Nat → Int32}  (hl0 : l.stackTraces = false) (hI : Iv a t k0 v ws) (hc1 : C1 v) (ho : Ou a t ws) : Mu l y_L_rollback (Cond.codeWith y_L_rollback b_L_rollback 2 (some .int) [(0, 4, 7, 13)] :: WS) ({ frames := 9, cells := 2 * nul ws + 1, slots := 257 * nul ws + 6, locals := 142 }) D t z sa ws [.ref (a 0)] (fun r u => (∃ y, r = some (.int y)) ∧ Lw a t ws u) Xno (Kl ws) (Kt ws) := by
  refine mu_ofWH (cc := b_L_rollback) (maxL := 2) (ret := (some .int)) (by decide) rfl ?_
  intro p e s m args below meth c s₁ B hml hv
  obtain ⟨rfl, ⟨hP, hK, hD, hz⟩, hM⟩ := hv
  have hx := B.exec
  have hb := B.bytes
  have hr := B.returns
  have hts : ∀ w ∈ WS, w.before [.ref (a 0)].toArray s = true := fun w h => atoms_spec B.pre w (List.mem_cons_of_mem _ h)
  have hown : s.vm.findClass R_L = some m.cls := findClass_of_methodNamed B.named
  have hlocks := B.notSynchronized
  have htab := vx_table (x := y_L_rollback) B (atoms_spec B.pre _ List.mem_cons_self)
  have hA : ∀ q, s.heap.size ≤ q → Az z q := fun q h => Nat.le_trans hz h
  have hS : va_S (Az z) s.heap s.heap [] := va_S.rf
  have hF : Fr t ws ws := Fr.rf
  have hn : nul ws ≤ nul ws := Nat.le_refl _
  have hl := lv_entry ([.ref (a 0)]) (n := 2) (Nat.le_of_ble_eq_true rfl)
  rw [lg_entry_eq]
  generalize (lg_sl ([.ref (a 0)]) ++ List.replicate (2 - (lg_sl ([.ref (a 0)])).length) Slot.unset).toArray = ls at hl ⊢
  have hl : lv_has ls 2 [(0, .ref (a 0))] := hl
  refine W.widen (k := Kc ws ws) (n := Ks ws ws) (Nat.zero_le _) (Nat.zero_le _) ?_
  refine lv_aload_n hx hb d_L_rollback_0 rfl (lv_at hl 0 rfl) ?_
  refine mu_V (n := 0) (As := []) (rest := []) ⟨hx, hb, hml, hown, hts⟩ (c_S_rollback (D := D) (t := t) (z := z) (sa := sa) (ws := ws)  hl0 hI hc1) ml_L_44 im_S_rollback se_S_rollback in_S cd_S_rollback (by decide +kernel) ⟨Nat.le_of_ble_eq_true rfl, Nat.le_of_ble_eq_true rfl⟩ (va_recv hK hP (ci := 5) rfl hI.x) (Pz_at hP hK hD hz hM hS) rfl hl.1 rfl (Nat.le_of_ble_eq_true rfl) d_L_rollback_1 ⟨by show 2 * (nul ws - nul ws) + (2 * nul ws + 1) ≤ 2 * nul ws + 1; omega, by show 257 * (nul ws - nul ws) + (257 * nul ws + 6) ≤ 257 * nul ws + 6; omega⟩ hS (fun E ce qx u1 H locs hxp hP hD hS hce hcv hcl => ?_) (fun r9 u1 H locs hp hP hD hS => ?_)
  · skip
    obtain ⟨hE, hu⟩ := hxp
    have hSo : So a t ws u1 := by rw [hu]; exact ⟨_, _, hI, Fr.rf, Nat.le_refl _, hc1⟩
    obtain ⟨k1, v1, hI, hF, hn, hc1⟩ := hSo
    have hq : ∀ p, 34 ≤ p → p < 41 → u1[p]? = ws[p]? := fun p h1 h2 => hF.2.1 p h1 (by omega)
    obtain ⟨fo, ho⟩ := ho
    have ho : u1[41]? = _ := (hF.2.1 41 (by decide) (by decide)).trans ho
    subst hE
    refine vx_catch (name := xISE) hown [] ⟨0, 4, 7, 13⟩ [] (htab.trans rfl) (fun z hz => nomatch hz) (by decide) (by decide) (hts _ cl_L_13) (nw_use rfl (hM.2.2.2.2.2.2.1 (.castable xISE xISE) (by decide +kernel))) hce hcv hcl ?_
    refine W.widen (k := Kl ws u1) (n := Kt ws u1) (by show 2 * (nul ws - nul ws) + (2 * (nul ws - nul u1) + 1) ≤ 2 * (nul ws - nul u1) + 1; omega) (by show 257 * (nul ws - nul ws) + (257 * (nul ws - nul u1) + 6) ≤ 257 * (nul ws - nul u1) + 6; omega) ?_
    refine lv_astore_n (lv' := [(1, .ref qx), (0, .ref (a 0))]) hx hb d_L_rollback_7 rfl hl (by decide) rfl (fun ls hl => ?_)
    refine lv_iconst (v := 1) hx hb d_L_rollback_8 (by decide) ?_
    refine mu_end (u := u1) (v := (some (.int 1))) ⟨⟨_, rfl⟩, _, _, hI, hn, hc1, hq, _, ho⟩ (Nat.le_refl _) (Nat.le_refl _) ?_
    exact W.iret (v := 1) hx hb hr (fun t9 ht hW => ⟨rfl, ⟨by rw [ht]; exact hP, va_K.moved hW.alike hK, hD, by rw [ht]; exact Nat.le_trans hz hS.1⟩, hS.F ht⟩) hS.2.2 d_L_rollback_9
  · skip
    obtain ⟨hr9, hSo⟩ := hp
    subst hr9
    obtain ⟨k1, v1, hI, hF, hn, hc1⟩ := hSo
    have hq : ∀ p, 34 ≤ p → p < 41 → u1[p]? = ws[p]? := fun p h1 h2 => hF.2.1 p h1 (by omega)
    obtain ⟨fo, ho⟩ := ho
    have ho : u1[41]? = _ := (hF.2.1 41 (by decide) (by decide)).trans ho
    refine W.widen (k := Kl ws u1) (n := Kt ws u1) (by show 2 * (nul ws - nul ws) + 2 * (nul ws - nul u1) ≤ 2 * (nul ws - nul u1) + 1; omega) (by show 257 * (nul ws - nul ws) + 257 * (nul ws - nul u1) ≤ 257 * (nul ws - nul u1) + 6; omega) ?_
    refine W.eq (g2 := F0 m 4 ls []) rfl ?_
    refine lv_goto (tgt := 10) hx hb d_L_rollback_4 rfl ?_
    refine lv_iconst (v := 0) hx hb d_L_rollback_10 (by decide) ?_
    refine mu_end (u := u1) (v := (some (.int 0))) ⟨⟨_, rfl⟩, _, _, hI, hn, hc1, hq, _, ho⟩ (Nat.le_refl _) (Nat.le_refl _) ?_
    exact W.iret (v := 0) hx hb hr (fun t9 ht hW => ⟨rfl, ⟨by rw [ht]; exact hP, va_K.moved hW.alike hK, hD, by rw [ht]; exact Nat.le_trans hz hS.1⟩, hS.F ht⟩) hS.2.2 d_L_rollback_11
set_option maxHeartbeats 4000000 in
set_option maxRecDepth 100000 in
theorem c_L_mark {l : Launch} {D : va_G} {t : Nat → ClassId} {z : Nat} {sa : Nat → Nat} {ws : va_W} {a : Nat → Nat} {k0 : Nat} {v : Nat → Int32}  (hl0 : l.stackTraces = false) (hI : Iv a t k0 v ws) (hc1 : C1 v) (ho : Ou a t ws) : Mu l y_L_mark (Cond.codeWith y_L_mark b_L_mark 3 (some .int) [(0, 8, 11, 13)] :: WS) ({ frames := 9, cells := 2 * nul ws + 1, slots := 257 * nul ws + 6, locals := 142 }) D t z sa ws [.ref (a 0), .ref (a 41)] (fun r u => (∃ y, r = some (.int y)) ∧ Lw a t ws u) Xno (Kl ws) (Kt ws) := by
  refine mu_ofWH (cc := b_L_mark) (maxL := 3) (ret := (some .int)) (by decide) rfl ?_
  intro p e s m args below meth c s₁ B hml hv
  obtain ⟨rfl, ⟨hP, hK, hD, hz⟩, hM⟩ := hv
  have hx := B.exec
  have hb := B.bytes
  have hr := B.returns
  have hts : ∀ w ∈ WS, w.before [.ref (a 0), .ref (a 41)].toArray s = true := fun w h => atoms_spec B.pre w (List.mem_cons_of_mem _ h)
  have hown : s.vm.findClass R_L = some m.cls := findClass_of_methodNamed B.named
  have hlocks := B.notSynchronized
  have htab := vx_table (x := y_L_mark) B (atoms_spec B.pre _ List.mem_cons_self)
  have hA : ∀ q, s.heap.size ≤ q → Az z q := fun q h => Nat.le_trans hz h
  have hS : va_S (Az z) s.heap s.heap [] := va_S.rf
  have hF : Fr t ws ws := Fr.rf
  have hn : nul ws ≤ nul ws := Nat.le_refl _
  have hl := lv_entry ([.ref (a 0), .ref (a 41)]) (n := 3) (Nat.le_of_ble_eq_true rfl)
  rw [lg_entry_eq]
  generalize (lg_sl ([.ref (a 0), .ref (a 41)]) ++ List.replicate (3 - (lg_sl ([.ref (a 0), .ref (a 41)])).length) Slot.unset).toArray = ls at hl ⊢
  have hl : lv_has ls 3 [(0, .ref (a 0)), (1, .ref (a 41))] := hl
  refine W.widen (k := Kc ws ws) (n := Ks ws ws) (Nat.zero_le _) (Nat.zero_le _) ?_
  refine lv_aload_n hx hb d_L_mark_0 rfl (lv_at hl 1 rfl) ?_
  refine lv_iconst (v := 0) hx hb d_L_mark_1 (by decide) ?_
  refine lv_aload_n hx hb d_L_mark_2 rfl (lv_at hl 0 rfl) ?_
  refine mu_V (n := 0) (As := []) (rest := [.int 0, .ref (a 41)]) ⟨hx, hb, hml, hown, hts⟩ (c_S_mark (D := D) (t := t) (z := z) (sa := sa) (ws := ws)  hl0 hI hc1) ml_L_47 im_S_mark se_S_mark in_S cd_S_mark (by decide +kernel) ⟨Nat.le_of_ble_eq_true rfl, Nat.le_of_ble_eq_true rfl⟩ (va_recv hK hP (ci := 5) rfl hI.x) (Pz_at hP hK hD hz hM hS) rfl hl.1 rfl (Nat.le_of_ble_eq_true rfl) d_L_mark_3 ⟨by show 2 * (nul ws - nul ws) + (2 * nul ws + 1) ≤ 2 * nul ws + 1; omega, by show 257 * (nul ws - nul ws) + (257 * nul ws + 6) ≤ 257 * nul ws + 6; omega⟩ hS (fun E ce qx u1 H locs hxp hP hD hS hce hcv hcl => ?_) (fun r9 u1 H locs hp hP hD hS => ?_)
  · skip
    obtain ⟨hE, hu⟩ := hxp
    have hSo : So a t ws u1 := by rw [hu]; exact ⟨_, _, hI, Fr.rf, Nat.le_refl _, hc1⟩
    obtain ⟨k1, v1, hI, hF, hn, hc1⟩ := hSo
    have hq : ∀ p, 34 ≤ p → p < 41 → u1[p]? = ws[p]? := fun p h1 h2 => hF.2.1 p h1 (by omega)
    obtain ⟨fo, ho⟩ := ho
    have ho : u1[41]? = _ := (hF.2.1 41 (by decide) (by decide)).trans ho
    subst hE
    refine vx_catch (name := xISE) hown [] ⟨0, 8, 11, 13⟩ [] (htab.trans rfl) (fun z hz => nomatch hz) (by decide) (by decide) (hts _ cl_L_13) (nw_use rfl (hM.2.2.2.2.2.2.1 (.castable xISE xISE) (by decide +kernel))) hce hcv hcl ?_
    refine W.widen (k := Kl ws u1) (n := Kt ws u1) (by show 2 * (nul ws - nul ws) + (2 * (nul ws - nul u1) + 1) ≤ 2 * (nul ws - nul u1) + 1; omega) (by show 257 * (nul ws - nul ws) + (257 * (nul ws - nul u1) + 6) ≤ 257 * (nul ws - nul u1) + 6; omega) ?_
    refine lv_astore_n (lv' := [(2, .ref qx), (0, .ref (a 0)), (1, .ref (a 41))]) hx hb d_L_mark_11 rfl hl (by decide) rfl (fun ls hl => ?_)
    refine lv_iconst (v := 1) hx hb d_L_mark_12 (by decide) ?_
    refine mu_end (u := u1) (v := (some (.int 1))) ⟨⟨_, rfl⟩, _, _, hI, hn, hc1, hq, _, ho⟩ (Nat.le_refl _) (Nat.le_refl _) ?_
    exact W.iret (v := 1) hx hb hr (fun t9 ht hW => ⟨rfl, ⟨by rw [ht]; exact hP, va_K.moved hW.alike hK, hD, by rw [ht]; exact Nat.le_trans hz hS.1⟩, hS.F ht⟩) hS.2.2 d_L_mark_13
  · skip
    obtain ⟨⟨yo, hr9⟩, hSo⟩ := hp
    subst hr9
    obtain ⟨k1, v1, hI, hF, hn, hc1⟩ := hSo
    have hq : ∀ p, 34 ≤ p → p < 41 → u1[p]? = ws[p]? := fun p h1 h2 => hF.2.1 p h1 (by omega)
    obtain ⟨fo, ho⟩ := ho
    have ho : u1[41]? = _ := (hF.2.1 41 (by decide) (by decide)).trans ho
    refine W.widen (k := Kl ws u1) (n := Kt ws u1) (by show 2 * (nul ws - nul ws) + 2 * (nul ws - nul u1) ≤ 2 * (nul ws - nul u1) + 1; omega) (by show 257 * (nul ws - nul ws) + 257 * (nul ws - nul u1) ≤ 257 * (nul ws - nul u1) + 6; omega) ?_
    obtain ⟨yr, hyr⟩ : ∃ q, q = yo := ⟨_, rfl⟩
    rw [← hyr]
    refine W.eq (g2 := F0 m 6 ls [.int yr, .int 0, .ref (a 41)]) rfl ?_
    refine lv_i2l (v := yr.toInt64) hx hb d_L_mark_6 rfl ?_
    refine va_last (D := D) hx hb hK hP hD hS 41 5 ho rfl (i := 0) (x := yr.toInt64) (by unfold vp_in; decide) d_L_mark_7 (fun H locs hP hD hS => ?_)
    obtain ⟨w2, hw⟩ : ∃ q, q = u1.set 41 (a 41, .inl (t 5, 1, .inr (.inl (vp_updL fo 0 yr.toInt64)))) := ⟨_, rfl⟩
    have hP : va_P D Cl (u1.set 41 (a 41, .inl (t 5, 1, .inr (.inl (vp_updL fo 0 yr.toInt64))))) H := hP
    have hD : va_D (Az z) (u1.set 41 (a 41, .inl (t 5, 1, .inr (.inl (vp_updL fo 0 yr.toInt64))))) := hD
    rw [← hw] at hP hD
    have hI : Iv a t k1 v1 w2 := by rw [hw]; exact hI.same (by rw [List.length_set]) (fun p hp => List.getElem?_set_ne (by omega))
    have hq : ∀ p, 34 ≤ p → p < 41 → w2[p]? = ws[p]? := fun p h1 h2 => by rw [hw, List.getElem?_set_ne (by omega)]; exact hq p h1 h2
    have hq9 : nul w2 = nul u1 := by rw [hw]; exact nul_set (by decide)
    have ho : w2[41]? = some (a 41, .inl (t 5, 1, .inr (.inl (vp_updL fo 0 yr.toInt64)))) := by rw [hw]; exact lk_set ho
    clear hw
    have hn : nul w2 ≤ nul ws := by omega
    refine W.widen (k := Kl ws w2) (n := Kt ws w2) (by show 2 * (nul ws - nul u1) + 1 ≤ 2 * (nul ws - nul w2) + 1; omega) (by show 257 * (nul ws - nul u1) + 6 ≤ 257 * (nul ws - nul w2) + 6; omega) ?_
    refine lv_goto (tgt := 14) hx hb d_L_mark_8 rfl ?_
    refine lv_iconst (v := 0) hx hb d_L_mark_14 (by decide) ?_
    refine mu_end (u := w2) (v := (some (.int 0))) ⟨⟨_, rfl⟩, _, _, hI, hn, hc1, hq, _, ho⟩ (Nat.le_refl _) (Nat.le_refl _) ?_
    exact W.iret (v := 0) hx hb hr (fun t9 ht hW => ⟨rfl, ⟨by rw [ht]; exact hP, va_K.moved hW.alike hK, hD, by rw [ht]; exact Nat.le_trans hz hS.1⟩, hS.F ht⟩) hS.2.2 d_L_mark_15
set_option maxHeartbeats 4000000 in
set_option maxRecDepth 100000 in
theorem c_L_back {l : Launch} {D : va_G} {t : Nat → ClassId} {z : Nat} {sa : Nat → Nat} {ws : va_W} {a : Nat → Nat} {k0 : Nat} {v : Nat → Int32} {x9 : Int32} (hl0 : l.stackTraces = false) (hI : Iv a t k0 v ws) (hc1 : C1 v) (ho : Ou a t ws) : Mu l y_L_back (Cond.codeWith y_L_back b_L_back 3 (some .int) [(0, 5, 8, 13), (0, 5, 11, 22)] :: WS) ({ frames := 9, cells := 2 * nul ws + 1, slots := 257 * nul ws + 6, locals := 143 }) D t z sa ws [.ref (a 0), .int x9] (fun r u => (∃ y, r = some (.int y)) ∧ Lw a t ws u) Xno (Kl ws) (Kt ws) := by
  refine mu_ofWH (cc := b_L_back) (maxL := 3) (ret := (some .int)) (by decide) rfl ?_
  intro p e s m args below meth c s₁ B hml hv
  obtain ⟨rfl, ⟨hP, hK, hD, hz⟩, hM⟩ := hv
  have hx := B.exec
  have hb := B.bytes
  have hr := B.returns
  have hts : ∀ w ∈ WS, w.before [.ref (a 0), .int x9].toArray s = true := fun w h => atoms_spec B.pre w (List.mem_cons_of_mem _ h)
  have hown : s.vm.findClass R_L = some m.cls := findClass_of_methodNamed B.named
  have hlocks := B.notSynchronized
  have htab := vx_table (x := y_L_back) B (atoms_spec B.pre _ List.mem_cons_self)
  have hA : ∀ q, s.heap.size ≤ q → Az z q := fun q h => Nat.le_trans hz h
  have hS : va_S (Az z) s.heap s.heap [] := va_S.rf
  have hF : Fr t ws ws := Fr.rf
  have hn : nul ws ≤ nul ws := Nat.le_refl _
  have hl := lv_entry ([.ref (a 0), .int x9]) (n := 3) (Nat.le_of_ble_eq_true rfl)
  rw [lg_entry_eq]
  generalize (lg_sl ([.ref (a 0), .int x9]) ++ List.replicate (3 - (lg_sl ([.ref (a 0), .int x9])).length) Slot.unset).toArray = ls at hl ⊢
  have hl : lv_has ls 3 [(0, .ref (a 0)), (1, .int x9)] := hl
  refine W.widen (k := Kc ws ws) (n := Ks ws ws) (Nat.zero_le _) (Nat.zero_le _) ?_
  refine lv_aload_n hx hb d_L_back_0 rfl (lv_at hl 0 rfl) ?_
  refine lv_iload_n hx hb d_L_back_1 rfl (lv_at hl 1 rfl) ?_
  refine mu_V (n := 1) (As := [.int x9]) (rest := []) ⟨hx, hb, hml, hown, hts⟩ (c_S_back (D := D) (t := t) (z := z) (sa := sa) (ws := ws) (x9 := x9) hl0 hI hc1) ml_L_50 im_S_back se_S_back in_S cd_S_back (by decide +kernel) ⟨Nat.le_of_ble_eq_true rfl, Nat.le_of_ble_eq_true rfl⟩ (va_recv hK hP (ci := 5) rfl hI.x) (Pz_at hP hK hD hz hM hS) rfl hl.1 rfl (Nat.le_of_ble_eq_true rfl) d_L_back_2 ⟨by show 2 * (nul ws - nul ws) + (2 * nul ws + 1) ≤ 2 * nul ws + 1; omega, by show 257 * (nul ws - nul ws) + (257 * nul ws + 6) ≤ 257 * nul ws + 6; omega⟩ hS (fun E ce qx u1 H locs hxp hP hD hS hce hcv hcl => ?_) (fun r9 u1 H locs hp hP hD hS => ?_)
  · skip
    obtain ⟨hE, hu⟩ := hxp
    have hSo : So a t ws u1 := by rw [hu]; exact ⟨_, _, hI, Fr.rf, Nat.le_refl _, hc1⟩
    obtain ⟨k1, v1, hI, hF, hn, hc1⟩ := hSo
    have hq : ∀ p, 34 ≤ p → p < 41 → u1[p]? = ws[p]? := fun p h1 h2 => hF.2.1 p h1 (by omega)
    obtain ⟨fo, ho⟩ := ho
    have ho : u1[41]? = _ := (hF.2.1 41 (by decide) (by decide)).trans ho
    rcases hE with hE | hE
    · skip
      subst hE
      refine vx_catch (name := xISE) hown [] ⟨0, 5, 8, 13⟩ [⟨0, 5, 11, 22⟩] (htab.trans rfl) (fun z hz => nomatch hz) (by decide) (by decide) (hts _ cl_L_13) (nw_use rfl (hM.2.2.2.2.2.2.1 (.castable xISE xISE) (by decide +kernel))) hce hcv hcl ?_
      refine W.widen (k := Kl ws u1) (n := Kt ws u1) (by show 2 * (nul ws - nul ws) + (2 * (nul ws - nul u1) + 1) ≤ 2 * (nul ws - nul u1) + 1; omega) (by show 257 * (nul ws - nul ws) + (257 * (nul ws - nul u1) + 6) ≤ 257 * (nul ws - nul u1) + 6; omega) ?_
      refine lv_astore_n (lv' := [(2, .ref qx), (0, .ref (a 0)), (1, .int x9)]) hx hb d_L_back_8 rfl hl (by decide) rfl (fun ls hl => ?_)
      refine lv_iconst (v := 1) hx hb d_L_back_9 (by decide) ?_
      refine mu_end (u := u1) (v := (some (.int 1))) ⟨⟨_, rfl⟩, _, _, hI, hn, hc1, hq, _, ho⟩ (Nat.le_refl _) (Nat.le_refl _) ?_
      exact W.iret (v := 1) hx hb hr (fun t9 ht hW => ⟨rfl, ⟨by rw [ht]; exact hP, va_K.moved hW.alike hK, hD, by rw [ht]; exact Nat.le_trans hz hS.1⟩, hS.F ht⟩) hS.2.2 d_L_back_10
    · skip
      subst hE
      refine vx_catch (name := xIOB) hown [⟨0, 5, 8, 13⟩] ⟨0, 5, 11, 22⟩ [] (htab.trans rfl) (fun z9 hz9 => by rcases List.mem_singleton.mp hz9 with rfl; exact Or.inr ⟨by decide, xISE, hts _ cl_L_13, hM.2.2.2.2.2.2.2.1 (xIOB, xISE) (by decide +kernel)⟩) (by decide) (by decide) (hts _ cl_L_22) (nw_use rfl (hM.2.2.2.2.2.2.1 (.castable xIOB xIOB) (by decide +kernel))) hce hcv hcl ?_
      refine W.widen (k := Kl ws u1) (n := Kt ws u1) (by show 2 * (nul ws - nul ws) + (2 * (nul ws - nul u1) + 1) ≤ 2 * (nul ws - nul u1) + 1; omega) (by show 257 * (nul ws - nul ws) + (257 * (nul ws - nul u1) + 6) ≤ 257 * (nul ws - nul u1) + 6; omega) ?_
      refine lv_astore_n (lv' := [(2, .ref qx), (0, .ref (a 0)), (1, .int x9)]) hx hb d_L_back_11 rfl hl (by decide) rfl (fun ls hl => ?_)
      refine lv_iconst (v := 2) hx hb d_L_back_12 (by decide) ?_
      refine mu_end (u := u1) (v := (some (.int 2))) ⟨⟨_, rfl⟩, _, _, hI, hn, hc1, hq, _, ho⟩ (Nat.le_refl _) (Nat.le_refl _) ?_
      exact W.iret (v := 2) hx hb hr (fun t9 ht hW => ⟨rfl, ⟨by rw [ht]; exact hP, va_K.moved hW.alike hK, hD, by rw [ht]; exact Nat.le_trans hz hS.1⟩, hS.F ht⟩) hS.2.2 d_L_back_13
  · skip
    obtain ⟨hr9, hSo⟩ := hp
    subst hr9
    obtain ⟨k1, v1, hI, hF, hn, hc1⟩ := hSo
    have hq : ∀ p, 34 ≤ p → p < 41 → u1[p]? = ws[p]? := fun p h1 h2 => hF.2.1 p h1 (by omega)
    obtain ⟨fo, ho⟩ := ho
    have ho : u1[41]? = _ := (hF.2.1 41 (by decide) (by decide)).trans ho
    refine W.widen (k := Kl ws u1) (n := Kt ws u1) (by show 2 * (nul ws - nul ws) + 2 * (nul ws - nul u1) ≤ 2 * (nul ws - nul u1) + 1; omega) (by show 257 * (nul ws - nul ws) + 257 * (nul ws - nul u1) ≤ 257 * (nul ws - nul u1) + 6; omega) ?_
    refine W.eq (g2 := F0 m 5 ls []) rfl ?_
    refine lv_goto (tgt := 14) hx hb d_L_back_5 rfl ?_
    refine lv_iconst (v := 0) hx hb d_L_back_14 (by decide) ?_
    refine mu_end (u := u1) (v := (some (.int 0))) ⟨⟨_, rfl⟩, _, _, hI, hn, hc1, hq, _, ho⟩ (Nat.le_refl _) (Nat.le_refl _) ?_
    exact W.iret (v := 0) hx hb hr (fun t9 ht hW => ⟨rfl, ⟨by rw [ht]; exact hP, va_K.moved hW.alike hK, hD, by rw [ht]; exact Nat.le_trans hz hS.1⟩, hS.F ht⟩) hS.2.2 d_L_back_15
set_option maxHeartbeats 4000000 in
set_option maxRecDepth 100000 in
theorem c_L_keep {l : Launch} {D : va_G} {t : Nat → ClassId} {z : Nat} {sa : Nat → Nat} {ws : va_W} {a : Nat → Nat} {k0 : Nat} {v : Nat → Int32} {x9 : Int32} (hl0 : l.stackTraces = false) (hI : Iv a t k0 v ws) (hc1 : C1 v) (ho : Ou a t ws) : Mu l y_L_keep (Cond.codeWith y_L_keep b_L_keep 3 (some .int) [(0, 5, 8, 13), (0, 5, 11, 22)] :: WS) ({ frames := 9, cells := 2 * nul ws + 1, slots := 257 * nul ws + 6, locals := 143 }) D t z sa ws [.ref (a 0), .int x9] (fun r u => (∃ y, r = some (.int y)) ∧ Lw a t ws u) Xno (Kl ws) (Kt ws) := by
  refine mu_ofWH (cc := b_L_keep) (maxL := 3) (ret := (some .int)) (by decide) rfl ?_
  intro p e s m args below meth c s₁ B hml hv
  obtain ⟨rfl, ⟨hP, hK, hD, hz⟩, hM⟩ := hv
  have hx := B.exec
  have hb := B.bytes
  have hr := B.returns
  have hts : ∀ w ∈ WS, w.before [.ref (a 0), .int x9].toArray s = true := fun w h => atoms_spec B.pre w (List.mem_cons_of_mem _ h)
  have hown : s.vm.findClass R_L = some m.cls := findClass_of_methodNamed B.named
  have hlocks := B.notSynchronized
  have htab := vx_table (x := y_L_keep) B (atoms_spec B.pre _ List.mem_cons_self)
  have hA : ∀ q, s.heap.size ≤ q → Az z q := fun q h => Nat.le_trans hz h
  have hS : va_S (Az z) s.heap s.heap [] := va_S.rf
  have hF : Fr t ws ws := Fr.rf
  have hn : nul ws ≤ nul ws := Nat.le_refl _
  have hl := lv_entry ([.ref (a 0), .int x9]) (n := 3) (Nat.le_of_ble_eq_true rfl)
  rw [lg_entry_eq]
  generalize (lg_sl ([.ref (a 0), .int x9]) ++ List.replicate (3 - (lg_sl ([.ref (a 0), .int x9])).length) Slot.unset).toArray = ls at hl ⊢
  have hl : lv_has ls 3 [(0, .ref (a 0)), (1, .int x9)] := hl
  refine W.widen (k := Kc ws ws) (n := Ks ws ws) (Nat.zero_le _) (Nat.zero_le _) ?_
  refine lv_aload_n hx hb d_L_keep_0 rfl (lv_at hl 0 rfl) ?_
  refine lv_iload_n hx hb d_L_keep_1 rfl (lv_at hl 1 rfl) ?_
  refine mu_V (n := 1) (As := [.int x9]) (rest := []) ⟨hx, hb, hml, hown, hts⟩ (c_S_keep (D := D) (t := t) (z := z) (sa := sa) (ws := ws) (x9 := x9) hl0 hI hc1) ml_L_54 im_S_keep se_S_keep in_S cd_S_keep (by decide +kernel) ⟨Nat.le_of_ble_eq_true rfl, Nat.le_of_ble_eq_true rfl⟩ (va_recv hK hP (ci := 5) rfl hI.x) (Pz_at hP hK hD hz hM hS) rfl hl.1 rfl (Nat.le_of_ble_eq_true rfl) d_L_keep_2 ⟨by show 2 * (nul ws - nul ws) + (2 * nul ws + 1) ≤ 2 * nul ws + 1; omega, by show 257 * (nul ws - nul ws) + (257 * nul ws + 6) ≤ 257 * nul ws + 6; omega⟩ hS (fun E ce qx u1 H locs hxp hP hD hS hce hcv hcl => ?_) (fun r9 u1 H locs hp hP hD hS => ?_)
  · skip
    obtain ⟨hE, hu⟩ := hxp
    have hSo : So a t ws u1 := by rw [hu]; exact ⟨_, _, hI, Fr.rf, Nat.le_refl _, hc1⟩
    obtain ⟨k1, v1, hI, hF, hn, hc1⟩ := hSo
    have hq : ∀ p, 34 ≤ p → p < 41 → u1[p]? = ws[p]? := fun p h1 h2 => hF.2.1 p h1 (by omega)
    obtain ⟨fo, ho⟩ := ho
    have ho : u1[41]? = _ := (hF.2.1 41 (by decide) (by decide)).trans ho
    rcases hE with hE | hE
    · skip
      subst hE
      refine vx_catch (name := xISE) hown [] ⟨0, 5, 8, 13⟩ [⟨0, 5, 11, 22⟩] (htab.trans rfl) (fun z hz => nomatch hz) (by decide) (by decide) (hts _ cl_L_13) (nw_use rfl (hM.2.2.2.2.2.2.1 (.castable xISE xISE) (by decide +kernel))) hce hcv hcl ?_
      refine W.widen (k := Kl ws u1) (n := Kt ws u1) (by show 2 * (nul ws - nul ws) + (2 * (nul ws - nul u1) + 1) ≤ 2 * (nul ws - nul u1) + 1; omega) (by show 257 * (nul ws - nul ws) + (257 * (nul ws - nul u1) + 6) ≤ 257 * (nul ws - nul u1) + 6; omega) ?_
      refine lv_astore_n (lv' := [(2, .ref qx), (0, .ref (a 0)), (1, .int x9)]) hx hb d_L_keep_8 rfl hl (by decide) rfl (fun ls hl => ?_)
      refine lv_iconst (v := 1) hx hb d_L_keep_9 (by decide) ?_
      refine mu_end (u := u1) (v := (some (.int 1))) ⟨⟨_, rfl⟩, _, _, hI, hn, hc1, hq, _, ho⟩ (Nat.le_refl _) (Nat.le_refl _) ?_
      exact W.iret (v := 1) hx hb hr (fun t9 ht hW => ⟨rfl, ⟨by rw [ht]; exact hP, va_K.moved hW.alike hK, hD, by rw [ht]; exact Nat.le_trans hz hS.1⟩, hS.F ht⟩) hS.2.2 d_L_keep_10
    · skip
      subst hE
      refine vx_catch (name := xIOB) hown [⟨0, 5, 8, 13⟩] ⟨0, 5, 11, 22⟩ [] (htab.trans rfl) (fun z9 hz9 => by rcases List.mem_singleton.mp hz9 with rfl; exact Or.inr ⟨by decide, xISE, hts _ cl_L_13, hM.2.2.2.2.2.2.2.1 (xIOB, xISE) (by decide +kernel)⟩) (by decide) (by decide) (hts _ cl_L_22) (nw_use rfl (hM.2.2.2.2.2.2.1 (.castable xIOB xIOB) (by decide +kernel))) hce hcv hcl ?_
      refine W.widen (k := Kl ws u1) (n := Kt ws u1) (by show 2 * (nul ws - nul ws) + (2 * (nul ws - nul u1) + 1) ≤ 2 * (nul ws - nul u1) + 1; omega) (by show 257 * (nul ws - nul ws) + (257 * (nul ws - nul u1) + 6) ≤ 257 * (nul ws - nul u1) + 6; omega) ?_
      refine lv_astore_n (lv' := [(2, .ref qx), (0, .ref (a 0)), (1, .int x9)]) hx hb d_L_keep_11 rfl hl (by decide) rfl (fun ls hl => ?_)
      refine lv_iconst (v := 2) hx hb d_L_keep_12 (by decide) ?_
      refine mu_end (u := u1) (v := (some (.int 2))) ⟨⟨_, rfl⟩, _, _, hI, hn, hc1, hq, _, ho⟩ (Nat.le_refl _) (Nat.le_refl _) ?_
      exact W.iret (v := 2) hx hb hr (fun t9 ht hW => ⟨rfl, ⟨by rw [ht]; exact hP, va_K.moved hW.alike hK, hD, by rw [ht]; exact Nat.le_trans hz hS.1⟩, hS.F ht⟩) hS.2.2 d_L_keep_13
  · skip
    obtain ⟨hr9, hSo⟩ := hp
    subst hr9
    obtain ⟨k1, v1, hI, hF, hn, hc1⟩ := hSo
    have hq : ∀ p, 34 ≤ p → p < 41 → u1[p]? = ws[p]? := fun p h1 h2 => hF.2.1 p h1 (by omega)
    obtain ⟨fo, ho⟩ := ho
    have ho : u1[41]? = _ := (hF.2.1 41 (by decide) (by decide)).trans ho
    refine W.widen (k := Kl ws u1) (n := Kt ws u1) (by show 2 * (nul ws - nul ws) + 2 * (nul ws - nul u1) ≤ 2 * (nul ws - nul u1) + 1; omega) (by show 257 * (nul ws - nul ws) + 257 * (nul ws - nul u1) ≤ 257 * (nul ws - nul u1) + 6; omega) ?_
    refine W.eq (g2 := F0 m 5 ls []) rfl ?_
    refine lv_goto (tgt := 14) hx hb d_L_keep_5 rfl ?_
    refine lv_iconst (v := 0) hx hb d_L_keep_14 (by decide) ?_
    refine mu_end (u := u1) (v := (some (.int 0))) ⟨⟨_, rfl⟩, _, _, hI, hn, hc1, hq, _, ho⟩ (Nat.le_refl _) (Nat.le_refl _) ?_
    exact W.iret (v := 0) hx hb hr (fun t9 ht hW => ⟨rfl, ⟨by rw [ht]; exact hP, va_K.moved hW.alike hK, hD, by rw [ht]; exact Nat.le_trans hz hS.1⟩, hS.F ht⟩) hS.2.2 d_L_keep_15
set_option maxHeartbeats 4000000 in
set_option maxRecDepth 100000 in
theorem c_L_power {l : Launch} {D : va_G} {t : Nat → ClassId} {z : Nat} {sa : Nat → Nat} {ws : va_W} {a : Nat → Nat} {k0 : Nat} {v : Nat → Int32} {x9 y9 w9 : Int32} (hl0 : l.stackTraces = false) (hI : Iv a t k0 v ws) (hc1 : C1 v) (ho : Ou a t ws) : Mu l y_L_power (Cond.codeWith y_L_power b_L_power 5 (some .int) [(0, 7, 10, 61)] :: WS) ({ frames := 7, cells := 2 * nul ws + 1, slots := 257 * nul ws + 6, locals := 105 }) D t z sa ws [.ref (a 0), .int x9, .int y9, .int w9] (fun r u => ((r = some (.int 0) ∧ (¬ x9 < 0 ∧ x9 ≤ 4 ∧ ¬ y9 < 0 ∧ y9 ≤ 1000 ∧ ¬ w9 < 0 ∧ w9 ≤ 300)) ∨ (r = some (.int 1) ∧ ¬ (¬ x9 < 0 ∧ x9 ≤ 4 ∧ ¬ y9 < 0 ∧ y9 ≤ 1000 ∧ ¬ w9 < 0 ∧ w9 ≤ 300))) ∧ Lw a t ws u) Xno (Kl ws) (Kt ws) := by
  refine mu_ofWH (cc := b_L_power) (maxL := 5) (ret := (some .int)) (by decide) rfl ?_
  intro p e s m args below meth c s₁ B hml hv
  obtain ⟨rfl, ⟨hP, hK, hD, hz⟩, hM⟩ := hv
  have hx := B.exec
  have hb := B.bytes
  have hr := B.returns
  have hts : ∀ w ∈ WS, w.before [.ref (a 0), .int x9, .int y9, .int w9].toArray s = true := fun w h => atoms_spec B.pre w (List.mem_cons_of_mem _ h)
  have hown : s.vm.findClass R_L = some m.cls := findClass_of_methodNamed B.named
  have hlocks := B.notSynchronized
  have htab := vx_table (x := y_L_power) B (atoms_spec B.pre _ List.mem_cons_self)
  have hA : ∀ q, s.heap.size ≤ q → Az z q := fun q h => Nat.le_trans hz h
  have hS : va_S (Az z) s.heap s.heap [] := va_S.rf
  have hF : Fr t ws ws := Fr.rf
  have hn : nul ws ≤ nul ws := Nat.le_refl _
  have hl := lv_entry ([.ref (a 0), .int x9, .int y9, .int w9]) (n := 5) (Nat.le_of_ble_eq_true rfl)
  rw [lg_entry_eq]
  generalize (lg_sl ([.ref (a 0), .int x9, .int y9, .int w9]) ++ List.replicate (5 - (lg_sl ([.ref (a 0), .int x9, .int y9, .int w9])).length) Slot.unset).toArray = ls at hl ⊢
  have hl : lv_has ls 5 [(0, .ref (a 0)), (1, .int x9), (2, .int y9), (3, .int w9)] := hl
  refine W.widen (k := Kc ws ws) (n := Ks ws ws) (Nat.zero_le _) (Nat.zero_le _) ?_
  refine lv_aload_n hx hb d_L_power_0 rfl (lv_at hl 0 rfl) ?_
  refine lv_iload_n hx hb d_L_power_1 rfl (lv_at hl 1 rfl) ?_
  refine lv_iload_n hx hb d_L_power_2 rfl (lv_at hl 2 rfl) ?_
  refine lv_iload_n hx hb d_L_power_3 rfl (lv_at hl 3 rfl) ?_
  refine mu_V (n := 3) (As := [.int x9, .int y9, .int w9]) (rest := []) ⟨hx, hb, hml, hown, hts⟩ (c_S_power (D := D) (t := t) (z := z) (sa := sa) (ws := ws) (x9 := x9) (y9 := y9) (w9 := w9) hl0 hI hc1) ml_L_57 im_S_power se_S_power in_S cd_S_power (by decide +kernel) ⟨Nat.le_of_ble_eq_true rfl, Nat.le_of_ble_eq_true rfl⟩ (va_recv hK hP (ci := 5) rfl hI.x) (Pz_at hP hK hD hz hM hS) rfl hl.1 rfl (Nat.le_of_ble_eq_true rfl) d_L_power_4 ⟨by show 2 * (nul ws - nul ws) + (2 * nul ws + 1) ≤ 2 * nul ws + 1; omega, by show 257 * (nul ws - nul ws) + (257 * nul ws + 6) ≤ 257 * nul ws + 6; omega⟩ hS (fun E ce qx u1 H locs hxp hP hD hS hce hcv hcl => ?_) (fun r9 u1 H locs hp hP hD hS => ?_)
  · skip
    obtain ⟨⟨hE, hu⟩, hV⟩ := hxp
    have hSo : So a t ws u1 := by rw [hu]; exact ⟨_, _, hI, Fr.rf, Nat.le_refl _, hc1⟩
    obtain ⟨k1, v1, hI, hF, hn, hc1⟩ := hSo
    have hq : ∀ p, 34 ≤ p → p < 41 → u1[p]? = ws[p]? := fun p h1 h2 => hF.2.1 p h1 (by omega)
    obtain ⟨fo, ho⟩ := ho
    have ho : u1[41]? = _ := (hF.2.1 41 (by decide) (by decide)).trans ho
    subst hE
    refine vx_catch (name := xIAE) hown [] ⟨0, 7, 10, 61⟩ [] (htab.trans rfl) (fun z hz => nomatch hz) (by decide) (by decide) (hts _ cl_L_61) (nw_use rfl (hM.2.2.2.2.2.2.1 (.castable xIAE xIAE) (by decide +kernel))) hce hcv hcl ?_
    refine W.widen (k := Kl ws u1) (n := Kt ws u1) (by show 2 * (nul ws - nul ws) + (2 * (nul ws - nul u1) + 1) ≤ 2 * (nul ws - nul u1) + 1; omega) (by show 257 * (nul ws - nul ws) + (257 * (nul ws - nul u1) + 6) ≤ 257 * (nul ws - nul u1) + 6; omega) ?_
    refine lv_astore (lv' := [(4, .ref qx), (0, .ref (a 0)), (1, .int x9), (2, .int y9), (3, .int w9)]) hx hb d_L_power_10 hl (by decide) rfl (fun ls hl => ?_)
    refine lv_iconst (v := 1) hx hb d_L_power_12 (by decide) ?_
    refine mu_end (u := u1) (v := (some (.int 1))) ⟨Or.inr ⟨rfl, hV⟩, _, _, hI, hn, hc1, hq, _, ho⟩ (Nat.le_refl _) (Nat.le_refl _) ?_
    exact W.iret (v := 1) hx hb hr (fun t9 ht hW => ⟨rfl, ⟨by rw [ht]; exact hP, va_K.moved hW.alike hK, hD, by rw [ht]; exact Nat.le_trans hz hS.1⟩, hS.F ht⟩) hS.2.2 d_L_power_13
  · skip
    obtain ⟨⟨hr9, hSo⟩, hV⟩ := hp
    subst hr9
    obtain ⟨k1, v1, hI, hF, hn, hc1⟩ := hSo
    have hq : ∀ p, 34 ≤ p → p < 41 → u1[p]? = ws[p]? := fun p h1 h2 => hF.2.1 p h1 (by omega)
    obtain ⟨fo, ho⟩ := ho
    have ho : u1[41]? = _ := (hF.2.1 41 (by decide) (by decide)).trans ho
    refine W.widen (k := Kl ws u1) (n := Kt ws u1) (by show 2 * (nul ws - nul ws) + 2 * (nul ws - nul u1) ≤ 2 * (nul ws - nul u1) + 1; omega) (by show 257 * (nul ws - nul ws) + 257 * (nul ws - nul u1) ≤ 257 * (nul ws - nul u1) + 6; omega) ?_
    refine W.eq (g2 := F0 m 7 ls []) rfl ?_
    refine lv_goto (tgt := 14) hx hb d_L_power_7 rfl ?_
    refine lv_iconst (v := 0) hx hb d_L_power_14 (by decide) ?_
    refine mu_end (u := u1) (v := (some (.int 0))) ⟨Or.inl ⟨rfl, hV⟩, _, _, hI, hn, hc1, hq, _, ho⟩ (Nat.le_refl _) (Nat.le_refl _) ?_
    exact W.iret (v := 0) hx hb hr (fun t9 ht hW => ⟨rfl, ⟨by rw [ht]; exact hP, va_K.moved hW.alike hK, hD, by rw [ht]; exact Nat.le_trans hz hS.1⟩, hS.F ht⟩) hS.2.2 d_L_power_15
set_option maxHeartbeats 4000000 in
set_option maxRecDepth 100000 in
theorem c_L_reopen {l : Launch} {D : va_G} {t : Nat → ClassId} {z : Nat} {sa : Nat → Nat} {ws : va_W} {a : Nat → Nat} {k0 : Nat} {v : Nat → Int32}  (hl0 : l.stackTraces = false) (hI : Iv a t k0 v ws) (hc1 : C1 v) (ho : Ou a t ws) : Mu l y_L_reopen (Cond.codeWith y_L_reopen b_L_reopen 3 (some .int) [(0, 8, 11, 42)] :: WS) ({ frames := 8, cells := 2 * nul ws + 1, slots := 257 * nul ws + 6, locals := 150 }) D t z sa ws [.ref (a 0), .ref (a 41)] (fun r u => (∃ y, r = some (.int y)) ∧ Lw a t ws u) Xno (Kl ws) (Kt ws) := by
  refine mu_ofWH (cc := b_L_reopen) (maxL := 3) (ret := (some .int)) (by decide) rfl ?_
  intro p e s m args below meth c s₁ B hml hv
  obtain ⟨rfl, ⟨hP, hK, hD, hz⟩, hM⟩ := hv
  have hx := B.exec
  have hb := B.bytes
  have hr := B.returns
  have hts : ∀ w ∈ WS, w.before [.ref (a 0), .ref (a 41)].toArray s = true := fun w h => atoms_spec B.pre w (List.mem_cons_of_mem _ h)
  have hown : s.vm.findClass R_L = some m.cls := findClass_of_methodNamed B.named
  have hlocks := B.notSynchronized
  have htab := vx_table (x := y_L_reopen) B (atoms_spec B.pre _ List.mem_cons_self)
  have hA : ∀ q, s.heap.size ≤ q → Az z q := fun q h => Nat.le_trans hz h
  have hS : va_S (Az z) s.heap s.heap [] := va_S.rf
  have hF : Fr t ws ws := Fr.rf
  have hn : nul ws ≤ nul ws := Nat.le_refl _
  have hl := lv_entry ([.ref (a 0), .ref (a 41)]) (n := 3) (Nat.le_of_ble_eq_true rfl)
  rw [lg_entry_eq]
  generalize (lg_sl ([.ref (a 0), .ref (a 41)]) ++ List.replicate (3 - (lg_sl ([.ref (a 0), .ref (a 41)])).length) Slot.unset).toArray = ls at hl ⊢
  have hl : lv_has ls 3 [(0, .ref (a 0)), (1, .ref (a 41))] := hl
  refine W.widen (k := Kc ws ws) (n := Ks ws ws) (Nat.zero_le _) (Nat.zero_le _) ?_
  refine lv_aload_n hx hb d_L_reopen_0 rfl (lv_at hl 1 rfl) ?_
  refine lv_iconst (v := 0) hx hb d_L_reopen_1 (by decide) ?_
  refine lv_aload_n hx hb d_L_reopen_2 rfl (lv_at hl 0 rfl) ?_
  refine mu_V (n := 0) (As := []) (rest := [.int 0, .ref (a 41)]) ⟨hx, hb, hml, hown, hts⟩ (c_S_reopen (D := D) (t := t) (z := z) (sa := sa) (ws := ws)  hl0 hI hc1) ml_L_63 im_S_reopen se_S_reopen in_S cd_S_reopen (by decide +kernel) ⟨Nat.le_of_ble_eq_true rfl, Nat.le_of_ble_eq_true rfl⟩ (va_recv hK hP (ci := 5) rfl hI.x) (Pz_at hP hK hD hz hM hS) rfl hl.1 rfl (Nat.le_of_ble_eq_true rfl) d_L_reopen_3 ⟨by show 2 * (nul ws - nul ws) + (2 * nul ws + 1) ≤ 2 * nul ws + 1; omega, by show 257 * (nul ws - nul ws) + (257 * nul ws + 6) ≤ 257 * nul ws + 6; omega⟩ hS (fun E ce qx u1 H locs hxp hP hD hS hce hcv hcl => ?_) (fun r9 u1 H locs hp hP hD hS => ?_)
  · skip
    obtain ⟨hE, hSo⟩ := hxp
    obtain ⟨k1, v1, hI, hF, hn, hc1⟩ := hSo
    have hq : ∀ p, 34 ≤ p → p < 41 → u1[p]? = ws[p]? := fun p h1 h2 => hF.2.1 p h1 (by omega)
    obtain ⟨fo, ho⟩ := ho
    have ho : u1[41]? = _ := (hF.2.1 41 (by decide) (by decide)).trans ho
    subst hE
    refine vx_catch (name := xAE) hown [] ⟨0, 8, 11, 42⟩ [] (htab.trans rfl) (fun z hz => nomatch hz) (by decide) (by decide) (hts _ cl_L_42) (nw_use rfl (hM.2.2.2.2.2.2.1 (.castable xAE xAE) (by decide +kernel))) hce hcv hcl ?_
    refine W.widen (k := Kl ws u1) (n := Kt ws u1) (by show 2 * (nul ws - nul ws) + (2 * (nul ws - nul u1) + 1) ≤ 2 * (nul ws - nul u1) + 1; omega) (by show 257 * (nul ws - nul ws) + (257 * (nul ws - nul u1) + 6) ≤ 257 * (nul ws - nul u1) + 6; omega) ?_
    refine lv_astore_n (lv' := [(2, .ref qx), (0, .ref (a 0)), (1, .ref (a 41))]) hx hb d_L_reopen_11 rfl hl (by decide) rfl (fun ls hl => ?_)
    refine lv_iconst (v := 1) hx hb d_L_reopen_12 (by decide) ?_
    refine mu_end (u := u1) (v := (some (.int 1))) ⟨⟨_, rfl⟩, _, _, hI, hn, hc1, hq, _, ho⟩ (Nat.le_refl _) (Nat.le_refl _) ?_
    exact W.iret (v := 1) hx hb hr (fun t9 ht hW => ⟨rfl, ⟨by rw [ht]; exact hP, va_K.moved hW.alike hK, hD, by rw [ht]; exact Nat.le_trans hz hS.1⟩, hS.F ht⟩) hS.2.2 d_L_reopen_13
  · skip
    obtain ⟨⟨yo, hr9⟩, hSo⟩ := hp
    subst hr9
    obtain ⟨k1, v1, hI, hF, hn, hc1⟩ := hSo
    have hq : ∀ p, 34 ≤ p → p < 41 → u1[p]? = ws[p]? := fun p h1 h2 => hF.2.1 p h1 (by omega)
    obtain ⟨fo, ho⟩ := ho
    have ho : u1[41]? = _ := (hF.2.1 41 (by decide) (by decide)).trans ho
    refine W.widen (k := Kl ws u1) (n := Kt ws u1) (by show 2 * (nul ws - nul ws) + 2 * (nul ws - nul u1) ≤ 2 * (nul ws - nul u1) + 1; omega) (by show 257 * (nul ws - nul ws) + 257 * (nul ws - nul u1) ≤ 257 * (nul ws - nul u1) + 6; omega) ?_
    obtain ⟨yr, hyr⟩ : ∃ q, q = yo := ⟨_, rfl⟩
    rw [← hyr]
    refine W.eq (g2 := F0 m 6 ls [.int yr, .int 0, .ref (a 41)]) rfl ?_
    refine lv_i2l (v := yr.toInt64) hx hb d_L_reopen_6 rfl ?_
    refine va_last (D := D) hx hb hK hP hD hS 41 5 ho rfl (i := 0) (x := yr.toInt64) (by unfold vp_in; decide) d_L_reopen_7 (fun H locs hP hD hS => ?_)
    obtain ⟨w2, hw⟩ : ∃ q, q = u1.set 41 (a 41, .inl (t 5, 1, .inr (.inl (vp_updL fo 0 yr.toInt64)))) := ⟨_, rfl⟩
    have hP : va_P D Cl (u1.set 41 (a 41, .inl (t 5, 1, .inr (.inl (vp_updL fo 0 yr.toInt64))))) H := hP
    have hD : va_D (Az z) (u1.set 41 (a 41, .inl (t 5, 1, .inr (.inl (vp_updL fo 0 yr.toInt64))))) := hD
    rw [← hw] at hP hD
    have hI : Iv a t k1 v1 w2 := by rw [hw]; exact hI.same (by rw [List.length_set]) (fun p hp => List.getElem?_set_ne (by omega))
    have hq : ∀ p, 34 ≤ p → p < 41 → w2[p]? = ws[p]? := fun p h1 h2 => by rw [hw, List.getElem?_set_ne (by omega)]; exact hq p h1 h2
    have hq9 : nul w2 = nul u1 := by rw [hw]; exact nul_set (by decide)
    have ho : w2[41]? = some (a 41, .inl (t 5, 1, .inr (.inl (vp_updL fo 0 yr.toInt64)))) := by rw [hw]; exact lk_set ho
    clear hw
    have hn : nul w2 ≤ nul ws := by omega
    refine W.widen (k := Kl ws w2) (n := Kt ws w2) (by show 2 * (nul ws - nul u1) + 1 ≤ 2 * (nul ws - nul w2) + 1; omega) (by show 257 * (nul ws - nul u1) + 6 ≤ 257 * (nul ws - nul w2) + 6; omega) ?_
    refine lv_goto (tgt := 14) hx hb d_L_reopen_8 rfl ?_
    refine lv_iconst (v := 0) hx hb d_L_reopen_14 (by decide) ?_
    refine mu_end (u := w2) (v := (some (.int 0))) ⟨⟨_, rfl⟩, _, _, hI, hn, hc1, hq, _, ho⟩ (Nat.le_refl _) (Nat.le_refl _) ?_
    exact W.iret (v := 0) hx hb hr (fun t9 ht hW => ⟨rfl, ⟨by rw [ht]; exact hP, va_K.moved hW.alike hK, hD, by rw [ht]; exact Nat.le_trans hz hS.1⟩, hS.F ht⟩) hS.2.2 d_L_reopen_15
set_option maxHeartbeats 4000000 in
set_option maxRecDepth 100000 in
theorem c_L_told {l : Launch} {D : va_G} {t : Nat → ClassId} {z : Nat} {sa : Nat → Nat} {ws : va_W} {a : Nat → Nat} {k0 : Nat} {v : Nat → Int32} {x9 : Int32} (hl0 : l.stackTraces = false) (hI : Iv a t k0 v ws) (hc1 : C1 v) (ho : Ou a t ws) : Mu l y_L_told (Cond.codeWith y_L_told b_L_told 4 (some .int) [(0, 9, 12, 61)] :: WS) ({ frames := 7, cells := 2 * nul ws + 1, slots := 257 * nul ws + 6, locals := 103 }) D t z sa ws [.ref (a 0), .int x9, .ref (a 41)] (fun r u => (∃ y, r = some (.int y)) ∧ Lw a t ws u) Xno (Kl ws) (Kt ws) := by
  refine mu_ofWH (cc := b_L_told) (maxL := 4) (ret := (some .int)) (by decide) rfl ?_
  intro p e s m args below meth c s₁ B hml hv
  obtain ⟨rfl, ⟨hP, hK, hD, hz⟩, hM⟩ := hv
  have hx := B.exec
  have hb := B.bytes
  have hr := B.returns
  have hts : ∀ w ∈ WS, w.before [.ref (a 0), .int x9, .ref (a 41)].toArray s = true := fun w h => atoms_spec B.pre w (List.mem_cons_of_mem _ h)
  have hown : s.vm.findClass R_L = some m.cls := findClass_of_methodNamed B.named
  have hlocks := B.notSynchronized
  have htab := vx_table (x := y_L_told) B (atoms_spec B.pre _ List.mem_cons_self)
  have hA : ∀ q, s.heap.size ≤ q → Az z q := fun q h => Nat.le_trans hz h
  have hS : va_S (Az z) s.heap s.heap [] := va_S.rf
  have hF : Fr t ws ws := Fr.rf
  have hn : nul ws ≤ nul ws := Nat.le_refl _
  have hl := lv_entry ([.ref (a 0), .int x9, .ref (a 41)]) (n := 4) (Nat.le_of_ble_eq_true rfl)
  rw [lg_entry_eq]
  generalize (lg_sl ([.ref (a 0), .int x9, .ref (a 41)]) ++ List.replicate (4 - (lg_sl ([.ref (a 0), .int x9, .ref (a 41)])).length) Slot.unset).toArray = ls at hl ⊢
  have hl : lv_has ls 4 [(0, .ref (a 0)), (1, .int x9), (2, .ref (a 41))] := hl
  refine W.widen (k := Kc ws ws) (n := Ks ws ws) (Nat.zero_le _) (Nat.zero_le _) ?_
  refine lv_aload_n hx hb d_L_told_0 rfl (lv_at hl 2 rfl) ?_
  refine lv_iconst (v := 0) hx hb d_L_told_1 (by decide) ?_
  refine lv_aload_n hx hb d_L_told_2 rfl (lv_at hl 0 rfl) ?_
  refine lv_iload_n hx hb d_L_told_3 rfl (lv_at hl 1 rfl) ?_
  refine mu_V (n := 1) (As := [.int x9]) (rest := [.int 0, .ref (a 41)]) ⟨hx, hb, hml, hown, hts⟩ (c_S_told (D := D) (t := t) (z := z) (sa := sa) (ws := ws) (x9 := x9) hl0 hI hc1) ml_L_66 im_S_told se_S_told in_S cd_S_told (by decide +kernel) ⟨Nat.le_of_ble_eq_true rfl, Nat.le_of_ble_eq_true rfl⟩ (va_recv hK hP (ci := 5) rfl hI.x) (Pz_at hP hK hD hz hM hS) rfl hl.1 rfl (Nat.le_of_ble_eq_true rfl) d_L_told_4 ⟨by show 2 * (nul ws - nul ws) + (2 * nul ws + 1) ≤ 2 * nul ws + 1; omega, by show 257 * (nul ws - nul ws) + (257 * nul ws + 6) ≤ 257 * nul ws + 6; omega⟩ hS (fun E ce qx u1 H locs hxp hP hD hS hce hcv hcl => ?_) (fun r9 u1 H locs hp hP hD hS => ?_)
  · skip
    obtain ⟨hE, hu⟩ := hxp
    have hSo : So a t ws u1 := by rw [hu]; exact ⟨_, _, hI, Fr.rf, Nat.le_refl _, hc1⟩
    obtain ⟨k1, v1, hI, hF, hn, hc1⟩ := hSo
    have hq : ∀ p, 34 ≤ p → p < 41 → u1[p]? = ws[p]? := fun p h1 h2 => hF.2.1 p h1 (by omega)
    obtain ⟨fo, ho⟩ := ho
    have ho : u1[41]? = _ := (hF.2.1 41 (by decide) (by decide)).trans ho
    subst hE
    refine vx_catch (name := xIAE) hown [] ⟨0, 9, 12, 61⟩ [] (htab.trans rfl) (fun z hz => nomatch hz) (by decide) (by decide) (hts _ cl_L_61) (nw_use rfl (hM.2.2.2.2.2.2.1 (.castable xIAE xIAE) (by decide +kernel))) hce hcv hcl ?_
    refine W.widen (k := Kl ws u1) (n := Kt ws u1) (by show 2 * (nul ws - nul ws) + (2 * (nul ws - nul u1) + 1) ≤ 2 * (nul ws - nul u1) + 1; omega) (by show 257 * (nul ws - nul ws) + (257 * (nul ws - nul u1) + 6) ≤ 257 * (nul ws - nul u1) + 6; omega) ?_
    refine lv_astore_n (lv' := [(3, .ref qx), (0, .ref (a 0)), (1, .int x9), (2, .ref (a 41))]) hx hb d_L_told_12 rfl hl (by decide) rfl (fun ls hl => ?_)
    refine lv_iconst (v := 1) hx hb d_L_told_13 (by decide) ?_
    refine mu_end (u := u1) (v := (some (.int 1))) ⟨⟨_, rfl⟩, _, _, hI, hn, hc1, hq, _, ho⟩ (Nat.le_refl _) (Nat.le_refl _) ?_
    exact W.iret (v := 1) hx hb hr (fun t9 ht hW => ⟨rfl, ⟨by rw [ht]; exact hP, va_K.moved hW.alike hK, hD, by rw [ht]; exact Nat.le_trans hz hS.1⟩, hS.F ht⟩) hS.2.2 d_L_told_14
  · skip
    obtain ⟨⟨yo, hr9⟩, hSo⟩ := hp
    subst hr9
    obtain ⟨k1, v1, hI, hF, hn, hc1⟩ := hSo
    have hq : ∀ p, 34 ≤ p → p < 41 → u1[p]? = ws[p]? := fun p h1 h2 => hF.2.1 p h1 (by omega)
    obtain ⟨fo, ho⟩ := ho
    have ho : u1[41]? = _ := (hF.2.1 41 (by decide) (by decide)).trans ho
    refine W.widen (k := Kl ws u1) (n := Kt ws u1) (by show 2 * (nul ws - nul ws) + 2 * (nul ws - nul u1) ≤ 2 * (nul ws - nul u1) + 1; omega) (by show 257 * (nul ws - nul ws) + 257 * (nul ws - nul u1) ≤ 257 * (nul ws - nul u1) + 6; omega) ?_
    obtain ⟨yr, hyr⟩ : ∃ q, q = yo := ⟨_, rfl⟩
    rw [← hyr]
    refine W.eq (g2 := F0 m 7 ls [.int yr, .int 0, .ref (a 41)]) rfl ?_
    refine lv_i2l (v := yr.toInt64) hx hb d_L_told_7 rfl ?_
    refine va_last (D := D) hx hb hK hP hD hS 41 5 ho rfl (i := 0) (x := yr.toInt64) (by unfold vp_in; decide) d_L_told_8 (fun H locs hP hD hS => ?_)
    obtain ⟨w2, hw⟩ : ∃ q, q = u1.set 41 (a 41, .inl (t 5, 1, .inr (.inl (vp_updL fo 0 yr.toInt64)))) := ⟨_, rfl⟩
    have hP : va_P D Cl (u1.set 41 (a 41, .inl (t 5, 1, .inr (.inl (vp_updL fo 0 yr.toInt64))))) H := hP
    have hD : va_D (Az z) (u1.set 41 (a 41, .inl (t 5, 1, .inr (.inl (vp_updL fo 0 yr.toInt64))))) := hD
    rw [← hw] at hP hD
    have hI : Iv a t k1 v1 w2 := by rw [hw]; exact hI.same (by rw [List.length_set]) (fun p hp => List.getElem?_set_ne (by omega))
    have hq : ∀ p, 34 ≤ p → p < 41 → w2[p]? = ws[p]? := fun p h1 h2 => by rw [hw, List.getElem?_set_ne (by omega)]; exact hq p h1 h2
    have hq9 : nul w2 = nul u1 := by rw [hw]; exact nul_set (by decide)
    have ho : w2[41]? = some (a 41, .inl (t 5, 1, .inr (.inl (vp_updL fo 0 yr.toInt64)))) := by rw [hw]; exact lk_set ho
    clear hw
    have hn : nul w2 ≤ nul ws := by omega
    refine W.widen (k := Kl ws w2) (n := Kt ws w2) (by show 2 * (nul ws - nul u1) + 1 ≤ 2 * (nul ws - nul w2) + 1; omega) (by show 257 * (nul ws - nul u1) + 6 ≤ 257 * (nul ws - nul w2) + 6; omega) ?_
    refine lv_goto (tgt := 15) hx hb d_L_told_9 rfl ?_
    refine lv_iconst (v := 0) hx hb d_L_told_15 (by decide) ?_
    refine mu_end (u := w2) (v := (some (.int 0))) ⟨⟨_, rfl⟩, _, _, hI, hn, hc1, hq, _, ho⟩ (Nat.le_refl _) (Nat.le_refl _) ?_
    exact W.iret (v := 0) hx hb hr (fun t9 ht hW => ⟨rfl, ⟨by rw [ht]; exact hP, va_K.moved hW.alike hK, hD, by rw [ht]; exact Nat.le_trans hz hS.1⟩, hS.F ht⟩) hS.2.2 d_L_told_16
