set_option maxHeartbeats 4000000 in
set_option maxRecDepth 100000 in
theorem lc_0 {p : Program} {l : Launch} {e : Env} {s : State} {m : MethodId} {below : List Frame} {meth : Method} {c : Code} {b L : Nat} {xs : Nat → Int32} {D : va_G} {t : Nat → ClassId} {z : Nat} {sa : Nat → Nat} {a : Nat → Nat} {ws : va_W} {k n : Nat} {v vm : Nat → Int32} {H : Heap} {locs : List Loc} {ls : Array Slot} (hl0 : l.stackTraces = false) (hx : p.tables.exec = Jvm.exec) (hb : c.code = code) (hr : meth.sig.returnType = ret) (hml : c.maxLocals = 8) (hown : s.vm.findClass R_L = some m.cls) (hts : ∀ w ∈ WS, w.before #[Value.ref b] s = true) (hlocks : meth.locks = false) (hX : va_X b L xs s s.heap) (hbl : b < s.heap.size) (hK : va_K D Cl (Ty t) s) (hM : Am z sa s) (hz0 : z = s.heap.size) (hL : L ≤ 3072) (hn6 : 6 * n + 6 ≤ L) (hP : va_P D Cl ws H) (hD : va_D (Az z) ws) (hS : va_S (Az z) s.heap H locs) (hI : Iv a t k v ws) (hc1 : C1 v) (hMi : Mi a t (n + 1) vm ws) (ho : Ou a t ws) (hN : nul ws ≤ 6157) (hl : lv_has ls 8 [(4, .int (nI (6 * n))), (3, .ref (a 41)), (2, .ref (a 34)), (1, .ref (a 0)), (0, .ref b)]) (Kn : ∀ (w : va_W) (H : Heap) (locs : List Loc) (ls : Array Slot), va_P D Cl w H → va_D (Az z) w → va_S (Az z) s.heap H locs → LI a t (n + 1) w → lv_has ls 8 [(4, .int (nI (6 * (n + 1)))), (3, .ref (a 41)), (2, .ref (a 34)), (1, .ref (a 0)), (0, .ref b)] → W p l e room_1 s m #[Value.ref b] below meth c H locs (LcC (n + 1) w) (LcS (n + 1) w) (lw_Z below #[Value.ref b] s) (F0 m 23 ls [])) : W p l e room_1 s m #[Value.ref b] below meth c H locs (LcC n ws) (LcS n ws) (lw_Z below #[Value.ref b] s) (F0 m 116 ls []) := by
  have hz : z ≤ s.heap.size := Nat.le_of_eq hz0
  have hbA : ¬ Az z b := fun h => absurd hbl (Nat.not_lt.mpr (by rw [← hz0]; exact h))
  refine lv_aload_n hx hb d_law_116 rfl (lv_at hl 3 rfl) ?_
  refine lv_aload_n hx hb d_law_117 rfl (lv_at hl 1 rfl) ?_
  refine mu_SX (n := 2) (As := [.ref (a 0), .ref (a 41)]) (rest := []) ⟨hx, hb, hml, hown, hts⟩ (c_L_pages (D := D) (t := t) (z := z) (sa := sa) (ws := ws)  hl0 hI hc1 ho) ml_L_74 st_L_pages in_L cd_L_pages (by decide +kernel) ⟨Nat.le_of_ble_eq_true rfl, Nat.le_of_ble_eq_true rfl⟩ (Pz_at hP hK hD hz hM hS) rfl hl.1 rfl (Nat.le_of_ble_eq_true rfl) d_law_118 ⟨by show LcC n ws + (2 * nul ws + 1) ≤ 601024; unfold LcC; omega, by show LcS n ws + (257 * nul ws + 6) ≤ 7293034; unfold LcS; omega⟩ hS (fun _ _ _ _ _ _ h => h.elim) (fun r9 u1 H locs hp hP hD hS => ?_)
  obtain ⟨⟨y1, hr9⟩, k1, v1, hI, hn1, hc1, hq, ho⟩ := hp
  subst hr9
  have hMi := hMi.same hq
  have hN : nul u1 ≤ 6157 := by omega
  refine W.widen (k := LcC (n + 1) u1) (n := LcS (n + 1) u1) (by show LcC n ws + (2 * (nul ws - nul u1) + 1) ≤ LcC (n + 1) u1; unfold LcC; omega) (by show LcS n ws + (257 * (nul ws - nul u1) + 6) ≤ LcS (n + 1) u1; unfold LcS; omega) ?_
  clear hn1
  refine W.eq (g2 := F0 m 121 ls [.int y1]) rfl ?_
  refine lv_istore (lv' := [(5, .int y1), (4, .int (nI (6 * n))), (3, .ref (a 41)), (2, .ref (a 34)), (1, .ref (a 0)), (0, .ref b)]) hx hb d_law_121 hl (by decide) rfl (fun ls hl => ?_)
  refine lv_aload_n hx hb d_law_123 rfl (lv_at hl 3 rfl) ?_
  refine va_calli (va_runV (As := []) (rest := []) ⟨hx, hb, hml, hown, hts⟩ (c_M_pages (D := D) (t := t) (z := z) (sa := sa) (ws := u1)  hMi ) (cwV 0 hts (gd_V ml_L_79 im_M_pages se_M_pages in_M cd_M_pages) rfl rfl rfl (by decide +kernel) ⟨Nat.le_of_ble_eq_true rfl, Nat.le_of_ble_eq_true rfl⟩) ⟨Pz_blind, va_recv hK hP (ci := 6) rfl hMi.1, Pz_at hP hK hD hz hM hS⟩ rfl rfl hl.1 rfl (lv_room (Nat.le_of_ble_eq_true rfl)) d_law_124 ⟨by show LcC (n + 1) u1 + 0 ≤ 601024; unfold LcC; omega, by show LcS (n + 1) u1 + 0 ≤ 7293034; unfold LcS; omega⟩) hS (fun q _ h => h) (fun q h => h) (fun r3 u2 t9 H locs ht hvm hp hB hz1 hk1 hS => ?_)
  obtain ⟨hP, hK9, hD, -⟩ := hB
  rw [ht] at hP
  clear hK9
  obtain ⟨vm1, hMi, hMk⟩ := hp
  have hq2 : nul u2 = nul u1 := nul_eq (fun p hp => hMk.2 p (Or.inl (mds_lt hp)))
  have hI := hI.same hMk.1 (fun p hp => hMk.2 p (by omega))
  have ho : Ou a t u2 := by obtain ⟨fo, ho⟩ := ho; exact ⟨fo, (hMk.2 41 (Or.inr (by decide))).trans ho⟩
  have hN : nul u2 ≤ 6157 := by omega
  refine W.widen (k := LcC (n + 1) u2) (n := LcS (n + 1) u2) (by show LcC (n + 1) u1 + 0 ≤ LcC (n + 1) u2; unfold LcC; omega) (by show LcS (n + 1) u1 + 0 ≤ LcS (n + 1) u2; unfold LcS; omega) ?_
  clear hMk hq2
  refine lv_istore (lv' := [(6, .int r3), (5, .int y1), (4, .int (nI (6 * n))), (3, .ref (a 41)), (2, .ref (a 34)), (1, .ref (a 0)), (0, .ref b)]) hx hb d_law_127 hl (by decide) rfl (fun ls hl => ?_)
  refine lv_goto (tgt := 550) hx hb d_law_129 rfl ?_
  refine lv_iinc (k := 2) (v := nI (6 * (n + 1))) (lv' := [(4, .int (nI (6 * (n + 1)))), (6, .int r3), (5, .int y1), (3, .ref (a 41)), (2, .ref (a 34)), (1, .ref (a 0)), (0, .ref b)]) hx hb d_law_550 hl rfl (nI_add (6 * n) 6) (by decide) rfl (fun ls hl => ?_)
  refine lv_goto (tgt := 23) hx hb d_law_553 rfl ?_
  exact Kn u2 H locs ls hP hD hS ⟨_, _, _, hI, hc1, hMi.mono (Nat.le_succ _), ho, hN⟩ (lv_sub hl [0, 3, 4, 5, 6] rfl)
set_option maxHeartbeats 4000000 in
set_option maxRecDepth 100000 in
theorem lc_1 {p : Program} {l : Launch} {e : Env} {s : State} {m : MethodId} {below : List Frame} {meth : Method} {c : Code} {b L : Nat} {xs : Nat → Int32} {D : va_G} {t : Nat → ClassId} {z : Nat} {sa : Nat → Nat} {a : Nat → Nat} {ws : va_W} {k n : Nat} {v vm : Nat → Int32} {H : Heap} {locs : List Loc} {ls : Array Slot} (hl0 : l.stackTraces = false) (hx : p.tables.exec = Jvm.exec) (hb : c.code = code) (hr : meth.sig.returnType = ret) (hml : c.maxLocals = 8) (hown : s.vm.findClass R_L = some m.cls) (hts : ∀ w ∈ WS, w.before #[Value.ref b] s = true) (hlocks : meth.locks = false) (hX : va_X b L xs s s.heap) (hbl : b < s.heap.size) (hK : va_K D Cl (Ty t) s) (hM : Am z sa s) (hz0 : z = s.heap.size) (hL : L ≤ 3072) (hn6 : 6 * n + 6 ≤ L) (hP : va_P D Cl ws H) (hD : va_D (Az z) ws) (hS : va_S (Az z) s.heap H locs) (hI : Iv a t k v ws) (hc1 : C1 v) (hMi : Mi a t (n + 1) vm ws) (ho : Ou a t ws) (hN : nul ws ≤ 6157) (hl : lv_has ls 8 [(4, .int (nI (6 * n))), (3, .ref (a 41)), (2, .ref (a 34)), (1, .ref (a 0)), (0, .ref b)]) (Kn : ∀ (w : va_W) (H : Heap) (locs : List Loc) (ls : Array Slot), va_P D Cl w H → va_D (Az z) w → va_S (Az z) s.heap H locs → LI a t (n + 1) w → lv_has ls 8 [(4, .int (nI (6 * (n + 1)))), (3, .ref (a 41)), (2, .ref (a 34)), (1, .ref (a 0)), (0, .ref b)] → W p l e room_1 s m #[Value.ref b] below meth c H locs (LcC (n + 1) w) (LcS (n + 1) w) (lw_Z below #[Value.ref b] s) (F0 m 23 ls [])) : W p l e room_1 s m #[Value.ref b] below meth c H locs (LcC n ws) (LcS n ws) (lw_Z below #[Value.ref b] s) (F0 m 132 ls []) := by
  have hz : z ≤ s.heap.size := Nat.le_of_eq hz0
  have hbA : ¬ Az z b := fun h => absurd hbl (Nat.not_lt.mpr (by rw [← hz0]; exact h))
  refine lv_aload_n hx hb d_law_132 rfl (lv_at hl 3 rfl) ?_
  refine lv_aload_n hx hb d_law_133 rfl (lv_at hl 1 rfl) ?_
  refine mu_SX (n := 2) (As := [.ref (a 0), .ref (a 41)]) (rest := []) ⟨hx, hb, hml, hown, hts⟩ (c_L_add (D := D) (t := t) (z := z) (sa := sa) (ws := ws)  hl0 hI hc1 ho) ml_L_80 st_L_add in_L cd_L_add (by decide +kernel) ⟨Nat.le_of_ble_eq_true rfl, Nat.le_of_ble_eq_true rfl⟩ (Pz_at hP hK hD hz hM hS) rfl hl.1 rfl (Nat.le_of_ble_eq_true rfl) d_law_134 ⟨by show LcC n ws + (2 * nul ws + 1) ≤ 601024; unfold LcC; omega, by show LcS n ws + (257 * nul ws + 6) ≤ 7293034; unfold LcS; omega⟩ hS (fun _ _ _ _ _ _ h => h.elim) (fun r9 u1 H locs hp hP hD hS => ?_)
  obtain ⟨⟨y1, hr9⟩, k1, v1, hI, hn1, hc1, hq, ho⟩ := hp
  subst hr9
  have hMi := hMi.same hq
  have hN : nul u1 ≤ 6157 := by omega
  refine W.widen (k := LcC (n + 1) u1) (n := LcS (n + 1) u1) (by show LcC n ws + (2 * (nul ws - nul u1) + 1) ≤ LcC (n + 1) u1; unfold LcC; omega) (by show LcS n ws + (257 * (nul ws - nul u1) + 6) ≤ LcS (n + 1) u1; unfold LcS; omega) ?_
  clear hn1
  refine W.eq (g2 := F0 m 137 ls [.int y1]) rfl ?_
  refine lv_istore (lv' := [(5, .int y1), (4, .int (nI (6 * n))), (3, .ref (a 41)), (2, .ref (a 34)), (1, .ref (a 0)), (0, .ref b)]) hx hb d_law_137 hl (by decide) rfl (fun ls hl => ?_)
  refine lv_aload_n hx hb d_law_139 rfl (lv_at hl 3 rfl) ?_
  refine va_calli (va_runV (As := []) (rest := []) ⟨hx, hb, hml, hown, hts⟩ (c_M_add (D := D) (t := t) (z := z) (sa := sa) (ws := u1)  hMi ) (cwV 0 hts (gd_V ml_L_82 im_M_add se_M_add in_M cd_M_add) rfl rfl rfl (by decide +kernel) ⟨Nat.le_of_ble_eq_true rfl, Nat.le_of_ble_eq_true rfl⟩) ⟨Pz_blind, va_recv hK hP (ci := 6) rfl hMi.1, Pz_at hP hK hD hz hM hS⟩ rfl rfl hl.1 rfl (lv_room (Nat.le_of_ble_eq_true rfl)) d_law_140 ⟨by show LcC (n + 1) u1 + 0 ≤ 601024; unfold LcC; omega, by show LcS (n + 1) u1 + 0 ≤ 7293034; unfold LcS; omega⟩) hS (fun q _ h => h) (fun q h => h) (fun r3 u2 t9 H locs ht hvm hp hB hz1 hk1 hS => ?_)
  obtain ⟨hP, hK9, hD, -⟩ := hB
  rw [ht] at hP
  clear hK9
  obtain ⟨vm1, hMi, hMk⟩ := hp
  have hq2 : nul u2 = nul u1 := nul_eq (fun p hp => hMk.2 p (Or.inl (mds_lt hp)))
  have hI := hI.same hMk.1 (fun p hp => hMk.2 p (by omega))
  have ho : Ou a t u2 := by obtain ⟨fo, ho⟩ := ho; exact ⟨fo, (hMk.2 41 (Or.inr (by decide))).trans ho⟩
  have hN : nul u2 ≤ 6157 := by omega
  refine W.widen (k := LcC (n + 1) u2) (n := LcS (n + 1) u2) (by show LcC (n + 1) u1 + 0 ≤ LcC (n + 1) u2; unfold LcC; omega) (by show LcS (n + 1) u1 + 0 ≤ LcS (n + 1) u2; unfold LcS; omega) ?_
  clear hMk hq2
  refine lv_istore (lv' := [(6, .int r3), (5, .int y1), (4, .int (nI (6 * n))), (3, .ref (a 41)), (2, .ref (a 34)), (1, .ref (a 0)), (0, .ref b)]) hx hb d_law_143 hl (by decide) rfl (fun ls hl => ?_)
  refine lv_goto (tgt := 550) hx hb d_law_145 rfl ?_
  refine lv_iinc (k := 2) (v := nI (6 * (n + 1))) (lv' := [(4, .int (nI (6 * (n + 1)))), (6, .int r3), (5, .int y1), (3, .ref (a 41)), (2, .ref (a 34)), (1, .ref (a 0)), (0, .ref b)]) hx hb d_law_550 hl rfl (nI_add (6 * n) 6) (by decide) rfl (fun ls hl => ?_)
  refine lv_goto (tgt := 23) hx hb d_law_553 rfl ?_
  exact Kn u2 H locs ls hP hD hS ⟨_, _, _, hI, hc1, hMi.mono (Nat.le_succ _), ho, hN⟩ (lv_sub hl [0, 3, 4, 5, 6] rfl)
set_option maxHeartbeats 4000000 in
set_option maxRecDepth 100000 in
theorem lc_2 {p : Program} {l : Launch} {e : Env} {s : State} {m : MethodId} {below : List Frame} {meth : Method} {c : Code} {b L : Nat} {xs : Nat → Int32} {D : va_G} {t : Nat → ClassId} {z : Nat} {sa : Nat → Nat} {a : Nat → Nat} {ws : va_W} {k n : Nat} {v vm : Nat → Int32} {H : Heap} {locs : List Loc} {ls : Array Slot} (hl0 : l.stackTraces = false) (hx : p.tables.exec = Jvm.exec) (hb : c.code = code) (hr : meth.sig.returnType = ret) (hml : c.maxLocals = 8) (hown : s.vm.findClass R_L = some m.cls) (hts : ∀ w ∈ WS, w.before #[Value.ref b] s = true) (hlocks : meth.locks = false) (hX : va_X b L xs s s.heap) (hbl : b < s.heap.size) (hK : va_K D Cl (Ty t) s) (hM : Am z sa s) (hz0 : z = s.heap.size) (hL : L ≤ 3072) (hn6 : 6 * n + 6 ≤ L) (hP : va_P D Cl ws H) (hD : va_D (Az z) ws) (hS : va_S (Az z) s.heap H locs) (hI : Iv a t k v ws) (hc1 : C1 v) (hMi : Mi a t (n + 1) vm ws) (ho : Ou a t ws) (hN : nul ws ≤ 6157) (hl : lv_has ls 8 [(4, .int (nI (6 * n))), (3, .ref (a 41)), (2, .ref (a 34)), (1, .ref (a 0)), (0, .ref b)]) (Kn : ∀ (w : va_W) (H : Heap) (locs : List Loc) (ls : Array Slot), va_P D Cl w H → va_D (Az z) w → va_S (Az z) s.heap H locs → LI a t (n + 1) w → lv_has ls 8 [(4, .int (nI (6 * (n + 1)))), (3, .ref (a 41)), (2, .ref (a 34)), (1, .ref (a 0)), (0, .ref b)] → W p l e room_1 s m #[Value.ref b] below meth c H locs (LcC (n + 1) w) (LcS (n + 1) w) (lw_Z below #[Value.ref b] s) (F0 m 23 ls [])) : W p l e room_1 s m #[Value.ref b] below meth c H locs (LcC n ws) (LcS n ws) (lw_Z below #[Value.ref b] s) (F0 m 148 ls []) := by
  have hz : z ≤ s.heap.size := Nat.le_of_eq hz0
  have hbA : ¬ Az z b := fun h => absurd hbl (Nat.not_lt.mpr (by rw [← hz0]; exact h))
  refine lv_aload_n hx hb d_law_148 rfl (lv_at hl 3 rfl) ?_
  refine lv_aload_n hx hb d_law_149 rfl (lv_at hl 4 rfl) ?_
  refine lv_iload hx hb d_law_150 (lv_at hl 0 rfl) ?_
  refine lv_iconst (v := 1) hx hb d_law_152 (by decide) ?_
  refine lv_iadd hx hb d_law_153 ?_
  refine lv_topi (fun y1 hy1 => ?_)
  have hy1 : y1 = nI (6 * n + 1) := hy1.trans (nI_add (6 * n) 1)
  subst hy1
  refine va_sld hx hb hX hbl hbA hS (i := nI (6 * n + 1)) (vp_in_nI (by omega) (by omega)) d_law_154 ?_
  refine W.eq (g2 := F0 m 155 ls [.int (xs (6 * n + 1)), .ref (a 0)]) (by rw [nI_clamp (n := 6 * n + 1) (by omega)]) ?_
  refine lv_aload_n hx hb d_law_155 rfl (lv_at hl 4 rfl) ?_
  refine lv_iload hx hb d_law_156 (lv_at hl 0 rfl) ?_
  refine lv_iconst (v := 2) hx hb d_law_158 (by decide) ?_
  refine lv_iadd hx hb d_law_159 ?_
  refine lv_topi (fun y2 hy2 => ?_)
  have hy2 : y2 = nI (6 * n + 2) := hy2.trans (nI_add (6 * n) 2)
  subst hy2
  refine va_sld hx hb hX hbl hbA hS (i := nI (6 * n + 2)) (vp_in_nI (by omega) (by omega)) d_law_160 ?_
  refine W.eq (g2 := F0 m 161 ls [.int (xs (6 * n + 2)), .int (xs (6 * n + 1)), .ref (a 0)]) (by rw [nI_clamp (n := 6 * n + 2) (by omega)]) ?_
  refine lv_aload_n hx hb d_law_161 rfl (lv_at hl 1 rfl) ?_
  refine mu_SX (n := 4) (As := [.ref (a 0), .int (xs (6 * n + 1)), .int (xs (6 * n + 2)), .ref (a 41)]) (rest := []) ⟨hx, hb, hml, hown, hts⟩ (c_L_get (D := D) (t := t) (z := z) (sa := sa) (ws := ws) (x9 := (xs (6 * n + 1))) (y9 := (xs (6 * n + 2))) hl0 hI hc1 ho) ml_L_83 st_L_get in_L cd_L_get (by decide +kernel) ⟨Nat.le_of_ble_eq_true rfl, Nat.le_of_ble_eq_true rfl⟩ (Pz_at hP hK hD hz hM hS) rfl hl.1 rfl (Nat.le_of_ble_eq_true rfl) d_law_162 ⟨by show LcC n ws + (2 * nul ws + 1) ≤ 601024; unfold LcC; omega, by show LcS n ws + (257 * nul ws + 6) ≤ 7293034; unfold LcS; omega⟩ hS (fun _ _ _ _ _ _ h => h.elim) (fun r9 u3 H locs hp hP hD hS => ?_)
  obtain ⟨⟨y1, hr9⟩, k1, v1, hI, hn1, hc1, hq, ho⟩ := hp
  subst hr9
  have hMi := hMi.same hq
  have hN : nul u3 ≤ 6157 := by omega
  refine W.widen (k := LcC (n + 1) u3) (n := LcS (n + 1) u3) (by show LcC n ws + (2 * (nul ws - nul u3) + 1) ≤ LcC (n + 1) u3; unfold LcC; omega) (by show LcS n ws + (257 * (nul ws - nul u3) + 6) ≤ LcS (n + 1) u3; unfold LcS; omega) ?_
  clear hn1
  refine W.eq (g2 := F0 m 165 ls [.int y1]) rfl ?_
  refine lv_istore (lv' := [(5, .int y1), (4, .int (nI (6 * n))), (3, .ref (a 41)), (2, .ref (a 34)), (1, .ref (a 0)), (0, .ref b)]) hx hb d_law_165 hl (by decide) rfl (fun ls hl => ?_)
  refine lv_aload_n hx hb d_law_167 rfl (lv_at hl 3 rfl) ?_
  refine lv_aload_n hx hb d_law_168 rfl (lv_at hl 5 rfl) ?_
  refine lv_iload hx hb d_law_169 (lv_at hl 1 rfl) ?_
  refine lv_iconst (v := 1) hx hb d_law_171 (by decide) ?_
  refine lv_iadd hx hb d_law_172 ?_
  refine lv_topi (fun y4 hy4 => ?_)
  have hy4 : y4 = nI (6 * n + 1) := hy4.trans (nI_add (6 * n) 1)
  subst hy4
  refine va_sld hx hb hX hbl hbA hS (i := nI (6 * n + 1)) (vp_in_nI (by omega) (by omega)) d_law_173 ?_
  refine W.eq (g2 := F0 m 174 ls [.int (xs (6 * n + 1)), .ref (a 34)]) (by rw [nI_clamp (n := 6 * n + 1) (by omega)]) ?_
  refine lv_aload_n hx hb d_law_174 rfl (lv_at hl 5 rfl) ?_
  refine lv_iload hx hb d_law_175 (lv_at hl 1 rfl) ?_
  refine lv_iconst (v := 2) hx hb d_law_177 (by decide) ?_
  refine lv_iadd hx hb d_law_178 ?_
  refine lv_topi (fun y5 hy5 => ?_)
  have hy5 : y5 = nI (6 * n + 2) := hy5.trans (nI_add (6 * n) 2)
  subst hy5
  refine va_sld hx hb hX hbl hbA hS (i := nI (6 * n + 2)) (vp_in_nI (by omega) (by omega)) d_law_179 ?_
  refine W.eq (g2 := F0 m 180 ls [.int (xs (6 * n + 2)), .int (xs (6 * n + 1)), .ref (a 34)]) (by rw [nI_clamp (n := 6 * n + 2) (by omega)]) ?_
  refine va_calli (va_runV (As := [.int (xs (6 * n + 1)), .int (xs (6 * n + 2))]) (rest := []) ⟨hx, hb, hml, hown, hts⟩ (c_M_get (D := D) (t := t) (z := z) (sa := sa) (ws := u3) (x9 := (xs (6 * n + 1))) (y9 := (xs (6 * n + 2))) hMi (by omega)) (cwV 2 hts (gd_V ml_L_86 im_M_get se_M_get in_M cd_M_get) rfl rfl rfl (by decide +kernel) ⟨Nat.le_of_ble_eq_true rfl, Nat.le_of_ble_eq_true rfl⟩) ⟨Pz_blind, va_recv hK hP (ci := 6) rfl hMi.1, Pz_at hP hK hD hz hM hS⟩ rfl rfl hl.1 rfl (lv_room (Nat.le_of_ble_eq_true rfl)) d_law_180 ⟨by show LcC (n + 1) u3 + 0 ≤ 601024; unfold LcC; omega, by show LcS (n + 1) u3 + 0 ≤ 7293034; unfold LcS; omega⟩) hS (fun q _ h => h) (fun q h => h) (fun r7 u6 t9 H locs ht hvm hp hB hz1 hk1 hS => ?_)
  obtain ⟨hP, hK9, hD, -⟩ := hB
  rw [ht] at hP
  clear hK9
  obtain ⟨vm1, hMi, hMk⟩ := hp
  have hq2 : nul u6 = nul u3 := nul_eq (fun p hp => hMk.2 p (Or.inl (mds_lt hp)))
  have hI := hI.same hMk.1 (fun p hp => hMk.2 p (by omega))
  have ho : Ou a t u6 := by obtain ⟨fo, ho⟩ := ho; exact ⟨fo, (hMk.2 41 (Or.inr (by decide))).trans ho⟩
  have hN : nul u6 ≤ 6157 := by omega
  refine W.widen (k := LcC (n + 1) u6) (n := LcS (n + 1) u6) (by show LcC (n + 1) u3 + 0 ≤ LcC (n + 1) u6; unfold LcC; omega) (by show LcS (n + 1) u3 + 0 ≤ LcS (n + 1) u6; unfold LcS; omega) ?_
  clear hMk hq2
  refine lv_istore (lv' := [(6, .int r7), (5, .int y1), (4, .int (nI (6 * n))), (3, .ref (a 41)), (2, .ref (a 34)), (1, .ref (a 0)), (0, .ref b)]) hx hb d_law_183 hl (by decide) rfl (fun ls hl => ?_)
  refine lv_goto (tgt := 550) hx hb d_law_185 rfl ?_
  refine lv_iinc (k := 2) (v := nI (6 * (n + 1))) (lv' := [(4, .int (nI (6 * (n + 1)))), (6, .int r7), (5, .int y1), (3, .ref (a 41)), (2, .ref (a 34)), (1, .ref (a 0)), (0, .ref b)]) hx hb d_law_550 hl rfl (nI_add (6 * n) 6) (by decide) rfl (fun ls hl => ?_)
  refine lv_goto (tgt := 23) hx hb d_law_553 rfl ?_
  exact Kn u6 H locs ls hP hD hS ⟨_, _, _, hI, hc1, hMi.mono (Nat.le_succ _), ho, hN⟩ (lv_sub hl [0, 3, 4, 5, 6] rfl)
set_option maxHeartbeats 4000000 in
set_option maxRecDepth 100000 in
theorem lc_3 {p : Program} {l : Launch} {e : Env} {s : State} {m : MethodId} {below : List Frame} {meth : Method} {c : Code} {b L : Nat} {xs : Nat → Int32} {D : va_G} {t : Nat → ClassId} {z : Nat} {sa : Nat → Nat} {a : Nat → Nat} {ws : va_W} {k n : Nat} {v vm : Nat → Int32} {H : Heap} {locs : List Loc} {ls : Array Slot} (hl0 : l.stackTraces = false) (hx : p.tables.exec = Jvm.exec) (hb : c.code = code) (hr : meth.sig.returnType = ret) (hml : c.maxLocals = 8) (hown : s.vm.findClass R_L = some m.cls) (hts : ∀ w ∈ WS, w.before #[Value.ref b] s = true) (hlocks : meth.locks = false) (hX : va_X b L xs s s.heap) (hbl : b < s.heap.size) (hK : va_K D Cl (Ty t) s) (hM : Am z sa s) (hz0 : z = s.heap.size) (hL : L ≤ 3072) (hn6 : 6 * n + 6 ≤ L) (hP : va_P D Cl ws H) (hD : va_D (Az z) ws) (hS : va_S (Az z) s.heap H locs) (hI : Iv a t k v ws) (hc1 : C1 v) (hMi : Mi a t (n + 1) vm ws) (ho : Ou a t ws) (hN : nul ws ≤ 6157) (hl : lv_has ls 8 [(4, .int (nI (6 * n))), (3, .ref (a 41)), (2, .ref (a 34)), (1, .ref (a 0)), (0, .ref b)]) (Kn : ∀ (w : va_W) (H : Heap) (locs : List Loc) (ls : Array Slot), va_P D Cl w H → va_D (Az z) w → va_S (Az z) s.heap H locs → LI a t (n + 1) w → lv_has ls 8 [(4, .int (nI (6 * (n + 1)))), (3, .ref (a 41)), (2, .ref (a 34)), (1, .ref (a 0)), (0, .ref b)] → W p l e room_1 s m #[Value.ref b] below meth c H locs (LcC (n + 1) w) (LcS (n + 1) w) (lw_Z below #[Value.ref b] s) (F0 m 23 ls [])) : W p l e room_1 s m #[Value.ref b] below meth c H locs (LcC n ws) (LcS n ws) (lw_Z below #[Value.ref b] s) (F0 m 188 ls []) := by
  have hz : z ≤ s.heap.size := Nat.le_of_eq hz0
  have hbA : ¬ Az z b := fun h => absurd hbl (Nat.not_lt.mpr (by rw [← hz0]; exact h))
  refine lv_aload_n hx hb d_law_188 rfl (lv_at hl 3 rfl) ?_
  refine lv_aload_n hx hb d_law_189 rfl (lv_at hl 4 rfl) ?_
  refine lv_iload hx hb d_law_190 (lv_at hl 0 rfl) ?_
  refine lv_iconst (v := 1) hx hb d_law_192 (by decide) ?_
  refine lv_iadd hx hb d_law_193 ?_
  refine lv_topi (fun y1 hy1 => ?_)
  have hy1 : y1 = nI (6 * n + 1) := hy1.trans (nI_add (6 * n) 1)
  subst hy1
  refine va_sld hx hb hX hbl hbA hS (i := nI (6 * n + 1)) (vp_in_nI (by omega) (by omega)) d_law_194 ?_
  refine W.eq (g2 := F0 m 195 ls [.int (xs (6 * n + 1)), .ref (a 0)]) (by rw [nI_clamp (n := 6 * n + 1) (by omega)]) ?_
  refine lv_aload_n hx hb d_law_195 rfl (lv_at hl 4 rfl) ?_
  refine lv_iload hx hb d_law_196 (lv_at hl 0 rfl) ?_
  refine lv_iconst (v := 2) hx hb d_law_198 (by decide) ?_
  refine lv_iadd hx hb d_law_199 ?_
  refine lv_topi (fun y2 hy2 => ?_)
  have hy2 : y2 = nI (6 * n + 2) := hy2.trans (nI_add (6 * n) 2)
  subst hy2
  refine va_sld hx hb hX hbl hbA hS (i := nI (6 * n + 2)) (vp_in_nI (by omega) (by omega)) d_law_200 ?_
  refine W.eq (g2 := F0 m 201 ls [.int (xs (6 * n + 2)), .int (xs (6 * n + 1)), .ref (a 0)]) (by rw [nI_clamp (n := 6 * n + 2) (by omega)]) ?_
  refine lv_aload_n hx hb d_law_201 rfl (lv_at hl 4 rfl) ?_
  refine lv_iload hx hb d_law_202 (lv_at hl 0 rfl) ?_
  refine lv_iconst (v := 3) hx hb d_law_204 (by decide) ?_
  refine lv_iadd hx hb d_law_205 ?_
  refine lv_topi (fun y3 hy3 => ?_)
  have hy3 : y3 = nI (6 * n + 3) := hy3.trans (nI_add (6 * n) 3)
  subst hy3
  refine va_sld hx hb hX hbl hbA hS (i := nI (6 * n + 3)) (vp_in_nI (by omega) (by omega)) d_law_206 ?_
  refine W.eq (g2 := F0 m 207 ls [.int (xs (6 * n + 3)), .int (xs (6 * n + 2)), .int (xs (6 * n + 1)), .ref (a 0)]) (by rw [nI_clamp (n := 6 * n + 3) (by omega)]) ?_
  refine lv_aload_n hx hb d_law_207 rfl (lv_at hl 1 rfl) ?_
  refine mu_SX (n := 5) (As := [.ref (a 0), .int (xs (6 * n + 1)), .int (xs (6 * n + 2)), .int (xs (6 * n + 3)), .ref (a 41)]) (rest := []) ⟨hx, hb, hml, hown, hts⟩ (c_L_put (D := D) (t := t) (z := z) (sa := sa) (ws := ws) (x9 := (xs (6 * n + 1))) (y9 := (xs (6 * n + 2))) (w9 := (xs (6 * n + 3))) hl0 hI hc1 ho) ml_L_87 st_L_put in_L cd_L_put (by decide +kernel) ⟨Nat.le_of_ble_eq_true rfl, Nat.le_of_ble_eq_true rfl⟩ (Pz_at hP hK hD hz hM hS) rfl hl.1 rfl (Nat.le_of_ble_eq_true rfl) d_law_208 ⟨by show LcC n ws + (2 * nul ws + 1) ≤ 601024; unfold LcC; omega, by show LcS n ws + (257 * nul ws + 6) ≤ 7293034; unfold LcS; omega⟩ hS (fun _ _ _ _ _ _ h => h.elim) (fun r9 u4 H locs hp hP hD hS => ?_)
  obtain ⟨⟨y1, hr9⟩, k1, v1, hI, hn1, hc1, hq, ho⟩ := hp
  subst hr9
  have hMi := hMi.same hq
  have hN : nul u4 ≤ 6157 := by omega
  refine W.widen (k := LcC (n + 1) u4) (n := LcS (n + 1) u4) (by show LcC n ws + (2 * (nul ws - nul u4) + 1) ≤ LcC (n + 1) u4; unfold LcC; omega) (by show LcS n ws + (257 * (nul ws - nul u4) + 6) ≤ LcS (n + 1) u4; unfold LcS; omega) ?_
  clear hn1
  refine W.eq (g2 := F0 m 211 ls [.int y1]) rfl ?_
  refine lv_istore (lv' := [(5, .int y1), (4, .int (nI (6 * n))), (3, .ref (a 41)), (2, .ref (a 34)), (1, .ref (a 0)), (0, .ref b)]) hx hb d_law_211 hl (by decide) rfl (fun ls hl => ?_)
  refine lv_aload_n hx hb d_law_213 rfl (lv_at hl 3 rfl) ?_
  refine lv_aload_n hx hb d_law_214 rfl (lv_at hl 5 rfl) ?_
  refine lv_iload hx hb d_law_215 (lv_at hl 1 rfl) ?_
  refine lv_iconst (v := 1) hx hb d_law_217 (by decide) ?_
  refine lv_iadd hx hb d_law_218 ?_
  refine lv_topi (fun y5 hy5 => ?_)
  have hy5 : y5 = nI (6 * n + 1) := hy5.trans (nI_add (6 * n) 1)
  subst hy5
  refine va_sld hx hb hX hbl hbA hS (i := nI (6 * n + 1)) (vp_in_nI (by omega) (by omega)) d_law_219 ?_
  refine W.eq (g2 := F0 m 220 ls [.int (xs (6 * n + 1)), .ref (a 34)]) (by rw [nI_clamp (n := 6 * n + 1) (by omega)]) ?_
  refine lv_aload_n hx hb d_law_220 rfl (lv_at hl 5 rfl) ?_
  refine lv_iload hx hb d_law_221 (lv_at hl 1 rfl) ?_
  refine lv_iconst (v := 2) hx hb d_law_223 (by decide) ?_
  refine lv_iadd hx hb d_law_224 ?_
  refine lv_topi (fun y6 hy6 => ?_)
  have hy6 : y6 = nI (6 * n + 2) := hy6.trans (nI_add (6 * n) 2)
  subst hy6
  refine va_sld hx hb hX hbl hbA hS (i := nI (6 * n + 2)) (vp_in_nI (by omega) (by omega)) d_law_225 ?_
  refine W.eq (g2 := F0 m 226 ls [.int (xs (6 * n + 2)), .int (xs (6 * n + 1)), .ref (a 34)]) (by rw [nI_clamp (n := 6 * n + 2) (by omega)]) ?_
  refine lv_aload_n hx hb d_law_226 rfl (lv_at hl 5 rfl) ?_
  refine lv_iload hx hb d_law_227 (lv_at hl 1 rfl) ?_
  refine lv_iconst (v := 3) hx hb d_law_229 (by decide) ?_
  refine lv_iadd hx hb d_law_230 ?_
  refine lv_topi (fun y7 hy7 => ?_)
  have hy7 : y7 = nI (6 * n + 3) := hy7.trans (nI_add (6 * n) 3)
  subst hy7
  refine va_sld hx hb hX hbl hbA hS (i := nI (6 * n + 3)) (vp_in_nI (by omega) (by omega)) d_law_231 ?_
  refine W.eq (g2 := F0 m 232 ls [.int (xs (6 * n + 3)), .int (xs (6 * n + 2)), .int (xs (6 * n + 1)), .ref (a 34)]) (by rw [nI_clamp (n := 6 * n + 3) (by omega)]) ?_
  refine va_calli (va_runV (As := [.int (xs (6 * n + 1)), .int (xs (6 * n + 2)), .int (xs (6 * n + 3))]) (rest := []) ⟨hx, hb, hml, hown, hts⟩ (c_M_put (D := D) (t := t) (z := z) (sa := sa) (ws := u4) (x9 := (xs (6 * n + 1))) (y9 := (xs (6 * n + 2))) (w9 := (xs (6 * n + 3))) hMi (by omega)) (cwV 3 hts (gd_V ml_L_90 im_M_put se_M_put in_M cd_M_put) rfl rfl rfl (by decide +kernel) ⟨Nat.le_of_ble_eq_true rfl, Nat.le_of_ble_eq_true rfl⟩) ⟨Pz_blind, va_recv hK hP (ci := 6) rfl hMi.1, Pz_at hP hK hD hz hM hS⟩ rfl rfl hl.1 rfl (lv_room (Nat.le_of_ble_eq_true rfl)) d_law_232 ⟨by show LcC (n + 1) u4 + 0 ≤ 601024; unfold LcC; omega, by show LcS (n + 1) u4 + 0 ≤ 7293034; unfold LcS; omega⟩) hS (fun q _ h => h) (fun q h => h) (fun r10 u8 t9 H locs ht hvm hp hB hz1 hk1 hS => ?_)
  obtain ⟨hP, hK9, hD, -⟩ := hB
  rw [ht] at hP
  clear hK9
  obtain ⟨vm1, hMi, hMk⟩ := hp
  have hq2 : nul u8 = nul u4 := nul_eq (fun p hp => hMk.2 p (Or.inl (mds_lt hp)))
  have hI := hI.same hMk.1 (fun p hp => hMk.2 p (by omega))
  have ho : Ou a t u8 := by obtain ⟨fo, ho⟩ := ho; exact ⟨fo, (hMk.2 41 (Or.inr (by decide))).trans ho⟩
  have hN : nul u8 ≤ 6157 := by omega
  refine W.widen (k := LcC (n + 1) u8) (n := LcS (n + 1) u8) (by show LcC (n + 1) u4 + 0 ≤ LcC (n + 1) u8; unfold LcC; omega) (by show LcS (n + 1) u4 + 0 ≤ LcS (n + 1) u8; unfold LcS; omega) ?_
  clear hMk hq2
  refine lv_istore (lv' := [(6, .int r10), (5, .int y1), (4, .int (nI (6 * n))), (3, .ref (a 41)), (2, .ref (a 34)), (1, .ref (a 0)), (0, .ref b)]) hx hb d_law_235 hl (by decide) rfl (fun ls hl => ?_)
  refine lv_goto (tgt := 550) hx hb d_law_237 rfl ?_
  refine lv_iinc (k := 2) (v := nI (6 * (n + 1))) (lv' := [(4, .int (nI (6 * (n + 1)))), (6, .int r10), (5, .int y1), (3, .ref (a 41)), (2, .ref (a 34)), (1, .ref (a 0)), (0, .ref b)]) hx hb d_law_550 hl rfl (nI_add (6 * n) 6) (by decide) rfl (fun ls hl => ?_)
  refine lv_goto (tgt := 23) hx hb d_law_553 rfl ?_
  exact Kn u8 H locs ls hP hD hS ⟨_, _, _, hI, hc1, hMi, ho, hN⟩ (lv_sub hl [0, 3, 4, 5, 6] rfl)
set_option maxHeartbeats 4000000 in
set_option maxRecDepth 100000 in
theorem lc_4 {p : Program} {l : Launch} {e : Env} {s : State} {m : MethodId} {below : List Frame} {meth : Method} {c : Code} {b L : Nat} {xs : Nat → Int32} {D : va_G} {t : Nat → ClassId} {z : Nat} {sa : Nat → Nat} {a : Nat → Nat} {ws : va_W} {k n : Nat} {v vm : Nat → Int32} {H : Heap} {locs : List Loc} {ls : Array Slot} (hl0 : l.stackTraces = false) (hx : p.tables.exec = Jvm.exec) (hb : c.code = code) (hr : meth.sig.returnType = ret) (hml : c.maxLocals = 8) (hown : s.vm.findClass R_L = some m.cls) (hts : ∀ w ∈ WS, w.before #[Value.ref b] s = true) (hlocks : meth.locks = false) (hX : va_X b L xs s s.heap) (hbl : b < s.heap.size) (hK : va_K D Cl (Ty t) s) (hM : Am z sa s) (hz0 : z = s.heap.size) (hL : L ≤ 3072) (hn6 : 6 * n + 6 ≤ L) (hP : va_P D Cl ws H) (hD : va_D (Az z) ws) (hS : va_S (Az z) s.heap H locs) (hI : Iv a t k v ws) (hc1 : C1 v) (hMi : Mi a t (n + 1) vm ws) (ho : Ou a t ws) (hN : nul ws ≤ 6157) (hl : lv_has ls 8 [(4, .int (nI (6 * n))), (3, .ref (a 41)), (2, .ref (a 34)), (1, .ref (a 0)), (0, .ref b)]) (Kn : ∀ (w : va_W) (H : Heap) (locs : List Loc) (ls : Array Slot), va_P D Cl w H → va_D (Az z) w → va_S (Az z) s.heap H locs → LI a t (n + 1) w → lv_has ls 8 [(4, .int (nI (6 * (n + 1)))), (3, .ref (a 41)), (2, .ref (a 34)), (1, .ref (a 0)), (0, .ref b)] → W p l e room_1 s m #[Value.ref b] below meth c H locs (LcC (n + 1) w) (LcS (n + 1) w) (lw_Z below #[Value.ref b] s) (F0 m 23 ls [])) : W p l e room_1 s m #[Value.ref b] below meth c H locs (LcC n ws) (LcS n ws) (lw_Z below #[Value.ref b] s) (F0 m 240 ls []) := by
  have hz : z ≤ s.heap.size := Nat.le_of_eq hz0
  have hbA : ¬ Az z b := fun h => absurd hbl (Nat.not_lt.mpr (by rw [← hz0]; exact h))
  refine lv_aload_n hx hb d_law_240 rfl (lv_at hl 3 rfl) ?_
  refine lv_aload_n hx hb d_law_241 rfl (lv_at hl 4 rfl) ?_
  refine lv_iload hx hb d_law_242 (lv_at hl 0 rfl) ?_
  refine lv_iconst (v := 1) hx hb d_law_244 (by decide) ?_
  refine lv_iadd hx hb d_law_245 ?_
  refine lv_topi (fun y1 hy1 => ?_)
  have hy1 : y1 = nI (6 * n + 1) := hy1.trans (nI_add (6 * n) 1)
  subst hy1
  refine va_sld hx hb hX hbl hbA hS (i := nI (6 * n + 1)) (vp_in_nI (by omega) (by omega)) d_law_246 ?_
  refine W.eq (g2 := F0 m 247 ls [.int (xs (6 * n + 1)), .ref (a 0)]) (by rw [nI_clamp (n := 6 * n + 1) (by omega)]) ?_
  refine lv_aload_n hx hb d_law_247 rfl (lv_at hl 4 rfl) ?_
  refine lv_iload hx hb d_law_248 (lv_at hl 0 rfl) ?_
  refine lv_iconst (v := 2) hx hb d_law_250 (by decide) ?_
  refine lv_iadd hx hb d_law_251 ?_
  refine lv_topi (fun y2 hy2 => ?_)
  have hy2 : y2 = nI (6 * n + 2) := hy2.trans (nI_add (6 * n) 2)
  subst hy2
  refine va_sld hx hb hX hbl hbA hS (i := nI (6 * n + 2)) (vp_in_nI (by omega) (by omega)) d_law_252 ?_
  refine W.eq (g2 := F0 m 253 ls [.int (xs (6 * n + 2)), .int (xs (6 * n + 1)), .ref (a 0)]) (by rw [nI_clamp (n := 6 * n + 2) (by omega)]) ?_
  refine lv_aload_n hx hb d_law_253 rfl (lv_at hl 4 rfl) ?_
  refine lv_iload hx hb d_law_254 (lv_at hl 0 rfl) ?_
  refine lv_iconst (v := 3) hx hb d_law_256 (by decide) ?_
  refine lv_iadd hx hb d_law_257 ?_
  refine lv_topi (fun y3 hy3 => ?_)
  have hy3 : y3 = nI (6 * n + 3) := hy3.trans (nI_add (6 * n) 3)
  subst hy3
  refine va_sld hx hb hX hbl hbA hS (i := nI (6 * n + 3)) (vp_in_nI (by omega) (by omega)) d_law_258 ?_
  refine W.eq (g2 := F0 m 259 ls [.int (xs (6 * n + 3)), .int (xs (6 * n + 2)), .int (xs (6 * n + 1)), .ref (a 0)]) (by rw [nI_clamp (n := 6 * n + 3) (by omega)]) ?_
  refine lv_aload_n hx hb d_law_259 rfl (lv_at hl 4 rfl) ?_
  refine lv_iload hx hb d_law_260 (lv_at hl 0 rfl) ?_
  refine lv_iconst (v := 4) hx hb d_law_262 (by decide) ?_
  refine lv_iadd hx hb d_law_263 ?_
  refine lv_topi (fun y4 hy4 => ?_)
  have hy4 : y4 = nI (6 * n + 4) := hy4.trans (nI_add (6 * n) 4)
  subst hy4
  refine va_sld hx hb hX hbl hbA hS (i := nI (6 * n + 4)) (vp_in_nI (by omega) (by omega)) d_law_264 ?_
  refine W.eq (g2 := F0 m 265 ls [.int (xs (6 * n + 4)), .int (xs (6 * n + 3)), .int (xs (6 * n + 2)), .int (xs (6 * n + 1)), .ref (a 0)]) (by rw [nI_clamp (n := 6 * n + 4) (by omega)]) ?_
  refine lv_aload_n hx hb d_law_265 rfl (lv_at hl 4 rfl) ?_
  refine lv_iload hx hb d_law_266 (lv_at hl 0 rfl) ?_
  refine lv_iconst (v := 5) hx hb d_law_268 (by decide) ?_
  refine lv_iadd hx hb d_law_269 ?_
  refine lv_topi (fun y5 hy5 => ?_)
  have hy5 : y5 = nI (6 * n + 5) := hy5.trans (nI_add (6 * n) 5)
  subst hy5
  refine va_sld hx hb hX hbl hbA hS (i := nI (6 * n + 5)) (vp_in_nI (by omega) (by omega)) d_law_270 ?_
  refine W.eq (g2 := F0 m 271 ls [.int (xs (6 * n + 5)), .int (xs (6 * n + 4)), .int (xs (6 * n + 3)), .int (xs (6 * n + 2)), .int (xs (6 * n + 1)), .ref (a 0)]) (by rw [nI_clamp (n := 6 * n + 5) (by omega)]) ?_
  refine mu_SX (n := 6) (As := [.ref (a 0), .int (xs (6 * n + 1)), .int (xs (6 * n + 2)), .int (xs (6 * n + 3)), .int (xs (6 * n + 4)), .int (xs (6 * n + 5))]) (rest := []) ⟨hx, hb, hml, hown, hts⟩ (c_L_move (D := D) (t := t) (z := z) (sa := sa) (ws := ws) (p9 := (xs (6 * n + 1))) (f9 := (xs (6 * n + 2))) (q9 := (xs (6 * n + 3))) (t9 := (xs (6 * n + 4))) (n9 := (xs (6 * n + 5))) hl0 hI hc1 ho) ml_L_91 st_L_move in_L cd_L_move (by decide +kernel) ⟨Nat.le_of_ble_eq_true rfl, Nat.le_of_ble_eq_true rfl⟩ (Pz_at hP hK hD hz hM hS) rfl hl.1 rfl (Nat.le_of_ble_eq_true rfl) d_law_271 ⟨by show LcC n ws + (2 * nul ws + 1) ≤ 601024; unfold LcC; omega, by show LcS n ws + (257 * nul ws + 6) ≤ 7293034; unfold LcS; omega⟩ hS (fun _ _ _ _ _ _ h => h.elim) (fun r9 u6 H locs hp hP hD hS => ?_)
  obtain ⟨⟨y1, hr9⟩, k1, v1, hI, hn1, hc1, hq, ho⟩ := hp
  subst hr9
  have hMi := hMi.same hq
  have hN : nul u6 ≤ 6157 := by omega
  refine W.widen (k := LcC (n + 1) u6) (n := LcS (n + 1) u6) (by show LcC n ws + (2 * (nul ws - nul u6) + 1) ≤ LcC (n + 1) u6; unfold LcC; omega) (by show LcS n ws + (257 * (nul ws - nul u6) + 6) ≤ LcS (n + 1) u6; unfold LcS; omega) ?_
  clear hn1
  refine W.eq (g2 := F0 m 274 ls [.int y1]) rfl ?_
  refine lv_istore (lv' := [(5, .int y1), (4, .int (nI (6 * n))), (3, .ref (a 41)), (2, .ref (a 34)), (1, .ref (a 0)), (0, .ref b)]) hx hb d_law_274 hl (by decide) rfl (fun ls hl => ?_)
  refine lv_aload_n hx hb d_law_276 rfl (lv_at hl 3 rfl) ?_
  refine lv_aload_n hx hb d_law_277 rfl (lv_at hl 5 rfl) ?_
  refine lv_iload hx hb d_law_278 (lv_at hl 1 rfl) ?_
  refine lv_iconst (v := 1) hx hb d_law_280 (by decide) ?_
  refine lv_iadd hx hb d_law_281 ?_
  refine lv_topi (fun y7 hy7 => ?_)
  have hy7 : y7 = nI (6 * n + 1) := hy7.trans (nI_add (6 * n) 1)
  subst hy7
  refine va_sld hx hb hX hbl hbA hS (i := nI (6 * n + 1)) (vp_in_nI (by omega) (by omega)) d_law_282 ?_
  refine W.eq (g2 := F0 m 283 ls [.int (xs (6 * n + 1)), .ref (a 34)]) (by rw [nI_clamp (n := 6 * n + 1) (by omega)]) ?_
  refine lv_aload_n hx hb d_law_283 rfl (lv_at hl 5 rfl) ?_
  refine lv_iload hx hb d_law_284 (lv_at hl 1 rfl) ?_
  refine lv_iconst (v := 2) hx hb d_law_286 (by decide) ?_
  refine lv_iadd hx hb d_law_287 ?_
  refine lv_topi (fun y8 hy8 => ?_)
  have hy8 : y8 = nI (6 * n + 2) := hy8.trans (nI_add (6 * n) 2)
  subst hy8
  refine va_sld hx hb hX hbl hbA hS (i := nI (6 * n + 2)) (vp_in_nI (by omega) (by omega)) d_law_288 ?_
  refine W.eq (g2 := F0 m 289 ls [.int (xs (6 * n + 2)), .int (xs (6 * n + 1)), .ref (a 34)]) (by rw [nI_clamp (n := 6 * n + 2) (by omega)]) ?_
  refine lv_aload_n hx hb d_law_289 rfl (lv_at hl 5 rfl) ?_
  refine lv_iload hx hb d_law_290 (lv_at hl 1 rfl) ?_
  refine lv_iconst (v := 3) hx hb d_law_292 (by decide) ?_
  refine lv_iadd hx hb d_law_293 ?_
  refine lv_topi (fun y10 hy10 => ?_)
  have hy10 : y10 = nI (6 * n + 3) := hy10.trans (nI_add (6 * n) 3)
  subst hy10
  refine va_sld hx hb hX hbl hbA hS (i := nI (6 * n + 3)) (vp_in_nI (by omega) (by omega)) d_law_294 ?_
  refine W.eq (g2 := F0 m 295 ls [.int (xs (6 * n + 3)), .int (xs (6 * n + 2)), .int (xs (6 * n + 1)), .ref (a 34)]) (by rw [nI_clamp (n := 6 * n + 3) (by omega)]) ?_
  refine lv_aload_n hx hb d_law_295 rfl (lv_at hl 5 rfl) ?_
  refine lv_iload hx hb d_law_296 (lv_at hl 1 rfl) ?_
  refine lv_iconst (v := 4) hx hb d_law_298 (by decide) ?_
  refine lv_iadd hx hb d_law_299 ?_
  refine lv_topi (fun y11 hy11 => ?_)
  have hy11 : y11 = nI (6 * n + 4) := hy11.trans (nI_add (6 * n) 4)
  subst hy11
  refine va_sld hx hb hX hbl hbA hS (i := nI (6 * n + 4)) (vp_in_nI (by omega) (by omega)) d_law_300 ?_
  refine W.eq (g2 := F0 m 301 ls [.int (xs (6 * n + 4)), .int (xs (6 * n + 3)), .int (xs (6 * n + 2)), .int (xs (6 * n + 1)), .ref (a 34)]) (by rw [nI_clamp (n := 6 * n + 4) (by omega)]) ?_
  refine lv_aload_n hx hb d_law_301 rfl (lv_at hl 5 rfl) ?_
  refine lv_iload hx hb d_law_302 (lv_at hl 1 rfl) ?_
  refine lv_iconst (v := 5) hx hb d_law_304 (by decide) ?_
  refine lv_iadd hx hb d_law_305 ?_
  refine lv_topi (fun y12 hy12 => ?_)
  have hy12 : y12 = nI (6 * n + 5) := hy12.trans (nI_add (6 * n) 5)
  subst hy12
  refine va_sld hx hb hX hbl hbA hS (i := nI (6 * n + 5)) (vp_in_nI (by omega) (by omega)) d_law_306 ?_
  refine W.eq (g2 := F0 m 307 ls [.int (xs (6 * n + 5)), .int (xs (6 * n + 4)), .int (xs (6 * n + 3)), .int (xs (6 * n + 2)), .int (xs (6 * n + 1)), .ref (a 34)]) (by rw [nI_clamp (n := 6 * n + 5) (by omega)]) ?_
  refine va_callv (va_runV (As := [.int (xs (6 * n + 1)), .int (xs (6 * n + 2)), .int (xs (6 * n + 3)), .int (xs (6 * n + 4)), .int (xs (6 * n + 5))]) (rest := []) ⟨hx, hb, hml, hown, hts⟩ (c_M_move (D := D) (t := t) (z := z) (sa := sa) (ws := u6) (pa := (xs (6 * n + 1))) (pf := (xs (6 * n + 2))) (pq := (xs (6 * n + 3))) (pt := (xs (6 * n + 4))) (pn := (xs (6 * n + 5))) hMi (by omega)) (cwV 5 hts (gd_V ml_L_94 im_M_move se_M_move in_M cd_M_move) rfl rfl rfl (by decide +kernel) ⟨Nat.le_of_ble_eq_true rfl, Nat.le_of_ble_eq_true rfl⟩) ⟨Pz_blind, va_recv hK hP (ci := 6) rfl hMi.1, Pz_at hP hK hD hz hM hS⟩ rfl rfl hl.1 rfl (lv_room (Nat.le_of_ble_eq_true rfl)) d_law_307 ⟨by show LcC (n + 1) u6 + 0 ≤ 601024; unfold LcC; omega, by show LcS (n + 1) u6 + 0 ≤ 7293034; unfold LcS; omega⟩) hS (fun q _ h => h) (fun q h => h) (fun u13 t9 H locs ht hvm hp hB hz1 hk1 hS => ?_)
  obtain ⟨hP, hK9, hD, -⟩ := hB
  rw [ht] at hP
  clear hK9
  obtain ⟨vm1, hMi, hMk⟩ := hp
  have hq2 : nul u13 = nul u6 := nul_eq (fun p hp => hMk.2 p (Or.inl (mds_lt hp)))
  have hI := hI.same hMk.1 (fun p hp => hMk.2 p (by omega))
  have ho : Ou a t u13 := by obtain ⟨fo, ho⟩ := ho; exact ⟨fo, (hMk.2 41 (Or.inr (by decide))).trans ho⟩
  have hN : nul u13 ≤ 6157 := by omega
  refine W.widen (k := LcC (n + 1) u13) (n := LcS (n + 1) u13) (by show LcC (n + 1) u6 + 0 ≤ LcC (n + 1) u13; unfold LcC; omega) (by show LcS (n + 1) u6 + 0 ≤ LcS (n + 1) u13; unfold LcS; omega) ?_
  clear hMk hq2
  refine lv_goto (tgt := 550) hx hb d_law_310 rfl ?_
  refine lv_iinc (k := 1) (v := nI (6 * (n + 1))) (lv' := [(4, .int (nI (6 * (n + 1)))), (5, .int y1), (3, .ref (a 41)), (2, .ref (a 34)), (1, .ref (a 0)), (0, .ref b)]) hx hb d_law_550 hl rfl (nI_add (6 * n) 6) (by decide) rfl (fun ls hl => ?_)
  refine lv_goto (tgt := 23) hx hb d_law_553 rfl ?_
  exact Kn u13 H locs ls hP hD hS ⟨_, _, _, hI, hc1, hMi, ho, hN⟩ (lv_sub hl [0, 2, 3, 4, 5] rfl)
set_option maxHeartbeats 4000000 in
set_option maxRecDepth 100000 in
theorem lc_5 {p : Program} {l : Launch} {e : Env} {s : State} {m : MethodId} {below : List Frame} {meth : Method} {c : Code} {b L : Nat} {xs : Nat → Int32} {D : va_G} {t : Nat → ClassId} {z : Nat} {sa : Nat → Nat} {a : Nat → Nat} {ws : va_W} {k n : Nat} {v vm : Nat → Int32} {H : Heap} {locs : List Loc} {ls : Array Slot} (hl0 : l.stackTraces = false) (hx : p.tables.exec = Jvm.exec) (hb : c.code = code) (hr : meth.sig.returnType = ret) (hml : c.maxLocals = 8) (hown : s.vm.findClass R_L = some m.cls) (hts : ∀ w ∈ WS, w.before #[Value.ref b] s = true) (hlocks : meth.locks = false) (hX : va_X b L xs s s.heap) (hbl : b < s.heap.size) (hK : va_K D Cl (Ty t) s) (hM : Am z sa s) (hz0 : z = s.heap.size) (hL : L ≤ 3072) (hn6 : 6 * n + 6 ≤ L) (hP : va_P D Cl ws H) (hD : va_D (Az z) ws) (hS : va_S (Az z) s.heap H locs) (hI : Iv a t k v ws) (hc1 : C1 v) (hMi : Mi a t (n + 1) vm ws) (ho : Ou a t ws) (hN : nul ws ≤ 6157) (hl : lv_has ls 8 [(4, .int (nI (6 * n))), (3, .ref (a 41)), (2, .ref (a 34)), (1, .ref (a 0)), (0, .ref b)]) (Kn : ∀ (w : va_W) (H : Heap) (locs : List Loc) (ls : Array Slot), va_P D Cl w H → va_D (Az z) w → va_S (Az z) s.heap H locs → LI a t (n + 1) w → lv_has ls 8 [(4, .int (nI (6 * (n + 1)))), (3, .ref (a 41)), (2, .ref (a 34)), (1, .ref (a 0)), (0, .ref b)] → W p l e room_1 s m #[Value.ref b] below meth c H locs (LcC (n + 1) w) (LcS (n + 1) w) (lw_Z below #[Value.ref b] s) (F0 m 23 ls [])) : W p l e room_1 s m #[Value.ref b] below meth c H locs (LcC n ws) (LcS n ws) (lw_Z below #[Value.ref b] s) (F0 m 313 ls []) := by
  have hz : z ≤ s.heap.size := Nat.le_of_eq hz0
  have hbA : ¬ Az z b := fun h => absurd hbl (Nat.not_lt.mpr (by rw [← hz0]; exact h))
  refine lv_aload_n hx hb d_law_313 rfl (lv_at hl 3 rfl) ?_
  refine lv_aload_n hx hb d_law_314 rfl (lv_at hl 4 rfl) ?_
  refine lv_iload hx hb d_law_315 (lv_at hl 0 rfl) ?_
  refine lv_iconst (v := 1) hx hb d_law_317 (by decide) ?_
  refine lv_iadd hx hb d_law_318 ?_
  refine lv_topi (fun y1 hy1 => ?_)
  have hy1 : y1 = nI (6 * n + 1) := hy1.trans (nI_add (6 * n) 1)
  subst hy1
  refine va_sld hx hb hX hbl hbA hS (i := nI (6 * n + 1)) (vp_in_nI (by omega) (by omega)) d_law_319 ?_
  refine W.eq (g2 := F0 m 320 ls [.int (xs (6 * n + 1)), .ref (a 0)]) (by rw [nI_clamp (n := 6 * n + 1) (by omega)]) ?_
  refine lv_aload_n hx hb d_law_320 rfl (lv_at hl 1 rfl) ?_
  refine mu_SX (n := 3) (As := [.ref (a 0), .int (xs (6 * n + 1)), .ref (a 41)]) (rest := []) ⟨hx, hb, hml, hown, hts⟩ (c_L_sum (D := D) (t := t) (z := z) (sa := sa) (ws := ws) (x9 := (xs (6 * n + 1))) hl0 hI hc1 ho) ml_L_95 st_L_sum in_L cd_L_sum (by decide +kernel) ⟨Nat.le_of_ble_eq_true rfl, Nat.le_of_ble_eq_true rfl⟩ (Pz_at hP hK hD hz hM hS) rfl hl.1 rfl (Nat.le_of_ble_eq_true rfl) d_law_321 ⟨by show LcC n ws + (2 * nul ws + 1) ≤ 601024; unfold LcC; omega, by show LcS n ws + (257 * nul ws + 6) ≤ 7293034; unfold LcS; omega⟩ hS (fun _ _ _ _ _ _ h => h.elim) (fun r9 u2 H locs hp hP hD hS => ?_)
  obtain ⟨⟨y1, hr9⟩, k1, v1, hI, hn1, hc1, hq, ho⟩ := hp
  subst hr9
  have hMi := hMi.same hq
  have hN : nul u2 ≤ 6157 := by omega
  refine W.widen (k := LcC (n + 1) u2) (n := LcS (n + 1) u2) (by show LcC n ws + (2 * (nul ws - nul u2) + 1) ≤ LcC (n + 1) u2; unfold LcC; omega) (by show LcS n ws + (257 * (nul ws - nul u2) + 6) ≤ LcS (n + 1) u2; unfold LcS; omega) ?_
  clear hn1
  refine W.eq (g2 := F0 m 324 ls [.int y1]) rfl ?_
  refine lv_istore (lv' := [(5, .int y1), (4, .int (nI (6 * n))), (3, .ref (a 41)), (2, .ref (a 34)), (1, .ref (a 0)), (0, .ref b)]) hx hb d_law_324 hl (by decide) rfl (fun ls hl => ?_)
  refine lv_aload_n hx hb d_law_326 rfl (lv_at hl 3 rfl) ?_
  refine lv_aload_n hx hb d_law_327 rfl (lv_at hl 5 rfl) ?_
  refine lv_iload hx hb d_law_328 (lv_at hl 1 rfl) ?_
  refine lv_iconst (v := 1) hx hb d_law_330 (by decide) ?_
  refine lv_iadd hx hb d_law_331 ?_
  refine lv_topi (fun y3 hy3 => ?_)
  have hy3 : y3 = nI (6 * n + 1) := hy3.trans (nI_add (6 * n) 1)
  subst hy3
  refine va_sld hx hb hX hbl hbA hS (i := nI (6 * n + 1)) (vp_in_nI (by omega) (by omega)) d_law_332 ?_
  refine W.eq (g2 := F0 m 333 ls [.int (xs (6 * n + 1)), .ref (a 34)]) (by rw [nI_clamp (n := 6 * n + 1) (by omega)]) ?_
  refine va_calll (va_runV (As := [.int (xs (6 * n + 1))]) (rest := []) ⟨hx, hb, hml, hown, hts⟩ (c_M_sum (D := D) (t := t) (z := z) (sa := sa) (ws := u2) (x9 := (xs (6 * n + 1))) hMi (by omega)) (cwV 1 hts (gd_V ml_L_98 im_M_sum se_M_sum in_M cd_M_sum) rfl rfl rfl (by decide +kernel) ⟨Nat.le_of_ble_eq_true rfl, Nat.le_of_ble_eq_true rfl⟩) ⟨Pz_blind, va_recv hK hP (ci := 6) rfl hMi.1, Pz_at hP hK hD hz hM hS⟩ rfl rfl hl.1 rfl (lv_room (Nat.le_of_ble_eq_true rfl)) d_law_333 ⟨by show LcC (n + 1) u2 + 0 ≤ 601024; unfold LcC; omega, by show LcS (n + 1) u2 + 0 ≤ 7293034; unfold LcS; omega⟩) hS (fun q _ h => h) (fun q h => h) (fun r5 u4 t9 H locs ht hvm hp hB hz1 hk1 hS => ?_)
  obtain ⟨hP, hK9, hD, -⟩ := hB
  rw [ht] at hP
  clear hK9
  obtain ⟨vm1, hMi, hMk⟩ := hp
  have hq2 : nul u4 = nul u2 := nul_eq (fun p hp => hMk.2 p (Or.inl (mds_lt hp)))
  have hI := hI.same hMk.1 (fun p hp => hMk.2 p (by omega))
  have ho : Ou a t u4 := by obtain ⟨fo, ho⟩ := ho; exact ⟨fo, (hMk.2 41 (Or.inr (by decide))).trans ho⟩
  have hN : nul u4 ≤ 6157 := by omega
  refine W.widen (k := LcC (n + 1) u4) (n := LcS (n + 1) u4) (by show LcC (n + 1) u2 + 0 ≤ LcC (n + 1) u4; unfold LcC; omega) (by show LcS (n + 1) u2 + 0 ≤ LcS (n + 1) u4; unfold LcS; omega) ?_
  clear hMk hq2
  refine lv_lstore (lv' := [(6, .long r5), (5, .int y1), (4, .int (nI (6 * n))), (3, .ref (a 41)), (2, .ref (a 34)), (1, .ref (a 0)), (0, .ref b)]) hx hb d_law_336 hl (by decide) rfl (fun ls hl => ?_)
  refine lv_goto (tgt := 550) hx hb d_law_338 rfl ?_
  refine lv_iinc (k := 2) (v := nI (6 * (n + 1))) (lv' := [(4, .int (nI (6 * (n + 1)))), (6, .long r5), (5, .int y1), (3, .ref (a 41)), (2, .ref (a 34)), (1, .ref (a 0)), (0, .ref b)]) hx hb d_law_550 hl rfl (nI_add (6 * n) 6) (by decide) rfl (fun ls hl => ?_)
  refine lv_goto (tgt := 23) hx hb d_law_553 rfl ?_
  exact Kn u4 H locs ls hP hD hS ⟨_, _, _, hI, hc1, hMi.mono (Nat.le_succ _), ho, hN⟩ (lv_sub hl [0, 3, 4, 5, 6] rfl)
set_option maxHeartbeats 4000000 in
set_option maxRecDepth 100000 in
theorem lc_6 {p : Program} {l : Launch} {e : Env} {s : State} {m : MethodId} {below : List Frame} {meth : Method} {c : Code} {b L : Nat} {xs : Nat → Int32} {D : va_G} {t : Nat → ClassId} {z : Nat} {sa : Nat → Nat} {a : Nat → Nat} {ws : va_W} {k n : Nat} {v vm : Nat → Int32} {H : Heap} {locs : List Loc} {ls : Array Slot} (hl0 : l.stackTraces = false) (hx : p.tables.exec = Jvm.exec) (hb : c.code = code) (hr : meth.sig.returnType = ret) (hml : c.maxLocals = 8) (hown : s.vm.findClass R_L = some m.cls) (hts : ∀ w ∈ WS, w.before #[Value.ref b] s = true) (hlocks : meth.locks = false) (hX : va_X b L xs s s.heap) (hbl : b < s.heap.size) (hK : va_K D Cl (Ty t) s) (hM : Am z sa s) (hz0 : z = s.heap.size) (hL : L ≤ 3072) (hn6 : 6 * n + 6 ≤ L) (hP : va_P D Cl ws H) (hD : va_D (Az z) ws) (hS : va_S (Az z) s.heap H locs) (hI : Iv a t k v ws) (hc1 : C1 v) (hMi : Mi a t (n + 1) vm ws) (ho : Ou a t ws) (hN : nul ws ≤ 6157) (hl : lv_has ls 8 [(4, .int (nI (6 * n))), (3, .ref (a 41)), (2, .ref (a 34)), (1, .ref (a 0)), (0, .ref b)]) (Kn : ∀ (w : va_W) (H : Heap) (locs : List Loc) (ls : Array Slot), va_P D Cl w H → va_D (Az z) w → va_S (Az z) s.heap H locs → LI a t (n + 1) w → lv_has ls 8 [(4, .int (nI (6 * (n + 1)))), (3, .ref (a 41)), (2, .ref (a 34)), (1, .ref (a 0)), (0, .ref b)] → W p l e room_1 s m #[Value.ref b] below meth c H locs (LcC (n + 1) w) (LcS (n + 1) w) (lw_Z below #[Value.ref b] s) (F0 m 23 ls [])) : W p l e room_1 s m #[Value.ref b] below meth c H locs (LcC n ws) (LcS n ws) (lw_Z below #[Value.ref b] s) (F0 m 341 ls []) := by
  have hz : z ≤ s.heap.size := Nat.le_of_eq hz0
  have hbA : ¬ Az z b := fun h => absurd hbl (Nat.not_lt.mpr (by rw [← hz0]; exact h))
  refine lv_aload_n hx hb d_law_341 rfl (lv_at hl 3 rfl) ?_
  refine mu_SX (n := 1) (As := [.ref (a 0)]) (rest := []) ⟨hx, hb, hml, hown, hts⟩ (c_L_begin (D := D) (t := t) (z := z) (sa := sa) (ws := ws)  hl0 hI hc1 ho) ml_L_99 st_L_begin in_L cd_L_begin (by decide +kernel) ⟨Nat.le_of_ble_eq_true rfl, Nat.le_of_ble_eq_true rfl⟩ (Pz_at hP hK hD hz hM hS) rfl hl.1 rfl (Nat.le_of_ble_eq_true rfl) d_law_342 ⟨by show LcC n ws + (2 * nul ws + 1) ≤ 601024; unfold LcC; omega, by show LcS n ws + (257 * nul ws + 6) ≤ 7293034; unfold LcS; omega⟩ hS (fun _ _ _ _ _ _ h => h.elim) (fun r9 u1 H locs hp hP hD hS => ?_)
  obtain ⟨⟨y1, hr9⟩, k1, v1, hI, hn1, hc1, hq, ho⟩ := hp
  subst hr9
  have hMi := hMi.same hq
  have hN : nul u1 ≤ 6157 := by omega
  refine W.widen (k := LcC (n + 1) u1) (n := LcS (n + 1) u1) (by show LcC n ws + (2 * (nul ws - nul u1) + 1) ≤ LcC (n + 1) u1; unfold LcC; omega) (by show LcS n ws + (257 * (nul ws - nul u1) + 6) ≤ LcS (n + 1) u1; unfold LcS; omega) ?_
  clear hn1
  refine W.eq (g2 := F0 m 345 ls [.int y1]) rfl ?_
  refine lv_istore (lv' := [(5, .int y1), (4, .int (nI (6 * n))), (3, .ref (a 41)), (2, .ref (a 34)), (1, .ref (a 0)), (0, .ref b)]) hx hb d_law_345 hl (by decide) rfl (fun ls hl => ?_)
  refine lv_aload_n hx hb d_law_347 rfl (lv_at hl 3 rfl) ?_
  refine va_callv (va_runV (As := []) (rest := []) ⟨hx, hb, hml, hown, hts⟩ (c_M_begin (D := D) (t := t) (z := z) (sa := sa) (ws := u1)  hMi ) (cwV 0 hts (gd_V ml_L_102 im_M_begin se_M_begin in_M cd_M_begin) rfl rfl rfl (by decide +kernel) ⟨Nat.le_of_ble_eq_true rfl, Nat.le_of_ble_eq_true rfl⟩) ⟨Pz_blind, va_recv hK hP (ci := 6) rfl hMi.1, Pz_at hP hK hD hz hM hS⟩ rfl rfl hl.1 rfl (lv_room (Nat.le_of_ble_eq_true rfl)) d_law_348 ⟨by show LcC (n + 1) u1 + 0 ≤ 601024; unfold LcC; omega, by show LcS (n + 1) u1 + 0 ≤ 7293034; unfold LcS; omega⟩) hS (fun q _ h => h) (fun q h => h) (fun u2 t9 H locs ht hvm hp hB hz1 hk1 hS => ?_)
  obtain ⟨hP, hK9, hD, -⟩ := hB
  rw [ht] at hP
  clear hK9
  obtain ⟨vm1, hMi, hMk⟩ := hp
  have hq2 : nul u2 = nul u1 := nul_eq (fun p hp => hMk.2 p (Or.inl (mds_lt hp)))
  have hI := hI.same hMk.1 (fun p hp => hMk.2 p (by omega))
  have ho : Ou a t u2 := by obtain ⟨fo, ho⟩ := ho; exact ⟨fo, (hMk.2 41 (Or.inr (by decide))).trans ho⟩
  have hN : nul u2 ≤ 6157 := by omega
  refine W.widen (k := LcC (n + 1) u2) (n := LcS (n + 1) u2) (by show LcC (n + 1) u1 + 0 ≤ LcC (n + 1) u2; unfold LcC; omega) (by show LcS (n + 1) u1 + 0 ≤ LcS (n + 1) u2; unfold LcS; omega) ?_
  clear hMk hq2
  refine lv_goto (tgt := 550) hx hb d_law_351 rfl ?_
  refine lv_iinc (k := 1) (v := nI (6 * (n + 1))) (lv' := [(4, .int (nI (6 * (n + 1)))), (5, .int y1), (3, .ref (a 41)), (2, .ref (a 34)), (1, .ref (a 0)), (0, .ref b)]) hx hb d_law_550 hl rfl (nI_add (6 * n) 6) (by decide) rfl (fun ls hl => ?_)
  refine lv_goto (tgt := 23) hx hb d_law_553 rfl ?_
  exact Kn u2 H locs ls hP hD hS ⟨_, _, _, hI, hc1, hMi.mono (Nat.le_succ _), ho, hN⟩ (lv_sub hl [0, 2, 3, 4, 5] rfl)
set_option maxHeartbeats 4000000 in
set_option maxRecDepth 100000 in
theorem lc_7 {p : Program} {l : Launch} {e : Env} {s : State} {m : MethodId} {below : List Frame} {meth : Method} {c : Code} {b L : Nat} {xs : Nat → Int32} {D : va_G} {t : Nat → ClassId} {z : Nat} {sa : Nat → Nat} {a : Nat → Nat} {ws : va_W} {k n : Nat} {v vm : Nat → Int32} {H : Heap} {locs : List Loc} {ls : Array Slot} (hl0 : l.stackTraces = false) (hx : p.tables.exec = Jvm.exec) (hb : c.code = code) (hr : meth.sig.returnType = ret) (hml : c.maxLocals = 8) (hown : s.vm.findClass R_L = some m.cls) (hts : ∀ w ∈ WS, w.before #[Value.ref b] s = true) (hlocks : meth.locks = false) (hX : va_X b L xs s s.heap) (hbl : b < s.heap.size) (hK : va_K D Cl (Ty t) s) (hM : Am z sa s) (hz0 : z = s.heap.size) (hL : L ≤ 3072) (hn6 : 6 * n + 6 ≤ L) (hP : va_P D Cl ws H) (hD : va_D (Az z) ws) (hS : va_S (Az z) s.heap H locs) (hI : Iv a t k v ws) (hc1 : C1 v) (hMi : Mi a t (n + 1) vm ws) (ho : Ou a t ws) (hN : nul ws ≤ 6157) (hl : lv_has ls 8 [(4, .int (nI (6 * n))), (3, .ref (a 41)), (2, .ref (a 34)), (1, .ref (a 0)), (0, .ref b)]) (Kn : ∀ (w : va_W) (H : Heap) (locs : List Loc) (ls : Array Slot), va_P D Cl w H → va_D (Az z) w → va_S (Az z) s.heap H locs → LI a t (n + 1) w → lv_has ls 8 [(4, .int (nI (6 * (n + 1)))), (3, .ref (a 41)), (2, .ref (a 34)), (1, .ref (a 0)), (0, .ref b)] → W p l e room_1 s m #[Value.ref b] below meth c H locs (LcC (n + 1) w) (LcS (n + 1) w) (lw_Z below #[Value.ref b] s) (F0 m 23 ls [])) : W p l e room_1 s m #[Value.ref b] below meth c H locs (LcC n ws) (LcS n ws) (lw_Z below #[Value.ref b] s) (F0 m 354 ls []) := by
  have hz : z ≤ s.heap.size := Nat.le_of_eq hz0
  have hbA : ¬ Az z b := fun h => absurd hbl (Nat.not_lt.mpr (by rw [← hz0]; exact h))
  refine lv_aload_n hx hb d_law_354 rfl (lv_at hl 3 rfl) ?_
  refine mu_SX (n := 1) (As := [.ref (a 0)]) (rest := []) ⟨hx, hb, hml, hown, hts⟩ (c_L_commit (D := D) (t := t) (z := z) (sa := sa) (ws := ws)  hl0 hI hc1 ho) ml_L_103 st_L_commit in_L cd_L_commit (by decide +kernel) ⟨Nat.le_of_ble_eq_true rfl, Nat.le_of_ble_eq_true rfl⟩ (Pz_at hP hK hD hz hM hS) rfl hl.1 rfl (Nat.le_of_ble_eq_true rfl) d_law_355 ⟨by show LcC n ws + (2 * nul ws + 1) ≤ 601024; unfold LcC; omega, by show LcS n ws + (257 * nul ws + 6) ≤ 7293034; unfold LcS; omega⟩ hS (fun _ _ _ _ _ _ h => h.elim) (fun r9 u1 H locs hp hP hD hS => ?_)
  obtain ⟨⟨y1, hr9⟩, k1, v1, hI, hn1, hc1, hq, ho⟩ := hp
  subst hr9
  have hMi := hMi.same hq
  have hN : nul u1 ≤ 6157 := by omega
  refine W.widen (k := LcC (n + 1) u1) (n := LcS (n + 1) u1) (by show LcC n ws + (2 * (nul ws - nul u1) + 1) ≤ LcC (n + 1) u1; unfold LcC; omega) (by show LcS n ws + (257 * (nul ws - nul u1) + 6) ≤ LcS (n + 1) u1; unfold LcS; omega) ?_
  clear hn1
  refine W.eq (g2 := F0 m 358 ls [.int y1]) rfl ?_
  refine lv_istore (lv' := [(5, .int y1), (4, .int (nI (6 * n))), (3, .ref (a 41)), (2, .ref (a 34)), (1, .ref (a 0)), (0, .ref b)]) hx hb d_law_358 hl (by decide) rfl (fun ls hl => ?_)
  refine lv_aload_n hx hb d_law_360 rfl (lv_at hl 3 rfl) ?_
  refine va_callv (va_runV (As := []) (rest := []) ⟨hx, hb, hml, hown, hts⟩ (c_M_commit (D := D) (t := t) (z := z) (sa := sa) (ws := u1)  hMi ) (cwV 0 hts (gd_V ml_L_105 im_M_commit se_M_commit in_M cd_M_commit) rfl rfl rfl (by decide +kernel) ⟨Nat.le_of_ble_eq_true rfl, Nat.le_of_ble_eq_true rfl⟩) ⟨Pz_blind, va_recv hK hP (ci := 6) rfl hMi.1, Pz_at hP hK hD hz hM hS⟩ rfl rfl hl.1 rfl (lv_room (Nat.le_of_ble_eq_true rfl)) d_law_361 ⟨by show LcC (n + 1) u1 + 0 ≤ 601024; unfold LcC; omega, by show LcS (n + 1) u1 + 0 ≤ 7293034; unfold LcS; omega⟩) hS (fun q _ h => h) (fun q h => h) (fun u2 t9 H locs ht hvm hp hB hz1 hk1 hS => ?_)
  obtain ⟨hP, hK9, hD, -⟩ := hB
  rw [ht] at hP
  clear hK9
  obtain ⟨vm1, hMi, hMk⟩ := hp
  have hq2 : nul u2 = nul u1 := nul_eq (fun p hp => hMk.2 p (Or.inl (mds_lt hp)))
  have hI := hI.same hMk.1 (fun p hp => hMk.2 p (by omega))
  have ho : Ou a t u2 := by obtain ⟨fo, ho⟩ := ho; exact ⟨fo, (hMk.2 41 (Or.inr (by decide))).trans ho⟩
  have hN : nul u2 ≤ 6157 := by omega
  refine W.widen (k := LcC (n + 1) u2) (n := LcS (n + 1) u2) (by show LcC (n + 1) u1 + 0 ≤ LcC (n + 1) u2; unfold LcC; omega) (by show LcS (n + 1) u1 + 0 ≤ LcS (n + 1) u2; unfold LcS; omega) ?_
  clear hMk hq2
  refine lv_goto (tgt := 550) hx hb d_law_364 rfl ?_
  refine lv_iinc (k := 1) (v := nI (6 * (n + 1))) (lv' := [(4, .int (nI (6 * (n + 1)))), (5, .int y1), (3, .ref (a 41)), (2, .ref (a 34)), (1, .ref (a 0)), (0, .ref b)]) hx hb d_law_550 hl rfl (nI_add (6 * n) 6) (by decide) rfl (fun ls hl => ?_)
  refine lv_goto (tgt := 23) hx hb d_law_553 rfl ?_
  exact Kn u2 H locs ls hP hD hS ⟨_, _, _, hI, hc1, hMi.mono (Nat.le_succ _), ho, hN⟩ (lv_sub hl [0, 2, 3, 4, 5] rfl)
