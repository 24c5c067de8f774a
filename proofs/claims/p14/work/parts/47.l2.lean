set_option maxHeartbeats 4000000 in
set_option maxRecDepth 100000 in
theorem lc_8 {p : Program} {l : Launch} {e : Env} {s : State} {m : MethodId} {below : List Frame} {meth : Method} {c : Code} {b L : Nat} {xs : Nat → Int32} {D : va_G} {t : Nat → ClassId} {z : Nat} {sa : Nat → Nat} {a : Nat → Nat} {ws : va_W} {k n : Nat} {v vm : Nat → Int32} {H : Heap} {locs : List Loc} {ls : Array Slot} (hl0 : l.stackTraces = false) (hx : p.tables.exec = Jvm.exec) (hb : c.code = code) (hr : meth.sig.returnType = ret) (hml : c.maxLocals = 8) (hown : s.vm.findClass R_L = some m.cls) (hts : ∀ w ∈ WS, w.before #[Value.ref b] s = true) (hlocks : meth.locks = false) (hX : va_X b L xs s s.heap) (hbl : b < s.heap.size) (hK : va_K D Cl (Ty t) s) (hM : Am z sa s) (hz0 : z = s.heap.size) (hL : L ≤ 3072) (hn6 : 6 * n + 6 ≤ L) (hP : va_P D Cl ws H) (hD : va_D (Az z) ws) (hS : va_S (Az z) s.heap H locs) (hI : Iv a t k v ws) (hc1 : C1 v) (hMi : Mi a t (n + 1) vm ws) (ho : Ou a t ws) (hN : nul ws ≤ 6157) (hl : lv_has ls 8 [(4, .int (nI (6 * n))), (3, .ref (a 41)), (2, .ref (a 34)), (1, .ref (a 0)), (0, .ref b)]) (Kn : ∀ (w : va_W) (H : Heap) (locs : List Loc) (ls : Array Slot), va_P D Cl w H → va_D (Az z) w → va_S (Az z) s.heap H locs → LI a t (n + 1) w → lv_has ls 8 [(4, .int (nI (6 * (n + 1)))), (3, .ref (a 41)), (2, .ref (a 34)), (1, .ref (a 0)), (0, .ref b)] → W p l e room_1 s m #[Value.ref b] below meth c H locs (LcC (n + 1) w) (LcS (n + 1) w) (lw_Z below #[Value.ref b] s) (F0 m 23 ls [])) : W p l e room_1 s m #[Value.ref b] below meth c H locs (LcC n ws) (LcS n ws) (lw_Z below #[Value.ref b] s) (F0 m 367 ls []) := by
  have hz : z ≤ s.heap.size := Nat.le_of_eq hz0
  have hbA : ¬ Az z b := fun h => absurd hbl (Nat.not_lt.mpr (by rw [← hz0]; exact h))
  refine lv_aload_n hx hb d_law_367 rfl (lv_at hl 3 rfl) ?_
  refine mu_SX (n := 1) (As := [.ref (a 0)]) (rest := []) ⟨hx, hb, hml, hown, hts⟩ (c_L_rollback (D := D) (t := t) (z := z) (sa := sa) (ws := ws)  hl0 hI hc1 ho) ml_L_106 st_L_rollback in_L cd_L_rollback (by decide +kernel) ⟨Nat.le_of_ble_eq_true rfl, Nat.le_of_ble_eq_true rfl⟩ (Pz_at hP hK hD hz hM hS) rfl hl.1 rfl (Nat.le_of_ble_eq_true rfl) d_law_368 ⟨by show LcC n ws + (2 * nul ws + 1) ≤ 601024; unfold LcC; omega, by show LcS n ws + (257 * nul ws + 6) ≤ 7293034; unfold LcS; omega⟩ hS (fun _ _ _ _ _ _ h => h.elim) (fun r9 u1 H locs hp hP hD hS => ?_)
  obtain ⟨⟨y1, hr9⟩, k1, v1, hI, hn1, hc1, hq, ho⟩ := hp
  subst hr9
  have hMi := hMi.same hq
  have hN : nul u1 ≤ 6157 := by omega
  refine W.widen (k := LcC (n + 1) u1) (n := LcS (n + 1) u1) (by show LcC n ws + (2 * (nul ws - nul u1) + 1) ≤ LcC (n + 1) u1; unfold LcC; omega) (by show LcS n ws + (257 * (nul ws - nul u1) + 6) ≤ LcS (n + 1) u1; unfold LcS; omega) ?_
  clear hn1
  refine W.eq (g2 := F0 m 371 ls [.int y1]) rfl ?_
  refine lv_istore (lv' := [(5, .int y1), (4, .int (nI (6 * n))), (3, .ref (a 41)), (2, .ref (a 34)), (1, .ref (a 0)), (0, .ref b)]) hx hb d_law_371 hl (by decide) rfl (fun ls hl => ?_)
  refine lv_aload_n hx hb d_law_373 rfl (lv_at hl 3 rfl) ?_
  refine va_callv (va_runV (As := []) (rest := []) ⟨hx, hb, hml, hown, hts⟩ (c_M_rollback (D := D) (t := t) (z := z) (sa := sa) (ws := u1)  hMi ) (cwV 0 hts (gd_V ml_L_108 im_M_rollback se_M_rollback in_M cd_M_rollback) rfl rfl rfl (by decide +kernel) ⟨Nat.le_of_ble_eq_true rfl, Nat.le_of_ble_eq_true rfl⟩) ⟨Pz_blind, va_recv hK hP (ci := 6) rfl hMi.1, Pz_at hP hK hD hz hM hS⟩ rfl rfl hl.1 rfl (lv_room (Nat.le_of_ble_eq_true rfl)) d_law_374 ⟨by show LcC (n + 1) u1 + 0 ≤ 601024; unfold LcC; omega, by show LcS (n + 1) u1 + 0 ≤ 7293034; unfold LcS; omega⟩) hS (fun q _ h => h) (fun q h => h) (fun u2 t9 H locs ht hvm hp hB hz1 hk1 hS => ?_)
  obtain ⟨hP, hK9, hD, -⟩ := hB
  rw [ht] at hP
  clear hK9
  obtain ⟨vm1, hMi, hMk⟩ := hp
  have hq2 : nul u2 = nul u1 := nul_eq (fun p hp => hMk.2 p (Or.inl (mds_lt hp)))
  have hI := hI.same hMk.1 (fun p hp => hMk.2 p (by omega))
  have ho : Ou a t u2 := by obtain ⟨fo, ho⟩ := ho; exact ⟨fo, (hMk.2 41 (Or.inr (by decide))).trans ho⟩
  have hN : nul u2 ≤ 6157 := by omega
  refine W.widen (k := LcC (n + 1) u2) (n := LcS (n + 1) u2) (by show LcC (n + 1) u1 + 0 ≤ LcC (n + 1) u2; unfold LcC; omega) (by show LcS (n + 1) u1 + 0 ≤ LcS (n + 1) u2; unfold LcS; omega) ?_
  clear hMk hq2
  refine lv_goto (tgt := 550) hx hb d_law_377 rfl ?_
  refine lv_iinc (k := 1) (v := nI (6 * (n + 1))) (lv' := [(4, .int (nI (6 * (n + 1)))), (5, .int y1), (3, .ref (a 41)), (2, .ref (a 34)), (1, .ref (a 0)), (0, .ref b)]) hx hb d_law_550 hl rfl (nI_add (6 * n) 6) (by decide) rfl (fun ls hl => ?_)
  refine lv_goto (tgt := 23) hx hb d_law_553 rfl ?_
  exact Kn u2 H locs ls hP hD hS ⟨_, _, _, hI, hc1, hMi.mono (Nat.le_succ _), ho, hN⟩ (lv_sub hl [0, 2, 3, 4, 5] rfl)
set_option maxHeartbeats 4000000 in
set_option maxRecDepth 100000 in
theorem lc_9 {p : Program} {l : Launch} {e : Env} {s : State} {m : MethodId} {below : List Frame} {meth : Method} {c : Code} {b L : Nat} {xs : Nat → Int32} {D : va_G} {t : Nat → ClassId} {z : Nat} {sa : Nat → Nat} {a : Nat → Nat} {ws : va_W} {k n : Nat} {v vm : Nat → Int32} {H : Heap} {locs : List Loc} {ls : Array Slot} (hl0 : l.stackTraces = false) (hx : p.tables.exec = Jvm.exec) (hb : c.code = code) (hr : meth.sig.returnType = ret) (hml : c.maxLocals = 8) (hown : s.vm.findClass R_L = some m.cls) (hts : ∀ w ∈ WS, w.before #[Value.ref b] s = true) (hlocks : meth.locks = false) (hX : va_X b L xs s s.heap) (hbl : b < s.heap.size) (hK : va_K D Cl (Ty t) s) (hM : Am z sa s) (hz0 : z = s.heap.size) (hL : L ≤ 3072) (hn6 : 6 * n + 6 ≤ L) (hP : va_P D Cl ws H) (hD : va_D (Az z) ws) (hS : va_S (Az z) s.heap H locs) (hI : Iv a t k v ws) (hc1 : C1 v) (hMi : Mi a t (n + 1) vm ws) (ho : Ou a t ws) (hN : nul ws ≤ 6157) (hl : lv_has ls 8 [(4, .int (nI (6 * n))), (3, .ref (a 41)), (2, .ref (a 34)), (1, .ref (a 0)), (0, .ref b)]) (Kn : ∀ (w : va_W) (H : Heap) (locs : List Loc) (ls : Array Slot), va_P D Cl w H → va_D (Az z) w → va_S (Az z) s.heap H locs → LI a t (n + 1) w → lv_has ls 8 [(4, .int (nI (6 * (n + 1)))), (3, .ref (a 41)), (2, .ref (a 34)), (1, .ref (a 0)), (0, .ref b)] → W p l e room_1 s m #[Value.ref b] below meth c H locs (LcC (n + 1) w) (LcS (n + 1) w) (lw_Z below #[Value.ref b] s) (F0 m 23 ls [])) : W p l e room_1 s m #[Value.ref b] below meth c H locs (LcC n ws) (LcS n ws) (lw_Z below #[Value.ref b] s) (F0 m 380 ls []) := by
  have hz : z ≤ s.heap.size := Nat.le_of_eq hz0
  have hbA : ¬ Az z b := fun h => absurd hbl (Nat.not_lt.mpr (by rw [← hz0]; exact h))
  refine lv_aload_n hx hb d_law_380 rfl (lv_at hl 3 rfl) ?_
  refine lv_aload_n hx hb d_law_381 rfl (lv_at hl 1 rfl) ?_
  refine mu_SX (n := 2) (As := [.ref (a 0), .ref (a 41)]) (rest := []) ⟨hx, hb, hml, hown, hts⟩ (c_L_mark (D := D) (t := t) (z := z) (sa := sa) (ws := ws)  hl0 hI hc1 ho) ml_L_109 st_L_mark in_L cd_L_mark (by decide +kernel) ⟨Nat.le_of_ble_eq_true rfl, Nat.le_of_ble_eq_true rfl⟩ (Pz_at hP hK hD hz hM hS) rfl hl.1 rfl (Nat.le_of_ble_eq_true rfl) d_law_382 ⟨by show LcC n ws + (2 * nul ws + 1) ≤ 601024; unfold LcC; omega, by show LcS n ws + (257 * nul ws + 6) ≤ 7293034; unfold LcS; omega⟩ hS (fun _ _ _ _ _ _ h => h.elim) (fun r9 u1 H locs hp hP hD hS => ?_)
  obtain ⟨⟨y1, hr9⟩, k1, v1, hI, hn1, hc1, hq, ho⟩ := hp
  subst hr9
  have hMi := hMi.same hq
  have hN : nul u1 ≤ 6157 := by omega
  refine W.widen (k := LcC (n + 1) u1) (n := LcS (n + 1) u1) (by show LcC n ws + (2 * (nul ws - nul u1) + 1) ≤ LcC (n + 1) u1; unfold LcC; omega) (by show LcS n ws + (257 * (nul ws - nul u1) + 6) ≤ LcS (n + 1) u1; unfold LcS; omega) ?_
  clear hn1
  refine W.eq (g2 := F0 m 385 ls [.int y1]) rfl ?_
  refine lv_istore (lv' := [(5, .int y1), (4, .int (nI (6 * n))), (3, .ref (a 41)), (2, .ref (a 34)), (1, .ref (a 0)), (0, .ref b)]) hx hb d_law_385 hl (by decide) rfl (fun ls hl => ?_)
  refine lv_aload_n hx hb d_law_387 rfl (lv_at hl 3 rfl) ?_
  refine va_calli (va_runV (As := []) (rest := []) ⟨hx, hb, hml, hown, hts⟩ (c_M_mark (D := D) (t := t) (z := z) (sa := sa) (ws := u1)  hMi ) (cwV 0 hts (gd_V ml_L_111 im_M_mark se_M_mark in_M cd_M_mark) rfl rfl rfl (by decide +kernel) ⟨Nat.le_of_ble_eq_true rfl, Nat.le_of_ble_eq_true rfl⟩) ⟨Pz_blind, va_recv hK hP (ci := 6) rfl hMi.1, Pz_at hP hK hD hz hM hS⟩ rfl rfl hl.1 rfl (lv_room (Nat.le_of_ble_eq_true rfl)) d_law_388 ⟨by show LcC (n + 1) u1 + 0 ≤ 601024; unfold LcC; omega, by show LcS (n + 1) u1 + 0 ≤ 7293034; unfold LcS; omega⟩) hS (fun q _ h => h) (fun q h => h) (fun r3 u2 t9 H locs ht hvm hp hB hz1 hk1 hS => ?_)
  obtain ⟨hP, hK9, hD, -⟩ := hB
  rw [ht] at hP
  clear hK9
  obtain ⟨vm1, hMi, hMk⟩ := hp
  have hq2 : nul u2 = nul u1 := nul_eq (fun p hp => hMk.2 p (Or.inl (mds_lt hp)))
  have hI := hI.same hMk.1 (fun p hp => hMk.2 p (by omega))
  have ho : Ou a t u2 := by obtain ⟨fo, ho⟩ := ho; exact ⟨fo, (hMk.2 41 (Or.inr (by decide))).trans ho⟩
  have hN : nul u2 ≤ 6157 := by omega
  refine W.widen (k := LcC (n + 1) u2) (n := LcS (n + 1) u2) (by show LcC (n + 1) u1 + 0 ≤ LcC (n + 1) u2; unfold LcC; omega) (by show LcS (n + 1) u1 + 0 ≤ LcS (n + 1) u2; unfold LcS; omega) ?_
  clear hMk hq2
  refine lv_istore (lv' := [(6, .int r3), (5, .int y1), (4, .int (nI (6 * n))), (3, .ref (a 41)), (2, .ref (a 34)), (1, .ref (a 0)), (0, .ref b)]) hx hb d_law_391 hl (by decide) rfl (fun ls hl => ?_)
  refine lv_goto (tgt := 550) hx hb d_law_393 rfl ?_
  refine lv_iinc (k := 2) (v := nI (6 * (n + 1))) (lv' := [(4, .int (nI (6 * (n + 1)))), (6, .int r3), (5, .int y1), (3, .ref (a 41)), (2, .ref (a 34)), (1, .ref (a 0)), (0, .ref b)]) hx hb d_law_550 hl rfl (nI_add (6 * n) 6) (by decide) rfl (fun ls hl => ?_)
  refine lv_goto (tgt := 23) hx hb d_law_553 rfl ?_
  exact Kn u2 H locs ls hP hD hS ⟨_, _, _, hI, hc1, hMi.mono (Nat.le_succ _), ho, hN⟩ (lv_sub hl [0, 3, 4, 5, 6] rfl)
set_option maxHeartbeats 4000000 in
set_option maxRecDepth 100000 in
theorem lc_10 {p : Program} {l : Launch} {e : Env} {s : State} {m : MethodId} {below : List Frame} {meth : Method} {c : Code} {b L : Nat} {xs : Nat → Int32} {D : va_G} {t : Nat → ClassId} {z : Nat} {sa : Nat → Nat} {a : Nat → Nat} {ws : va_W} {k n : Nat} {v vm : Nat → Int32} {H : Heap} {locs : List Loc} {ls : Array Slot} (hl0 : l.stackTraces = false) (hx : p.tables.exec = Jvm.exec) (hb : c.code = code) (hr : meth.sig.returnType = ret) (hml : c.maxLocals = 8) (hown : s.vm.findClass R_L = some m.cls) (hts : ∀ w ∈ WS, w.before #[Value.ref b] s = true) (hlocks : meth.locks = false) (hX : va_X b L xs s s.heap) (hbl : b < s.heap.size) (hK : va_K D Cl (Ty t) s) (hM : Am z sa s) (hz0 : z = s.heap.size) (hL : L ≤ 3072) (hn6 : 6 * n + 6 ≤ L) (hP : va_P D Cl ws H) (hD : va_D (Az z) ws) (hS : va_S (Az z) s.heap H locs) (hI : Iv a t k v ws) (hc1 : C1 v) (hMi : Mi a t (n + 1) vm ws) (ho : Ou a t ws) (hN : nul ws ≤ 6157) (hl : lv_has ls 8 [(4, .int (nI (6 * n))), (3, .ref (a 41)), (2, .ref (a 34)), (1, .ref (a 0)), (0, .ref b)]) (Kn : ∀ (w : va_W) (H : Heap) (locs : List Loc) (ls : Array Slot), va_P D Cl w H → va_D (Az z) w → va_S (Az z) s.heap H locs → LI a t (n + 1) w → lv_has ls 8 [(4, .int (nI (6 * (n + 1)))), (3, .ref (a 41)), (2, .ref (a 34)), (1, .ref (a 0)), (0, .ref b)] → W p l e room_1 s m #[Value.ref b] below meth c H locs (LcC (n + 1) w) (LcS (n + 1) w) (lw_Z below #[Value.ref b] s) (F0 m 23 ls [])) : W p l e room_1 s m #[Value.ref b] below meth c H locs (LcC n ws) (LcS n ws) (lw_Z below #[Value.ref b] s) (F0 m 396 ls []) := by
  have hz : z ≤ s.heap.size := Nat.le_of_eq hz0
  have hbA : ¬ Az z b := fun h => absurd hbl (Nat.not_lt.mpr (by rw [← hz0]; exact h))
  refine lv_aload_n hx hb d_law_396 rfl (lv_at hl 3 rfl) ?_
  refine lv_aload_n hx hb d_law_397 rfl (lv_at hl 4 rfl) ?_
  refine lv_iload hx hb d_law_398 (lv_at hl 0 rfl) ?_
  refine lv_iconst (v := 1) hx hb d_law_400 (by decide) ?_
  refine lv_iadd hx hb d_law_401 ?_
  refine lv_topi (fun y1 hy1 => ?_)
  have hy1 : y1 = nI (6 * n + 1) := hy1.trans (nI_add (6 * n) 1)
  subst hy1
  refine va_sld hx hb hX hbl hbA hS (i := nI (6 * n + 1)) (vp_in_nI (by omega) (by omega)) d_law_402 ?_
  refine W.eq (g2 := F0 m 403 ls [.int (xs (6 * n + 1)), .ref (a 0)]) (by rw [nI_clamp (n := 6 * n + 1) (by omega)]) ?_
  refine mu_SX (n := 2) (As := [.ref (a 0), .int (xs (6 * n + 1))]) (rest := []) ⟨hx, hb, hml, hown, hts⟩ (c_L_back (D := D) (t := t) (z := z) (sa := sa) (ws := ws) (x9 := (xs (6 * n + 1))) hl0 hI hc1 ho) ml_L_112 st_L_back in_L cd_L_back (by decide +kernel) ⟨Nat.le_of_ble_eq_true rfl, Nat.le_of_ble_eq_true rfl⟩ (Pz_at hP hK hD hz hM hS) rfl hl.1 rfl (Nat.le_of_ble_eq_true rfl) d_law_403 ⟨by show LcC n ws + (2 * nul ws + 1) ≤ 601024; unfold LcC; omega, by show LcS n ws + (257 * nul ws + 6) ≤ 7293034; unfold LcS; omega⟩ hS (fun _ _ _ _ _ _ h => h.elim) (fun r9 u2 H locs hp hP hD hS => ?_)
  obtain ⟨⟨y1, hr9⟩, k1, v1, hI, hn1, hc1, hq, ho⟩ := hp
  subst hr9
  have hMi := hMi.same hq
  have hN : nul u2 ≤ 6157 := by omega
  refine W.widen (k := LcC (n + 1) u2) (n := LcS (n + 1) u2) (by show LcC n ws + (2 * (nul ws - nul u2) + 1) ≤ LcC (n + 1) u2; unfold LcC; omega) (by show LcS n ws + (257 * (nul ws - nul u2) + 6) ≤ LcS (n + 1) u2; unfold LcS; omega) ?_
  clear hn1
  refine W.eq (g2 := F0 m 406 ls [.int y1]) rfl ?_
  refine lv_istore (lv' := [(5, .int y1), (4, .int (nI (6 * n))), (3, .ref (a 41)), (2, .ref (a 34)), (1, .ref (a 0)), (0, .ref b)]) hx hb d_law_406 hl (by decide) rfl (fun ls hl => ?_)
  refine lv_aload_n hx hb d_law_408 rfl (lv_at hl 3 rfl) ?_
  refine lv_aload_n hx hb d_law_409 rfl (lv_at hl 5 rfl) ?_
  refine lv_iload hx hb d_law_410 (lv_at hl 1 rfl) ?_
  refine lv_iconst (v := 1) hx hb d_law_412 (by decide) ?_
  refine lv_iadd hx hb d_law_413 ?_
  refine lv_topi (fun y3 hy3 => ?_)
  have hy3 : y3 = nI (6 * n + 1) := hy3.trans (nI_add (6 * n) 1)
  subst hy3
  refine va_sld hx hb hX hbl hbA hS (i := nI (6 * n + 1)) (vp_in_nI (by omega) (by omega)) d_law_414 ?_
  refine W.eq (g2 := F0 m 415 ls [.int (xs (6 * n + 1)), .ref (a 34)]) (by rw [nI_clamp (n := 6 * n + 1) (by omega)]) ?_
  refine va_callv (va_runV (As := [.int (xs (6 * n + 1))]) (rest := []) ⟨hx, hb, hml, hown, hts⟩ (c_M_back (D := D) (t := t) (z := z) (sa := sa) (ws := u2) (x9 := (xs (6 * n + 1))) hMi ) (cwV 1 hts (gd_V ml_L_115 im_M_back se_M_back in_M cd_M_back) rfl rfl rfl (by decide +kernel) ⟨Nat.le_of_ble_eq_true rfl, Nat.le_of_ble_eq_true rfl⟩) ⟨Pz_blind, va_recv hK hP (ci := 6) rfl hMi.1, Pz_at hP hK hD hz hM hS⟩ rfl rfl hl.1 rfl (lv_room (Nat.le_of_ble_eq_true rfl)) d_law_415 ⟨by show LcC (n + 1) u2 + 0 ≤ 601024; unfold LcC; omega, by show LcS (n + 1) u2 + 0 ≤ 7293034; unfold LcS; omega⟩) hS (fun q _ h => h) (fun q h => h) (fun u4 t9 H locs ht hvm hp hB hz1 hk1 hS => ?_)
  obtain ⟨hP, hK9, hD, -⟩ := hB
  rw [ht] at hP
  clear hK9
  obtain ⟨vm1, hMi, hMk⟩ := hp
  have hq2 : nul u4 = nul u2 := nul_eq (fun p hp => hMk.2 p (Or.inl (mds_lt hp)))
  have hI := hI.same hMk.1 (fun p hp => hMk.2 p (by omega))
  have ho : Ou a t u4 := by obtain ⟨fo, ho⟩ := ho; exact ⟨fo, (hMk.2 41 (Or.inr (by decide))).trans ho⟩
  have hN : nul u4 ≤ 6157 := by omega
  refine W.widen (k := LcC (n + 1) u4) (n := LcS (n + 1) u4) (by show LcC (n + 1) u2 + 0 ≤ LcC (n + 1) u4; unfold LcC; omega) (by show LcS (n + 1) u2 + 0 ≤ LcS (n + 1) u4; unfold LcS; omega) ?_
  clear hMk hq2
  refine lv_goto (tgt := 550) hx hb d_law_418 rfl ?_
  refine lv_iinc (k := 1) (v := nI (6 * (n + 1))) (lv' := [(4, .int (nI (6 * (n + 1)))), (5, .int y1), (3, .ref (a 41)), (2, .ref (a 34)), (1, .ref (a 0)), (0, .ref b)]) hx hb d_law_550 hl rfl (nI_add (6 * n) 6) (by decide) rfl (fun ls hl => ?_)
  refine lv_goto (tgt := 23) hx hb d_law_553 rfl ?_
  exact Kn u4 H locs ls hP hD hS ⟨_, _, _, hI, hc1, hMi.mono (Nat.le_succ _), ho, hN⟩ (lv_sub hl [0, 2, 3, 4, 5] rfl)
set_option maxHeartbeats 4000000 in
set_option maxRecDepth 100000 in
theorem lc_11 {p : Program} {l : Launch} {e : Env} {s : State} {m : MethodId} {below : List Frame} {meth : Method} {c : Code} {b L : Nat} {xs : Nat → Int32} {D : va_G} {t : Nat → ClassId} {z : Nat} {sa : Nat → Nat} {a : Nat → Nat} {ws : va_W} {k n : Nat} {v vm : Nat → Int32} {H : Heap} {locs : List Loc} {ls : Array Slot} (hl0 : l.stackTraces = false) (hx : p.tables.exec = Jvm.exec) (hb : c.code = code) (hr : meth.sig.returnType = ret) (hml : c.maxLocals = 8) (hown : s.vm.findClass R_L = some m.cls) (hts : ∀ w ∈ WS, w.before #[Value.ref b] s = true) (hlocks : meth.locks = false) (hX : va_X b L xs s s.heap) (hbl : b < s.heap.size) (hK : va_K D Cl (Ty t) s) (hM : Am z sa s) (hz0 : z = s.heap.size) (hL : L ≤ 3072) (hn6 : 6 * n + 6 ≤ L) (hP : va_P D Cl ws H) (hD : va_D (Az z) ws) (hS : va_S (Az z) s.heap H locs) (hI : Iv a t k v ws) (hc1 : C1 v) (hMi : Mi a t (n + 1) vm ws) (ho : Ou a t ws) (hN : nul ws ≤ 6157) (hl : lv_has ls 8 [(4, .int (nI (6 * n))), (3, .ref (a 41)), (2, .ref (a 34)), (1, .ref (a 0)), (0, .ref b)]) (Kn : ∀ (w : va_W) (H : Heap) (locs : List Loc) (ls : Array Slot), va_P D Cl w H → va_D (Az z) w → va_S (Az z) s.heap H locs → LI a t (n + 1) w → lv_has ls 8 [(4, .int (nI (6 * (n + 1)))), (3, .ref (a 41)), (2, .ref (a 34)), (1, .ref (a 0)), (0, .ref b)] → W p l e room_1 s m #[Value.ref b] below meth c H locs (LcC (n + 1) w) (LcS (n + 1) w) (lw_Z below #[Value.ref b] s) (F0 m 23 ls [])) : W p l e room_1 s m #[Value.ref b] below meth c H locs (LcC n ws) (LcS n ws) (lw_Z below #[Value.ref b] s) (F0 m 421 ls []) := by
  have hz : z ≤ s.heap.size := Nat.le_of_eq hz0
  have hbA : ¬ Az z b := fun h => absurd hbl (Nat.not_lt.mpr (by rw [← hz0]; exact h))
  refine lv_aload_n hx hb d_law_421 rfl (lv_at hl 3 rfl) ?_
  refine lv_aload_n hx hb d_law_422 rfl (lv_at hl 4 rfl) ?_
  refine lv_iload hx hb d_law_423 (lv_at hl 0 rfl) ?_
  refine lv_iconst (v := 1) hx hb d_law_425 (by decide) ?_
  refine lv_iadd hx hb d_law_426 ?_
  refine lv_topi (fun y1 hy1 => ?_)
  have hy1 : y1 = nI (6 * n + 1) := hy1.trans (nI_add (6 * n) 1)
  subst hy1
  refine va_sld hx hb hX hbl hbA hS (i := nI (6 * n + 1)) (vp_in_nI (by omega) (by omega)) d_law_427 ?_
  refine W.eq (g2 := F0 m 428 ls [.int (xs (6 * n + 1)), .ref (a 0)]) (by rw [nI_clamp (n := 6 * n + 1) (by omega)]) ?_
  refine mu_SX (n := 2) (As := [.ref (a 0), .int (xs (6 * n + 1))]) (rest := []) ⟨hx, hb, hml, hown, hts⟩ (c_L_keep (D := D) (t := t) (z := z) (sa := sa) (ws := ws) (x9 := (xs (6 * n + 1))) hl0 hI hc1 ho) ml_L_116 st_L_keep in_L cd_L_keep (by decide +kernel) ⟨Nat.le_of_ble_eq_true rfl, Nat.le_of_ble_eq_true rfl⟩ (Pz_at hP hK hD hz hM hS) rfl hl.1 rfl (Nat.le_of_ble_eq_true rfl) d_law_428 ⟨by show LcC n ws + (2 * nul ws + 1) ≤ 601024; unfold LcC; omega, by show LcS n ws + (257 * nul ws + 6) ≤ 7293034; unfold LcS; omega⟩ hS (fun _ _ _ _ _ _ h => h.elim) (fun r9 u2 H locs hp hP hD hS => ?_)
  obtain ⟨⟨y1, hr9⟩, k1, v1, hI, hn1, hc1, hq, ho⟩ := hp
  subst hr9
  have hMi := hMi.same hq
  have hN : nul u2 ≤ 6157 := by omega
  refine W.widen (k := LcC (n + 1) u2) (n := LcS (n + 1) u2) (by show LcC n ws + (2 * (nul ws - nul u2) + 1) ≤ LcC (n + 1) u2; unfold LcC; omega) (by show LcS n ws + (257 * (nul ws - nul u2) + 6) ≤ LcS (n + 1) u2; unfold LcS; omega) ?_
  clear hn1
  refine W.eq (g2 := F0 m 431 ls [.int y1]) rfl ?_
  refine lv_istore (lv' := [(5, .int y1), (4, .int (nI (6 * n))), (3, .ref (a 41)), (2, .ref (a 34)), (1, .ref (a 0)), (0, .ref b)]) hx hb d_law_431 hl (by decide) rfl (fun ls hl => ?_)
  refine lv_aload_n hx hb d_law_433 rfl (lv_at hl 3 rfl) ?_
  refine lv_aload_n hx hb d_law_434 rfl (lv_at hl 5 rfl) ?_
  refine lv_iload hx hb d_law_435 (lv_at hl 1 rfl) ?_
  refine lv_iconst (v := 1) hx hb d_law_437 (by decide) ?_
  refine lv_iadd hx hb d_law_438 ?_
  refine lv_topi (fun y3 hy3 => ?_)
  have hy3 : y3 = nI (6 * n + 1) := hy3.trans (nI_add (6 * n) 1)
  subst hy3
  refine va_sld hx hb hX hbl hbA hS (i := nI (6 * n + 1)) (vp_in_nI (by omega) (by omega)) d_law_439 ?_
  refine W.eq (g2 := F0 m 440 ls [.int (xs (6 * n + 1)), .ref (a 34)]) (by rw [nI_clamp (n := 6 * n + 1) (by omega)]) ?_
  refine va_callv (va_runV (As := [.int (xs (6 * n + 1))]) (rest := []) ⟨hx, hb, hml, hown, hts⟩ (c_M_keep (D := D) (t := t) (z := z) (sa := sa) (ws := u2) (x9 := (xs (6 * n + 1))) hMi ) (cwV 1 hts (gd_V ml_L_118 im_M_keep se_M_keep in_M cd_M_keep) rfl rfl rfl (by decide +kernel) ⟨Nat.le_of_ble_eq_true rfl, Nat.le_of_ble_eq_true rfl⟩) ⟨Pz_blind, va_recv hK hP (ci := 6) rfl hMi.1, Pz_at hP hK hD hz hM hS⟩ rfl rfl hl.1 rfl (lv_room (Nat.le_of_ble_eq_true rfl)) d_law_440 ⟨by show LcC (n + 1) u2 + 0 ≤ 601024; unfold LcC; omega, by show LcS (n + 1) u2 + 0 ≤ 7293034; unfold LcS; omega⟩) hS (fun q _ h => h) (fun q h => h) (fun u4 t9 H locs ht hvm hp hB hz1 hk1 hS => ?_)
  obtain ⟨hP, hK9, hD, -⟩ := hB
  rw [ht] at hP
  clear hK9
  obtain ⟨vm1, hMi, hMk⟩ := hp
  have hq2 : nul u4 = nul u2 := nul_eq (fun p hp => hMk.2 p (Or.inl (mds_lt hp)))
  have hI := hI.same hMk.1 (fun p hp => hMk.2 p (by omega))
  have ho : Ou a t u4 := by obtain ⟨fo, ho⟩ := ho; exact ⟨fo, (hMk.2 41 (Or.inr (by decide))).trans ho⟩
  have hN : nul u4 ≤ 6157 := by omega
  refine W.widen (k := LcC (n + 1) u4) (n := LcS (n + 1) u4) (by show LcC (n + 1) u2 + 0 ≤ LcC (n + 1) u4; unfold LcC; omega) (by show LcS (n + 1) u2 + 0 ≤ LcS (n + 1) u4; unfold LcS; omega) ?_
  clear hMk hq2
  refine lv_goto (tgt := 550) hx hb d_law_443 rfl ?_
  refine lv_iinc (k := 1) (v := nI (6 * (n + 1))) (lv' := [(4, .int (nI (6 * (n + 1)))), (5, .int y1), (3, .ref (a 41)), (2, .ref (a 34)), (1, .ref (a 0)), (0, .ref b)]) hx hb d_law_550 hl rfl (nI_add (6 * n) 6) (by decide) rfl (fun ls hl => ?_)
  refine lv_goto (tgt := 23) hx hb d_law_553 rfl ?_
  exact Kn u4 H locs ls hP hD hS ⟨_, _, _, hI, hc1, hMi.mono (Nat.le_succ _), ho, hN⟩ (lv_sub hl [0, 2, 3, 4, 5] rfl)
set_option maxHeartbeats 4000000 in
set_option maxRecDepth 100000 in
theorem lc_12 {p : Program} {l : Launch} {e : Env} {s : State} {m : MethodId} {below : List Frame} {meth : Method} {c : Code} {b L : Nat} {xs : Nat → Int32} {D : va_G} {t : Nat → ClassId} {z : Nat} {sa : Nat → Nat} {a : Nat → Nat} {ws : va_W} {k n : Nat} {v vm : Nat → Int32} {H : Heap} {locs : List Loc} {ls : Array Slot} (hl0 : l.stackTraces = false) (hx : p.tables.exec = Jvm.exec) (hb : c.code = code) (hr : meth.sig.returnType = ret) (hml : c.maxLocals = 8) (hown : s.vm.findClass R_L = some m.cls) (hts : ∀ w ∈ WS, w.before #[Value.ref b] s = true) (hlocks : meth.locks = false) (hX : va_X b L xs s s.heap) (hbl : b < s.heap.size) (hK : va_K D Cl (Ty t) s) (hM : Am z sa s) (hz0 : z = s.heap.size) (hL : L ≤ 3072) (hn6 : 6 * n + 6 ≤ L) (hP : va_P D Cl ws H) (hD : va_D (Az z) ws) (hS : va_S (Az z) s.heap H locs) (hI : Iv a t k v ws) (hc1 : C1 v) (hMi : Mi a t (n + 1) vm ws) (ho : Ou a t ws) (hN : nul ws ≤ 6157) (hl : lv_has ls 8 [(4, .int (nI (6 * n))), (3, .ref (a 41)), (2, .ref (a 34)), (1, .ref (a 0)), (0, .ref b)]) (Kn : ∀ (w : va_W) (H : Heap) (locs : List Loc) (ls : Array Slot), va_P D Cl w H → va_D (Az z) w → va_S (Az z) s.heap H locs → LI a t (n + 1) w → lv_has ls 8 [(4, .int (nI (6 * (n + 1)))), (3, .ref (a 41)), (2, .ref (a 34)), (1, .ref (a 0)), (0, .ref b)] → W p l e room_1 s m #[Value.ref b] below meth c H locs (LcC (n + 1) w) (LcS (n + 1) w) (lw_Z below #[Value.ref b] s) (F0 m 23 ls [])) : W p l e room_1 s m #[Value.ref b] below meth c H locs (LcC n ws) (LcS n ws) (lw_Z below #[Value.ref b] s) (F0 m 446 ls []) := by
  have hz : z ≤ s.heap.size := Nat.le_of_eq hz0
  have hbA : ¬ Az z b := fun h => absurd hbl (Nat.not_lt.mpr (by rw [← hz0]; exact h))
  refine lv_aload_n hx hb d_law_446 rfl (lv_at hl 3 rfl) ?_
  refine lv_aload_n hx hb d_law_447 rfl (lv_at hl 4 rfl) ?_
  refine lv_iload hx hb d_law_448 (lv_at hl 0 rfl) ?_
  refine lv_iconst (v := 1) hx hb d_law_450 (by decide) ?_
  refine lv_iadd hx hb d_law_451 ?_
  refine lv_topi (fun y1 hy1 => ?_)
  have hy1 : y1 = nI (6 * n + 1) := hy1.trans (nI_add (6 * n) 1)
  subst hy1
  refine va_sld hx hb hX hbl hbA hS (i := nI (6 * n + 1)) (vp_in_nI (by omega) (by omega)) d_law_452 ?_
  refine W.eq (g2 := F0 m 453 ls [.int (xs (6 * n + 1)), .ref (a 0)]) (by rw [nI_clamp (n := 6 * n + 1) (by omega)]) ?_
  refine lv_aload_n hx hb d_law_453 rfl (lv_at hl 4 rfl) ?_
  refine lv_iload hx hb d_law_454 (lv_at hl 0 rfl) ?_
  refine lv_iconst (v := 2) hx hb d_law_456 (by decide) ?_
  refine lv_iadd hx hb d_law_457 ?_
  refine lv_topi (fun y2 hy2 => ?_)
  have hy2 : y2 = nI (6 * n + 2) := hy2.trans (nI_add (6 * n) 2)
  subst hy2
  refine va_sld hx hb hX hbl hbA hS (i := nI (6 * n + 2)) (vp_in_nI (by omega) (by omega)) d_law_458 ?_
  refine W.eq (g2 := F0 m 459 ls [.int (xs (6 * n + 2)), .int (xs (6 * n + 1)), .ref (a 0)]) (by rw [nI_clamp (n := 6 * n + 2) (by omega)]) ?_
  refine lv_aload_n hx hb d_law_459 rfl (lv_at hl 4 rfl) ?_
  refine lv_iload hx hb d_law_460 (lv_at hl 0 rfl) ?_
  refine lv_iconst (v := 3) hx hb d_law_462 (by decide) ?_
  refine lv_iadd hx hb d_law_463 ?_
  refine lv_topi (fun y3 hy3 => ?_)
  have hy3 : y3 = nI (6 * n + 3) := hy3.trans (nI_add (6 * n) 3)
  subst hy3
  refine va_sld hx hb hX hbl hbA hS (i := nI (6 * n + 3)) (vp_in_nI (by omega) (by omega)) d_law_464 ?_
  refine W.eq (g2 := F0 m 465 ls [.int (xs (6 * n + 3)), .int (xs (6 * n + 2)), .int (xs (6 * n + 1)), .ref (a 0)]) (by rw [nI_clamp (n := 6 * n + 3) (by omega)]) ?_
  refine mu_SX (n := 4) (As := [.ref (a 0), .int (xs (6 * n + 1)), .int (xs (6 * n + 2)), .int (xs (6 * n + 3))]) (rest := []) ⟨hx, hb, hml, hown, hts⟩ (c_L_power (D := D) (t := t) (z := z) (sa := sa) (ws := ws) (x9 := (xs (6 * n + 1))) (y9 := (xs (6 * n + 2))) (w9 := (xs (6 * n + 3))) hl0 hI hc1 ho) ml_L_119 st_L_power in_L cd_L_power (by decide +kernel) ⟨Nat.le_of_ble_eq_true rfl, Nat.le_of_ble_eq_true rfl⟩ (Pz_at hP hK hD hz hM hS) rfl hl.1 rfl (Nat.le_of_ble_eq_true rfl) d_law_465 ⟨by show LcC n ws + (2 * nul ws + 1) ≤ 601024; unfold LcC; omega, by show LcS n ws + (257 * nul ws + 6) ≤ 7293034; unfold LcS; omega⟩ hS (fun _ _ _ _ _ _ h => h.elim) (fun r9 u4 H locs hp hP hD hS => ?_)
  obtain ⟨hpw, k1, v1, hI, hn1, hc1, hq, ho⟩ := hp
  obtain ⟨y1, hr9, hpv⟩ : ∃ y, r9 = some (.int y) ∧ ((y = 0 ∧ (¬ (xs (6 * n + 1)) < 0 ∧ (xs (6 * n + 1)) ≤ 4 ∧ ¬ (xs (6 * n + 2)) < 0 ∧ (xs (6 * n + 2)) ≤ 1000 ∧ ¬ (xs (6 * n + 3)) < 0 ∧ (xs (6 * n + 3)) ≤ 300)) ∨ (y = 1 ∧ ¬ (¬ (xs (6 * n + 1)) < 0 ∧ (xs (6 * n + 1)) ≤ 4 ∧ ¬ (xs (6 * n + 2)) < 0 ∧ (xs (6 * n + 2)) ≤ 1000 ∧ ¬ (xs (6 * n + 3)) < 0 ∧ (xs (6 * n + 3)) ≤ 300))) := by
    rcases hpw with ⟨h1, h2⟩ | ⟨h1, h2⟩
    · exact ⟨0, h1, Or.inl ⟨rfl, h2⟩⟩
    · exact ⟨1, h1, Or.inr ⟨rfl, h2⟩⟩
  subst hr9
  have hMi := hMi.same hq
  have hN : nul u4 ≤ 6157 := by omega
  refine W.widen (k := LcC (n + 1) u4) (n := LcS (n + 1) u4) (by show LcC n ws + (2 * (nul ws - nul u4) + 1) ≤ LcC (n + 1) u4; unfold LcC; omega) (by show LcS n ws + (257 * (nul ws - nul u4) + 6) ≤ LcS (n + 1) u4; unfold LcS; omega) ?_
  clear hn1
  refine W.eq (g2 := F0 m 468 ls [.int y1]) rfl ?_
  refine lv_istore (lv' := [(5, .int y1), (4, .int (nI (6 * n))), (3, .ref (a 41)), (2, .ref (a 34)), (1, .ref (a 0)), (0, .ref b)]) hx hb d_law_468 hl (by decide) rfl (fun ls hl => ?_)
  refine lv_aload_n hx hb d_law_470 rfl (lv_at hl 3 rfl) ?_
  refine lv_aload_n hx hb d_law_471 rfl (lv_at hl 5 rfl) ?_
  refine lv_iload hx hb d_law_472 (lv_at hl 1 rfl) ?_
  refine lv_iconst (v := 1) hx hb d_law_474 (by decide) ?_
  refine lv_iadd hx hb d_law_475 ?_
  refine lv_topi (fun y5 hy5 => ?_)
  have hy5 : y5 = nI (6 * n + 1) := hy5.trans (nI_add (6 * n) 1)
  subst hy5
  refine va_sld hx hb hX hbl hbA hS (i := nI (6 * n + 1)) (vp_in_nI (by omega) (by omega)) d_law_476 ?_
  refine W.eq (g2 := F0 m 477 ls [.int (xs (6 * n + 1)), .ref (a 34)]) (by rw [nI_clamp (n := 6 * n + 1) (by omega)]) ?_
  refine lv_aload_n hx hb d_law_477 rfl (lv_at hl 5 rfl) ?_
  refine lv_iload hx hb d_law_478 (lv_at hl 1 rfl) ?_
  refine lv_iconst (v := 2) hx hb d_law_480 (by decide) ?_
  refine lv_iadd hx hb d_law_481 ?_
  refine lv_topi (fun y6 hy6 => ?_)
  have hy6 : y6 = nI (6 * n + 2) := hy6.trans (nI_add (6 * n) 2)
  subst hy6
  refine va_sld hx hb hX hbl hbA hS (i := nI (6 * n + 2)) (vp_in_nI (by omega) (by omega)) d_law_482 ?_
  refine W.eq (g2 := F0 m 483 ls [.int (xs (6 * n + 2)), .int (xs (6 * n + 1)), .ref (a 34)]) (by rw [nI_clamp (n := 6 * n + 2) (by omega)]) ?_
  refine lv_aload_n hx hb d_law_483 rfl (lv_at hl 5 rfl) ?_
  refine lv_iload hx hb d_law_484 (lv_at hl 1 rfl) ?_
  refine lv_iconst (v := 3) hx hb d_law_486 (by decide) ?_
  refine lv_iadd hx hb d_law_487 ?_
  refine lv_topi (fun y7 hy7 => ?_)
  have hy7 : y7 = nI (6 * n + 3) := hy7.trans (nI_add (6 * n) 3)
  subst hy7
  refine va_sld hx hb hX hbl hbA hS (i := nI (6 * n + 3)) (vp_in_nI (by omega) (by omega)) d_law_488 ?_
  refine W.eq (g2 := F0 m 489 ls [.int (xs (6 * n + 3)), .int (xs (6 * n + 2)), .int (xs (6 * n + 1)), .ref (a 34)]) (by rw [nI_clamp (n := 6 * n + 3) (by omega)]) ?_
  refine va_callv (va_runV (As := [.int (xs (6 * n + 1)), .int (xs (6 * n + 2)), .int (xs (6 * n + 3))]) (rest := []) ⟨hx, hb, hml, hown, hts⟩ (c_M_power (D := D) (t := t) (z := z) (sa := sa) (ws := u4) (x9 := (xs (6 * n + 1))) (y9 := (xs (6 * n + 2))) (w9 := (xs (6 * n + 3))) hMi ) (cwV 3 hts (gd_V ml_L_122 im_M_power se_M_power in_M cd_M_power) rfl rfl rfl (by decide +kernel) ⟨Nat.le_of_ble_eq_true rfl, Nat.le_of_ble_eq_true rfl⟩) ⟨Pz_blind, va_recv hK hP (ci := 6) rfl hMi.1, Pz_at hP hK hD hz hM hS⟩ rfl rfl hl.1 rfl (lv_room (Nat.le_of_ble_eq_true rfl)) d_law_489 ⟨by show LcC (n + 1) u4 + 0 ≤ 601024; unfold LcC; omega, by show LcS (n + 1) u4 + 0 ≤ 7293034; unfold LcS; omega⟩) hS (fun q _ h => h) (fun q h => h) (fun u8 t9 H locs ht hvm hp hB hz1 hk1 hS => ?_)
  obtain ⟨hP, hK9, hD, -⟩ := hB
  rw [ht] at hP
  clear hK9
  obtain ⟨vm1, hMi, hMk, hpm⟩ := hp
  have hq2 : nul u8 = nul u4 := nul_eq (fun p hp => hMk.2 p (Or.inl (mds_lt hp)))
  have hI := hI.same hMk.1 (fun p hp => hMk.2 p (by omega))
  have ho : Ou a t u8 := by obtain ⟨fo, ho⟩ := ho; exact ⟨fo, (hMk.2 41 (Or.inr (by decide))).trans ho⟩
  have hN : nul u8 ≤ 6157 := by omega
  refine W.widen (k := LcC (n + 1) u8) (n := LcS (n + 1) u8) (by show LcC (n + 1) u4 + 0 ≤ LcC (n + 1) u8; unfold LcC; omega) (by show LcS (n + 1) u4 + 0 ≤ LcS (n + 1) u8; unfold LcS; omega) ?_
  clear hMk hq2
  refine lv_aload_n hx hb d_law_492 rfl (lv_at hl 3 rfl) ?_
  refine va_calli (va_runV (As := []) (rest := []) ⟨hx, hb, hml, hown, hts⟩ (c_M_thrown (D := D) (t := t) (z := z) (sa := sa) (ws := u8)  hMi ) (cwV 0 hts (gd_V ml_L_123 im_M_thrown se_M_thrown in_M cd_M_thrown) rfl rfl rfl (by decide +kernel) ⟨Nat.le_of_ble_eq_true rfl, Nat.le_of_ble_eq_true rfl⟩) ⟨Pz_blind, va_recv hK hP (ci := 6) rfl hMi.1, Pz_at hP hK hD hz hM hS⟩ rfl rfl hl.1 rfl (lv_room (Nat.le_of_ble_eq_true rfl)) d_law_493 ⟨by show LcC (n + 1) u8 + 0 ≤ 601024; unfold LcC; omega, by show LcS (n + 1) u8 + 0 ≤ 7293034; unfold LcS; omega⟩) hS (fun q _ h => h) (fun q h => h) (fun r12 u11 t9 H locs ht hvm hp hB hz1 hk1 hS => ?_)
  obtain ⟨hP, hK9, hD, -⟩ := hB
  rw [ht] at hP
  clear hK9
  obtain ⟨hr9, hw9⟩ := hp
  rw [hw9] at hP hD
  have h10 : vm1 10 = y1 := by
    rcases hpv with ⟨h1, h2⟩ | ⟨h1, h2⟩
    · rcases hpm with ⟨h3, h4⟩ | ⟨h3, h4⟩
      · exact h3.trans h1.symm
      · exact absurd h2 h4
    · rcases hpm with ⟨h3, h4⟩ | ⟨h3, h4⟩
      · exact absurd h4 h2
      · exact h3.trans h1.symm
  have heq : r12 = y1 := hr9.trans h10
  refine lv_iload hx hb d_law_496 (lv_at hl 0 rfl) ?_
  refine lv_icmp_eq (tgt := 503) hx hb d_law_498 rfl (fun _ => ?_) (fun h => absurd heq h)
  refine lv_goto (tgt := 550) hx hb d_law_503 rfl ?_
  refine lv_iinc (k := 1) (v := nI (6 * (n + 1))) (lv' := [(4, .int (nI (6 * (n + 1)))), (5, .int y1), (3, .ref (a 41)), (2, .ref (a 34)), (1, .ref (a 0)), (0, .ref b)]) hx hb d_law_550 hl rfl (nI_add (6 * n) 6) (by decide) rfl (fun ls hl => ?_)
  refine lv_goto (tgt := 23) hx hb d_law_553 rfl ?_
  exact Kn u8 H locs ls hP hD hS ⟨_, _, _, hI, hc1, hMi.mono (Nat.le_succ _), ho, hN⟩ (lv_sub hl [0, 2, 3, 4, 5] rfl)
set_option maxHeartbeats 4000000 in
set_option maxRecDepth 100000 in
theorem lc_13 {p : Program} {l : Launch} {e : Env} {s : State} {m : MethodId} {below : List Frame} {meth : Method} {c : Code} {b L : Nat} {xs : Nat → Int32} {D : va_G} {t : Nat → ClassId} {z : Nat} {sa : Nat → Nat} {a : Nat → Nat} {ws : va_W} {k n : Nat} {v vm : Nat → Int32} {H : Heap} {locs : List Loc} {ls : Array Slot} (hl0 : l.stackTraces = false) (hx : p.tables.exec = Jvm.exec) (hb : c.code = code) (hr : meth.sig.returnType = ret) (hml : c.maxLocals = 8) (hown : s.vm.findClass R_L = some m.cls) (hts : ∀ w ∈ WS, w.before #[Value.ref b] s = true) (hlocks : meth.locks = false) (hX : va_X b L xs s s.heap) (hbl : b < s.heap.size) (hK : va_K D Cl (Ty t) s) (hM : Am z sa s) (hz0 : z = s.heap.size) (hL : L ≤ 3072) (hn6 : 6 * n + 6 ≤ L) (hP : va_P D Cl ws H) (hD : va_D (Az z) ws) (hS : va_S (Az z) s.heap H locs) (hI : Iv a t k v ws) (hc1 : C1 v) (hMi : Mi a t (n + 1) vm ws) (ho : Ou a t ws) (hN : nul ws ≤ 6157) (hl : lv_has ls 8 [(4, .int (nI (6 * n))), (3, .ref (a 41)), (2, .ref (a 34)), (1, .ref (a 0)), (0, .ref b)]) (Kn : ∀ (w : va_W) (H : Heap) (locs : List Loc) (ls : Array Slot), va_P D Cl w H → va_D (Az z) w → va_S (Az z) s.heap H locs → LI a t (n + 1) w → lv_has ls 8 [(4, .int (nI (6 * (n + 1)))), (3, .ref (a 41)), (2, .ref (a 34)), (1, .ref (a 0)), (0, .ref b)] → W p l e room_1 s m #[Value.ref b] below meth c H locs (LcC (n + 1) w) (LcS (n + 1) w) (lw_Z below #[Value.ref b] s) (F0 m 23 ls [])) : W p l e room_1 s m #[Value.ref b] below meth c H locs (LcC n ws) (LcS n ws) (lw_Z below #[Value.ref b] s) (F0 m 506 ls []) := by
  have hz : z ≤ s.heap.size := Nat.le_of_eq hz0
  have hbA : ¬ Az z b := fun h => absurd hbl (Nat.not_lt.mpr (by rw [← hz0]; exact h))
  refine lv_aload_n hx hb d_law_506 rfl (lv_at hl 3 rfl) ?_
  refine lv_aload_n hx hb d_law_507 rfl (lv_at hl 1 rfl) ?_
  refine mu_SX (n := 2) (As := [.ref (a 0), .ref (a 41)]) (rest := []) ⟨hx, hb, hml, hown, hts⟩ (c_L_reopen (D := D) (t := t) (z := z) (sa := sa) (ws := ws)  hl0 hI hc1 ho) ml_L_126 st_L_reopen in_L cd_L_reopen (by decide +kernel) ⟨Nat.le_of_ble_eq_true rfl, Nat.le_of_ble_eq_true rfl⟩ (Pz_at hP hK hD hz hM hS) rfl hl.1 rfl (Nat.le_of_ble_eq_true rfl) d_law_508 ⟨by show LcC n ws + (2 * nul ws + 1) ≤ 601024; unfold LcC; omega, by show LcS n ws + (257 * nul ws + 6) ≤ 7293034; unfold LcS; omega⟩ hS (fun _ _ _ _ _ _ h => h.elim) (fun r9 u1 H locs hp hP hD hS => ?_)
  obtain ⟨⟨y1, hr9⟩, k1, v1, hI, hn1, hc1, hq, ho⟩ := hp
  subst hr9
  have hMi := hMi.same hq
  have hN : nul u1 ≤ 6157 := by omega
  refine W.widen (k := LcC (n + 1) u1) (n := LcS (n + 1) u1) (by show LcC n ws + (2 * (nul ws - nul u1) + 1) ≤ LcC (n + 1) u1; unfold LcC; omega) (by show LcS n ws + (257 * (nul ws - nul u1) + 6) ≤ LcS (n + 1) u1; unfold LcS; omega) ?_
  clear hn1
  refine W.eq (g2 := F0 m 511 ls [.int y1]) rfl ?_
  refine lv_istore (lv' := [(5, .int y1), (4, .int (nI (6 * n))), (3, .ref (a 41)), (2, .ref (a 34)), (1, .ref (a 0)), (0, .ref b)]) hx hb d_law_511 hl (by decide) rfl (fun ls hl => ?_)
  refine lv_aload_n hx hb d_law_513 rfl (lv_at hl 3 rfl) ?_
  refine va_calli (va_runV (As := []) (rest := []) ⟨hx, hb, hml, hown, hts⟩ (c_M_reopen (D := D) (t := t) (z := z) (sa := sa) (ws := u1)  hMi ) (cwV 0 hts (gd_V ml_L_128 im_M_reopen se_M_reopen in_M cd_M_reopen) rfl rfl rfl (by decide +kernel) ⟨Nat.le_of_ble_eq_true rfl, Nat.le_of_ble_eq_true rfl⟩) ⟨Pz_blind, va_recv hK hP (ci := 6) rfl hMi.1, Pz_at hP hK hD hz hM hS⟩ rfl rfl hl.1 rfl (lv_room (Nat.le_of_ble_eq_true rfl)) d_law_514 ⟨by show LcC (n + 1) u1 + 0 ≤ 601024; unfold LcC; omega, by show LcS (n + 1) u1 + 0 ≤ 7293034; unfold LcS; omega⟩) hS (fun q _ h => h) (fun q h => h) (fun r3 u2 t9 H locs ht hvm hp hB hz1 hk1 hS => ?_)
  obtain ⟨hP, hK9, hD, -⟩ := hB
  rw [ht] at hP
  clear hK9
  obtain ⟨vm1, hMi, hMk⟩ := hp
  have hq2 : nul u2 = nul u1 := nul_eq (fun p hp => hMk.2 p (Or.inl (mds_lt hp)))
  have hI := hI.same hMk.1 (fun p hp => hMk.2 p (by omega))
  have ho : Ou a t u2 := by obtain ⟨fo, ho⟩ := ho; exact ⟨fo, (hMk.2 41 (Or.inr (by decide))).trans ho⟩
  have hN : nul u2 ≤ 6157 := by omega
  refine W.widen (k := LcC (n + 1) u2) (n := LcS (n + 1) u2) (by show LcC (n + 1) u1 + 0 ≤ LcC (n + 1) u2; unfold LcC; omega) (by show LcS (n + 1) u1 + 0 ≤ LcS (n + 1) u2; unfold LcS; omega) ?_
  clear hMk hq2
  refine lv_istore (lv' := [(6, .int r3), (5, .int y1), (4, .int (nI (6 * n))), (3, .ref (a 41)), (2, .ref (a 34)), (1, .ref (a 0)), (0, .ref b)]) hx hb d_law_517 hl (by decide) rfl (fun ls hl => ?_)
  refine lv_goto (tgt := 550) hx hb d_law_519 rfl ?_
  refine lv_iinc (k := 2) (v := nI (6 * (n + 1))) (lv' := [(4, .int (nI (6 * (n + 1)))), (6, .int r3), (5, .int y1), (3, .ref (a 41)), (2, .ref (a 34)), (1, .ref (a 0)), (0, .ref b)]) hx hb d_law_550 hl rfl (nI_add (6 * n) 6) (by decide) rfl (fun ls hl => ?_)
  refine lv_goto (tgt := 23) hx hb d_law_553 rfl ?_
  exact Kn u2 H locs ls hP hD hS ⟨_, _, _, hI, hc1, hMi.mono (Nat.le_succ _), ho, hN⟩ (lv_sub hl [0, 3, 4, 5, 6] rfl)
set_option maxHeartbeats 4000000 in
set_option maxRecDepth 100000 in
theorem lc_14 {p : Program} {l : Launch} {e : Env} {s : State} {m : MethodId} {below : List Frame} {meth : Method} {c : Code} {b L : Nat} {xs : Nat → Int32} {D : va_G} {t : Nat → ClassId} {z : Nat} {sa : Nat → Nat} {a : Nat → Nat} {ws : va_W} {k n : Nat} {v vm : Nat → Int32} {H : Heap} {locs : List Loc} {ls : Array Slot} (hl0 : l.stackTraces = false) (hx : p.tables.exec = Jvm.exec) (hb : c.code = code) (hr : meth.sig.returnType = ret) (hml : c.maxLocals = 8) (hown : s.vm.findClass R_L = some m.cls) (hts : ∀ w ∈ WS, w.before #[Value.ref b] s = true) (hlocks : meth.locks = false) (hX : va_X b L xs s s.heap) (hbl : b < s.heap.size) (hK : va_K D Cl (Ty t) s) (hM : Am z sa s) (hz0 : z = s.heap.size) (hL : L ≤ 3072) (hn6 : 6 * n + 6 ≤ L) (hP : va_P D Cl ws H) (hD : va_D (Az z) ws) (hS : va_S (Az z) s.heap H locs) (hI : Iv a t k v ws) (hc1 : C1 v) (hMi : Mi a t (n + 1) vm ws) (ho : Ou a t ws) (hN : nul ws ≤ 6157) (hl : lv_has ls 8 [(4, .int (nI (6 * n))), (3, .ref (a 41)), (2, .ref (a 34)), (1, .ref (a 0)), (0, .ref b)]) (Kn : ∀ (w : va_W) (H : Heap) (locs : List Loc) (ls : Array Slot), va_P D Cl w H → va_D (Az z) w → va_S (Az z) s.heap H locs → LI a t (n + 1) w → lv_has ls 8 [(4, .int (nI (6 * (n + 1)))), (3, .ref (a 41)), (2, .ref (a 34)), (1, .ref (a 0)), (0, .ref b)] → W p l e room_1 s m #[Value.ref b] below meth c H locs (LcC (n + 1) w) (LcS (n + 1) w) (lw_Z below #[Value.ref b] s) (F0 m 23 ls [])) : W p l e room_1 s m #[Value.ref b] below meth c H locs (LcC n ws) (LcS n ws) (lw_Z below #[Value.ref b] s) (F0 m 522 ls []) := by
  have hz : z ≤ s.heap.size := Nat.le_of_eq hz0
  have hbA : ¬ Az z b := fun h => absurd hbl (Nat.not_lt.mpr (by rw [← hz0]; exact h))
  refine lv_aload_n hx hb d_law_522 rfl (lv_at hl 3 rfl) ?_
  refine lv_aload_n hx hb d_law_523 rfl (lv_at hl 4 rfl) ?_
  refine lv_iload hx hb d_law_524 (lv_at hl 0 rfl) ?_
  refine lv_iconst (v := 1) hx hb d_law_526 (by decide) ?_
  refine lv_iadd hx hb d_law_527 ?_
  refine lv_topi (fun y1 hy1 => ?_)
  have hy1 : y1 = nI (6 * n + 1) := hy1.trans (nI_add (6 * n) 1)
  subst hy1
  refine va_sld hx hb hX hbl hbA hS (i := nI (6 * n + 1)) (vp_in_nI (by omega) (by omega)) d_law_528 ?_
  refine W.eq (g2 := F0 m 529 ls [.int (xs (6 * n + 1)), .ref (a 0)]) (by rw [nI_clamp (n := 6 * n + 1) (by omega)]) ?_
  refine lv_aload_n hx hb d_law_529 rfl (lv_at hl 1 rfl) ?_
  refine mu_SX (n := 3) (As := [.ref (a 0), .int (xs (6 * n + 1)), .ref (a 41)]) (rest := []) ⟨hx, hb, hml, hown, hts⟩ (c_L_told (D := D) (t := t) (z := z) (sa := sa) (ws := ws) (x9 := (xs (6 * n + 1))) hl0 hI hc1 ho) ml_L_129 st_L_told in_L cd_L_told (by decide +kernel) ⟨Nat.le_of_ble_eq_true rfl, Nat.le_of_ble_eq_true rfl⟩ (Pz_at hP hK hD hz hM hS) rfl hl.1 rfl (Nat.le_of_ble_eq_true rfl) d_law_530 ⟨by show LcC n ws + (2 * nul ws + 1) ≤ 601024; unfold LcC; omega, by show LcS n ws + (257 * nul ws + 6) ≤ 7293034; unfold LcS; omega⟩ hS (fun _ _ _ _ _ _ h => h.elim) (fun r9 u2 H locs hp hP hD hS => ?_)
  obtain ⟨⟨y1, hr9⟩, k1, v1, hI, hn1, hc1, hq, ho⟩ := hp
  subst hr9
  have hMi := hMi.same hq
  have hN : nul u2 ≤ 6157 := by omega
  refine W.widen (k := LcC (n + 1) u2) (n := LcS (n + 1) u2) (by show LcC n ws + (2 * (nul ws - nul u2) + 1) ≤ LcC (n + 1) u2; unfold LcC; omega) (by show LcS n ws + (257 * (nul ws - nul u2) + 6) ≤ LcS (n + 1) u2; unfold LcS; omega) ?_
  clear hn1
  refine W.eq (g2 := F0 m 533 ls [.int y1]) rfl ?_
  refine lv_istore (lv' := [(5, .int y1), (4, .int (nI (6 * n))), (3, .ref (a 41)), (2, .ref (a 34)), (1, .ref (a 0)), (0, .ref b)]) hx hb d_law_533 hl (by decide) rfl (fun ls hl => ?_)
  refine lv_aload_n hx hb d_law_535 rfl (lv_at hl 3 rfl) ?_
  refine lv_aload_n hx hb d_law_536 rfl (lv_at hl 5 rfl) ?_
  refine lv_iload hx hb d_law_537 (lv_at hl 1 rfl) ?_
  refine lv_iconst (v := 1) hx hb d_law_539 (by decide) ?_
  refine lv_iadd hx hb d_law_540 ?_
  refine lv_topi (fun y3 hy3 => ?_)
  have hy3 : y3 = nI (6 * n + 1) := hy3.trans (nI_add (6 * n) 1)
  subst hy3
  refine va_sld hx hb hX hbl hbA hS (i := nI (6 * n + 1)) (vp_in_nI (by omega) (by omega)) d_law_541 ?_
  refine W.eq (g2 := F0 m 542 ls [.int (xs (6 * n + 1)), .ref (a 34)]) (by rw [nI_clamp (n := 6 * n + 1) (by omega)]) ?_
  refine va_calli (va_runV (As := [.int (xs (6 * n + 1))]) (rest := []) ⟨hx, hb, hml, hown, hts⟩ (c_M_told (D := D) (t := t) (z := z) (sa := sa) (ws := u2) (x9 := (xs (6 * n + 1))) hMi ) (cwV 1 hts (gd_V ml_L_131 im_M_told se_M_told in_M cd_M_told) rfl rfl rfl (by decide +kernel) ⟨Nat.le_of_ble_eq_true rfl, Nat.le_of_ble_eq_true rfl⟩) ⟨Pz_blind, va_recv hK hP (ci := 6) rfl hMi.1, Pz_at hP hK hD hz hM hS⟩ rfl rfl hl.1 rfl (lv_room (Nat.le_of_ble_eq_true rfl)) d_law_542 ⟨by show LcC (n + 1) u2 + 0 ≤ 601024; unfold LcC; omega, by show LcS (n + 1) u2 + 0 ≤ 7293034; unfold LcS; omega⟩) hS (fun q _ h => h) (fun q h => h) (fun r5 u4 t9 H locs ht hvm hp hB hz1 hk1 hS => ?_)
  obtain ⟨hP, hK9, hD, -⟩ := hB
  rw [ht] at hP
  clear hK9
  obtain ⟨vm1, hMi, hMk⟩ := hp
  have hq2 : nul u4 = nul u2 := nul_eq (fun p hp => hMk.2 p (Or.inl (mds_lt hp)))
  have hI := hI.same hMk.1 (fun p hp => hMk.2 p (by omega))
  have ho : Ou a t u4 := by obtain ⟨fo, ho⟩ := ho; exact ⟨fo, (hMk.2 41 (Or.inr (by decide))).trans ho⟩
  have hN : nul u4 ≤ 6157 := by omega
  refine W.widen (k := LcC (n + 1) u4) (n := LcS (n + 1) u4) (by show LcC (n + 1) u2 + 0 ≤ LcC (n + 1) u4; unfold LcC; omega) (by show LcS (n + 1) u2 + 0 ≤ LcS (n + 1) u4; unfold LcS; omega) ?_
  clear hMk hq2
  refine lv_istore (lv' := [(6, .int r5), (5, .int y1), (4, .int (nI (6 * n))), (3, .ref (a 41)), (2, .ref (a 34)), (1, .ref (a 0)), (0, .ref b)]) hx hb d_law_545 hl (by decide) rfl (fun ls hl => ?_)
  refine lv_goto (tgt := 550) hx hb d_law_547 rfl ?_
  refine lv_iinc (k := 2) (v := nI (6 * (n + 1))) (lv' := [(4, .int (nI (6 * (n + 1)))), (6, .int r5), (5, .int y1), (3, .ref (a 41)), (2, .ref (a 34)), (1, .ref (a 0)), (0, .ref b)]) hx hb d_law_550 hl rfl (nI_add (6 * n) 6) (by decide) rfl (fun ls hl => ?_)
  refine lv_goto (tgt := 23) hx hb d_law_553 rfl ?_
  exact Kn u4 H locs ls hP hD hS ⟨_, _, _, hI, hc1, hMi.mono (Nat.le_succ _), ho, hN⟩ (lv_sub hl [0, 3, 4, 5, 6] rfl)
set_option maxHeartbeats 4000000 in
set_option maxRecDepth 100000 in
theorem lc_15 {p : Program} {l : Launch} {e : Env} {s : State} {m : MethodId} {below : List Frame} {meth : Method} {c : Code} {b L : Nat} {xs : Nat → Int32} {D : va_G} {t : Nat → ClassId} {z : Nat} {sa : Nat → Nat} {a : Nat → Nat} {ws : va_W} {k n : Nat} {v vm : Nat → Int32} {H : Heap} {locs : List Loc} {ls : Array Slot} (hl0 : l.stackTraces = false) (hx : p.tables.exec = Jvm.exec) (hb : c.code = code) (hr : meth.sig.returnType = ret) (hml : c.maxLocals = 8) (hown : s.vm.findClass R_L = some m.cls) (hts : ∀ w ∈ WS, w.before #[Value.ref b] s = true) (hlocks : meth.locks = false) (hX : va_X b L xs s s.heap) (hbl : b < s.heap.size) (hK : va_K D Cl (Ty t) s) (hM : Am z sa s) (hz0 : z = s.heap.size) (hL : L ≤ 3072) (hn6 : 6 * n + 6 ≤ L) (hP : va_P D Cl ws H) (hD : va_D (Az z) ws) (hS : va_S (Az z) s.heap H locs) (hI : Iv a t k v ws) (hc1 : C1 v) (hMi : Mi a t (n + 1) vm ws) (ho : Ou a t ws) (hN : nul ws ≤ 6157) (hl : lv_has ls 8 [(4, .int (nI (6 * n))), (3, .ref (a 41)), (2, .ref (a 34)), (1, .ref (a 0)), (0, .ref b)]) (Kn : ∀ (w : va_W) (H : Heap) (locs : List Loc) (ls : Array Slot), va_P D Cl w H → va_D (Az z) w → va_S (Az z) s.heap H locs → LI a t (n + 1) w → lv_has ls 8 [(4, .int (nI (6 * (n + 1)))), (3, .ref (a 41)), (2, .ref (a 34)), (1, .ref (a 0)), (0, .ref b)] → W p l e room_1 s m #[Value.ref b] below meth c H locs (LcC (n + 1) w) (LcS (n + 1) w) (lw_Z below #[Value.ref b] s) (F0 m 23 ls [])) : W p l e room_1 s m #[Value.ref b] below meth c H locs (LcC n ws) (LcS n ws) (lw_Z below #[Value.ref b] s) (F0 m 550 ls []) := by
  have hz : z ≤ s.heap.size := Nat.le_of_eq hz0
  have hbA : ¬ Az z b := fun h => absurd hbl (Nat.not_lt.mpr (by rw [← hz0]; exact h))
  refine W.widen (k := LcC (n + 1) ws) (n := LcS (n + 1) ws) (by unfold LcC; omega) (by unfold LcS; omega) ?_
  refine lv_iinc (k := 0) (v := nI (6 * (n + 1))) (lv' := [(4, .int (nI (6 * (n + 1)))), (3, .ref (a 41)), (2, .ref (a 34)), (1, .ref (a 0)), (0, .ref b)]) hx hb d_law_550 hl rfl (nI_add (6 * n) 6) (by decide) rfl (fun ls hl => ?_)
  refine lv_goto (tgt := 23) hx hb d_law_553 rfl ?_
  exact Kn ws H locs ls hP hD hS ⟨_, _, _, hI, hc1, hMi.mono (Nat.le_succ _), ho, hN⟩ (lv_sub hl [0, 1, 2, 3, 4] rfl)
