abbrev F00 : Nat → Int64 := fun _ => 0
set_option maxHeartbeats 4000000 in
set_option maxRecDepth 100000 in
theorem lc_0 {p : Program} {l : Launch} {e : Env} {s : State} {m : MethodId} {below : List Frame} {meth : Method} {c : Code} {b : Nat} {xs : Nat → Int32} {D : va_G} {t : Nat → ClassId} {z : Nat} {sa : Nat → Nat} {ws : va_W} {x xf xj xl fu xr fb jb l0 lb he mm mb ms9 mn ml mk9 mq oo : Nat} {gl : Nat → Option Nat} {H : Heap} {locs : List Loc} {ls : Array Slot} (hl0 : l.stackTraces = false) (hx : p.tables.exec = Jvm.exec) (hb : c.code = code) (hr : meth.sig.returnType = ret) (hml : c.maxLocals = 8) (hown : s.vm.findClass R_L = some m.cls) (hts : ∀ w ∈ WS, w.before #[Value.ref b] s = true) (hlocks : meth.locks = false) (hX : va_X b 6 xs s s.heap) (hbl : b < s.heap.size) (hK : va_K D Cl (Ty t) s) (hM : Am z sa s) (hz0 : z = s.heap.size) (hP : va_P D Cl ws H) (hD : va_D (Az z) ws) (hS : va_S (Az z) s.heap H locs) (hg0 : gl 0 = some l0) (e0 : ws[0]? = some (x, .inr (5, [.ref xf, .ref xj, .ref xl, .ref fu, .ref xr, .int 1, .int 0, .int 0, .int 0, .int 0]))) (e1 : ws[1]? = some (xf, .inr (3, [.ref fb, .int 0]))) (e4 : ws[4]? = some (xj, .inr (3, [.ref jb, .int 0]))) (e7 : ws[7]? = some (xl, .inl (t 3, 6, .inr (.inr (.inr (.inr gl)))))) (e8 : ws[8]? = some (fu, .inr (2, [.int 4, .int 0, .int 0, .int 0]))) (e10 : ws[10]? = some (l0, .inr (4, [.ref lb, .ref he, .int 0]))) (e13 : ws[13]? = some (he, .inl (t 1, 768, .inl (fun _ => 0)))) (e34 : ws[34]? = some (mm, .inr (6, [.ref mb, .ref ms9, .int 1, .int 1, .ref mn, .ref ml, .ref mk9, .ref mq, .int 0, .int 0, .int 0, .int 0, .int 0, .int 0, .int 4, .int 0, .int 0]))) (e41 : ws[41]? = some (oo, .inl (t 5, 1, .inr (.inl F00)))) (hl : lv_has ls 8 [(4, .int 0), (3, .ref oo), (2, .ref mm), (1, .ref x), (0, .ref b)])  : W p l e room_1 s m #[Value.ref b] below meth c H locs 42 1071195 (lw_Z below #[Value.ref b] s) (F0 m 116 ls []) := by
  have hz : z ≤ s.heap.size := Nat.le_of_eq hz0
  have hbA : ¬ Az z b := fun h => absurd hbl (Nat.not_lt.mpr (by rw [← hz0]; exact h))
  have hC : Ch ws ws [] := Ch.rf
  refine lv_aload_n hx hb d_law_116 rfl (lv_at hl 3 rfl) ?_
  refine lv_aload_n hx hb d_law_117 rfl (lv_at hl 1 rfl) ?_
  refine va_calli (vx_runSW (As := [.ref x, .ref oo]) (rest := []) ⟨hx, hb, hml, hown, hts⟩ (c_L_pages (D := D) (t := t) (z := z) (sa := sa) (ws := ws)  e0 e41) (vx_cwSW 2 hts (gd_SW ml_L_74 st_L_pages in_L cd_L_pages) rfl rfl rfl (by decide +kernel) ⟨Nat.le_of_ble_eq_true rfl, Nat.le_of_ble_eq_true rfl⟩) ⟨Pz_blind, Pz_at hP hK hD hz hM hS⟩ rfl rfl hl.1 rfl (lv_room (Nat.le_of_ble_eq_true rfl)) d_law_118 ⟨Nat.le_of_ble_eq_true rfl, Nat.le_of_ble_eq_true rfl⟩) hS (fun q _ h => h) (fun q h => h) (fun r2 w1 t9 H locs ht hvm hp hB hz1 hk1 hS => ?_)
  obtain ⟨hP, hK9, hD, -⟩ := hB
  rw [ht] at hP
  clear hK9
  obtain ⟨hr9, hC9, kf41⟩ := hp
  subst hr9
  have e0 : w1[0]? = some (x, .inr (5, [.ref xf, .ref xj, .ref xl, .ref fu, .ref xr, .int 1, .int 0, .int 0, .int 0, .int 0])) := hC9.keep e0 (by decide)
  have e1 : w1[1]? = some (xf, .inr (3, [.ref fb, .int 0])) := hC9.keep e1 (by decide)
  have e4 : w1[4]? = some (xj, .inr (3, [.ref jb, .int 0])) := hC9.keep e4 (by decide)
  have e7 : w1[7]? = some (xl, .inl (t 3, 6, .inr (.inr (.inr (.inr gl))))) := hC9.keep e7 (by decide)
  have e8 : w1[8]? = some (fu, .inr (2, [.int 4, .int 0, .int 0, .int 0])) := hC9.keep e8 (by decide)
  have e10 : w1[10]? = some (l0, .inr (4, [.ref lb, .ref he, .int 0])) := hC9.keep e10 (by decide)
  have e13 : w1[13]? = some (he, .inl (t 1, 768, .inl (fun _ => 0))) := hC9.keep e13 (by decide)
  have e34 : w1[34]? = some (mm, .inr (6, [.ref mb, .ref ms9, .int 1, .int 1, .ref mn, .ref ml, .ref mk9, .ref mq, .int 0, .int 0, .int 0, .int 0, .int 0, .int 0, .int 4, .int 0, .int 0])) := hC9.keep e34 (by decide)
  have e41 : w1[41]? = some (oo, .inl (t 5, 1, .inr (.inl (vp_updL F00 0 0)))) := kf41
  have hC := hC.trans hC9
  refine lv_istore (lv' := [(5, .int 0), (4, .int 0), (3, .ref oo), (2, .ref mm), (1, .ref x), (0, .ref b)]) hx hb d_law_121 hl (by decide) rfl (fun ls hl => ?_)
  refine lv_aload_n hx hb d_law_123 rfl (lv_at hl 3 rfl) ?_
  refine va_calli (va_runV (As := []) (rest := []) ⟨hx, hb, hml, hown, hts⟩ (c_M_pages (D := D) (t := t) (z := z) (sa := sa) (ws := w1)  e34) (cwV 0 hts (gd_V ml_L_79 im_M_pages se_M_pages in_M cd_M_pages) rfl rfl rfl (by decide +kernel) ⟨Nat.le_of_ble_eq_true rfl, Nat.le_of_ble_eq_true rfl⟩) ⟨Pz_blind, va_recv hK hP (ci := 6) rfl e34, Pz_at hP hK hD hz hM hS⟩ rfl rfl hl.1 rfl (lv_room (Nat.le_of_ble_eq_true rfl)) d_law_124 ⟨Nat.le_of_ble_eq_true rfl, Nat.le_of_ble_eq_true rfl⟩) hS (fun q _ h => h) (fun q h => h) (fun r4 w3 t9 H locs ht hvm hp hB hz1 hk1 hS => ?_)
  obtain ⟨hP, hK9, hD, -⟩ := hB
  rw [ht] at hP
  clear hK9
  obtain ⟨hr9, hC9, kf34⟩ := hp
  subst hr9
  have e0 : w3[0]? = some (x, .inr (5, [.ref xf, .ref xj, .ref xl, .ref fu, .ref xr, .int 1, .int 0, .int 0, .int 0, .int 0])) := hC9.keep e0 (by decide)
  have e1 : w3[1]? = some (xf, .inr (3, [.ref fb, .int 0])) := hC9.keep e1 (by decide)
  have e4 : w3[4]? = some (xj, .inr (3, [.ref jb, .int 0])) := hC9.keep e4 (by decide)
  have e7 : w3[7]? = some (xl, .inl (t 3, 6, .inr (.inr (.inr (.inr gl))))) := hC9.keep e7 (by decide)
  have e8 : w3[8]? = some (fu, .inr (2, [.int 4, .int 0, .int 0, .int 0])) := hC9.keep e8 (by decide)
  have e10 : w3[10]? = some (l0, .inr (4, [.ref lb, .ref he, .int 0])) := hC9.keep e10 (by decide)
  have e13 : w3[13]? = some (he, .inl (t 1, 768, .inl (fun _ => 0))) := hC9.keep e13 (by decide)
  have e34 : w3[34]? = some (mm, .inr (6, [.ref mb, .ref ms9, .int 1, .int 1, .ref mn, .ref ml, .ref mk9, .ref mq, .int 0, .int 0, .int 0, .int 0, .int 0, .int 0, .int 4, .int 0, .int 0])) := kf34
  have e41 : w3[41]? = some (oo, .inl (t 5, 1, .inr (.inl (vp_updL F00 0 0)))) := hC9.keep e41 (by decide)
  have hC := hC.trans hC9
  refine lv_istore (lv' := [(6, .int 0), (5, .int 0), (4, .int 0), (3, .ref oo), (2, .ref mm), (1, .ref x), (0, .ref b)]) hx hb d_law_127 hl (by decide) rfl (fun ls hl => ?_)
  refine lv_aload_n hx hb d_law_129 rfl (lv_at hl 4 rfl) ?_
  refine va_calli (va_runV (As := []) (rest := []) ⟨hx, hb, hml, hown, hts⟩ (c_M_thrown (D := D) (t := t) (z := z) (sa := sa) (ws := w3)  e34) (cwV 0 hts (gd_V ml_L_80 im_M_thrown se_M_thrown in_M cd_M_thrown) rfl rfl rfl (by decide +kernel) ⟨Nat.le_of_ble_eq_true rfl, Nat.le_of_ble_eq_true rfl⟩) ⟨Pz_blind, va_recv hK hP (ci := 6) rfl e34, Pz_at hP hK hD hz hM hS⟩ rfl rfl hl.1 rfl (lv_room (Nat.le_of_ble_eq_true rfl)) d_law_130 ⟨Nat.le_of_ble_eq_true rfl, Nat.le_of_ble_eq_true rfl⟩) hS (fun q _ h => h) (fun q h => h) (fun r6 w5 t9 H locs ht hvm hp hB hz1 hk1 hS => ?_)
  obtain ⟨hP, hK9, hD, -⟩ := hB
  rw [ht] at hP
  clear hK9
  obtain ⟨hr9, hw9⟩ := hp
  rw [hw9] at hP hD
  clear hw9
  subst hr9
  refine lv_iload hx hb d_law_133 (lv_at hl 1 rfl) ?_
  refine lv_icmp_eq (tgt := 140) hx hb d_law_135 rfl (fun _ => ?_) (fun h => absurd h (by decide))
  refine lv_iload hx hb d_law_140 (lv_at hl 1 rfl) ?_
  refine lv_if_ne (tgt := 157) hx hb d_law_142 rfl (fun h => absurd h (by decide)) (fun _ => ?_)
  refine lv_aload_n hx hb d_law_145 rfl (lv_at hl 3 rfl) ?_
  refine lv_iconst (v := 0) hx hb d_law_146 (by decide) ?_
  refine va_lald (D := D) hx hb hK hP 41 5 e41 rfl (i := 0) (by unfold vp_in; decide) d_law_147 ?_
  refine W.eq (g2 := F0 m 148 ls [.long 0]) rfl ?_
  refine lv_iload hx hb d_law_148 (lv_at hl 0 rfl) ?_
  refine lv_i2l (v := 0) hx hb d_law_150 (by decide) ?_
  refine W.lcmp hx hb d_law_151 ?_
  refine lv_topi (fun v7 hv7 => ?_)
  have hv7 : v7 = 0 := hv7.trans (by decide)
  subst hv7
  refine lv_if_eq (tgt := 157) hx hb d_law_152 rfl (fun _ => ?_) (fun h => absurd h (by decide))
  refine lv_goto (tgt := 839) hx hb d_law_157 rfl ?_
  refine lv_iinc (k := 2) (v := 6) (lv' := [(4, .int 6), (6, .int 0), (5, .int 0), (3, .ref oo), (2, .ref mm), (1, .ref x), (0, .ref b)]) hx hb d_law_839 hl rfl (by decide) (by decide) rfl (fun ls hl => ?_)
  refine lv_goto (tgt := 23) hx hb d_law_842 rfl ?_
  subst hz0
  exact lw_exit hx hb hr hlocks hX hbl hS hl 0 6 rfl rfl (by decide) (Nat.le_of_ble_eq_true rfl) (Nat.le_of_ble_eq_true rfl)
set_option maxHeartbeats 4000000 in
set_option maxRecDepth 100000 in
theorem lc_1 {p : Program} {l : Launch} {e : Env} {s : State} {m : MethodId} {below : List Frame} {meth : Method} {c : Code} {b : Nat} {xs : Nat → Int32} {D : va_G} {t : Nat → ClassId} {z : Nat} {sa : Nat → Nat} {ws : va_W} {x xf xj xl fu xr fb jb l0 lb he mm mb ms9 mn ml mk9 mq oo : Nat} {gl : Nat → Option Nat} {H : Heap} {locs : List Loc} {ls : Array Slot} (hl0 : l.stackTraces = false) (hx : p.tables.exec = Jvm.exec) (hb : c.code = code) (hr : meth.sig.returnType = ret) (hml : c.maxLocals = 8) (hown : s.vm.findClass R_L = some m.cls) (hts : ∀ w ∈ WS, w.before #[Value.ref b] s = true) (hlocks : meth.locks = false) (hX : va_X b 6 xs s s.heap) (hbl : b < s.heap.size) (hK : va_K D Cl (Ty t) s) (hM : Am z sa s) (hz0 : z = s.heap.size) (hP : va_P D Cl ws H) (hD : va_D (Az z) ws) (hS : va_S (Az z) s.heap H locs) (hg0 : gl 0 = some l0) (e0 : ws[0]? = some (x, .inr (5, [.ref xf, .ref xj, .ref xl, .ref fu, .ref xr, .int 1, .int 0, .int 0, .int 0, .int 0]))) (e1 : ws[1]? = some (xf, .inr (3, [.ref fb, .int 0]))) (e4 : ws[4]? = some (xj, .inr (3, [.ref jb, .int 0]))) (e7 : ws[7]? = some (xl, .inl (t 3, 6, .inr (.inr (.inr (.inr gl)))))) (e8 : ws[8]? = some (fu, .inr (2, [.int 4, .int 0, .int 0, .int 0]))) (e10 : ws[10]? = some (l0, .inr (4, [.ref lb, .ref he, .int 0]))) (e13 : ws[13]? = some (he, .inl (t 1, 768, .inl (fun _ => 0)))) (e34 : ws[34]? = some (mm, .inr (6, [.ref mb, .ref ms9, .int 1, .int 1, .ref mn, .ref ml, .ref mk9, .ref mq, .int 0, .int 0, .int 0, .int 0, .int 0, .int 0, .int 4, .int 0, .int 0]))) (e41 : ws[41]? = some (oo, .inl (t 5, 1, .inr (.inl F00)))) (hl : lv_has ls 8 [(4, .int 0), (3, .ref oo), (2, .ref mm), (1, .ref x), (0, .ref b)])  : W p l e room_1 s m #[Value.ref b] below meth c H locs 42 1071195 (lw_Z below #[Value.ref b] s) (F0 m 160 ls []) := by
  have hz : z ≤ s.heap.size := Nat.le_of_eq hz0
  have hbA : ¬ Az z b := fun h => absurd hbl (Nat.not_lt.mpr (by rw [← hz0]; exact h))
  have hC : Ch ws ws [] := Ch.rf
  refine lv_aload_n hx hb d_law_160 rfl (lv_at hl 3 rfl) ?_
  refine lv_aload_n hx hb d_law_161 rfl (lv_at hl 1 rfl) ?_
  refine va_calli (vx_runSW (As := [.ref x, .ref oo]) (rest := []) ⟨hx, hb, hml, hown, hts⟩ (c_L_add (D := D) (t := t) (z := z) (sa := sa) (ws := ws)  hl0 e0 e41) (vx_cwSW 2 hts (gd_SW ml_L_83 st_L_add in_L cd_L_add) rfl rfl rfl (by decide +kernel) ⟨Nat.le_of_ble_eq_true rfl, Nat.le_of_ble_eq_true rfl⟩) ⟨Pz_blind, Pz_at hP hK hD hz hM hS⟩ rfl rfl hl.1 rfl (lv_room (Nat.le_of_ble_eq_true rfl)) d_law_162 ⟨Nat.le_of_ble_eq_true rfl, Nat.le_of_ble_eq_true rfl⟩) hS (fun q _ h => h) (fun q h => h) (fun r2 w1 t9 H locs ht hvm hp hB hz1 hk1 hS => ?_)
  obtain ⟨hP, hK9, hD, -⟩ := hB
  rw [ht] at hP
  clear hK9
  obtain ⟨hr9, hC9⟩ := hp
  subst hr9
  have e0 : w1[0]? = some (x, .inr (5, [.ref xf, .ref xj, .ref xl, .ref fu, .ref xr, .int 1, .int 0, .int 0, .int 0, .int 0])) := hC9.keep e0 (by decide)
  have e1 : w1[1]? = some (xf, .inr (3, [.ref fb, .int 0])) := hC9.keep e1 (by decide)
  have e4 : w1[4]? = some (xj, .inr (3, [.ref jb, .int 0])) := hC9.keep e4 (by decide)
  have e7 : w1[7]? = some (xl, .inl (t 3, 6, .inr (.inr (.inr (.inr gl))))) := hC9.keep e7 (by decide)
  have e8 : w1[8]? = some (fu, .inr (2, [.int 4, .int 0, .int 0, .int 0])) := hC9.keep e8 (by decide)
  have e10 : w1[10]? = some (l0, .inr (4, [.ref lb, .ref he, .int 0])) := hC9.keep e10 (by decide)
  have e13 : w1[13]? = some (he, .inl (t 1, 768, .inl (fun _ => 0))) := hC9.keep e13 (by decide)
  have e34 : w1[34]? = some (mm, .inr (6, [.ref mb, .ref ms9, .int 1, .int 1, .ref mn, .ref ml, .ref mk9, .ref mq, .int 0, .int 0, .int 0, .int 0, .int 0, .int 0, .int 4, .int 0, .int 0])) := hC9.keep e34 (by decide)
  have e41 : w1[41]? = some (oo, .inl (t 5, 1, .inr (.inl F00))) := hC9.keep e41 (by decide)
  have hC := hC.trans hC9
  refine lv_istore (lv' := [(5, .int 1), (4, .int 0), (3, .ref oo), (2, .ref mm), (1, .ref x), (0, .ref b)]) hx hb d_law_165 hl (by decide) rfl (fun ls hl => ?_)
  refine lv_aload_n hx hb d_law_167 rfl (lv_at hl 3 rfl) ?_
  refine va_calli (va_runV (As := []) (rest := []) ⟨hx, hb, hml, hown, hts⟩ (c_M_add (D := D) (t := t) (z := z) (sa := sa) (ws := w1)  e34) (cwV 0 hts (gd_V ml_L_85 im_M_add se_M_add in_M cd_M_add) rfl rfl rfl (by decide +kernel) ⟨Nat.le_of_ble_eq_true rfl, Nat.le_of_ble_eq_true rfl⟩) ⟨Pz_blind, va_recv hK hP (ci := 6) rfl e34, Pz_at hP hK hD hz hM hS⟩ rfl rfl hl.1 rfl (lv_room (Nat.le_of_ble_eq_true rfl)) d_law_168 ⟨Nat.le_of_ble_eq_true rfl, Nat.le_of_ble_eq_true rfl⟩) hS (fun q _ h => h) (fun q h => h) (fun r4 w3 t9 H locs ht hvm hp hB hz1 hk1 hS => ?_)
  obtain ⟨hP, hK9, hD, -⟩ := hB
  rw [ht] at hP
  clear hK9
  obtain ⟨hr9, hC9, kf34⟩ := hp
  subst hr9
  have e0 : w3[0]? = some (x, .inr (5, [.ref xf, .ref xj, .ref xl, .ref fu, .ref xr, .int 1, .int 0, .int 0, .int 0, .int 0])) := hC9.keep e0 (by decide)
  have e1 : w3[1]? = some (xf, .inr (3, [.ref fb, .int 0])) := hC9.keep e1 (by decide)
  have e4 : w3[4]? = some (xj, .inr (3, [.ref jb, .int 0])) := hC9.keep e4 (by decide)
  have e7 : w3[7]? = some (xl, .inl (t 3, 6, .inr (.inr (.inr (.inr gl))))) := hC9.keep e7 (by decide)
  have e8 : w3[8]? = some (fu, .inr (2, [.int 4, .int 0, .int 0, .int 0])) := hC9.keep e8 (by decide)
  have e10 : w3[10]? = some (l0, .inr (4, [.ref lb, .ref he, .int 0])) := hC9.keep e10 (by decide)
  have e13 : w3[13]? = some (he, .inl (t 1, 768, .inl (fun _ => 0))) := hC9.keep e13 (by decide)
  have e34 : w3[34]? = some (mm, .inr (6, [.ref mb, .ref ms9, .int 1, .int 1, .ref mn, .ref ml, .ref mk9, .ref mq, .int 0, .int 0, .int 0, .int 0, .int 0, .int 0, .int 4, .int 0, .int 1])) := kf34
  have e41 : w3[41]? = some (oo, .inl (t 5, 1, .inr (.inl F00))) := hC9.keep e41 (by decide)
  have hC := hC.trans hC9
  refine lv_istore (lv' := [(6, .int 0), (5, .int 1), (4, .int 0), (3, .ref oo), (2, .ref mm), (1, .ref x), (0, .ref b)]) hx hb d_law_171 hl (by decide) rfl (fun ls hl => ?_)
  refine lv_aload_n hx hb d_law_173 rfl (lv_at hl 4 rfl) ?_
  refine va_calli (va_runV (As := []) (rest := []) ⟨hx, hb, hml, hown, hts⟩ (c_M_thrown (D := D) (t := t) (z := z) (sa := sa) (ws := w3)  e34) (cwV 0 hts (gd_V ml_L_80 im_M_thrown se_M_thrown in_M cd_M_thrown) rfl rfl rfl (by decide +kernel) ⟨Nat.le_of_ble_eq_true rfl, Nat.le_of_ble_eq_true rfl⟩) ⟨Pz_blind, va_recv hK hP (ci := 6) rfl e34, Pz_at hP hK hD hz hM hS⟩ rfl rfl hl.1 rfl (lv_room (Nat.le_of_ble_eq_true rfl)) d_law_174 ⟨Nat.le_of_ble_eq_true rfl, Nat.le_of_ble_eq_true rfl⟩) hS (fun q _ h => h) (fun q h => h) (fun r6 w5 t9 H locs ht hvm hp hB hz1 hk1 hS => ?_)
  obtain ⟨hP, hK9, hD, -⟩ := hB
  rw [ht] at hP
  clear hK9
  obtain ⟨hr9, hw9⟩ := hp
  rw [hw9] at hP hD
  clear hw9
  subst hr9
  refine lv_iload hx hb d_law_177 (lv_at hl 1 rfl) ?_
  refine lv_icmp_eq (tgt := 184) hx hb d_law_179 rfl (fun _ => ?_) (fun h => absurd h (by decide))
  refine lv_iload hx hb d_law_184 (lv_at hl 1 rfl) ?_
  refine lv_if_ne (tgt := 201) hx hb d_law_186 rfl (fun _ => ?_) (fun h => absurd h (by decide))
  refine lv_goto (tgt := 839) hx hb d_law_201 rfl ?_
  refine lv_iinc (k := 2) (v := 6) (lv' := [(4, .int 6), (6, .int 0), (5, .int 1), (3, .ref oo), (2, .ref mm), (1, .ref x), (0, .ref b)]) hx hb d_law_839 hl rfl (by decide) (by decide) rfl (fun ls hl => ?_)
  refine lv_goto (tgt := 23) hx hb d_law_842 rfl ?_
  subst hz0
  exact lw_exit hx hb hr hlocks hX hbl hS hl 0 6 rfl rfl (by decide) (Nat.le_of_ble_eq_true rfl) (Nat.le_of_ble_eq_true rfl)
set_option maxHeartbeats 4000000 in
set_option maxRecDepth 100000 in
theorem lc_2 {p : Program} {l : Launch} {e : Env} {s : State} {m : MethodId} {below : List Frame} {meth : Method} {c : Code} {b : Nat} {xs : Nat → Int32} {D : va_G} {t : Nat → ClassId} {z : Nat} {sa : Nat → Nat} {ws : va_W} {x xf xj xl fu xr fb jb l0 lb he mm mb ms9 mn ml mk9 mq oo : Nat} {gl : Nat → Option Nat} {H : Heap} {locs : List Loc} {ls : Array Slot} (hl0 : l.stackTraces = false) (hx : p.tables.exec = Jvm.exec) (hb : c.code = code) (hr : meth.sig.returnType = ret) (hml : c.maxLocals = 8) (hown : s.vm.findClass R_L = some m.cls) (hts : ∀ w ∈ WS, w.before #[Value.ref b] s = true) (hlocks : meth.locks = false) (hX : va_X b 6 xs s s.heap) (hbl : b < s.heap.size) (hK : va_K D Cl (Ty t) s) (hM : Am z sa s) (hz0 : z = s.heap.size) (hP : va_P D Cl ws H) (hD : va_D (Az z) ws) (hS : va_S (Az z) s.heap H locs) (hg0 : gl 0 = some l0) (e0 : ws[0]? = some (x, .inr (5, [.ref xf, .ref xj, .ref xl, .ref fu, .ref xr, .int 1, .int 0, .int 0, .int 0, .int 0]))) (e1 : ws[1]? = some (xf, .inr (3, [.ref fb, .int 0]))) (e4 : ws[4]? = some (xj, .inr (3, [.ref jb, .int 0]))) (e7 : ws[7]? = some (xl, .inl (t 3, 6, .inr (.inr (.inr (.inr gl)))))) (e8 : ws[8]? = some (fu, .inr (2, [.int 4, .int 0, .int 0, .int 0]))) (e10 : ws[10]? = some (l0, .inr (4, [.ref lb, .ref he, .int 0]))) (e13 : ws[13]? = some (he, .inl (t 1, 768, .inl (fun _ => 0)))) (e34 : ws[34]? = some (mm, .inr (6, [.ref mb, .ref ms9, .int 1, .int 1, .ref mn, .ref ml, .ref mk9, .ref mq, .int 0, .int 0, .int 0, .int 0, .int 0, .int 0, .int 4, .int 0, .int 0]))) (e41 : ws[41]? = some (oo, .inl (t 5, 1, .inr (.inl F00)))) (hl : lv_has ls 8 [(4, .int 0), (3, .ref oo), (2, .ref mm), (1, .ref x), (0, .ref b)])  : W p l e room_1 s m #[Value.ref b] below meth c H locs 42 1071195 (lw_Z below #[Value.ref b] s) (F0 m 204 ls []) := by
  have hz : z ≤ s.heap.size := Nat.le_of_eq hz0
  have hbA : ¬ Az z b := fun h => absurd hbl (Nat.not_lt.mpr (by rw [← hz0]; exact h))
  have hC : Ch ws ws [] := Ch.rf
  refine lv_aload_n hx hb d_law_204 rfl (lv_at hl 3 rfl) ?_
  refine lv_aload_n hx hb d_law_205 rfl (lv_at hl 4 rfl) ?_
  refine lv_iload hx hb d_law_206 (lv_at hl 0 rfl) ?_
  refine lv_iconst (v := 1) hx hb d_law_208 (by decide) ?_
  refine lv_iadd hx hb d_law_209 ?_
  refine lv_topi (fun v1 hv1 => ?_)
  have hv1 : v1 = 1 := hv1.trans (by decide)
  subst hv1
  refine va_sld hx hb hX hbl hbA hS (i := 1) (by unfold vp_in; decide) d_law_210 ?_
  refine W.eq (g2 := F0 m 211 ls [.int (xs 1), .ref x]) rfl ?_
  refine lv_aload_n hx hb d_law_211 rfl (lv_at hl 4 rfl) ?_
  refine lv_iload hx hb d_law_212 (lv_at hl 0 rfl) ?_
  refine lv_iconst (v := 2) hx hb d_law_214 (by decide) ?_
  refine lv_iadd hx hb d_law_215 ?_
  refine lv_topi (fun v2 hv2 => ?_)
  have hv2 : v2 = 2 := hv2.trans (by decide)
  subst hv2
  refine va_sld hx hb hX hbl hbA hS (i := 2) (by unfold vp_in; decide) d_law_216 ?_
  refine W.eq (g2 := F0 m 217 ls [.int (xs 2), .int (xs 1), .ref x]) rfl ?_
  refine lv_aload_n hx hb d_law_217 rfl (lv_at hl 1 rfl) ?_
  refine va_calli (vx_runSW (As := [.ref x, .int (xs 1), .int (xs 2), .ref oo]) (rest := []) ⟨hx, hb, hml, hown, hts⟩ (c_L_get (D := D) (t := t) (z := z) (sa := sa) (ws := ws) (a0 := xs 1) (a1 := xs 2) hl0 e0 e41) (vx_cwSW 4 hts (gd_SW ml_L_86 st_L_get in_L cd_L_get) rfl rfl rfl (by decide +kernel) ⟨Nat.le_of_ble_eq_true rfl, Nat.le_of_ble_eq_true rfl⟩) ⟨Pz_blind, Pz_at hP hK hD hz hM hS⟩ rfl rfl hl.1 rfl (lv_room (Nat.le_of_ble_eq_true rfl)) d_law_218 ⟨Nat.le_of_ble_eq_true rfl, Nat.le_of_ble_eq_true rfl⟩) hS (fun q _ h => h) (fun q h => h) (fun r4 w3 t9 H locs ht hvm hp hB hz1 hk1 hS => ?_)
  obtain ⟨hP, hK9, hD, -⟩ := hB
  rw [ht] at hP
  clear hK9
  obtain ⟨hr9, hC9⟩ := hp
  subst hr9
  have e0 : w3[0]? = some (x, .inr (5, [.ref xf, .ref xj, .ref xl, .ref fu, .ref xr, .int 1, .int 0, .int 0, .int 0, .int 0])) := hC9.keep e0 (by decide)
  have e1 : w3[1]? = some (xf, .inr (3, [.ref fb, .int 0])) := hC9.keep e1 (by decide)
  have e4 : w3[4]? = some (xj, .inr (3, [.ref jb, .int 0])) := hC9.keep e4 (by decide)
  have e7 : w3[7]? = some (xl, .inl (t 3, 6, .inr (.inr (.inr (.inr gl))))) := hC9.keep e7 (by decide)
  have e8 : w3[8]? = some (fu, .inr (2, [.int 4, .int 0, .int 0, .int 0])) := hC9.keep e8 (by decide)
  have e10 : w3[10]? = some (l0, .inr (4, [.ref lb, .ref he, .int 0])) := hC9.keep e10 (by decide)
  have e13 : w3[13]? = some (he, .inl (t 1, 768, .inl (fun _ => 0))) := hC9.keep e13 (by decide)
  have e34 : w3[34]? = some (mm, .inr (6, [.ref mb, .ref ms9, .int 1, .int 1, .ref mn, .ref ml, .ref mk9, .ref mq, .int 0, .int 0, .int 0, .int 0, .int 0, .int 0, .int 4, .int 0, .int 0])) := hC9.keep e34 (by decide)
  have e41 : w3[41]? = some (oo, .inl (t 5, 1, .inr (.inl F00))) := hC9.keep e41 (by decide)
  have hC := hC.trans hC9
  refine lv_istore (lv' := [(5, .int 2), (4, .int 0), (3, .ref oo), (2, .ref mm), (1, .ref x), (0, .ref b)]) hx hb d_law_221 hl (by decide) rfl (fun ls hl => ?_)
  refine lv_aload_n hx hb d_law_223 rfl (lv_at hl 3 rfl) ?_
  refine lv_aload_n hx hb d_law_224 rfl (lv_at hl 5 rfl) ?_
  refine lv_iload hx hb d_law_225 (lv_at hl 1 rfl) ?_
  refine lv_iconst (v := 1) hx hb d_law_227 (by decide) ?_
  refine lv_iadd hx hb d_law_228 ?_
  refine lv_topi (fun v5 hv5 => ?_)
  have hv5 : v5 = 1 := hv5.trans (by decide)
  subst hv5
  refine va_sld hx hb hX hbl hbA hS (i := 1) (by unfold vp_in; decide) d_law_229 ?_
  refine W.eq (g2 := F0 m 230 ls [.int (xs 1), .ref mm]) rfl ?_
  refine lv_aload_n hx hb d_law_230 rfl (lv_at hl 5 rfl) ?_
  refine lv_iload hx hb d_law_231 (lv_at hl 1 rfl) ?_
  refine lv_iconst (v := 2) hx hb d_law_233 (by decide) ?_
  refine lv_iadd hx hb d_law_234 ?_
  refine lv_topi (fun v6 hv6 => ?_)
  have hv6 : v6 = 2 := hv6.trans (by decide)
  subst hv6
  refine va_sld hx hb hX hbl hbA hS (i := 2) (by unfold vp_in; decide) d_law_235 ?_
  refine W.eq (g2 := F0 m 236 ls [.int (xs 2), .int (xs 1), .ref mm]) rfl ?_
  refine va_calli (va_runV (As := [.int (xs 1), .int (xs 2)]) (rest := []) ⟨hx, hb, hml, hown, hts⟩ (c_M_get (D := D) (t := t) (z := z) (sa := sa) (ws := w3) (a0 := xs 1) (a1 := xs 2) e34) (cwV 2 hts (gd_V ml_L_89 im_M_get se_M_get in_M cd_M_get) rfl rfl rfl (by decide +kernel) ⟨Nat.le_of_ble_eq_true rfl, Nat.le_of_ble_eq_true rfl⟩) ⟨Pz_blind, va_recv hK hP (ci := 6) rfl e34, Pz_at hP hK hD hz hM hS⟩ rfl rfl hl.1 rfl (lv_room (Nat.le_of_ble_eq_true rfl)) d_law_236 ⟨Nat.le_of_ble_eq_true rfl, Nat.le_of_ble_eq_true rfl⟩) hS (fun q _ h => h) (fun q h => h) (fun r8 w7 t9 H locs ht hvm hp hB hz1 hk1 hS => ?_)
  obtain ⟨hP, hK9, hD, -⟩ := hB
  rw [ht] at hP
  clear hK9
  obtain ⟨hr9, hC9, kf34⟩ := hp
  subst hr9
  have e0 : w7[0]? = some (x, .inr (5, [.ref xf, .ref xj, .ref xl, .ref fu, .ref xr, .int 1, .int 0, .int 0, .int 0, .int 0])) := hC9.keep e0 (by decide)
  have e1 : w7[1]? = some (xf, .inr (3, [.ref fb, .int 0])) := hC9.keep e1 (by decide)
  have e4 : w7[4]? = some (xj, .inr (3, [.ref jb, .int 0])) := hC9.keep e4 (by decide)
  have e7 : w7[7]? = some (xl, .inl (t 3, 6, .inr (.inr (.inr (.inr gl))))) := hC9.keep e7 (by decide)
  have e8 : w7[8]? = some (fu, .inr (2, [.int 4, .int 0, .int 0, .int 0])) := hC9.keep e8 (by decide)
  have e10 : w7[10]? = some (l0, .inr (4, [.ref lb, .ref he, .int 0])) := hC9.keep e10 (by decide)
  have e13 : w7[13]? = some (he, .inl (t 1, 768, .inl (fun _ => 0))) := hC9.keep e13 (by decide)
  have e34 : w7[34]? = some (mm, .inr (6, [.ref mb, .ref ms9, .int 1, .int 1, .ref mn, .ref ml, .ref mk9, .ref mq, .int 0, .int 0, .int 0, .int 0, .int 0, .int 0, .int 4, .int 0, .int 2])) := kf34
  have e41 : w7[41]? = some (oo, .inl (t 5, 1, .inr (.inl F00))) := hC9.keep e41 (by decide)
  have hC := hC.trans hC9
  refine lv_istore (lv' := [(6, .int 0), (5, .int 2), (4, .int 0), (3, .ref oo), (2, .ref mm), (1, .ref x), (0, .ref b)]) hx hb d_law_239 hl (by decide) rfl (fun ls hl => ?_)
  refine lv_aload_n hx hb d_law_241 rfl (lv_at hl 4 rfl) ?_
  refine va_calli (va_runV (As := []) (rest := []) ⟨hx, hb, hml, hown, hts⟩ (c_M_thrown (D := D) (t := t) (z := z) (sa := sa) (ws := w7)  e34) (cwV 0 hts (gd_V ml_L_80 im_M_thrown se_M_thrown in_M cd_M_thrown) rfl rfl rfl (by decide +kernel) ⟨Nat.le_of_ble_eq_true rfl, Nat.le_of_ble_eq_true rfl⟩) ⟨Pz_blind, va_recv hK hP (ci := 6) rfl e34, Pz_at hP hK hD hz hM hS⟩ rfl rfl hl.1 rfl (lv_room (Nat.le_of_ble_eq_true rfl)) d_law_242 ⟨Nat.le_of_ble_eq_true rfl, Nat.le_of_ble_eq_true rfl⟩) hS (fun q _ h => h) (fun q h => h) (fun r10 w9 t9 H locs ht hvm hp hB hz1 hk1 hS => ?_)
  obtain ⟨hP, hK9, hD, -⟩ := hB
  rw [ht] at hP
  clear hK9
  obtain ⟨hr9, hw9⟩ := hp
  rw [hw9] at hP hD
  clear hw9
  subst hr9
  refine lv_iload hx hb d_law_245 (lv_at hl 1 rfl) ?_
  refine lv_icmp_eq (tgt := 252) hx hb d_law_247 rfl (fun _ => ?_) (fun h => absurd h (by decide))
  refine lv_iload hx hb d_law_252 (lv_at hl 1 rfl) ?_
  refine lv_if_ne (tgt := 269) hx hb d_law_254 rfl (fun _ => ?_) (fun h => absurd h (by decide))
  refine lv_goto (tgt := 839) hx hb d_law_269 rfl ?_
  refine lv_iinc (k := 2) (v := 6) (lv' := [(4, .int 6), (6, .int 0), (5, .int 2), (3, .ref oo), (2, .ref mm), (1, .ref x), (0, .ref b)]) hx hb d_law_839 hl rfl (by decide) (by decide) rfl (fun ls hl => ?_)
  refine lv_goto (tgt := 23) hx hb d_law_842 rfl ?_
  subst hz0
  exact lw_exit hx hb hr hlocks hX hbl hS hl 0 6 rfl rfl (by decide) (Nat.le_of_ble_eq_true rfl) (Nat.le_of_ble_eq_true rfl)
set_option maxHeartbeats 4000000 in
set_option maxRecDepth 100000 in
theorem lc_3 {p : Program} {l : Launch} {e : Env} {s : State} {m : MethodId} {below : List Frame} {meth : Method} {c : Code} {b : Nat} {xs : Nat → Int32} {D : va_G} {t : Nat → ClassId} {z : Nat} {sa : Nat → Nat} {ws : va_W} {x xf xj xl fu xr fb jb l0 lb he mm mb ms9 mn ml mk9 mq oo : Nat} {gl : Nat → Option Nat} {H : Heap} {locs : List Loc} {ls : Array Slot} (hl0 : l.stackTraces = false) (hx : p.tables.exec = Jvm.exec) (hb : c.code = code) (hr : meth.sig.returnType = ret) (hml : c.maxLocals = 8) (hown : s.vm.findClass R_L = some m.cls) (hts : ∀ w ∈ WS, w.before #[Value.ref b] s = true) (hlocks : meth.locks = false) (hX : va_X b 6 xs s s.heap) (hbl : b < s.heap.size) (hK : va_K D Cl (Ty t) s) (hM : Am z sa s) (hz0 : z = s.heap.size) (hP : va_P D Cl ws H) (hD : va_D (Az z) ws) (hS : va_S (Az z) s.heap H locs) (hg0 : gl 0 = some l0) (e0 : ws[0]? = some (x, .inr (5, [.ref xf, .ref xj, .ref xl, .ref fu, .ref xr, .int 1, .int 0, .int 0, .int 0, .int 0]))) (e1 : ws[1]? = some (xf, .inr (3, [.ref fb, .int 0]))) (e4 : ws[4]? = some (xj, .inr (3, [.ref jb, .int 0]))) (e7 : ws[7]? = some (xl, .inl (t 3, 6, .inr (.inr (.inr (.inr gl)))))) (e8 : ws[8]? = some (fu, .inr (2, [.int 4, .int 0, .int 0, .int 0]))) (e10 : ws[10]? = some (l0, .inr (4, [.ref lb, .ref he, .int 0]))) (e13 : ws[13]? = some (he, .inl (t 1, 768, .inl (fun _ => 0)))) (e34 : ws[34]? = some (mm, .inr (6, [.ref mb, .ref ms9, .int 1, .int 1, .ref mn, .ref ml, .ref mk9, .ref mq, .int 0, .int 0, .int 0, .int 0, .int 0, .int 0, .int 4, .int 0, .int 0]))) (e41 : ws[41]? = some (oo, .inl (t 5, 1, .inr (.inl F00)))) (hl : lv_has ls 8 [(4, .int 0), (3, .ref oo), (2, .ref mm), (1, .ref x), (0, .ref b)])  : W p l e room_1 s m #[Value.ref b] below meth c H locs 42 1071195 (lw_Z below #[Value.ref b] s) (F0 m 272 ls []) := by
  have hz : z ≤ s.heap.size := Nat.le_of_eq hz0
  have hbA : ¬ Az z b := fun h => absurd hbl (Nat.not_lt.mpr (by rw [← hz0]; exact h))
  have hC : Ch ws ws [] := Ch.rf
  refine lv_aload_n hx hb d_law_272 rfl (lv_at hl 3 rfl) ?_
  refine lv_aload_n hx hb d_law_273 rfl (lv_at hl 4 rfl) ?_
  refine lv_iload hx hb d_law_274 (lv_at hl 0 rfl) ?_
  refine lv_iconst (v := 1) hx hb d_law_276 (by decide) ?_
  refine lv_iadd hx hb d_law_277 ?_
  refine lv_topi (fun v1 hv1 => ?_)
  have hv1 : v1 = 1 := hv1.trans (by decide)
  subst hv1
  refine va_sld hx hb hX hbl hbA hS (i := 1) (by unfold vp_in; decide) d_law_278 ?_
  refine W.eq (g2 := F0 m 279 ls [.int (xs 1), .ref x]) rfl ?_
  refine lv_aload_n hx hb d_law_279 rfl (lv_at hl 4 rfl) ?_
  refine lv_iload hx hb d_law_280 (lv_at hl 0 rfl) ?_
  refine lv_iconst (v := 2) hx hb d_law_282 (by decide) ?_
  refine lv_iadd hx hb d_law_283 ?_
  refine lv_topi (fun v2 hv2 => ?_)
  have hv2 : v2 = 2 := hv2.trans (by decide)
  subst hv2
  refine va_sld hx hb hX hbl hbA hS (i := 2) (by unfold vp_in; decide) d_law_284 ?_
  refine W.eq (g2 := F0 m 285 ls [.int (xs 2), .int (xs 1), .ref x]) rfl ?_
  refine lv_aload_n hx hb d_law_285 rfl (lv_at hl 4 rfl) ?_
  refine lv_iload hx hb d_law_286 (lv_at hl 0 rfl) ?_
  refine lv_iconst (v := 3) hx hb d_law_288 (by decide) ?_
  refine lv_iadd hx hb d_law_289 ?_
  refine lv_topi (fun v3 hv3 => ?_)
  have hv3 : v3 = 3 := hv3.trans (by decide)
  subst hv3
  refine va_sld hx hb hX hbl hbA hS (i := 3) (by unfold vp_in; decide) d_law_290 ?_
  refine W.eq (g2 := F0 m 291 ls [.int (xs 3), .int (xs 2), .int (xs 1), .ref x]) rfl ?_
  refine lv_aload_n hx hb d_law_291 rfl (lv_at hl 1 rfl) ?_
  refine va_calli (vx_runSW (As := [.ref x, .int (xs 1), .int (xs 2), .int (xs 3), .ref oo]) (rest := []) ⟨hx, hb, hml, hown, hts⟩ (c_L_put (D := D) (t := t) (z := z) (sa := sa) (ws := ws) (a0 := xs 1) (a1 := xs 2) (a2 := xs 3) hl0 e0 e41) (vx_cwSW 5 hts (gd_SW ml_L_90 st_L_put in_L cd_L_put) rfl rfl rfl (by decide +kernel) ⟨Nat.le_of_ble_eq_true rfl, Nat.le_of_ble_eq_true rfl⟩) ⟨Pz_blind, Pz_at hP hK hD hz hM hS⟩ rfl rfl hl.1 rfl (lv_room (Nat.le_of_ble_eq_true rfl)) d_law_292 ⟨Nat.le_of_ble_eq_true rfl, Nat.le_of_ble_eq_true rfl⟩) hS (fun q _ h => h) (fun q h => h) (fun r5 w4 t9 H locs ht hvm hp hB hz1 hk1 hS => ?_)
  obtain ⟨hP, hK9, hD, -⟩ := hB
  rw [ht] at hP
  clear hK9
  obtain ⟨hr9, hC9⟩ := hp
  subst hr9
  have e0 : w4[0]? = some (x, .inr (5, [.ref xf, .ref xj, .ref xl, .ref fu, .ref xr, .int 1, .int 0, .int 0, .int 0, .int 0])) := hC9.keep e0 (by decide)
  have e1 : w4[1]? = some (xf, .inr (3, [.ref fb, .int 0])) := hC9.keep e1 (by decide)
  have e4 : w4[4]? = some (xj, .inr (3, [.ref jb, .int 0])) := hC9.keep e4 (by decide)
  have e7 : w4[7]? = some (xl, .inl (t 3, 6, .inr (.inr (.inr (.inr gl))))) := hC9.keep e7 (by decide)
  have e8 : w4[8]? = some (fu, .inr (2, [.int 4, .int 0, .int 0, .int 0])) := hC9.keep e8 (by decide)
  have e10 : w4[10]? = some (l0, .inr (4, [.ref lb, .ref he, .int 0])) := hC9.keep e10 (by decide)
  have e13 : w4[13]? = some (he, .inl (t 1, 768, .inl (fun _ => 0))) := hC9.keep e13 (by decide)
  have e34 : w4[34]? = some (mm, .inr (6, [.ref mb, .ref ms9, .int 1, .int 1, .ref mn, .ref ml, .ref mk9, .ref mq, .int 0, .int 0, .int 0, .int 0, .int 0, .int 0, .int 4, .int 0, .int 0])) := hC9.keep e34 (by decide)
  have e41 : w4[41]? = some (oo, .inl (t 5, 1, .inr (.inl F00))) := hC9.keep e41 (by decide)
  have hC := hC.trans hC9
  refine lv_istore (lv' := [(5, .int 1), (4, .int 0), (3, .ref oo), (2, .ref mm), (1, .ref x), (0, .ref b)]) hx hb d_law_295 hl (by decide) rfl (fun ls hl => ?_)
  refine lv_aload_n hx hb d_law_297 rfl (lv_at hl 3 rfl) ?_
  refine lv_aload_n hx hb d_law_298 rfl (lv_at hl 5 rfl) ?_
  refine lv_iload hx hb d_law_299 (lv_at hl 1 rfl) ?_
  refine lv_iconst (v := 1) hx hb d_law_301 (by decide) ?_
  refine lv_iadd hx hb d_law_302 ?_
  refine lv_topi (fun v6 hv6 => ?_)
  have hv6 : v6 = 1 := hv6.trans (by decide)
  subst hv6
  refine va_sld hx hb hX hbl hbA hS (i := 1) (by unfold vp_in; decide) d_law_303 ?_
  refine W.eq (g2 := F0 m 304 ls [.int (xs 1), .ref mm]) rfl ?_
  refine lv_aload_n hx hb d_law_304 rfl (lv_at hl 5 rfl) ?_
  refine lv_iload hx hb d_law_305 (lv_at hl 1 rfl) ?_
  refine lv_iconst (v := 2) hx hb d_law_307 (by decide) ?_
  refine lv_iadd hx hb d_law_308 ?_
  refine lv_topi (fun v7 hv7 => ?_)
  have hv7 : v7 = 2 := hv7.trans (by decide)
  subst hv7
  refine va_sld hx hb hX hbl hbA hS (i := 2) (by unfold vp_in; decide) d_law_309 ?_
  refine W.eq (g2 := F0 m 310 ls [.int (xs 2), .int (xs 1), .ref mm]) rfl ?_
  refine lv_aload_n hx hb d_law_310 rfl (lv_at hl 5 rfl) ?_
  refine lv_iload hx hb d_law_311 (lv_at hl 1 rfl) ?_
  refine lv_iconst (v := 3) hx hb d_law_313 (by decide) ?_
  refine lv_iadd hx hb d_law_314 ?_
  refine lv_topi (fun v8 hv8 => ?_)
  have hv8 : v8 = 3 := hv8.trans (by decide)
  subst hv8
  refine va_sld hx hb hX hbl hbA hS (i := 3) (by unfold vp_in; decide) d_law_315 ?_
  refine W.eq (g2 := F0 m 316 ls [.int (xs 3), .int (xs 2), .int (xs 1), .ref mm]) rfl ?_
  refine va_calli (va_runV (As := [.int (xs 1), .int (xs 2), .int (xs 3)]) (rest := []) ⟨hx, hb, hml, hown, hts⟩ (c_M_put (D := D) (t := t) (z := z) (sa := sa) (ws := w4) (a0 := xs 1) (a1 := xs 2) (a2 := xs 3) e34) (cwV 3 hts (gd_V ml_L_93 im_M_put se_M_put in_M cd_M_put) rfl rfl rfl (by decide +kernel) ⟨Nat.le_of_ble_eq_true rfl, Nat.le_of_ble_eq_true rfl⟩) ⟨Pz_blind, va_recv hK hP (ci := 6) rfl e34, Pz_at hP hK hD hz hM hS⟩ rfl rfl hl.1 rfl (lv_room (Nat.le_of_ble_eq_true rfl)) d_law_316 ⟨Nat.le_of_ble_eq_true rfl, Nat.le_of_ble_eq_true rfl⟩) hS (fun q _ h => h) (fun q h => h) (fun r10 w9 t9 H locs ht hvm hp hB hz1 hk1 hS => ?_)
  obtain ⟨hP, hK9, hD, -⟩ := hB
  rw [ht] at hP
  clear hK9
  obtain ⟨hr9, hC9, kf34⟩ := hp
  subst hr9
  have e0 : w9[0]? = some (x, .inr (5, [.ref xf, .ref xj, .ref xl, .ref fu, .ref xr, .int 1, .int 0, .int 0, .int 0, .int 0])) := hC9.keep e0 (by decide)
  have e1 : w9[1]? = some (xf, .inr (3, [.ref fb, .int 0])) := hC9.keep e1 (by decide)
  have e4 : w9[4]? = some (xj, .inr (3, [.ref jb, .int 0])) := hC9.keep e4 (by decide)
  have e7 : w9[7]? = some (xl, .inl (t 3, 6, .inr (.inr (.inr (.inr gl))))) := hC9.keep e7 (by decide)
  have e8 : w9[8]? = some (fu, .inr (2, [.int 4, .int 0, .int 0, .int 0])) := hC9.keep e8 (by decide)
  have e10 : w9[10]? = some (l0, .inr (4, [.ref lb, .ref he, .int 0])) := hC9.keep e10 (by decide)
  have e13 : w9[13]? = some (he, .inl (t 1, 768, .inl (fun _ => 0))) := hC9.keep e13 (by decide)
  have e34 : w9[34]? = some (mm, .inr (6, [.ref mb, .ref ms9, .int 1, .int 1, .ref mn, .ref ml, .ref mk9, .ref mq, .int 0, .int 0, .int 0, .int 0, .int 0, .int 0, .int 4, .int 0, .int 1])) := kf34
  have e41 : w9[41]? = some (oo, .inl (t 5, 1, .inr (.inl F00))) := hC9.keep e41 (by decide)
  have hC := hC.trans hC9
  refine lv_istore (lv' := [(6, .int 0), (5, .int 1), (4, .int 0), (3, .ref oo), (2, .ref mm), (1, .ref x), (0, .ref b)]) hx hb d_law_319 hl (by decide) rfl (fun ls hl => ?_)
  refine lv_aload_n hx hb d_law_321 rfl (lv_at hl 4 rfl) ?_
  refine va_calli (va_runV (As := []) (rest := []) ⟨hx, hb, hml, hown, hts⟩ (c_M_thrown (D := D) (t := t) (z := z) (sa := sa) (ws := w9)  e34) (cwV 0 hts (gd_V ml_L_80 im_M_thrown se_M_thrown in_M cd_M_thrown) rfl rfl rfl (by decide +kernel) ⟨Nat.le_of_ble_eq_true rfl, Nat.le_of_ble_eq_true rfl⟩) ⟨Pz_blind, va_recv hK hP (ci := 6) rfl e34, Pz_at hP hK hD hz hM hS⟩ rfl rfl hl.1 rfl (lv_room (Nat.le_of_ble_eq_true rfl)) d_law_322 ⟨Nat.le_of_ble_eq_true rfl, Nat.le_of_ble_eq_true rfl⟩) hS (fun q _ h => h) (fun q h => h) (fun r12 w11 t9 H locs ht hvm hp hB hz1 hk1 hS => ?_)
  obtain ⟨hP, hK9, hD, -⟩ := hB
  rw [ht] at hP
  clear hK9
  obtain ⟨hr9, hw9⟩ := hp
  rw [hw9] at hP hD
  clear hw9
  subst hr9
  refine lv_iload hx hb d_law_325 (lv_at hl 1 rfl) ?_
  refine lv_icmp_eq (tgt := 332) hx hb d_law_327 rfl (fun _ => ?_) (fun h => absurd h (by decide))
  refine lv_iload hx hb d_law_332 (lv_at hl 1 rfl) ?_
  refine lv_if_ne (tgt := 349) hx hb d_law_334 rfl (fun _ => ?_) (fun h => absurd h (by decide))
  refine lv_goto (tgt := 839) hx hb d_law_349 rfl ?_
  refine lv_iinc (k := 2) (v := 6) (lv' := [(4, .int 6), (6, .int 0), (5, .int 1), (3, .ref oo), (2, .ref mm), (1, .ref x), (0, .ref b)]) hx hb d_law_839 hl rfl (by decide) (by decide) rfl (fun ls hl => ?_)
  refine lv_goto (tgt := 23) hx hb d_law_842 rfl ?_
  subst hz0
  exact lw_exit hx hb hr hlocks hX hbl hS hl 0 6 rfl rfl (by decide) (Nat.le_of_ble_eq_true rfl) (Nat.le_of_ble_eq_true rfl)
set_option maxHeartbeats 4000000 in
set_option maxRecDepth 100000 in
theorem lc_4 {p : Program} {l : Launch} {e : Env} {s : State} {m : MethodId} {below : List Frame} {meth : Method} {c : Code} {b : Nat} {xs : Nat → Int32} {D : va_G} {t : Nat → ClassId} {z : Nat} {sa : Nat → Nat} {ws : va_W} {x xf xj xl fu xr fb jb l0 lb he mm mb ms9 mn ml mk9 mq oo : Nat} {gl : Nat → Option Nat} {H : Heap} {locs : List Loc} {ls : Array Slot} (hl0 : l.stackTraces = false) (hx : p.tables.exec = Jvm.exec) (hb : c.code = code) (hr : meth.sig.returnType = ret) (hml : c.maxLocals = 8) (hown : s.vm.findClass R_L = some m.cls) (hts : ∀ w ∈ WS, w.before #[Value.ref b] s = true) (hlocks : meth.locks = false) (hX : va_X b 6 xs s s.heap) (hbl : b < s.heap.size) (hK : va_K D Cl (Ty t) s) (hM : Am z sa s) (hz0 : z = s.heap.size) (hP : va_P D Cl ws H) (hD : va_D (Az z) ws) (hS : va_S (Az z) s.heap H locs) (hg0 : gl 0 = some l0) (e0 : ws[0]? = some (x, .inr (5, [.ref xf, .ref xj, .ref xl, .ref fu, .ref xr, .int 1, .int 0, .int 0, .int 0, .int 0]))) (e1 : ws[1]? = some (xf, .inr (3, [.ref fb, .int 0]))) (e4 : ws[4]? = some (xj, .inr (3, [.ref jb, .int 0]))) (e7 : ws[7]? = some (xl, .inl (t 3, 6, .inr (.inr (.inr (.inr gl)))))) (e8 : ws[8]? = some (fu, .inr (2, [.int 4, .int 0, .int 0, .int 0]))) (e10 : ws[10]? = some (l0, .inr (4, [.ref lb, .ref he, .int 0]))) (e13 : ws[13]? = some (he, .inl (t 1, 768, .inl (fun _ => 0)))) (e34 : ws[34]? = some (mm, .inr (6, [.ref mb, .ref ms9, .int 1, .int 1, .ref mn, .ref ml, .ref mk9, .ref mq, .int 0, .int 0, .int 0, .int 0, .int 0, .int 0, .int 4, .int 0, .int 0]))) (e41 : ws[41]? = some (oo, .inl (t 5, 1, .inr (.inl F00)))) (hl : lv_has ls 8 [(4, .int 0), (3, .ref oo), (2, .ref mm), (1, .ref x), (0, .ref b)])  : W p l e room_1 s m #[Value.ref b] below meth c H locs 42 1071195 (lw_Z below #[Value.ref b] s) (F0 m 352 ls []) := by
  have hz : z ≤ s.heap.size := Nat.le_of_eq hz0
  have hbA : ¬ Az z b := fun h => absurd hbl (Nat.not_lt.mpr (by rw [← hz0]; exact h))
  have hC : Ch ws ws [] := Ch.rf
  refine lv_aload_n hx hb d_law_352 rfl (lv_at hl 3 rfl) ?_
  refine lv_aload_n hx hb d_law_353 rfl (lv_at hl 4 rfl) ?_
  refine lv_iload hx hb d_law_354 (lv_at hl 0 rfl) ?_
  refine lv_iconst (v := 1) hx hb d_law_356 (by decide) ?_
  refine lv_iadd hx hb d_law_357 ?_
  refine lv_topi (fun v1 hv1 => ?_)
  have hv1 : v1 = 1 := hv1.trans (by decide)
  subst hv1
  refine va_sld hx hb hX hbl hbA hS (i := 1) (by unfold vp_in; decide) d_law_358 ?_
  refine W.eq (g2 := F0 m 359 ls [.int (xs 1), .ref x]) rfl ?_
  refine lv_aload_n hx hb d_law_359 rfl (lv_at hl 4 rfl) ?_
  refine lv_iload hx hb d_law_360 (lv_at hl 0 rfl) ?_
  refine lv_iconst (v := 2) hx hb d_law_362 (by decide) ?_
  refine lv_iadd hx hb d_law_363 ?_
  refine lv_topi (fun v2 hv2 => ?_)
  have hv2 : v2 = 2 := hv2.trans (by decide)
  subst hv2
  refine va_sld hx hb hX hbl hbA hS (i := 2) (by unfold vp_in; decide) d_law_364 ?_
  refine W.eq (g2 := F0 m 365 ls [.int (xs 2), .int (xs 1), .ref x]) rfl ?_
  refine lv_aload_n hx hb d_law_365 rfl (lv_at hl 4 rfl) ?_
  refine lv_iload hx hb d_law_366 (lv_at hl 0 rfl) ?_
  refine lv_iconst (v := 3) hx hb d_law_368 (by decide) ?_
  refine lv_iadd hx hb d_law_369 ?_
  refine lv_topi (fun v3 hv3 => ?_)
  have hv3 : v3 = 3 := hv3.trans (by decide)
  subst hv3
  refine va_sld hx hb hX hbl hbA hS (i := 3) (by unfold vp_in; decide) d_law_370 ?_
  refine W.eq (g2 := F0 m 371 ls [.int (xs 3), .int (xs 2), .int (xs 1), .ref x]) rfl ?_
  refine lv_aload_n hx hb d_law_371 rfl (lv_at hl 4 rfl) ?_
  refine lv_iload hx hb d_law_372 (lv_at hl 0 rfl) ?_
  refine lv_iconst (v := 4) hx hb d_law_374 (by decide) ?_
  refine lv_iadd hx hb d_law_375 ?_
  refine lv_topi (fun v4 hv4 => ?_)
  have hv4 : v4 = 4 := hv4.trans (by decide)
  subst hv4
  refine va_sld hx hb hX hbl hbA hS (i := 4) (by unfold vp_in; decide) d_law_376 ?_
  refine W.eq (g2 := F0 m 377 ls [.int (xs 4), .int (xs 3), .int (xs 2), .int (xs 1), .ref x]) rfl ?_
  refine lv_aload_n hx hb d_law_377 rfl (lv_at hl 4 rfl) ?_
  refine lv_iload hx hb d_law_378 (lv_at hl 0 rfl) ?_
  refine lv_iconst (v := 5) hx hb d_law_380 (by decide) ?_
  refine lv_iadd hx hb d_law_381 ?_
  refine lv_topi (fun v5 hv5 => ?_)
  have hv5 : v5 = 5 := hv5.trans (by decide)
  subst hv5
  refine va_sld hx hb hX hbl hbA hS (i := 5) (by unfold vp_in; decide) d_law_382 ?_
  refine W.eq (g2 := F0 m 383 ls [.int (xs 5), .int (xs 4), .int (xs 3), .int (xs 2), .int (xs 1), .ref x]) rfl ?_
  refine va_calli (vx_runSW (As := [.ref x, .int (xs 1), .int (xs 2), .int (xs 3), .int (xs 4), .int (xs 5)]) (rest := []) ⟨hx, hb, hml, hown, hts⟩ (c_L_move (D := D) (t := t) (z := z) (sa := sa) (ws := ws) (a0 := xs 1) (a1 := xs 2) (a2 := xs 3) (a3 := xs 4) (a4 := xs 5) hl0 e0) (vx_cwSW 6 hts (gd_SW ml_L_94 st_L_move in_L cd_L_move) rfl rfl rfl (by decide +kernel) ⟨Nat.le_of_ble_eq_true rfl, Nat.le_of_ble_eq_true rfl⟩) ⟨Pz_blind, Pz_at hP hK hD hz hM hS⟩ rfl rfl hl.1 rfl (lv_room (Nat.le_of_ble_eq_true rfl)) d_law_383 ⟨Nat.le_of_ble_eq_true rfl, Nat.le_of_ble_eq_true rfl⟩) hS (fun q _ h => h) (fun q h => h) (fun r7 w6 t9 H locs ht hvm hp hB hz1 hk1 hS => ?_)
  obtain ⟨hP, hK9, hD, -⟩ := hB
  rw [ht] at hP
  clear hK9
  obtain ⟨hr9, hC9⟩ := hp
  subst hr9
  have e0 : w6[0]? = some (x, .inr (5, [.ref xf, .ref xj, .ref xl, .ref fu, .ref xr, .int 1, .int 0, .int 0, .int 0, .int 0])) := hC9.keep e0 (by decide)
  have e1 : w6[1]? = some (xf, .inr (3, [.ref fb, .int 0])) := hC9.keep e1 (by decide)
  have e4 : w6[4]? = some (xj, .inr (3, [.ref jb, .int 0])) := hC9.keep e4 (by decide)
  have e7 : w6[7]? = some (xl, .inl (t 3, 6, .inr (.inr (.inr (.inr gl))))) := hC9.keep e7 (by decide)
  have e8 : w6[8]? = some (fu, .inr (2, [.int 4, .int 0, .int 0, .int 0])) := hC9.keep e8 (by decide)
  have e10 : w6[10]? = some (l0, .inr (4, [.ref lb, .ref he, .int 0])) := hC9.keep e10 (by decide)
  have e13 : w6[13]? = some (he, .inl (t 1, 768, .inl (fun _ => 0))) := hC9.keep e13 (by decide)
  have e34 : w6[34]? = some (mm, .inr (6, [.ref mb, .ref ms9, .int 1, .int 1, .ref mn, .ref ml, .ref mk9, .ref mq, .int 0, .int 0, .int 0, .int 0, .int 0, .int 0, .int 4, .int 0, .int 0])) := hC9.keep e34 (by decide)
  have e41 : w6[41]? = some (oo, .inl (t 5, 1, .inr (.inl F00))) := hC9.keep e41 (by decide)
  have hC := hC.trans hC9
  refine lv_istore (lv' := [(5, .int 1), (4, .int 0), (3, .ref oo), (2, .ref mm), (1, .ref x), (0, .ref b)]) hx hb d_law_386 hl (by decide) rfl (fun ls hl => ?_)
  refine lv_aload_n hx hb d_law_388 rfl (lv_at hl 3 rfl) ?_
  refine lv_aload_n hx hb d_law_389 rfl (lv_at hl 5 rfl) ?_
  refine lv_iload hx hb d_law_390 (lv_at hl 1 rfl) ?_
  refine lv_iconst (v := 1) hx hb d_law_392 (by decide) ?_
  refine lv_iadd hx hb d_law_393 ?_
  refine lv_topi (fun v8 hv8 => ?_)
  have hv8 : v8 = 1 := hv8.trans (by decide)
  subst hv8
  refine va_sld hx hb hX hbl hbA hS (i := 1) (by unfold vp_in; decide) d_law_394 ?_
  refine W.eq (g2 := F0 m 395 ls [.int (xs 1), .ref mm]) rfl ?_
  refine lv_aload_n hx hb d_law_395 rfl (lv_at hl 5 rfl) ?_
  refine lv_iload hx hb d_law_396 (lv_at hl 1 rfl) ?_
  refine lv_iconst (v := 2) hx hb d_law_398 (by decide) ?_
  refine lv_iadd hx hb d_law_399 ?_
  refine lv_topi (fun v9 hv9 => ?_)
  have hv9 : v9 = 2 := hv9.trans (by decide)
  subst hv9
  refine va_sld hx hb hX hbl hbA hS (i := 2) (by unfold vp_in; decide) d_law_400 ?_
  refine W.eq (g2 := F0 m 401 ls [.int (xs 2), .int (xs 1), .ref mm]) rfl ?_
  refine lv_aload_n hx hb d_law_401 rfl (lv_at hl 5 rfl) ?_
  refine lv_iload hx hb d_law_402 (lv_at hl 1 rfl) ?_
  refine lv_iconst (v := 3) hx hb d_law_404 (by decide) ?_
  refine lv_iadd hx hb d_law_405 ?_
  refine lv_topi (fun v10 hv10 => ?_)
  have hv10 : v10 = 3 := hv10.trans (by decide)
  subst hv10
  refine va_sld hx hb hX hbl hbA hS (i := 3) (by unfold vp_in; decide) d_law_406 ?_
  refine W.eq (g2 := F0 m 407 ls [.int (xs 3), .int (xs 2), .int (xs 1), .ref mm]) rfl ?_
  refine lv_aload_n hx hb d_law_407 rfl (lv_at hl 5 rfl) ?_
  refine lv_iload hx hb d_law_408 (lv_at hl 1 rfl) ?_
  refine lv_iconst (v := 4) hx hb d_law_410 (by decide) ?_
  refine lv_iadd hx hb d_law_411 ?_
  refine lv_topi (fun v11 hv11 => ?_)
  have hv11 : v11 = 4 := hv11.trans (by decide)
  subst hv11
  refine va_sld hx hb hX hbl hbA hS (i := 4) (by unfold vp_in; decide) d_law_412 ?_
  refine W.eq (g2 := F0 m 413 ls [.int (xs 4), .int (xs 3), .int (xs 2), .int (xs 1), .ref mm]) rfl ?_
  refine lv_aload_n hx hb d_law_413 rfl (lv_at hl 5 rfl) ?_
  refine lv_iload hx hb d_law_414 (lv_at hl 1 rfl) ?_
  refine lv_iconst (v := 5) hx hb d_law_416 (by decide) ?_
  refine lv_iadd hx hb d_law_417 ?_
  refine lv_topi (fun v12 hv12 => ?_)
  have hv12 : v12 = 5 := hv12.trans (by decide)
  subst hv12
  refine va_sld hx hb hX hbl hbA hS (i := 5) (by unfold vp_in; decide) d_law_418 ?_
  refine W.eq (g2 := F0 m 419 ls [.int (xs 5), .int (xs 4), .int (xs 3), .int (xs 2), .int (xs 1), .ref mm]) rfl ?_
  refine va_callv (va_runV (As := [.int (xs 1), .int (xs 2), .int (xs 3), .int (xs 4), .int (xs 5)]) (rest := []) ⟨hx, hb, hml, hown, hts⟩ (c_M_move (D := D) (t := t) (z := z) (sa := sa) (ws := w6) (a0 := xs 1) (a1 := xs 2) (a2 := xs 3) (a3 := xs 4) (a4 := xs 5) e34) (cwV 5 hts (gd_V ml_L_97 im_M_move se_M_move in_M cd_M_move) rfl rfl rfl (by decide +kernel) ⟨Nat.le_of_ble_eq_true rfl, Nat.le_of_ble_eq_true rfl⟩) ⟨Pz_blind, va_recv hK hP (ci := 6) rfl e34, Pz_at hP hK hD hz hM hS⟩ rfl rfl hl.1 rfl (lv_room (Nat.le_of_ble_eq_true rfl)) d_law_419 ⟨Nat.le_of_ble_eq_true rfl, Nat.le_of_ble_eq_true rfl⟩) hS (fun q _ h => h) (fun q h => h) (fun w13 t9 H locs ht hvm hp hB hz1 hk1 hS => ?_)
  obtain ⟨hP, hK9, hD, -⟩ := hB
  rw [ht] at hP
  clear hK9
  obtain ⟨hC9, kf34⟩ := hp
  have e0 : w13[0]? = some (x, .inr (5, [.ref xf, .ref xj, .ref xl, .ref fu, .ref xr, .int 1, .int 0, .int 0, .int 0, .int 0])) := hC9.keep e0 (by decide)
  have e1 : w13[1]? = some (xf, .inr (3, [.ref fb, .int 0])) := hC9.keep e1 (by decide)
  have e4 : w13[4]? = some (xj, .inr (3, [.ref jb, .int 0])) := hC9.keep e4 (by decide)
  have e7 : w13[7]? = some (xl, .inl (t 3, 6, .inr (.inr (.inr (.inr gl))))) := hC9.keep e7 (by decide)
  have e8 : w13[8]? = some (fu, .inr (2, [.int 4, .int 0, .int 0, .int 0])) := hC9.keep e8 (by decide)
  have e10 : w13[10]? = some (l0, .inr (4, [.ref lb, .ref he, .int 0])) := hC9.keep e10 (by decide)
  have e13 : w13[13]? = some (he, .inl (t 1, 768, .inl (fun _ => 0))) := hC9.keep e13 (by decide)
  have e34 : w13[34]? = some (mm, .inr (6, [.ref mb, .ref ms9, .int 1, .int 1, .ref mn, .ref ml, .ref mk9, .ref mq, .int 0, .int 0, .int 0, .int 0, .int 0, .int 0, .int 4, .int 0, .int 1])) := kf34
  have e41 : w13[41]? = some (oo, .inl (t 5, 1, .inr (.inl F00))) := hC9.keep e41 (by decide)
  have hC := hC.trans hC9
  refine lv_aload_n hx hb d_law_422 rfl (lv_at hl 3 rfl) ?_
  refine va_calli (va_runV (As := []) (rest := []) ⟨hx, hb, hml, hown, hts⟩ (c_M_thrown (D := D) (t := t) (z := z) (sa := sa) (ws := w13)  e34) (cwV 0 hts (gd_V ml_L_80 im_M_thrown se_M_thrown in_M cd_M_thrown) rfl rfl rfl (by decide +kernel) ⟨Nat.le_of_ble_eq_true rfl, Nat.le_of_ble_eq_true rfl⟩) ⟨Pz_blind, va_recv hK hP (ci := 6) rfl e34, Pz_at hP hK hD hz hM hS⟩ rfl rfl hl.1 rfl (lv_room (Nat.le_of_ble_eq_true rfl)) d_law_423 ⟨Nat.le_of_ble_eq_true rfl, Nat.le_of_ble_eq_true rfl⟩) hS (fun q _ h => h) (fun q h => h) (fun r16 w15 t9 H locs ht hvm hp hB hz1 hk1 hS => ?_)
  obtain ⟨hP, hK9, hD, -⟩ := hB
  rw [ht] at hP
  clear hK9
  obtain ⟨hr9, hw9⟩ := hp
  rw [hw9] at hP hD
  clear hw9
  subst hr9
  refine lv_iload hx hb d_law_426 (lv_at hl 0 rfl) ?_
  refine lv_icmp_eq (tgt := 433) hx hb d_law_428 rfl (fun _ => ?_) (fun h => absurd h (by decide))
  refine lv_goto (tgt := 839) hx hb d_law_433 rfl ?_
  refine lv_iinc (k := 1) (v := 6) (lv' := [(4, .int 6), (5, .int 1), (3, .ref oo), (2, .ref mm), (1, .ref x), (0, .ref b)]) hx hb d_law_839 hl rfl (by decide) (by decide) rfl (fun ls hl => ?_)
  refine lv_goto (tgt := 23) hx hb d_law_842 rfl ?_
  subst hz0
  exact lw_exit hx hb hr hlocks hX hbl hS hl 0 5 rfl rfl (by decide) (Nat.le_of_ble_eq_true rfl) (Nat.le_of_ble_eq_true rfl)
set_option maxHeartbeats 4000000 in
set_option maxRecDepth 100000 in
theorem lc_5 {p : Program} {l : Launch} {e : Env} {s : State} {m : MethodId} {below : List Frame} {meth : Method} {c : Code} {b : Nat} {xs : Nat → Int32} {D : va_G} {t : Nat → ClassId} {z : Nat} {sa : Nat → Nat} {ws : va_W} {x xf xj xl fu xr fb jb l0 lb he mm mb ms9 mn ml mk9 mq oo : Nat} {gl : Nat → Option Nat} {H : Heap} {locs : List Loc} {ls : Array Slot} (hl0 : l.stackTraces = false) (hx : p.tables.exec = Jvm.exec) (hb : c.code = code) (hr : meth.sig.returnType = ret) (hml : c.maxLocals = 8) (hown : s.vm.findClass R_L = some m.cls) (hts : ∀ w ∈ WS, w.before #[Value.ref b] s = true) (hlocks : meth.locks = false) (hX : va_X b 6 xs s s.heap) (hbl : b < s.heap.size) (hK : va_K D Cl (Ty t) s) (hM : Am z sa s) (hz0 : z = s.heap.size) (hP : va_P D Cl ws H) (hD : va_D (Az z) ws) (hS : va_S (Az z) s.heap H locs) (hg0 : gl 0 = some l0) (e0 : ws[0]? = some (x, .inr (5, [.ref xf, .ref xj, .ref xl, .ref fu, .ref xr, .int 1, .int 0, .int 0, .int 0, .int 0]))) (e1 : ws[1]? = some (xf, .inr (3, [.ref fb, .int 0]))) (e4 : ws[4]? = some (xj, .inr (3, [.ref jb, .int 0]))) (e7 : ws[7]? = some (xl, .inl (t 3, 6, .inr (.inr (.inr (.inr gl)))))) (e8 : ws[8]? = some (fu, .inr (2, [.int 4, .int 0, .int 0, .int 0]))) (e10 : ws[10]? = some (l0, .inr (4, [.ref lb, .ref he, .int 0]))) (e13 : ws[13]? = some (he, .inl (t 1, 768, .inl (fun _ => 0)))) (e34 : ws[34]? = some (mm, .inr (6, [.ref mb, .ref ms9, .int 1, .int 1, .ref mn, .ref ml, .ref mk9, .ref mq, .int 0, .int 0, .int 0, .int 0, .int 0, .int 0, .int 4, .int 0, .int 0]))) (e41 : ws[41]? = some (oo, .inl (t 5, 1, .inr (.inl F00)))) (hl : lv_has ls 8 [(4, .int 0), (3, .ref oo), (2, .ref mm), (1, .ref x), (0, .ref b)])  : W p l e room_1 s m #[Value.ref b] below meth c H locs 42 1071195 (lw_Z below #[Value.ref b] s) (F0 m 436 ls []) := by
  have hz : z ≤ s.heap.size := Nat.le_of_eq hz0
  have hbA : ¬ Az z b := fun h => absurd hbl (Nat.not_lt.mpr (by rw [← hz0]; exact h))
  have hC : Ch ws ws [] := Ch.rf
  refine lv_aload_n hx hb d_law_436 rfl (lv_at hl 3 rfl) ?_
  refine lv_aload_n hx hb d_law_437 rfl (lv_at hl 4 rfl) ?_
  refine lv_iload hx hb d_law_438 (lv_at hl 0 rfl) ?_
  refine lv_iconst (v := 1) hx hb d_law_440 (by decide) ?_
  refine lv_iadd hx hb d_law_441 ?_
  refine lv_topi (fun v1 hv1 => ?_)
  have hv1 : v1 = 1 := hv1.trans (by decide)
  subst hv1
  refine va_sld hx hb hX hbl hbA hS (i := 1) (by unfold vp_in; decide) d_law_442 ?_
  refine W.eq (g2 := F0 m 443 ls [.int (xs 1), .ref x]) rfl ?_
  refine lv_aload_n hx hb d_law_443 rfl (lv_at hl 1 rfl) ?_
  refine va_calli (vx_runSW (As := [.ref x, .int (xs 1), .ref oo]) (rest := []) ⟨hx, hb, hml, hown, hts⟩ (c_L_sum (D := D) (t := t) (z := z) (sa := sa) (ws := ws) (a0 := xs 1) hl0 e0 e41) (vx_cwSW 3 hts (gd_SW ml_L_98 st_L_sum in_L cd_L_sum) rfl rfl rfl (by decide +kernel) ⟨Nat.le_of_ble_eq_true rfl, Nat.le_of_ble_eq_true rfl⟩) ⟨Pz_blind, Pz_at hP hK hD hz hM hS⟩ rfl rfl hl.1 rfl (lv_room (Nat.le_of_ble_eq_true rfl)) d_law_444 ⟨Nat.le_of_ble_eq_true rfl, Nat.le_of_ble_eq_true rfl⟩) hS (fun q _ h => h) (fun q h => h) (fun r3 w2 t9 H locs ht hvm hp hB hz1 hk1 hS => ?_)
  obtain ⟨hP, hK9, hD, -⟩ := hB
  rw [ht] at hP
  clear hK9
  obtain ⟨hr9, hC9⟩ := hp
  subst hr9
  have e0 : w2[0]? = some (x, .inr (5, [.ref xf, .ref xj, .ref xl, .ref fu, .ref xr, .int 1, .int 0, .int 0, .int 0, .int 0])) := hC9.keep e0 (by decide)
  have e1 : w2[1]? = some (xf, .inr (3, [.ref fb, .int 0])) := hC9.keep e1 (by decide)
  have e4 : w2[4]? = some (xj, .inr (3, [.ref jb, .int 0])) := hC9.keep e4 (by decide)
  have e7 : w2[7]? = some (xl, .inl (t 3, 6, .inr (.inr (.inr (.inr gl))))) := hC9.keep e7 (by decide)
  have e8 : w2[8]? = some (fu, .inr (2, [.int 4, .int 0, .int 0, .int 0])) := hC9.keep e8 (by decide)
  have e10 : w2[10]? = some (l0, .inr (4, [.ref lb, .ref he, .int 0])) := hC9.keep e10 (by decide)
  have e13 : w2[13]? = some (he, .inl (t 1, 768, .inl (fun _ => 0))) := hC9.keep e13 (by decide)
  have e34 : w2[34]? = some (mm, .inr (6, [.ref mb, .ref ms9, .int 1, .int 1, .ref mn, .ref ml, .ref mk9, .ref mq, .int 0, .int 0, .int 0, .int 0, .int 0, .int 0, .int 4, .int 0, .int 0])) := hC9.keep e34 (by decide)
  have e41 : w2[41]? = some (oo, .inl (t 5, 1, .inr (.inl F00))) := hC9.keep e41 (by decide)
  have hC := hC.trans hC9
  refine lv_istore (lv' := [(5, .int 2), (4, .int 0), (3, .ref oo), (2, .ref mm), (1, .ref x), (0, .ref b)]) hx hb d_law_447 hl (by decide) rfl (fun ls hl => ?_)
  refine lv_aload_n hx hb d_law_449 rfl (lv_at hl 3 rfl) ?_
  refine lv_aload_n hx hb d_law_450 rfl (lv_at hl 5 rfl) ?_
  refine lv_iload hx hb d_law_451 (lv_at hl 1 rfl) ?_
  refine lv_iconst (v := 1) hx hb d_law_453 (by decide) ?_
  refine lv_iadd hx hb d_law_454 ?_
  refine lv_topi (fun v4 hv4 => ?_)
  have hv4 : v4 = 1 := hv4.trans (by decide)
  subst hv4
  refine va_sld hx hb hX hbl hbA hS (i := 1) (by unfold vp_in; decide) d_law_455 ?_
  refine W.eq (g2 := F0 m 456 ls [.int (xs 1), .ref mm]) rfl ?_
  refine va_calll (va_runV (As := [.int (xs 1)]) (rest := []) ⟨hx, hb, hml, hown, hts⟩ (c_M_sum (D := D) (t := t) (z := z) (sa := sa) (ws := w2) (a0 := xs 1) e34) (cwV 1 hts (gd_V ml_L_101 im_M_sum se_M_sum in_M cd_M_sum) rfl rfl rfl (by decide +kernel) ⟨Nat.le_of_ble_eq_true rfl, Nat.le_of_ble_eq_true rfl⟩) ⟨Pz_blind, va_recv hK hP (ci := 6) rfl e34, Pz_at hP hK hD hz hM hS⟩ rfl rfl hl.1 rfl (lv_room (Nat.le_of_ble_eq_true rfl)) d_law_456 ⟨Nat.le_of_ble_eq_true rfl, Nat.le_of_ble_eq_true rfl⟩) hS (fun q _ h => h) (fun q h => h) (fun r6 w5 t9 H locs ht hvm hp hB hz1 hk1 hS => ?_)
  obtain ⟨hP, hK9, hD, -⟩ := hB
  rw [ht] at hP
  clear hK9
  obtain ⟨hr9, hC9, kf34⟩ := hp
  subst hr9
  have e0 : w5[0]? = some (x, .inr (5, [.ref xf, .ref xj, .ref xl, .ref fu, .ref xr, .int 1, .int 0, .int 0, .int 0, .int 0])) := hC9.keep e0 (by decide)
  have e1 : w5[1]? = some (xf, .inr (3, [.ref fb, .int 0])) := hC9.keep e1 (by decide)
  have e4 : w5[4]? = some (xj, .inr (3, [.ref jb, .int 0])) := hC9.keep e4 (by decide)
  have e7 : w5[7]? = some (xl, .inl (t 3, 6, .inr (.inr (.inr (.inr gl))))) := hC9.keep e7 (by decide)
  have e8 : w5[8]? = some (fu, .inr (2, [.int 4, .int 0, .int 0, .int 0])) := hC9.keep e8 (by decide)
  have e10 : w5[10]? = some (l0, .inr (4, [.ref lb, .ref he, .int 0])) := hC9.keep e10 (by decide)
  have e13 : w5[13]? = some (he, .inl (t 1, 768, .inl (fun _ => 0))) := hC9.keep e13 (by decide)
  have e34 : w5[34]? = some (mm, .inr (6, [.ref mb, .ref ms9, .int 1, .int 1, .ref mn, .ref ml, .ref mk9, .ref mq, .int 0, .int 0, .int 0, .int 0, .int 0, .int 0, .int 4, .int 0, .int 2])) := kf34
  have e41 : w5[41]? = some (oo, .inl (t 5, 1, .inr (.inl F00))) := hC9.keep e41 (by decide)
  have hC := hC.trans hC9
  refine lv_lstore (lv' := [(6, .long 0), (5, .int 2), (4, .int 0), (3, .ref oo), (2, .ref mm), (1, .ref x), (0, .ref b)]) hx hb d_law_459 hl (by decide) rfl (fun ls hl => ?_)
  refine lv_aload_n hx hb d_law_461 rfl (lv_at hl 4 rfl) ?_
  refine va_calli (va_runV (As := []) (rest := []) ⟨hx, hb, hml, hown, hts⟩ (c_M_thrown (D := D) (t := t) (z := z) (sa := sa) (ws := w5)  e34) (cwV 0 hts (gd_V ml_L_80 im_M_thrown se_M_thrown in_M cd_M_thrown) rfl rfl rfl (by decide +kernel) ⟨Nat.le_of_ble_eq_true rfl, Nat.le_of_ble_eq_true rfl⟩) ⟨Pz_blind, va_recv hK hP (ci := 6) rfl e34, Pz_at hP hK hD hz hM hS⟩ rfl rfl hl.1 rfl (lv_room (Nat.le_of_ble_eq_true rfl)) d_law_462 ⟨Nat.le_of_ble_eq_true rfl, Nat.le_of_ble_eq_true rfl⟩) hS (fun q _ h => h) (fun q h => h) (fun r8 w7 t9 H locs ht hvm hp hB hz1 hk1 hS => ?_)
  obtain ⟨hP, hK9, hD, -⟩ := hB
  rw [ht] at hP
  clear hK9
  obtain ⟨hr9, hw9⟩ := hp
  rw [hw9] at hP hD
  clear hw9
  subst hr9
  refine lv_iload hx hb d_law_465 (lv_at hl 1 rfl) ?_
  refine lv_icmp_eq (tgt := 472) hx hb d_law_467 rfl (fun _ => ?_) (fun h => absurd h (by decide))
  refine lv_iload hx hb d_law_472 (lv_at hl 1 rfl) ?_
  refine lv_if_ne (tgt := 488) hx hb d_law_474 rfl (fun _ => ?_) (fun h => absurd h (by decide))
  refine lv_goto (tgt := 839) hx hb d_law_488 rfl ?_
  refine lv_iinc (k := 2) (v := 6) (lv' := [(4, .int 6), (6, .long 0), (5, .int 2), (3, .ref oo), (2, .ref mm), (1, .ref x), (0, .ref b)]) hx hb d_law_839 hl rfl (by decide) (by decide) rfl (fun ls hl => ?_)
  refine lv_goto (tgt := 23) hx hb d_law_842 rfl ?_
  subst hz0
  exact lw_exit hx hb hr hlocks hX hbl hS hl 0 6 rfl rfl (by decide) (Nat.le_of_ble_eq_true rfl) (Nat.le_of_ble_eq_true rfl)
set_option maxHeartbeats 4000000 in
set_option maxRecDepth 100000 in
theorem lc_6 {p : Program} {l : Launch} {e : Env} {s : State} {m : MethodId} {below : List Frame} {meth : Method} {c : Code} {b : Nat} {xs : Nat → Int32} {D : va_G} {t : Nat → ClassId} {z : Nat} {sa : Nat → Nat} {ws : va_W} {x xf xj xl fu xr fb jb l0 lb he mm mb ms9 mn ml mk9 mq oo : Nat} {gl : Nat → Option Nat} {H : Heap} {locs : List Loc} {ls : Array Slot} (hl0 : l.stackTraces = false) (hx : p.tables.exec = Jvm.exec) (hb : c.code = code) (hr : meth.sig.returnType = ret) (hml : c.maxLocals = 8) (hown : s.vm.findClass R_L = some m.cls) (hts : ∀ w ∈ WS, w.before #[Value.ref b] s = true) (hlocks : meth.locks = false) (hX : va_X b 6 xs s s.heap) (hbl : b < s.heap.size) (hK : va_K D Cl (Ty t) s) (hM : Am z sa s) (hz0 : z = s.heap.size) (hP : va_P D Cl ws H) (hD : va_D (Az z) ws) (hS : va_S (Az z) s.heap H locs) (hg0 : gl 0 = some l0) (e0 : ws[0]? = some (x, .inr (5, [.ref xf, .ref xj, .ref xl, .ref fu, .ref xr, .int 1, .int 0, .int 0, .int 0, .int 0]))) (e1 : ws[1]? = some (xf, .inr (3, [.ref fb, .int 0]))) (e4 : ws[4]? = some (xj, .inr (3, [.ref jb, .int 0]))) (e7 : ws[7]? = some (xl, .inl (t 3, 6, .inr (.inr (.inr (.inr gl)))))) (e8 : ws[8]? = some (fu, .inr (2, [.int 4, .int 0, .int 0, .int 0]))) (e10 : ws[10]? = some (l0, .inr (4, [.ref lb, .ref he, .int 0]))) (e13 : ws[13]? = some (he, .inl (t 1, 768, .inl (fun _ => 0)))) (e34 : ws[34]? = some (mm, .inr (6, [.ref mb, .ref ms9, .int 1, .int 1, .ref mn, .ref ml, .ref mk9, .ref mq, .int 0, .int 0, .int 0, .int 0, .int 0, .int 0, .int 4, .int 0, .int 0]))) (e41 : ws[41]? = some (oo, .inl (t 5, 1, .inr (.inl F00)))) (hl : lv_has ls 8 [(4, .int 0), (3, .ref oo), (2, .ref mm), (1, .ref x), (0, .ref b)])  : W p l e room_1 s m #[Value.ref b] below meth c H locs 42 1071195 (lw_Z below #[Value.ref b] s) (F0 m 491 ls []) := by
  have hz : z ≤ s.heap.size := Nat.le_of_eq hz0
  have hbA : ¬ Az z b := fun h => absurd hbl (Nat.not_lt.mpr (by rw [← hz0]; exact h))
  have hC : Ch ws ws [] := Ch.rf
  refine lv_aload_n hx hb d_law_491 rfl (lv_at hl 3 rfl) ?_
  refine va_calli (vx_runSW (As := [.ref x]) (rest := []) ⟨hx, hb, hml, hown, hts⟩ (c_L_begin (D := D) (t := t) (z := z) (sa := sa) (ws := ws)  e0) (vx_cwSW 1 hts (gd_SW ml_L_102 st_L_begin in_L cd_L_begin) rfl rfl rfl (by decide +kernel) ⟨Nat.le_of_ble_eq_true rfl, Nat.le_of_ble_eq_true rfl⟩) ⟨Pz_blind, Pz_at hP hK hD hz hM hS⟩ rfl rfl hl.1 rfl (lv_room (Nat.le_of_ble_eq_true rfl)) d_law_492 ⟨Nat.le_of_ble_eq_true rfl, Nat.le_of_ble_eq_true rfl⟩) hS (fun q _ h => h) (fun q h => h) (fun r2 w1 t9 H locs ht hvm hp hB hz1 hk1 hS => ?_)
  obtain ⟨hP, hK9, hD, -⟩ := hB
  rw [ht] at hP
  clear hK9
  obtain ⟨hr9, hC9⟩ := hp
  subst hr9
  have e1 : w1[1]? = some (xf, .inr (3, [.ref fb, .int 0])) := hC9.keep e1 (by decide)
  have e4 : w1[4]? = some (xj, .inr (3, [.ref jb, .int 0])) := hC9.keep e4 (by decide)
  have e7 : w1[7]? = some (xl, .inl (t 3, 6, .inr (.inr (.inr (.inr gl))))) := hC9.keep e7 (by decide)
  have e8 : w1[8]? = some (fu, .inr (2, [.int 4, .int 0, .int 0, .int 0])) := hC9.keep e8 (by decide)
  have e10 : w1[10]? = some (l0, .inr (4, [.ref lb, .ref he, .int 0])) := hC9.keep e10 (by decide)
  have e13 : w1[13]? = some (he, .inl (t 1, 768, .inl (fun _ => 0))) := hC9.keep e13 (by decide)
  have e34 : w1[34]? = some (mm, .inr (6, [.ref mb, .ref ms9, .int 1, .int 1, .ref mn, .ref ml, .ref mk9, .ref mq, .int 0, .int 0, .int 0, .int 0, .int 0, .int 0, .int 4, .int 0, .int 0])) := hC9.keep e34 (by decide)
  have e41 : w1[41]? = some (oo, .inl (t 5, 1, .inr (.inl F00))) := hC9.keep e41 (by decide)
  have hC := hC.trans hC9
  refine lv_istore (lv' := [(5, .int 0), (4, .int 0), (3, .ref oo), (2, .ref mm), (1, .ref x), (0, .ref b)]) hx hb d_law_495 hl (by decide) rfl (fun ls hl => ?_)
  refine lv_aload_n hx hb d_law_497 rfl (lv_at hl 3 rfl) ?_
  refine va_callv (va_runV (As := []) (rest := []) ⟨hx, hb, hml, hown, hts⟩ (c_M_begin (D := D) (t := t) (z := z) (sa := sa) (ws := w1)  e34) (cwV 0 hts (gd_V ml_L_105 im_M_begin se_M_begin in_M cd_M_begin) rfl rfl rfl (by decide +kernel) ⟨Nat.le_of_ble_eq_true rfl, Nat.le_of_ble_eq_true rfl⟩) ⟨Pz_blind, va_recv hK hP (ci := 6) rfl e34, Pz_at hP hK hD hz hM hS⟩ rfl rfl hl.1 rfl (lv_room (Nat.le_of_ble_eq_true rfl)) d_law_498 ⟨Nat.le_of_ble_eq_true rfl, Nat.le_of_ble_eq_true rfl⟩) hS (fun q _ h => h) (fun q h => h) (fun w3 t9 H locs ht hvm hp hB hz1 hk1 hS => ?_)
  obtain ⟨hP, hK9, hD, -⟩ := hB
  rw [ht] at hP
  clear hK9
  obtain ⟨hC9, kf34⟩ := hp
  have e1 : w3[1]? = some (xf, .inr (3, [.ref fb, .int 0])) := hC9.keep e1 (by decide)
  have e4 : w3[4]? = some (xj, .inr (3, [.ref jb, .int 0])) := hC9.keep e4 (by decide)
  have e7 : w3[7]? = some (xl, .inl (t 3, 6, .inr (.inr (.inr (.inr gl))))) := hC9.keep e7 (by decide)
  have e8 : w3[8]? = some (fu, .inr (2, [.int 4, .int 0, .int 0, .int 0])) := hC9.keep e8 (by decide)
  have e10 : w3[10]? = some (l0, .inr (4, [.ref lb, .ref he, .int 0])) := hC9.keep e10 (by decide)
  have e13 : w3[13]? = some (he, .inl (t 1, 768, .inl (fun _ => 0))) := hC9.keep e13 (by decide)
  have e34 : w3[34]? = some (mm, .inr (6, [.ref mb, .ref ms9, .int 1, .int 2, .ref mn, .ref ml, .ref mk9, .ref mq, .int 0, .int 0, .int 0, .int 0, .int 0, .int 1, .int 4, .int 0, .int 0])) := kf34
  have e41 : w3[41]? = some (oo, .inl (t 5, 1, .inr (.inl F00))) := hC9.keep e41 (by decide)
  have hC := hC.trans hC9
  refine lv_aload_n hx hb d_law_501 rfl (lv_at hl 3 rfl) ?_
  refine va_calli (va_runV (As := []) (rest := []) ⟨hx, hb, hml, hown, hts⟩ (c_M_thrown (D := D) (t := t) (z := z) (sa := sa) (ws := w3)  e34) (cwV 0 hts (gd_V ml_L_80 im_M_thrown se_M_thrown in_M cd_M_thrown) rfl rfl rfl (by decide +kernel) ⟨Nat.le_of_ble_eq_true rfl, Nat.le_of_ble_eq_true rfl⟩) ⟨Pz_blind, va_recv hK hP (ci := 6) rfl e34, Pz_at hP hK hD hz hM hS⟩ rfl rfl hl.1 rfl (lv_room (Nat.le_of_ble_eq_true rfl)) d_law_502 ⟨Nat.le_of_ble_eq_true rfl, Nat.le_of_ble_eq_true rfl⟩) hS (fun q _ h => h) (fun q h => h) (fun r6 w5 t9 H locs ht hvm hp hB hz1 hk1 hS => ?_)
  obtain ⟨hP, hK9, hD, -⟩ := hB
  rw [ht] at hP
  clear hK9
  obtain ⟨hr9, hw9⟩ := hp
  rw [hw9] at hP hD
  clear hw9
  subst hr9
  refine lv_iload hx hb d_law_505 (lv_at hl 0 rfl) ?_
  refine lv_icmp_eq (tgt := 512) hx hb d_law_507 rfl (fun _ => ?_) (fun h => absurd h (by decide))
  refine lv_goto (tgt := 839) hx hb d_law_512 rfl ?_
  refine lv_iinc (k := 1) (v := 6) (lv' := [(4, .int 6), (5, .int 0), (3, .ref oo), (2, .ref mm), (1, .ref x), (0, .ref b)]) hx hb d_law_839 hl rfl (by decide) (by decide) rfl (fun ls hl => ?_)
  refine lv_goto (tgt := 23) hx hb d_law_842 rfl ?_
  subst hz0
  exact lw_exit hx hb hr hlocks hX hbl hS hl 0 5 rfl rfl (by decide) (Nat.le_of_ble_eq_true rfl) (Nat.le_of_ble_eq_true rfl)
set_option maxHeartbeats 4000000 in
set_option maxRecDepth 100000 in
theorem lc_7 {p : Program} {l : Launch} {e : Env} {s : State} {m : MethodId} {below : List Frame} {meth : Method} {c : Code} {b : Nat} {xs : Nat → Int32} {D : va_G} {t : Nat → ClassId} {z : Nat} {sa : Nat → Nat} {ws : va_W} {x xf xj xl fu xr fb jb l0 lb he mm mb ms9 mn ml mk9 mq oo : Nat} {gl : Nat → Option Nat} {H : Heap} {locs : List Loc} {ls : Array Slot} (hl0 : l.stackTraces = false) (hx : p.tables.exec = Jvm.exec) (hb : c.code = code) (hr : meth.sig.returnType = ret) (hml : c.maxLocals = 8) (hown : s.vm.findClass R_L = some m.cls) (hts : ∀ w ∈ WS, w.before #[Value.ref b] s = true) (hlocks : meth.locks = false) (hX : va_X b 6 xs s s.heap) (hbl : b < s.heap.size) (hK : va_K D Cl (Ty t) s) (hM : Am z sa s) (hz0 : z = s.heap.size) (hP : va_P D Cl ws H) (hD : va_D (Az z) ws) (hS : va_S (Az z) s.heap H locs) (hg0 : gl 0 = some l0) (e0 : ws[0]? = some (x, .inr (5, [.ref xf, .ref xj, .ref xl, .ref fu, .ref xr, .int 1, .int 0, .int 0, .int 0, .int 0]))) (e1 : ws[1]? = some (xf, .inr (3, [.ref fb, .int 0]))) (e4 : ws[4]? = some (xj, .inr (3, [.ref jb, .int 0]))) (e7 : ws[7]? = some (xl, .inl (t 3, 6, .inr (.inr (.inr (.inr gl)))))) (e8 : ws[8]? = some (fu, .inr (2, [.int 4, .int 0, .int 0, .int 0]))) (e10 : ws[10]? = some (l0, .inr (4, [.ref lb, .ref he, .int 0]))) (e13 : ws[13]? = some (he, .inl (t 1, 768, .inl (fun _ => 0)))) (e34 : ws[34]? = some (mm, .inr (6, [.ref mb, .ref ms9, .int 1, .int 1, .ref mn, .ref ml, .ref mk9, .ref mq, .int 0, .int 0, .int 0, .int 0, .int 0, .int 0, .int 4, .int 0, .int 0]))) (e41 : ws[41]? = some (oo, .inl (t 5, 1, .inr (.inl F00)))) (hl : lv_has ls 8 [(4, .int 0), (3, .ref oo), (2, .ref mm), (1, .ref x), (0, .ref b)])  : W p l e room_1 s m #[Value.ref b] below meth c H locs 42 1071195 (lw_Z below #[Value.ref b] s) (F0 m 515 ls []) := by
  have hz : z ≤ s.heap.size := Nat.le_of_eq hz0
  have hbA : ¬ Az z b := fun h => absurd hbl (Nat.not_lt.mpr (by rw [← hz0]; exact h))
  have hC : Ch ws ws [] := Ch.rf
  refine lv_aload_n hx hb d_law_515 rfl (lv_at hl 3 rfl) ?_
  refine va_calli (vx_runSW (As := [.ref x]) (rest := []) ⟨hx, hb, hml, hown, hts⟩ (c_L_commit (D := D) (t := t) (z := z) (sa := sa) (ws := ws)  hl0 e0) (vx_cwSW 1 hts (gd_SW ml_L_106 st_L_commit in_L cd_L_commit) rfl rfl rfl (by decide +kernel) ⟨Nat.le_of_ble_eq_true rfl, Nat.le_of_ble_eq_true rfl⟩) ⟨Pz_blind, Pz_at hP hK hD hz hM hS⟩ rfl rfl hl.1 rfl (lv_room (Nat.le_of_ble_eq_true rfl)) d_law_516 ⟨Nat.le_of_ble_eq_true rfl, Nat.le_of_ble_eq_true rfl⟩) hS (fun q _ h => h) (fun q h => h) (fun r2 w1 t9 H locs ht hvm hp hB hz1 hk1 hS => ?_)
  obtain ⟨hP, hK9, hD, -⟩ := hB
  rw [ht] at hP
  clear hK9
  obtain ⟨hr9, hC9⟩ := hp
  subst hr9
  have e0 : w1[0]? = some (x, .inr (5, [.ref xf, .ref xj, .ref xl, .ref fu, .ref xr, .int 1, .int 0, .int 0, .int 0, .int 0])) := hC9.keep e0 (by decide)
  have e1 : w1[1]? = some (xf, .inr (3, [.ref fb, .int 0])) := hC9.keep e1 (by decide)
  have e4 : w1[4]? = some (xj, .inr (3, [.ref jb, .int 0])) := hC9.keep e4 (by decide)
  have e7 : w1[7]? = some (xl, .inl (t 3, 6, .inr (.inr (.inr (.inr gl))))) := hC9.keep e7 (by decide)
  have e8 : w1[8]? = some (fu, .inr (2, [.int 4, .int 0, .int 0, .int 0])) := hC9.keep e8 (by decide)
  have e10 : w1[10]? = some (l0, .inr (4, [.ref lb, .ref he, .int 0])) := hC9.keep e10 (by decide)
  have e13 : w1[13]? = some (he, .inl (t 1, 768, .inl (fun _ => 0))) := hC9.keep e13 (by decide)
  have e34 : w1[34]? = some (mm, .inr (6, [.ref mb, .ref ms9, .int 1, .int 1, .ref mn, .ref ml, .ref mk9, .ref mq, .int 0, .int 0, .int 0, .int 0, .int 0, .int 0, .int 4, .int 0, .int 0])) := hC9.keep e34 (by decide)
  have e41 : w1[41]? = some (oo, .inl (t 5, 1, .inr (.inl F00))) := hC9.keep e41 (by decide)
  have hC := hC.trans hC9
  refine lv_istore (lv' := [(5, .int 1), (4, .int 0), (3, .ref oo), (2, .ref mm), (1, .ref x), (0, .ref b)]) hx hb d_law_519 hl (by decide) rfl (fun ls hl => ?_)
  refine lv_aload_n hx hb d_law_521 rfl (lv_at hl 3 rfl) ?_
  refine va_callv (va_runV (As := []) (rest := []) ⟨hx, hb, hml, hown, hts⟩ (c_M_commit (D := D) (t := t) (z := z) (sa := sa) (ws := w1)  e34) (cwV 0 hts (gd_V ml_L_108 im_M_commit se_M_commit in_M cd_M_commit) rfl rfl rfl (by decide +kernel) ⟨Nat.le_of_ble_eq_true rfl, Nat.le_of_ble_eq_true rfl⟩) ⟨Pz_blind, va_recv hK hP (ci := 6) rfl e34, Pz_at hP hK hD hz hM hS⟩ rfl rfl hl.1 rfl (lv_room (Nat.le_of_ble_eq_true rfl)) d_law_522 ⟨Nat.le_of_ble_eq_true rfl, Nat.le_of_ble_eq_true rfl⟩) hS (fun q _ h => h) (fun q h => h) (fun w3 t9 H locs ht hvm hp hB hz1 hk1 hS => ?_)
  obtain ⟨hP, hK9, hD, -⟩ := hB
  rw [ht] at hP
  clear hK9
  obtain ⟨hC9, kf34⟩ := hp
  have e0 : w3[0]? = some (x, .inr (5, [.ref xf, .ref xj, .ref xl, .ref fu, .ref xr, .int 1, .int 0, .int 0, .int 0, .int 0])) := hC9.keep e0 (by decide)
  have e1 : w3[1]? = some (xf, .inr (3, [.ref fb, .int 0])) := hC9.keep e1 (by decide)
  have e4 : w3[4]? = some (xj, .inr (3, [.ref jb, .int 0])) := hC9.keep e4 (by decide)
  have e7 : w3[7]? = some (xl, .inl (t 3, 6, .inr (.inr (.inr (.inr gl))))) := hC9.keep e7 (by decide)
  have e8 : w3[8]? = some (fu, .inr (2, [.int 4, .int 0, .int 0, .int 0])) := hC9.keep e8 (by decide)
  have e10 : w3[10]? = some (l0, .inr (4, [.ref lb, .ref he, .int 0])) := hC9.keep e10 (by decide)
  have e13 : w3[13]? = some (he, .inl (t 1, 768, .inl (fun _ => 0))) := hC9.keep e13 (by decide)
  have e34 : w3[34]? = some (mm, .inr (6, [.ref mb, .ref ms9, .int 1, .int 1, .ref mn, .ref ml, .ref mk9, .ref mq, .int 0, .int 0, .int 0, .int 0, .int 0, .int 0, .int 4, .int 0, .int 1])) := kf34
  have e41 : w3[41]? = some (oo, .inl (t 5, 1, .inr (.inl F00))) := hC9.keep e41 (by decide)
  have hC := hC.trans hC9
  refine lv_aload_n hx hb d_law_525 rfl (lv_at hl 3 rfl) ?_
  refine va_calli (va_runV (As := []) (rest := []) ⟨hx, hb, hml, hown, hts⟩ (c_M_thrown (D := D) (t := t) (z := z) (sa := sa) (ws := w3)  e34) (cwV 0 hts (gd_V ml_L_80 im_M_thrown se_M_thrown in_M cd_M_thrown) rfl rfl rfl (by decide +kernel) ⟨Nat.le_of_ble_eq_true rfl, Nat.le_of_ble_eq_true rfl⟩) ⟨Pz_blind, va_recv hK hP (ci := 6) rfl e34, Pz_at hP hK hD hz hM hS⟩ rfl rfl hl.1 rfl (lv_room (Nat.le_of_ble_eq_true rfl)) d_law_526 ⟨Nat.le_of_ble_eq_true rfl, Nat.le_of_ble_eq_true rfl⟩) hS (fun q _ h => h) (fun q h => h) (fun r6 w5 t9 H locs ht hvm hp hB hz1 hk1 hS => ?_)
  obtain ⟨hP, hK9, hD, -⟩ := hB
  rw [ht] at hP
  clear hK9
  obtain ⟨hr9, hw9⟩ := hp
  rw [hw9] at hP hD
  clear hw9
  subst hr9
  refine lv_iload hx hb d_law_529 (lv_at hl 0 rfl) ?_
  refine lv_icmp_eq (tgt := 536) hx hb d_law_531 rfl (fun _ => ?_) (fun h => absurd h (by decide))
  refine lv_goto (tgt := 839) hx hb d_law_536 rfl ?_
  refine lv_iinc (k := 1) (v := 6) (lv' := [(4, .int 6), (5, .int 1), (3, .ref oo), (2, .ref mm), (1, .ref x), (0, .ref b)]) hx hb d_law_839 hl rfl (by decide) (by decide) rfl (fun ls hl => ?_)
  refine lv_goto (tgt := 23) hx hb d_law_842 rfl ?_
  subst hz0
  exact lw_exit hx hb hr hlocks hX hbl hS hl 0 5 rfl rfl (by decide) (Nat.le_of_ble_eq_true rfl) (Nat.le_of_ble_eq_true rfl)
