set_option maxHeartbeats 4000000 in
set_option maxRecDepth 100000 in
theorem lc_8 {p : Program} {l : Launch} {e : Env} {s : State} {m : MethodId} {below : List Frame} {meth : Method} {c : Code} {b : Nat} {xs : Nat → Int32} {D : va_G} {t : Nat → ClassId} {z : Nat} {sa : Nat → Nat} {ws : va_W} {x xf xj xl fu xr fb jb l0 lb he mm mb ms9 mn ml mk9 mq oo : Nat} {gl : Nat → Option Nat} {H : Heap} {locs : List Loc} {ls : Array Slot} (hl0 : l.stackTraces = false) (hx : p.tables.exec = Jvm.exec) (hb : c.code = code) (hr : meth.sig.returnType = ret) (hml : c.maxLocals = 8) (hown : s.vm.findClass R_L = some m.cls) (hts : ∀ w ∈ WS, w.before #[Value.ref b] s = true) (hlocks : meth.locks = false) (hX : va_X b 6 xs s s.heap) (hbl : b < s.heap.size) (hK : va_K D Cl (Ty t) s) (hM : Am z sa s) (hz0 : z = s.heap.size) (hP : va_P D Cl ws H) (hD : va_D (Az z) ws) (hS : va_S (Az z) s.heap H locs) (hg0 : gl 0 = some l0) (e0 : ws[0]? = some (x, .inr (5, [.ref xf, .ref xj, .ref xl, .ref fu, .ref xr, .int 1, .int 0, .int 0, .int 0, .int 0]))) (e1 : ws[1]? = some (xf, .inr (3, [.ref fb, .int 0]))) (e4 : ws[4]? = some (xj, .inr (3, [.ref jb, .int 0]))) (e7 : ws[7]? = some (xl, .inl (t 3, 6, .inr (.inr (.inr (.inr gl)))))) (e8 : ws[8]? = some (fu, .inr (2, [.int 4, .int 0, .int 0, .int 0]))) (e10 : ws[10]? = some (l0, .inr (4, [.ref lb, .ref he, .int 0]))) (e13 : ws[13]? = some (he, .inl (t 1, 768, .inl (fun _ => 0)))) (e34 : ws[34]? = some (mm, .inr (6, [.ref mb, .ref ms9, .int 1, .int 1, .ref mn, .ref ml, .ref mk9, .ref mq, .int 0, .int 0, .int 0, .int 0, .int 0, .int 0, .int 4, .int 0, .int 0]))) (e41 : ws[41]? = some (oo, .inl (t 5, 1, .inr (.inl F00)))) (hl : lv_has ls 8 [(4, .int 0), (3, .ref oo), (2, .ref mm), (1, .ref x), (0, .ref b)])  : W p l e room_1 s m #[Value.ref b] below meth c H locs 42 1071195 (lw_Z below #[Value.ref b] s) (F0 m 539 ls []) := by
  have hz : z ≤ s.heap.size := Nat.le_of_eq hz0
  have hbA : ¬ Az z b := fun h => absurd hbl (Nat.not_lt.mpr (by rw [← hz0]; exact h))
  have hC : Ch ws ws [] := Ch.rf
  refine lv_aload_n hx hb d_law_539 rfl (lv_at hl 3 rfl) ?_
  refine va_calli (vx_runSW (As := [.ref x]) (rest := []) ⟨hx, hb, hml, hown, hts⟩ (c_L_rollback (D := D) (t := t) (z := z) (sa := sa) (ws := ws)  hl0 e0) (vx_cwSW 1 hts (gd_SW ml_L_109 st_L_rollback in_L cd_L_rollback) rfl rfl rfl (by decide +kernel) ⟨Nat.le_of_ble_eq_true rfl, Nat.le_of_ble_eq_true rfl⟩) ⟨Pz_blind, Pz_at hP hK hD hz hM hS⟩ rfl rfl hl.1 rfl (lv_room (Nat.le_of_ble_eq_true rfl)) d_law_540 ⟨Nat.le_of_ble_eq_true rfl, Nat.le_of_ble_eq_true rfl⟩) hS (fun q _ h => h) (fun q h => h) (fun r2 w1 t9 H locs ht hvm hp hB hz1 hk1 hS => ?_)
  obtain ⟨hP, hK9, hD, -⟩ := hB
  rw [ht] at hP
  clear hK9
  obtain ⟨hr9, hC9⟩ := hp
  subst hr9
  have e0 : w1[0]? = some (x, .inr (5, [.ref xf, .ref xj, .ref xl, .ref fu, .ref xr, .int 1, .int 0, .int 0, .int 0, .int 0])) := hC9.keep e0 (by decide)
  have e1 : w1[1]? = some (xf, .inr (3, [.ref fb, .int 0])) := hC9.keep e1 (by decide)
  have e4 : w1[4]? = some (xj, .inr (3, [.ref jb, .int 0])) := hC9.keep e4 (by decide)
  have e7 : w1[7]? = some (xl, .inl (t 3, 6, .inr (.inr (.inr (.inr gl))))) := hC9.keep e7 (by decide)
  have e8 : w1[8]? = some (fu, .inr (2, [.int 4, .int 0, .int 0, .int 0])) := hC9.keep e8 (by decide)
  have e10 : w1[10]? = some (l0, .inr (4, [.ref lb, .ref he, .int 0])) := hC9.keep e10 (by decide)
  have e13 : w1[13]? = some (he, .inl (t 1, 768, .inl (fun _ => 0))) := hC9.keep e13 (by decide)
  have e34 : w1[34]? = some (mm, .inr (6, [.ref mb, .ref ms9, .int 1, .int 1, .ref mn, .ref ml, .ref mk9, .ref mq, .int 0, .int 0, .int 0, .int 0, .int 0, .int 0, .int 4, .int 0, .int 0])) := hC9.keep e34 (by decide)
  have e41 : w1[41]? = some (oo, .inl (t 5, 1, .inr (.inl F00))) := hC9.keep e41 (by decide)
  have hC := hC.trans hC9
  refine lv_istore (lv' := [(5, .int 1), (4, .int 0), (3, .ref oo), (2, .ref mm), (1, .ref x), (0, .ref b)]) hx hb d_law_543 hl (by decide) rfl (fun ls hl => ?_)
  refine lv_aload_n hx hb d_law_545 rfl (lv_at hl 3 rfl) ?_
  refine va_callv (va_runV (As := []) (rest := []) ⟨hx, hb, hml, hown, hts⟩ (c_M_rollback (D := D) (t := t) (z := z) (sa := sa) (ws := w1)  e34) (cwV 0 hts (gd_V ml_L_111 im_M_rollback se_M_rollback in_M cd_M_rollback) rfl rfl rfl (by decide +kernel) ⟨Nat.le_of_ble_eq_true rfl, Nat.le_of_ble_eq_true rfl⟩) ⟨Pz_blind, va_recv hK hP (ci := 6) rfl e34, Pz_at hP hK hD hz hM hS⟩ rfl rfl hl.1 rfl (lv_room (Nat.le_of_ble_eq_true rfl)) d_law_546 ⟨Nat.le_of_ble_eq_true rfl, Nat.le_of_ble_eq_true rfl⟩) hS (fun q _ h => h) (fun q h => h) (fun w3 t9 H locs ht hvm hp hB hz1 hk1 hS => ?_)
  obtain ⟨hP, hK9, hD, -⟩ := hB
  rw [ht] at hP
  clear hK9
  obtain ⟨hC9, kf34⟩ := hp
  have e0 : w3[0]? = some (x, .inr (5, [.ref xf, .ref xj, .ref xl, .ref fu, .ref xr, .int 1, .int 0, .int 0, .int 0, .int 0])) := hC9.keep e0 (by decide)
  have e1 : w3[1]? = some (xf, .inr (3, [.ref fb, .int 0])) := hC9.keep e1 (by decide)
  have e4 : w3[4]? = some (xj, .inr (3, [.ref jb, .int 0])) := hC9.keep e4 (by decide)
  have e7 : w3[7]? = some (xl, .inl (t 3, 6, .inr (.inr (.inr (.inr gl))))) := hC9.keep e7 (by decide)
  have e8 : w3[8]? = some (fu, .inr (2, [.int 4, .int 0, .int 0, .int 0])) := hC9.keep e8 (by decide)
  have e10 : w3[10]? = some (l0, .inr (4, [.ref lb, .ref he, .int 0])) := hC9.keep e10 (by decide)
  have e13 : w3[13]? = some (he, .inl (t 1, 768, .inl (fun _ => 0))) := hC9.keep e13 (by decide)
  have e34 : w3[34]? = some (mm, .inr (6, [.ref mb, .ref ms9, .int 1, .int 1, .ref mn, .ref ml, .ref mk9, .ref mq, .int 0, .int 0, .int 0, .int 0, .int 0, .int 0, .int 4, .int 0, .int 1])) := kf34
  have e41 : w3[41]? = some (oo, .inl (t 5, 1, .inr (.inl F00))) := hC9.keep e41 (by decide)
  have hC := hC.trans hC9
  refine lv_aload_n hx hb d_law_549 rfl (lv_at hl 3 rfl) ?_
  refine va_calli (va_runV (As := []) (rest := []) ⟨hx, hb, hml, hown, hts⟩ (c_M_thrown (D := D) (t := t) (z := z) (sa := sa) (ws := w3)  e34) (cwV 0 hts (gd_V ml_L_80 im_M_thrown se_M_thrown in_M cd_M_thrown) rfl rfl rfl (by decide +kernel) ⟨Nat.le_of_ble_eq_true rfl, Nat.le_of_ble_eq_true rfl⟩) ⟨Pz_blind, va_recv hK hP (ci := 6) rfl e34, Pz_at hP hK hD hz hM hS⟩ rfl rfl hl.1 rfl (lv_room (Nat.le_of_ble_eq_true rfl)) d_law_550 ⟨Nat.le_of_ble_eq_true rfl, Nat.le_of_ble_eq_true rfl⟩) hS (fun q _ h => h) (fun q h => h) (fun r6 w5 t9 H locs ht hvm hp hB hz1 hk1 hS => ?_)
  obtain ⟨hP, hK9, hD, -⟩ := hB
  rw [ht] at hP
  clear hK9
  obtain ⟨hr9, hw9⟩ := hp
  rw [hw9] at hP hD
  clear hw9
  subst hr9
  refine lv_iload hx hb d_law_553 (lv_at hl 0 rfl) ?_
  refine lv_icmp_eq (tgt := 560) hx hb d_law_555 rfl (fun _ => ?_) (fun h => absurd h (by decide))
  refine lv_goto (tgt := 839) hx hb d_law_560 rfl ?_
  refine lv_iinc (k := 1) (v := 6) (lv' := [(4, .int 6), (5, .int 1), (3, .ref oo), (2, .ref mm), (1, .ref x), (0, .ref b)]) hx hb d_law_839 hl rfl (by decide) (by decide) rfl (fun ls hl => ?_)
  refine lv_goto (tgt := 23) hx hb d_law_842 rfl ?_
  subst hz0
  exact lw_exit hx hb hr hlocks hX hbl hS hl 0 5 rfl rfl (by decide) (Nat.le_of_ble_eq_true rfl) (Nat.le_of_ble_eq_true rfl)
set_option maxHeartbeats 4000000 in
set_option maxRecDepth 100000 in
theorem lc_9 {p : Program} {l : Launch} {e : Env} {s : State} {m : MethodId} {below : List Frame} {meth : Method} {c : Code} {b : Nat} {xs : Nat → Int32} {D : va_G} {t : Nat → ClassId} {z : Nat} {sa : Nat → Nat} {ws : va_W} {x xf xj xl fu xr fb jb l0 lb he mm mb ms9 mn ml mk9 mq oo : Nat} {gl : Nat → Option Nat} {H : Heap} {locs : List Loc} {ls : Array Slot} (hl0 : l.stackTraces = false) (hx : p.tables.exec = Jvm.exec) (hb : c.code = code) (hr : meth.sig.returnType = ret) (hml : c.maxLocals = 8) (hown : s.vm.findClass R_L = some m.cls) (hts : ∀ w ∈ WS, w.before #[Value.ref b] s = true) (hlocks : meth.locks = false) (hX : va_X b 6 xs s s.heap) (hbl : b < s.heap.size) (hK : va_K D Cl (Ty t) s) (hM : Am z sa s) (hz0 : z = s.heap.size) (hP : va_P D Cl ws H) (hD : va_D (Az z) ws) (hS : va_S (Az z) s.heap H locs) (hg0 : gl 0 = some l0) (e0 : ws[0]? = some (x, .inr (5, [.ref xf, .ref xj, .ref xl, .ref fu, .ref xr, .int 1, .int 0, .int 0, .int 0, .int 0]))) (e1 : ws[1]? = some (xf, .inr (3, [.ref fb, .int 0]))) (e4 : ws[4]? = some (xj, .inr (3, [.ref jb, .int 0]))) (e7 : ws[7]? = some (xl, .inl (t 3, 6, .inr (.inr (.inr (.inr gl)))))) (e8 : ws[8]? = some (fu, .inr (2, [.int 4, .int 0, .int 0, .int 0]))) (e10 : ws[10]? = some (l0, .inr (4, [.ref lb, .ref he, .int 0]))) (e13 : ws[13]? = some (he, .inl (t 1, 768, .inl (fun _ => 0)))) (e34 : ws[34]? = some (mm, .inr (6, [.ref mb, .ref ms9, .int 1, .int 1, .ref mn, .ref ml, .ref mk9, .ref mq, .int 0, .int 0, .int 0, .int 0, .int 0, .int 0, .int 4, .int 0, .int 0]))) (e41 : ws[41]? = some (oo, .inl (t 5, 1, .inr (.inl F00)))) (hl : lv_has ls 8 [(4, .int 0), (3, .ref oo), (2, .ref mm), (1, .ref x), (0, .ref b)])  : W p l e room_1 s m #[Value.ref b] below meth c H locs 42 1071195 (lw_Z below #[Value.ref b] s) (F0 m 563 ls []) := by
  have hz : z ≤ s.heap.size := Nat.le_of_eq hz0
  have hbA : ¬ Az z b := fun h => absurd hbl (Nat.not_lt.mpr (by rw [← hz0]; exact h))
  have hC : Ch ws ws [] := Ch.rf
  refine lv_aload_n hx hb d_law_563 rfl (lv_at hl 3 rfl) ?_
  refine lv_aload_n hx hb d_law_564 rfl (lv_at hl 1 rfl) ?_
  refine va_calli (vx_runSW (As := [.ref x, .ref oo]) (rest := []) ⟨hx, hb, hml, hown, hts⟩ (c_L_mark (D := D) (t := t) (z := z) (sa := sa) (ws := ws)  hl0 e0 e41) (vx_cwSW 2 hts (gd_SW ml_L_112 st_L_mark in_L cd_L_mark) rfl rfl rfl (by decide +kernel) ⟨Nat.le_of_ble_eq_true rfl, Nat.le_of_ble_eq_true rfl⟩) ⟨Pz_blind, Pz_at hP hK hD hz hM hS⟩ rfl rfl hl.1 rfl (lv_room (Nat.le_of_ble_eq_true rfl)) d_law_565 ⟨Nat.le_of_ble_eq_true rfl, Nat.le_of_ble_eq_true rfl⟩) hS (fun q _ h => h) (fun q h => h) (fun r2 w1 t9 H locs ht hvm hp hB hz1 hk1 hS => ?_)
  obtain ⟨hP, hK9, hD, -⟩ := hB
  rw [ht] at hP
  clear hK9
  obtain ⟨hr9, hC9⟩ := hp
  subst hr9
  have e0 : w1[0]? = some (x, .inr (5, [.ref xf, .ref xj, .ref xl, .ref fu, .ref xr, .int 1, .int 0, .int 0, .int 0, .int 0])) := hC9.keep e0 (by decide)
  have e1 : w1[1]? = some (xf, .inr (3, [.ref fb, .int 0])) := hC9.keep e1 (by decide)
  have e4 : w1[4]? = some (xj, .inr (3, [.ref jb, .int 0])) := hC9.keep e4 (by decide)
  have e7 : w1[7]? = some (xl, .inl (t 3, 6, .inr (.inr (.inr (.inr gl))))) := hC9.keep e7 (by decide)
  have e8 : w1[8]? = some (fu, .inr (2, [.int 4, .int 0, .int 0, .int 0])) := hC9.keep e8 (by decide)
  have e10 : w1[10]? = some (l0, .inr (4, [.ref lb, .ref he, .int 0])) := hC9.keep e10 (by decide)
  have e13 : w1[13]? = some (he, .inl (t 1, 768, .inl (fun _ => 0))) := hC9.keep e13 (by decide)
  have e34 : w1[34]? = some (mm, .inr (6, [.ref mb, .ref ms9, .int 1, .int 1, .ref mn, .ref ml, .ref mk9, .ref mq, .int 0, .int 0, .int 0, .int 0, .int 0, .int 0, .int 4, .int 0, .int 0])) := hC9.keep e34 (by decide)
  have e41 : w1[41]? = some (oo, .inl (t 5, 1, .inr (.inl F00))) := hC9.keep e41 (by decide)
  have hC := hC.trans hC9
  refine lv_istore (lv' := [(5, .int 1), (4, .int 0), (3, .ref oo), (2, .ref mm), (1, .ref x), (0, .ref b)]) hx hb d_law_568 hl (by decide) rfl (fun ls hl => ?_)
  refine lv_aload_n hx hb d_law_570 rfl (lv_at hl 3 rfl) ?_
  refine va_calli (va_runV (As := []) (rest := []) ⟨hx, hb, hml, hown, hts⟩ (c_M_mark (D := D) (t := t) (z := z) (sa := sa) (ws := w1)  e34) (cwV 0 hts (gd_V ml_L_114 im_M_mark se_M_mark in_M cd_M_mark) rfl rfl rfl (by decide +kernel) ⟨Nat.le_of_ble_eq_true rfl, Nat.le_of_ble_eq_true rfl⟩) ⟨Pz_blind, va_recv hK hP (ci := 6) rfl e34, Pz_at hP hK hD hz hM hS⟩ rfl rfl hl.1 rfl (lv_room (Nat.le_of_ble_eq_true rfl)) d_law_571 ⟨Nat.le_of_ble_eq_true rfl, Nat.le_of_ble_eq_true rfl⟩) hS (fun q _ h => h) (fun q h => h) (fun r4 w3 t9 H locs ht hvm hp hB hz1 hk1 hS => ?_)
  obtain ⟨hP, hK9, hD, -⟩ := hB
  rw [ht] at hP
  clear hK9
  obtain ⟨hr9, hC9, kf34⟩ := hp
  subst hr9
  have e0 : w3[0]? = some (x, .inr (5, [.ref xf, .ref xj, .ref xl, .ref fu, .ref xr, .int 1, .int 0, .int 0, .int 0, .int 0])) := hC9.keep e0 (by decide)
  have e1 : w3[1]? = some (xf, .inr (3, [.ref fb, .int 0])) := hC9.keep e1 (by decide)
  have e4 : w3[4]? = some (xj, .inr (3, [.ref jb, .int 0])) := hC9.keep e4 (by decide)
  have e7 : w3[7]? = some (xl, .inl (t 3, 6, .inr (.inr (.inr (.inr gl))))) := hC9.keep e7 (by decide)
  have e8 : w3[8]? = some (fu, .inr (2, [.int 4, .int 0, .int 0, .int 0])) := hC9.keep e8 (by decide)
  have e10 : w3[10]? = some (l0, .inr (4, [.ref lb, .ref he, .int 0])) := hC9.keep e10 (by decide)
  have e13 : w3[13]? = some (he, .inl (t 1, 768, .inl (fun _ => 0))) := hC9.keep e13 (by decide)
  have e34 : w3[34]? = some (mm, .inr (6, [.ref mb, .ref ms9, .int 1, .int 1, .ref mn, .ref ml, .ref mk9, .ref mq, .int 0, .int 0, .int 0, .int 0, .int 0, .int 0, .int 4, .int 0, .int 1])) := kf34
  have e41 : w3[41]? = some (oo, .inl (t 5, 1, .inr (.inl F00))) := hC9.keep e41 (by decide)
  have hC := hC.trans hC9
  refine lv_istore (lv' := [(6, .int 0), (5, .int 1), (4, .int 0), (3, .ref oo), (2, .ref mm), (1, .ref x), (0, .ref b)]) hx hb d_law_574 hl (by decide) rfl (fun ls hl => ?_)
  refine lv_aload_n hx hb d_law_576 rfl (lv_at hl 4 rfl) ?_
  refine va_calli (va_runV (As := []) (rest := []) ⟨hx, hb, hml, hown, hts⟩ (c_M_thrown (D := D) (t := t) (z := z) (sa := sa) (ws := w3)  e34) (cwV 0 hts (gd_V ml_L_80 im_M_thrown se_M_thrown in_M cd_M_thrown) rfl rfl rfl (by decide +kernel) ⟨Nat.le_of_ble_eq_true rfl, Nat.le_of_ble_eq_true rfl⟩) ⟨Pz_blind, va_recv hK hP (ci := 6) rfl e34, Pz_at hP hK hD hz hM hS⟩ rfl rfl hl.1 rfl (lv_room (Nat.le_of_ble_eq_true rfl)) d_law_577 ⟨Nat.le_of_ble_eq_true rfl, Nat.le_of_ble_eq_true rfl⟩) hS (fun q _ h => h) (fun q h => h) (fun r6 w5 t9 H locs ht hvm hp hB hz1 hk1 hS => ?_)
  obtain ⟨hP, hK9, hD, -⟩ := hB
  rw [ht] at hP
  clear hK9
  obtain ⟨hr9, hw9⟩ := hp
  rw [hw9] at hP hD
  clear hw9
  subst hr9
  refine lv_iload hx hb d_law_580 (lv_at hl 1 rfl) ?_
  refine lv_icmp_eq (tgt := 587) hx hb d_law_582 rfl (fun _ => ?_) (fun h => absurd h (by decide))
  refine lv_iload hx hb d_law_587 (lv_at hl 1 rfl) ?_
  refine lv_if_ne (tgt := 604) hx hb d_law_589 rfl (fun _ => ?_) (fun h => absurd h (by decide))
  refine lv_goto (tgt := 839) hx hb d_law_604 rfl ?_
  refine lv_iinc (k := 2) (v := 6) (lv' := [(4, .int 6), (6, .int 0), (5, .int 1), (3, .ref oo), (2, .ref mm), (1, .ref x), (0, .ref b)]) hx hb d_law_839 hl rfl (by decide) (by decide) rfl (fun ls hl => ?_)
  refine lv_goto (tgt := 23) hx hb d_law_842 rfl ?_
  subst hz0
  exact lw_exit hx hb hr hlocks hX hbl hS hl 0 6 rfl rfl (by decide) (Nat.le_of_ble_eq_true rfl) (Nat.le_of_ble_eq_true rfl)
set_option maxHeartbeats 4000000 in
set_option maxRecDepth 100000 in
theorem lc_10 {p : Program} {l : Launch} {e : Env} {s : State} {m : MethodId} {below : List Frame} {meth : Method} {c : Code} {b : Nat} {xs : Nat → Int32} {D : va_G} {t : Nat → ClassId} {z : Nat} {sa : Nat → Nat} {ws : va_W} {x xf xj xl fu xr fb jb l0 lb he mm mb ms9 mn ml mk9 mq oo : Nat} {gl : Nat → Option Nat} {H : Heap} {locs : List Loc} {ls : Array Slot} (hl0 : l.stackTraces = false) (hx : p.tables.exec = Jvm.exec) (hb : c.code = code) (hr : meth.sig.returnType = ret) (hml : c.maxLocals = 8) (hown : s.vm.findClass R_L = some m.cls) (hts : ∀ w ∈ WS, w.before #[Value.ref b] s = true) (hlocks : meth.locks = false) (hX : va_X b 6 xs s s.heap) (hbl : b < s.heap.size) (hK : va_K D Cl (Ty t) s) (hM : Am z sa s) (hz0 : z = s.heap.size) (hP : va_P D Cl ws H) (hD : va_D (Az z) ws) (hS : va_S (Az z) s.heap H locs) (hg0 : gl 0 = some l0) (e0 : ws[0]? = some (x, .inr (5, [.ref xf, .ref xj, .ref xl, .ref fu, .ref xr, .int 1, .int 0, .int 0, .int 0, .int 0]))) (e1 : ws[1]? = some (xf, .inr (3, [.ref fb, .int 0]))) (e4 : ws[4]? = some (xj, .inr (3, [.ref jb, .int 0]))) (e7 : ws[7]? = some (xl, .inl (t 3, 6, .inr (.inr (.inr (.inr gl)))))) (e8 : ws[8]? = some (fu, .inr (2, [.int 4, .int 0, .int 0, .int 0]))) (e10 : ws[10]? = some (l0, .inr (4, [.ref lb, .ref he, .int 0]))) (e13 : ws[13]? = some (he, .inl (t 1, 768, .inl (fun _ => 0)))) (e34 : ws[34]? = some (mm, .inr (6, [.ref mb, .ref ms9, .int 1, .int 1, .ref mn, .ref ml, .ref mk9, .ref mq, .int 0, .int 0, .int 0, .int 0, .int 0, .int 0, .int 4, .int 0, .int 0]))) (e41 : ws[41]? = some (oo, .inl (t 5, 1, .inr (.inl F00)))) (hl : lv_has ls 8 [(4, .int 0), (3, .ref oo), (2, .ref mm), (1, .ref x), (0, .ref b)])  : W p l e room_1 s m #[Value.ref b] below meth c H locs 42 1071195 (lw_Z below #[Value.ref b] s) (F0 m 607 ls []) := by
  have hz : z ≤ s.heap.size := Nat.le_of_eq hz0
  have hbA : ¬ Az z b := fun h => absurd hbl (Nat.not_lt.mpr (by rw [← hz0]; exact h))
  have hC : Ch ws ws [] := Ch.rf
  refine lv_aload_n hx hb d_law_607 rfl (lv_at hl 3 rfl) ?_
  refine lv_aload_n hx hb d_law_608 rfl (lv_at hl 4 rfl) ?_
  refine lv_iload hx hb d_law_609 (lv_at hl 0 rfl) ?_
  refine lv_iconst (v := 1) hx hb d_law_611 (by decide) ?_
  refine lv_iadd hx hb d_law_612 ?_
  refine lv_topi (fun v1 hv1 => ?_)
  have hv1 : v1 = 1 := hv1.trans (by decide)
  subst hv1
  refine va_sld hx hb hX hbl hbA hS (i := 1) (by unfold vp_in; decide) d_law_613 ?_
  refine W.eq (g2 := F0 m 614 ls [.int (xs 1), .ref x]) rfl ?_
  refine va_calli (vx_runSW (As := [.ref x, .int (xs 1)]) (rest := []) ⟨hx, hb, hml, hown, hts⟩ (c_L_back (D := D) (t := t) (z := z) (sa := sa) (ws := ws) (a0 := xs 1) hl0 e0) (vx_cwSW 2 hts (gd_SW ml_L_115 st_L_back in_L cd_L_back) rfl rfl rfl (by decide +kernel) ⟨Nat.le_of_ble_eq_true rfl, Nat.le_of_ble_eq_true rfl⟩) ⟨Pz_blind, Pz_at hP hK hD hz hM hS⟩ rfl rfl hl.1 rfl (lv_room (Nat.le_of_ble_eq_true rfl)) d_law_614 ⟨Nat.le_of_ble_eq_true rfl, Nat.le_of_ble_eq_true rfl⟩) hS (fun q _ h => h) (fun q h => h) (fun r3 w2 t9 H locs ht hvm hp hB hz1 hk1 hS => ?_)
  obtain ⟨hP, hK9, hD, -⟩ := hB
  rw [ht] at hP
  clear hK9
  obtain ⟨hr9, hC9⟩ := hp
  subst hr9
  have e0 : w2[0]? = some (x, .inr (5, [.ref xf, .ref xj, .ref xl, .ref fu, .ref xr, .int 1, .int 0, .int 0, .int 0, .int 0])) := hC9.keep e0 (by decide)
  have e1 : w2[1]? = some (xf, .inr (3, [.ref fb, .int 0])) := hC9.keep e1 (by decide)
  have e4 : w2[4]? = some (xj, .inr (3, [.ref jb, .int 0])) := hC9.keep e4 (by decide)
  have e7 : w2[7]? = some (xl, .inl (t 3, 6, .inr (.inr (.inr (.inr gl))))) := hC9.keep e7 (by decide)
  have e8 : w2[8]? = some (fu, .inr (2, [.int 4, .int 0, .int 0, .int 0])) := hC9.keep e8 (by decide)
  have e10 : w2[10]? = some (l0, .inr (4, [.ref lb, .ref he, .int 0])) := hC9.keep e10 (by decide)
  have e13 : w2[13]? = some (he, .inl (t 1, 768, .inl (fun _ => 0))) := hC9.keep e13 (by decide)
  have e34 : w2[34]? = some (mm, .inr (6, [.ref mb, .ref ms9, .int 1, .int 1, .ref mn, .ref ml, .ref mk9, .ref mq, .int 0, .int 0, .int 0, .int 0, .int 0, .int 0, .int 4, .int 0, .int 0])) := hC9.keep e34 (by decide)
  have e41 : w2[41]? = some (oo, .inl (t 5, 1, .inr (.inl F00))) := hC9.keep e41 (by decide)
  have hC := hC.trans hC9
  refine lv_istore (lv' := [(5, .int 1), (4, .int 0), (3, .ref oo), (2, .ref mm), (1, .ref x), (0, .ref b)]) hx hb d_law_617 hl (by decide) rfl (fun ls hl => ?_)
  refine lv_aload_n hx hb d_law_619 rfl (lv_at hl 3 rfl) ?_
  refine lv_aload_n hx hb d_law_620 rfl (lv_at hl 5 rfl) ?_
  refine lv_iload hx hb d_law_621 (lv_at hl 1 rfl) ?_
  refine lv_iconst (v := 1) hx hb d_law_623 (by decide) ?_
  refine lv_iadd hx hb d_law_624 ?_
  refine lv_topi (fun v4 hv4 => ?_)
  have hv4 : v4 = 1 := hv4.trans (by decide)
  subst hv4
  refine va_sld hx hb hX hbl hbA hS (i := 1) (by unfold vp_in; decide) d_law_625 ?_
  refine W.eq (g2 := F0 m 626 ls [.int (xs 1), .ref mm]) rfl ?_
  refine va_callv (va_runV (As := [.int (xs 1)]) (rest := []) ⟨hx, hb, hml, hown, hts⟩ (c_M_back (D := D) (t := t) (z := z) (sa := sa) (ws := w2) (a0 := xs 1) e34) (cwV 1 hts (gd_V ml_L_118 im_M_back se_M_back in_M cd_M_back) rfl rfl rfl (by decide +kernel) ⟨Nat.le_of_ble_eq_true rfl, Nat.le_of_ble_eq_true rfl⟩) ⟨Pz_blind, va_recv hK hP (ci := 6) rfl e34, Pz_at hP hK hD hz hM hS⟩ rfl rfl hl.1 rfl (lv_room (Nat.le_of_ble_eq_true rfl)) d_law_626 ⟨Nat.le_of_ble_eq_true rfl, Nat.le_of_ble_eq_true rfl⟩) hS (fun q _ h => h) (fun q h => h) (fun w5 t9 H locs ht hvm hp hB hz1 hk1 hS => ?_)
  obtain ⟨hP, hK9, hD, -⟩ := hB
  rw [ht] at hP
  clear hK9
  obtain ⟨hC9, kf34⟩ := hp
  have e0 : w5[0]? = some (x, .inr (5, [.ref xf, .ref xj, .ref xl, .ref fu, .ref xr, .int 1, .int 0, .int 0, .int 0, .int 0])) := hC9.keep e0 (by decide)
  have e1 : w5[1]? = some (xf, .inr (3, [.ref fb, .int 0])) := hC9.keep e1 (by decide)
  have e4 : w5[4]? = some (xj, .inr (3, [.ref jb, .int 0])) := hC9.keep e4 (by decide)
  have e7 : w5[7]? = some (xl, .inl (t 3, 6, .inr (.inr (.inr (.inr gl))))) := hC9.keep e7 (by decide)
  have e8 : w5[8]? = some (fu, .inr (2, [.int 4, .int 0, .int 0, .int 0])) := hC9.keep e8 (by decide)
  have e10 : w5[10]? = some (l0, .inr (4, [.ref lb, .ref he, .int 0])) := hC9.keep e10 (by decide)
  have e13 : w5[13]? = some (he, .inl (t 1, 768, .inl (fun _ => 0))) := hC9.keep e13 (by decide)
  have e34 : w5[34]? = some (mm, .inr (6, [.ref mb, .ref ms9, .int 1, .int 1, .ref mn, .ref ml, .ref mk9, .ref mq, .int 0, .int 0, .int 0, .int 0, .int 0, .int 0, .int 4, .int 0, .int 1])) := kf34
  have e41 : w5[41]? = some (oo, .inl (t 5, 1, .inr (.inl F00))) := hC9.keep e41 (by decide)
  have hC := hC.trans hC9
  refine lv_aload_n hx hb d_law_629 rfl (lv_at hl 3 rfl) ?_
  refine va_calli (va_runV (As := []) (rest := []) ⟨hx, hb, hml, hown, hts⟩ (c_M_thrown (D := D) (t := t) (z := z) (sa := sa) (ws := w5)  e34) (cwV 0 hts (gd_V ml_L_80 im_M_thrown se_M_thrown in_M cd_M_thrown) rfl rfl rfl (by decide +kernel) ⟨Nat.le_of_ble_eq_true rfl, Nat.le_of_ble_eq_true rfl⟩) ⟨Pz_blind, va_recv hK hP (ci := 6) rfl e34, Pz_at hP hK hD hz hM hS⟩ rfl rfl hl.1 rfl (lv_room (Nat.le_of_ble_eq_true rfl)) d_law_630 ⟨Nat.le_of_ble_eq_true rfl, Nat.le_of_ble_eq_true rfl⟩) hS (fun q _ h => h) (fun q h => h) (fun r8 w7 t9 H locs ht hvm hp hB hz1 hk1 hS => ?_)
  obtain ⟨hP, hK9, hD, -⟩ := hB
  rw [ht] at hP
  clear hK9
  obtain ⟨hr9, hw9⟩ := hp
  rw [hw9] at hP hD
  clear hw9
  subst hr9
  refine lv_iload hx hb d_law_633 (lv_at hl 0 rfl) ?_
  refine lv_icmp_eq (tgt := 640) hx hb d_law_635 rfl (fun _ => ?_) (fun h => absurd h (by decide))
  refine lv_goto (tgt := 839) hx hb d_law_640 rfl ?_
  refine lv_iinc (k := 1) (v := 6) (lv' := [(4, .int 6), (5, .int 1), (3, .ref oo), (2, .ref mm), (1, .ref x), (0, .ref b)]) hx hb d_law_839 hl rfl (by decide) (by decide) rfl (fun ls hl => ?_)
  refine lv_goto (tgt := 23) hx hb d_law_842 rfl ?_
  subst hz0
  exact lw_exit hx hb hr hlocks hX hbl hS hl 0 5 rfl rfl (by decide) (Nat.le_of_ble_eq_true rfl) (Nat.le_of_ble_eq_true rfl)
set_option maxHeartbeats 4000000 in
set_option maxRecDepth 100000 in
theorem lc_11 {p : Program} {l : Launch} {e : Env} {s : State} {m : MethodId} {below : List Frame} {meth : Method} {c : Code} {b : Nat} {xs : Nat → Int32} {D : va_G} {t : Nat → ClassId} {z : Nat} {sa : Nat → Nat} {ws : va_W} {x xf xj xl fu xr fb jb l0 lb he mm mb ms9 mn ml mk9 mq oo : Nat} {gl : Nat → Option Nat} {H : Heap} {locs : List Loc} {ls : Array Slot} (hl0 : l.stackTraces = false) (hx : p.tables.exec = Jvm.exec) (hb : c.code = code) (hr : meth.sig.returnType = ret) (hml : c.maxLocals = 8) (hown : s.vm.findClass R_L = some m.cls) (hts : ∀ w ∈ WS, w.before #[Value.ref b] s = true) (hlocks : meth.locks = false) (hX : va_X b 6 xs s s.heap) (hbl : b < s.heap.size) (hK : va_K D Cl (Ty t) s) (hM : Am z sa s) (hz0 : z = s.heap.size) (hP : va_P D Cl ws H) (hD : va_D (Az z) ws) (hS : va_S (Az z) s.heap H locs) (hg0 : gl 0 = some l0) (e0 : ws[0]? = some (x, .inr (5, [.ref xf, .ref xj, .ref xl, .ref fu, .ref xr, .int 1, .int 0, .int 0, .int 0, .int 0]))) (e1 : ws[1]? = some (xf, .inr (3, [.ref fb, .int 0]))) (e4 : ws[4]? = some (xj, .inr (3, [.ref jb, .int 0]))) (e7 : ws[7]? = some (xl, .inl (t 3, 6, .inr (.inr (.inr (.inr gl)))))) (e8 : ws[8]? = some (fu, .inr (2, [.int 4, .int 0, .int 0, .int 0]))) (e10 : ws[10]? = some (l0, .inr (4, [.ref lb, .ref he, .int 0]))) (e13 : ws[13]? = some (he, .inl (t 1, 768, .inl (fun _ => 0)))) (e34 : ws[34]? = some (mm, .inr (6, [.ref mb, .ref ms9, .int 1, .int 1, .ref mn, .ref ml, .ref mk9, .ref mq, .int 0, .int 0, .int 0, .int 0, .int 0, .int 0, .int 4, .int 0, .int 0]))) (e41 : ws[41]? = some (oo, .inl (t 5, 1, .inr (.inl F00)))) (hl : lv_has ls 8 [(4, .int 0), (3, .ref oo), (2, .ref mm), (1, .ref x), (0, .ref b)])  : W p l e room_1 s m #[Value.ref b] below meth c H locs 42 1071195 (lw_Z below #[Value.ref b] s) (F0 m 643 ls []) := by
  have hz : z ≤ s.heap.size := Nat.le_of_eq hz0
  have hbA : ¬ Az z b := fun h => absurd hbl (Nat.not_lt.mpr (by rw [← hz0]; exact h))
  have hC : Ch ws ws [] := Ch.rf
  refine lv_aload_n hx hb d_law_643 rfl (lv_at hl 3 rfl) ?_
  refine lv_aload_n hx hb d_law_644 rfl (lv_at hl 4 rfl) ?_
  refine lv_iload hx hb d_law_645 (lv_at hl 0 rfl) ?_
  refine lv_iconst (v := 1) hx hb d_law_647 (by decide) ?_
  refine lv_iadd hx hb d_law_648 ?_
  refine lv_topi (fun v1 hv1 => ?_)
  have hv1 : v1 = 1 := hv1.trans (by decide)
  subst hv1
  refine va_sld hx hb hX hbl hbA hS (i := 1) (by unfold vp_in; decide) d_law_649 ?_
  refine W.eq (g2 := F0 m 650 ls [.int (xs 1), .ref x]) rfl ?_
  refine va_calli (vx_runSW (As := [.ref x, .int (xs 1)]) (rest := []) ⟨hx, hb, hml, hown, hts⟩ (c_L_keep (D := D) (t := t) (z := z) (sa := sa) (ws := ws) (a0 := xs 1) hl0 e0) (vx_cwSW 2 hts (gd_SW ml_L_119 st_L_keep in_L cd_L_keep) rfl rfl rfl (by decide +kernel) ⟨Nat.le_of_ble_eq_true rfl, Nat.le_of_ble_eq_true rfl⟩) ⟨Pz_blind, Pz_at hP hK hD hz hM hS⟩ rfl rfl hl.1 rfl (lv_room (Nat.le_of_ble_eq_true rfl)) d_law_650 ⟨Nat.le_of_ble_eq_true rfl, Nat.le_of_ble_eq_true rfl⟩) hS (fun q _ h => h) (fun q h => h) (fun r3 w2 t9 H locs ht hvm hp hB hz1 hk1 hS => ?_)
  obtain ⟨hP, hK9, hD, -⟩ := hB
  rw [ht] at hP
  clear hK9
  obtain ⟨hr9, hC9⟩ := hp
  subst hr9
  have e0 : w2[0]? = some (x, .inr (5, [.ref xf, .ref xj, .ref xl, .ref fu, .ref xr, .int 1, .int 0, .int 0, .int 0, .int 0])) := hC9.keep e0 (by decide)
  have e1 : w2[1]? = some (xf, .inr (3, [.ref fb, .int 0])) := hC9.keep e1 (by decide)
  have e4 : w2[4]? = some (xj, .inr (3, [.ref jb, .int 0])) := hC9.keep e4 (by decide)
  have e7 : w2[7]? = some (xl, .inl (t 3, 6, .inr (.inr (.inr (.inr gl))))) := hC9.keep e7 (by decide)
  have e8 : w2[8]? = some (fu, .inr (2, [.int 4, .int 0, .int 0, .int 0])) := hC9.keep e8 (by decide)
  have e10 : w2[10]? = some (l0, .inr (4, [.ref lb, .ref he, .int 0])) := hC9.keep e10 (by decide)
  have e13 : w2[13]? = some (he, .inl (t 1, 768, .inl (fun _ => 0))) := hC9.keep e13 (by decide)
  have e34 : w2[34]? = some (mm, .inr (6, [.ref mb, .ref ms9, .int 1, .int 1, .ref mn, .ref ml, .ref mk9, .ref mq, .int 0, .int 0, .int 0, .int 0, .int 0, .int 0, .int 4, .int 0, .int 0])) := hC9.keep e34 (by decide)
  have e41 : w2[41]? = some (oo, .inl (t 5, 1, .inr (.inl F00))) := hC9.keep e41 (by decide)
  have hC := hC.trans hC9
  refine lv_istore (lv' := [(5, .int 1), (4, .int 0), (3, .ref oo), (2, .ref mm), (1, .ref x), (0, .ref b)]) hx hb d_law_653 hl (by decide) rfl (fun ls hl => ?_)
  refine lv_aload_n hx hb d_law_655 rfl (lv_at hl 3 rfl) ?_
  refine lv_aload_n hx hb d_law_656 rfl (lv_at hl 5 rfl) ?_
  refine lv_iload hx hb d_law_657 (lv_at hl 1 rfl) ?_
  refine lv_iconst (v := 1) hx hb d_law_659 (by decide) ?_
  refine lv_iadd hx hb d_law_660 ?_
  refine lv_topi (fun v4 hv4 => ?_)
  have hv4 : v4 = 1 := hv4.trans (by decide)
  subst hv4
  refine va_sld hx hb hX hbl hbA hS (i := 1) (by unfold vp_in; decide) d_law_661 ?_
  refine W.eq (g2 := F0 m 662 ls [.int (xs 1), .ref mm]) rfl ?_
  refine va_callv (va_runV (As := [.int (xs 1)]) (rest := []) ⟨hx, hb, hml, hown, hts⟩ (c_M_keep (D := D) (t := t) (z := z) (sa := sa) (ws := w2) (a0 := xs 1) e34) (cwV 1 hts (gd_V ml_L_121 im_M_keep se_M_keep in_M cd_M_keep) rfl rfl rfl (by decide +kernel) ⟨Nat.le_of_ble_eq_true rfl, Nat.le_of_ble_eq_true rfl⟩) ⟨Pz_blind, va_recv hK hP (ci := 6) rfl e34, Pz_at hP hK hD hz hM hS⟩ rfl rfl hl.1 rfl (lv_room (Nat.le_of_ble_eq_true rfl)) d_law_662 ⟨Nat.le_of_ble_eq_true rfl, Nat.le_of_ble_eq_true rfl⟩) hS (fun q _ h => h) (fun q h => h) (fun w5 t9 H locs ht hvm hp hB hz1 hk1 hS => ?_)
  obtain ⟨hP, hK9, hD, -⟩ := hB
  rw [ht] at hP
  clear hK9
  obtain ⟨hC9, kf34⟩ := hp
  have e0 : w5[0]? = some (x, .inr (5, [.ref xf, .ref xj, .ref xl, .ref fu, .ref xr, .int 1, .int 0, .int 0, .int 0, .int 0])) := hC9.keep e0 (by decide)
  have e1 : w5[1]? = some (xf, .inr (3, [.ref fb, .int 0])) := hC9.keep e1 (by decide)
  have e4 : w5[4]? = some (xj, .inr (3, [.ref jb, .int 0])) := hC9.keep e4 (by decide)
  have e7 : w5[7]? = some (xl, .inl (t 3, 6, .inr (.inr (.inr (.inr gl))))) := hC9.keep e7 (by decide)
  have e8 : w5[8]? = some (fu, .inr (2, [.int 4, .int 0, .int 0, .int 0])) := hC9.keep e8 (by decide)
  have e10 : w5[10]? = some (l0, .inr (4, [.ref lb, .ref he, .int 0])) := hC9.keep e10 (by decide)
  have e13 : w5[13]? = some (he, .inl (t 1, 768, .inl (fun _ => 0))) := hC9.keep e13 (by decide)
  have e34 : w5[34]? = some (mm, .inr (6, [.ref mb, .ref ms9, .int 1, .int 1, .ref mn, .ref ml, .ref mk9, .ref mq, .int 0, .int 0, .int 0, .int 0, .int 0, .int 0, .int 4, .int 0, .int 1])) := kf34
  have e41 : w5[41]? = some (oo, .inl (t 5, 1, .inr (.inl F00))) := hC9.keep e41 (by decide)
  have hC := hC.trans hC9
  refine lv_aload_n hx hb d_law_665 rfl (lv_at hl 3 rfl) ?_
  refine va_calli (va_runV (As := []) (rest := []) ⟨hx, hb, hml, hown, hts⟩ (c_M_thrown (D := D) (t := t) (z := z) (sa := sa) (ws := w5)  e34) (cwV 0 hts (gd_V ml_L_80 im_M_thrown se_M_thrown in_M cd_M_thrown) rfl rfl rfl (by decide +kernel) ⟨Nat.le_of_ble_eq_true rfl, Nat.le_of_ble_eq_true rfl⟩) ⟨Pz_blind, va_recv hK hP (ci := 6) rfl e34, Pz_at hP hK hD hz hM hS⟩ rfl rfl hl.1 rfl (lv_room (Nat.le_of_ble_eq_true rfl)) d_law_666 ⟨Nat.le_of_ble_eq_true rfl, Nat.le_of_ble_eq_true rfl⟩) hS (fun q _ h => h) (fun q h => h) (fun r8 w7 t9 H locs ht hvm hp hB hz1 hk1 hS => ?_)
  obtain ⟨hP, hK9, hD, -⟩ := hB
  rw [ht] at hP
  clear hK9
  obtain ⟨hr9, hw9⟩ := hp
  rw [hw9] at hP hD
  clear hw9
  subst hr9
  refine lv_iload hx hb d_law_669 (lv_at hl 0 rfl) ?_
  refine lv_icmp_eq (tgt := 676) hx hb d_law_671 rfl (fun _ => ?_) (fun h => absurd h (by decide))
  refine lv_goto (tgt := 839) hx hb d_law_676 rfl ?_
  refine lv_iinc (k := 1) (v := 6) (lv' := [(4, .int 6), (5, .int 1), (3, .ref oo), (2, .ref mm), (1, .ref x), (0, .ref b)]) hx hb d_law_839 hl rfl (by decide) (by decide) rfl (fun ls hl => ?_)
  refine lv_goto (tgt := 23) hx hb d_law_842 rfl ?_
  subst hz0
  exact lw_exit hx hb hr hlocks hX hbl hS hl 0 5 rfl rfl (by decide) (Nat.le_of_ble_eq_true rfl) (Nat.le_of_ble_eq_true rfl)
set_option maxHeartbeats 4000000 in
set_option maxRecDepth 100000 in
theorem lc_12 {p : Program} {l : Launch} {e : Env} {s : State} {m : MethodId} {below : List Frame} {meth : Method} {c : Code} {b : Nat} {xs : Nat → Int32} {D : va_G} {t : Nat → ClassId} {z : Nat} {sa : Nat → Nat} {ws : va_W} {x xf xj xl fu xr fb jb l0 lb he mm mb ms9 mn ml mk9 mq oo : Nat} {gl : Nat → Option Nat} {H : Heap} {locs : List Loc} {ls : Array Slot} (hl0 : l.stackTraces = false) (hx : p.tables.exec = Jvm.exec) (hb : c.code = code) (hr : meth.sig.returnType = ret) (hml : c.maxLocals = 8) (hown : s.vm.findClass R_L = some m.cls) (hts : ∀ w ∈ WS, w.before #[Value.ref b] s = true) (hlocks : meth.locks = false) (hX : va_X b 6 xs s s.heap) (hbl : b < s.heap.size) (hK : va_K D Cl (Ty t) s) (hM : Am z sa s) (hz0 : z = s.heap.size) (hP : va_P D Cl ws H) (hD : va_D (Az z) ws) (hS : va_S (Az z) s.heap H locs) (hg0 : gl 0 = some l0) (e0 : ws[0]? = some (x, .inr (5, [.ref xf, .ref xj, .ref xl, .ref fu, .ref xr, .int 1, .int 0, .int 0, .int 0, .int 0]))) (e1 : ws[1]? = some (xf, .inr (3, [.ref fb, .int 0]))) (e4 : ws[4]? = some (xj, .inr (3, [.ref jb, .int 0]))) (e7 : ws[7]? = some (xl, .inl (t 3, 6, .inr (.inr (.inr (.inr gl)))))) (e8 : ws[8]? = some (fu, .inr (2, [.int 4, .int 0, .int 0, .int 0]))) (e10 : ws[10]? = some (l0, .inr (4, [.ref lb, .ref he, .int 0]))) (e13 : ws[13]? = some (he, .inl (t 1, 768, .inl (fun _ => 0)))) (e34 : ws[34]? = some (mm, .inr (6, [.ref mb, .ref ms9, .int 1, .int 1, .ref mn, .ref ml, .ref mk9, .ref mq, .int 0, .int 0, .int 0, .int 0, .int 0, .int 0, .int 4, .int 0, .int 0]))) (e41 : ws[41]? = some (oo, .inl (t 5, 1, .inr (.inl F00)))) (hl : lv_has ls 8 [(4, .int 0), (3, .ref oo), (2, .ref mm), (1, .ref x), (0, .ref b)]) (g0 : ¬ xs 1 < 0) (g1 : xs 1 ≤ 4) (g2 : ¬ xs 2 < 0) (g3 : xs 2 ≤ 1000) (g4 : ¬ xs 3 < 0) (g5 : xs 3 ≤ 300) : W p l e room_1 s m #[Value.ref b] below meth c H locs 42 1071195 (lw_Z below #[Value.ref b] s) (F0 m 679 ls []) := by
  have hz : z ≤ s.heap.size := Nat.le_of_eq hz0
  have hbA : ¬ Az z b := fun h => absurd hbl (Nat.not_lt.mpr (by rw [← hz0]; exact h))
  have hC : Ch ws ws [] := Ch.rf
  refine lv_aload_n hx hb d_law_679 rfl (lv_at hl 3 rfl) ?_
  refine lv_aload_n hx hb d_law_680 rfl (lv_at hl 4 rfl) ?_
  refine lv_iload hx hb d_law_681 (lv_at hl 0 rfl) ?_
  refine lv_iconst (v := 1) hx hb d_law_683 (by decide) ?_
  refine lv_iadd hx hb d_law_684 ?_
  refine lv_topi (fun v1 hv1 => ?_)
  have hv1 : v1 = 1 := hv1.trans (by decide)
  subst hv1
  refine va_sld hx hb hX hbl hbA hS (i := 1) (by unfold vp_in; decide) d_law_685 ?_
  refine W.eq (g2 := F0 m 686 ls [.int (xs 1), .ref x]) rfl ?_
  refine lv_aload_n hx hb d_law_686 rfl (lv_at hl 4 rfl) ?_
  refine lv_iload hx hb d_law_687 (lv_at hl 0 rfl) ?_
  refine lv_iconst (v := 2) hx hb d_law_689 (by decide) ?_
  refine lv_iadd hx hb d_law_690 ?_
  refine lv_topi (fun v2 hv2 => ?_)
  have hv2 : v2 = 2 := hv2.trans (by decide)
  subst hv2
  refine va_sld hx hb hX hbl hbA hS (i := 2) (by unfold vp_in; decide) d_law_691 ?_
  refine W.eq (g2 := F0 m 692 ls [.int (xs 2), .int (xs 1), .ref x]) rfl ?_
  refine lv_aload_n hx hb d_law_692 rfl (lv_at hl 4 rfl) ?_
  refine lv_iload hx hb d_law_693 (lv_at hl 0 rfl) ?_
  refine lv_iconst (v := 3) hx hb d_law_695 (by decide) ?_
  refine lv_iadd hx hb d_law_696 ?_
  refine lv_topi (fun v3 hv3 => ?_)
  have hv3 : v3 = 3 := hv3.trans (by decide)
  subst hv3
  refine va_sld hx hb hX hbl hbA hS (i := 3) (by unfold vp_in; decide) d_law_697 ?_
  refine W.eq (g2 := F0 m 698 ls [.int (xs 3), .int (xs 2), .int (xs 1), .ref x]) rfl ?_
  refine va_calli (vx_runSW (As := [.ref x, .int (xs 1), .int (xs 2), .int (xs 3)]) (rest := []) ⟨hx, hb, hml, hown, hts⟩ (c_L_power (D := D) (t := t) (z := z) (sa := sa) (ws := ws) (a0 := xs 1) (a1 := xs 2) (a2 := xs 3) e0 e8 g0 g1 g2 g3 g4 g5) (vx_cwSW 4 hts (gd_SW ml_L_122 st_L_power in_L cd_L_power) rfl rfl rfl (by decide +kernel) ⟨Nat.le_of_ble_eq_true rfl, Nat.le_of_ble_eq_true rfl⟩) ⟨Pz_blind, Pz_at hP hK hD hz hM hS⟩ rfl rfl hl.1 rfl (lv_room (Nat.le_of_ble_eq_true rfl)) d_law_698 ⟨Nat.le_of_ble_eq_true rfl, Nat.le_of_ble_eq_true rfl⟩) hS (fun q _ h => h) (fun q h => h) (fun r5 w4 t9 H locs ht hvm hp hB hz1 hk1 hS => ?_)
  obtain ⟨hP, hK9, hD, -⟩ := hB
  rw [ht] at hP
  clear hK9
  obtain ⟨hr9, hC9⟩ := hp
  subst hr9
  have e0 : w4[0]? = some (x, .inr (5, [.ref xf, .ref xj, .ref xl, .ref fu, .ref xr, .int 1, .int 0, .int 0, .int 0, .int 0])) := hC9.keep e0 (by decide)
  have e1 : w4[1]? = some (xf, .inr (3, [.ref fb, .int 0])) := hC9.keep e1 (by decide)
  have e4 : w4[4]? = some (xj, .inr (3, [.ref jb, .int 0])) := hC9.keep e4 (by decide)
  have e7 : w4[7]? = some (xl, .inl (t 3, 6, .inr (.inr (.inr (.inr gl))))) := hC9.keep e7 (by decide)
  have e10 : w4[10]? = some (l0, .inr (4, [.ref lb, .ref he, .int 0])) := hC9.keep e10 (by decide)
  have e13 : w4[13]? = some (he, .inl (t 1, 768, .inl (fun _ => 0))) := hC9.keep e13 (by decide)
  have e34 : w4[34]? = some (mm, .inr (6, [.ref mb, .ref ms9, .int 1, .int 1, .ref mn, .ref ml, .ref mk9, .ref mq, .int 0, .int 0, .int 0, .int 0, .int 0, .int 0, .int 4, .int 0, .int 0])) := hC9.keep e34 (by decide)
  have e41 : w4[41]? = some (oo, .inl (t 5, 1, .inr (.inl F00))) := hC9.keep e41 (by decide)
  have hC := hC.trans hC9
  refine lv_istore (lv' := [(5, .int 0), (4, .int 0), (3, .ref oo), (2, .ref mm), (1, .ref x), (0, .ref b)]) hx hb d_law_701 hl (by decide) rfl (fun ls hl => ?_)
  refine lv_aload_n hx hb d_law_703 rfl (lv_at hl 3 rfl) ?_
  refine lv_aload_n hx hb d_law_704 rfl (lv_at hl 5 rfl) ?_
  refine lv_iload hx hb d_law_705 (lv_at hl 1 rfl) ?_
  refine lv_iconst (v := 1) hx hb d_law_707 (by decide) ?_
  refine lv_iadd hx hb d_law_708 ?_
  refine lv_topi (fun v6 hv6 => ?_)
  have hv6 : v6 = 1 := hv6.trans (by decide)
  subst hv6
  refine va_sld hx hb hX hbl hbA hS (i := 1) (by unfold vp_in; decide) d_law_709 ?_
  refine W.eq (g2 := F0 m 710 ls [.int (xs 1), .ref mm]) rfl ?_
  refine lv_aload_n hx hb d_law_710 rfl (lv_at hl 5 rfl) ?_
  refine lv_iload hx hb d_law_711 (lv_at hl 1 rfl) ?_
  refine lv_iconst (v := 2) hx hb d_law_713 (by decide) ?_
  refine lv_iadd hx hb d_law_714 ?_
  refine lv_topi (fun v7 hv7 => ?_)
  have hv7 : v7 = 2 := hv7.trans (by decide)
  subst hv7
  refine va_sld hx hb hX hbl hbA hS (i := 2) (by unfold vp_in; decide) d_law_715 ?_
  refine W.eq (g2 := F0 m 716 ls [.int (xs 2), .int (xs 1), .ref mm]) rfl ?_
  refine lv_aload_n hx hb d_law_716 rfl (lv_at hl 5 rfl) ?_
  refine lv_iload hx hb d_law_717 (lv_at hl 1 rfl) ?_
  refine lv_iconst (v := 3) hx hb d_law_719 (by decide) ?_
  refine lv_iadd hx hb d_law_720 ?_
  refine lv_topi (fun v8 hv8 => ?_)
  have hv8 : v8 = 3 := hv8.trans (by decide)
  subst hv8
  refine va_sld hx hb hX hbl hbA hS (i := 3) (by unfold vp_in; decide) d_law_721 ?_
  refine W.eq (g2 := F0 m 722 ls [.int (xs 3), .int (xs 2), .int (xs 1), .ref mm]) rfl ?_
  refine va_callv (va_runV (As := [.int (xs 1), .int (xs 2), .int (xs 3)]) (rest := []) ⟨hx, hb, hml, hown, hts⟩ (c_M_power (D := D) (t := t) (z := z) (sa := sa) (ws := w4) (a0 := xs 1) (a1 := xs 2) (a2 := xs 3) e34 g0 g1 g2 g3 g4 g5) (cwV 3 hts (gd_V ml_L_125 im_M_power se_M_power in_M cd_M_power) rfl rfl rfl (by decide +kernel) ⟨Nat.le_of_ble_eq_true rfl, Nat.le_of_ble_eq_true rfl⟩) ⟨Pz_blind, va_recv hK hP (ci := 6) rfl e34, Pz_at hP hK hD hz hM hS⟩ rfl rfl hl.1 rfl (lv_room (Nat.le_of_ble_eq_true rfl)) d_law_722 ⟨Nat.le_of_ble_eq_true rfl, Nat.le_of_ble_eq_true rfl⟩) hS (fun q _ h => h) (fun q h => h) (fun w9 t9 H locs ht hvm hp hB hz1 hk1 hS => ?_)
  obtain ⟨hP, hK9, hD, -⟩ := hB
  rw [ht] at hP
  clear hK9
  obtain ⟨hC9, kf34⟩ := hp
  have e0 : w9[0]? = some (x, .inr (5, [.ref xf, .ref xj, .ref xl, .ref fu, .ref xr, .int 1, .int 0, .int 0, .int 0, .int 0])) := hC9.keep e0 (by decide)
  have e1 : w9[1]? = some (xf, .inr (3, [.ref fb, .int 0])) := hC9.keep e1 (by decide)
  have e4 : w9[4]? = some (xj, .inr (3, [.ref jb, .int 0])) := hC9.keep e4 (by decide)
  have e7 : w9[7]? = some (xl, .inl (t 3, 6, .inr (.inr (.inr (.inr gl))))) := hC9.keep e7 (by decide)
  have e10 : w9[10]? = some (l0, .inr (4, [.ref lb, .ref he, .int 0])) := hC9.keep e10 (by decide)
  have e13 : w9[13]? = some (he, .inl (t 1, 768, .inl (fun _ => 0))) := hC9.keep e13 (by decide)
  have e34 : w9[34]? = some (mm, .inr (6, [.ref mb, .ref ms9, .int 1, .int 1, .ref mn, .ref ml, .ref mk9, .ref mq, .int 0, .int 0, .int 0, .int 0, .int 0, .int 0, .int (xs 1), .int (xs 2), .int 0])) := kf34
  have e41 : w9[41]? = some (oo, .inl (t 5, 1, .inr (.inl F00))) := hC9.keep e41 (by decide)
  have hC := hC.trans hC9
  refine lv_aload_n hx hb d_law_725 rfl (lv_at hl 3 rfl) ?_
  refine va_calli (va_runV (As := []) (rest := []) ⟨hx, hb, hml, hown, hts⟩ (c_M_thrown (D := D) (t := t) (z := z) (sa := sa) (ws := w9)  e34) (cwV 0 hts (gd_V ml_L_80 im_M_thrown se_M_thrown in_M cd_M_thrown) rfl rfl rfl (by decide +kernel) ⟨Nat.le_of_ble_eq_true rfl, Nat.le_of_ble_eq_true rfl⟩) ⟨Pz_blind, va_recv hK hP (ci := 6) rfl e34, Pz_at hP hK hD hz hM hS⟩ rfl rfl hl.1 rfl (lv_room (Nat.le_of_ble_eq_true rfl)) d_law_726 ⟨Nat.le_of_ble_eq_true rfl, Nat.le_of_ble_eq_true rfl⟩) hS (fun q _ h => h) (fun q h => h) (fun r12 w11 t9 H locs ht hvm hp hB hz1 hk1 hS => ?_)
  obtain ⟨hP, hK9, hD, -⟩ := hB
  rw [ht] at hP
  clear hK9
  obtain ⟨hr9, hw9⟩ := hp
  rw [hw9] at hP hD
  clear hw9
  subst hr9
  refine lv_iload hx hb d_law_729 (lv_at hl 0 rfl) ?_
  refine lv_icmp_eq (tgt := 736) hx hb d_law_731 rfl (fun _ => ?_) (fun h => absurd h (by decide))
  refine lv_goto (tgt := 839) hx hb d_law_736 rfl ?_
  refine lv_iinc (k := 1) (v := 6) (lv' := [(4, .int 6), (5, .int 0), (3, .ref oo), (2, .ref mm), (1, .ref x), (0, .ref b)]) hx hb d_law_839 hl rfl (by decide) (by decide) rfl (fun ls hl => ?_)
  refine lv_goto (tgt := 23) hx hb d_law_842 rfl ?_
  subst hz0
  exact lw_exit hx hb hr hlocks hX hbl hS hl 0 5 rfl rfl (by decide) (Nat.le_of_ble_eq_true rfl) (Nat.le_of_ble_eq_true rfl)
set_option maxHeartbeats 4000000 in
set_option maxRecDepth 100000 in
theorem lc_12b {p : Program} {l : Launch} {e : Env} {s : State} {m : MethodId} {below : List Frame} {meth : Method} {c : Code} {b : Nat} {xs : Nat → Int32} {D : va_G} {t : Nat → ClassId} {z : Nat} {sa : Nat → Nat} {ws : va_W} {x xf xj xl fu xr fb jb l0 lb he mm mb ms9 mn ml mk9 mq oo : Nat} {gl : Nat → Option Nat} {H : Heap} {locs : List Loc} {ls : Array Slot} (hl0 : l.stackTraces = false) (hx : p.tables.exec = Jvm.exec) (hb : c.code = code) (hr : meth.sig.returnType = ret) (hml : c.maxLocals = 8) (hown : s.vm.findClass R_L = some m.cls) (hts : ∀ w ∈ WS, w.before #[Value.ref b] s = true) (hlocks : meth.locks = false) (hX : va_X b 6 xs s s.heap) (hbl : b < s.heap.size) (hK : va_K D Cl (Ty t) s) (hM : Am z sa s) (hz0 : z = s.heap.size) (hP : va_P D Cl ws H) (hD : va_D (Az z) ws) (hS : va_S (Az z) s.heap H locs) (hg0 : gl 0 = some l0) (e0 : ws[0]? = some (x, .inr (5, [.ref xf, .ref xj, .ref xl, .ref fu, .ref xr, .int 1, .int 0, .int 0, .int 0, .int 0]))) (e1 : ws[1]? = some (xf, .inr (3, [.ref fb, .int 0]))) (e4 : ws[4]? = some (xj, .inr (3, [.ref jb, .int 0]))) (e7 : ws[7]? = some (xl, .inl (t 3, 6, .inr (.inr (.inr (.inr gl)))))) (e8 : ws[8]? = some (fu, .inr (2, [.int 4, .int 0, .int 0, .int 0]))) (e10 : ws[10]? = some (l0, .inr (4, [.ref lb, .ref he, .int 0]))) (e13 : ws[13]? = some (he, .inl (t 1, 768, .inl (fun _ => 0)))) (e34 : ws[34]? = some (mm, .inr (6, [.ref mb, .ref ms9, .int 1, .int 1, .ref mn, .ref ml, .ref mk9, .ref mq, .int 0, .int 0, .int 0, .int 0, .int 0, .int 0, .int 4, .int 0, .int 0]))) (e41 : ws[41]? = some (oo, .inl (t 5, 1, .inr (.inl F00)))) (hl : lv_has ls 8 [(4, .int 0), (3, .ref oo), (2, .ref mm), (1, .ref x), (0, .ref b)]) (g : ¬ (¬ xs 1 < 0 ∧ xs 1 ≤ 4 ∧ ¬ xs 2 < 0 ∧ xs 2 ≤ 1000 ∧ ¬ xs 3 < 0 ∧ xs 3 ≤ 300)) : W p l e room_1 s m #[Value.ref b] below meth c H locs 42 1071195 (lw_Z below #[Value.ref b] s) (F0 m 679 ls []) := by
  have hz : z ≤ s.heap.size := Nat.le_of_eq hz0
  have hbA : ¬ Az z b := fun h => absurd hbl (Nat.not_lt.mpr (by rw [← hz0]; exact h))
  have hC : Ch ws ws [] := Ch.rf
  refine lv_aload_n hx hb d_law_679 rfl (lv_at hl 3 rfl) ?_
  refine lv_aload_n hx hb d_law_680 rfl (lv_at hl 4 rfl) ?_
  refine lv_iload hx hb d_law_681 (lv_at hl 0 rfl) ?_
  refine lv_iconst (v := 1) hx hb d_law_683 (by decide) ?_
  refine lv_iadd hx hb d_law_684 ?_
  refine lv_topi (fun v1 hv1 => ?_)
  have hv1 : v1 = 1 := hv1.trans (by decide)
  subst hv1
  refine va_sld hx hb hX hbl hbA hS (i := 1) (by unfold vp_in; decide) d_law_685 ?_
  refine W.eq (g2 := F0 m 686 ls [.int (xs 1), .ref x]) rfl ?_
  refine lv_aload_n hx hb d_law_686 rfl (lv_at hl 4 rfl) ?_
  refine lv_iload hx hb d_law_687 (lv_at hl 0 rfl) ?_
  refine lv_iconst (v := 2) hx hb d_law_689 (by decide) ?_
  refine lv_iadd hx hb d_law_690 ?_
  refine lv_topi (fun v2 hv2 => ?_)
  have hv2 : v2 = 2 := hv2.trans (by decide)
  subst hv2
  refine va_sld hx hb hX hbl hbA hS (i := 2) (by unfold vp_in; decide) d_law_691 ?_
  refine W.eq (g2 := F0 m 692 ls [.int (xs 2), .int (xs 1), .ref x]) rfl ?_
  refine lv_aload_n hx hb d_law_692 rfl (lv_at hl 4 rfl) ?_
  refine lv_iload hx hb d_law_693 (lv_at hl 0 rfl) ?_
  refine lv_iconst (v := 3) hx hb d_law_695 (by decide) ?_
  refine lv_iadd hx hb d_law_696 ?_
  refine lv_topi (fun v3 hv3 => ?_)
  have hv3 : v3 = 3 := hv3.trans (by decide)
  subst hv3
  refine va_sld hx hb hX hbl hbA hS (i := 3) (by unfold vp_in; decide) d_law_697 ?_
  refine W.eq (g2 := F0 m 698 ls [.int (xs 3), .int (xs 2), .int (xs 1), .ref x]) rfl ?_
  refine va_calli (vx_runSW (As := [.ref x, .int (xs 1), .int (xs 2), .int (xs 3)]) (rest := []) ⟨hx, hb, hml, hown, hts⟩ (c_L_power_b (D := D) (t := t) (z := z) (sa := sa) (ws := ws) (a0 := xs 1) (a1 := xs 2) (a2 := xs 3) hl0 e0 g) (vx_cwSW 4 hts (gd_SW ml_L_122 st_L_power in_L cd_L_power) rfl rfl rfl (by decide +kernel) ⟨Nat.le_of_ble_eq_true rfl, Nat.le_of_ble_eq_true rfl⟩) ⟨Pz_blind, Pz_at hP hK hD hz hM hS⟩ rfl rfl hl.1 rfl (lv_room (Nat.le_of_ble_eq_true rfl)) d_law_698 ⟨Nat.le_of_ble_eq_true rfl, Nat.le_of_ble_eq_true rfl⟩) hS (fun q _ h => h) (fun q h => h) (fun r5 w4 t9 H locs ht hvm hp hB hz1 hk1 hS => ?_)
  obtain ⟨hP, hK9, hD, -⟩ := hB
  rw [ht] at hP
  clear hK9
  obtain ⟨hr9, hC9⟩ := hp
  subst hr9
  have e0 : w4[0]? = some (x, .inr (5, [.ref xf, .ref xj, .ref xl, .ref fu, .ref xr, .int 1, .int 0, .int 0, .int 0, .int 0])) := hC9.keep e0 (by decide)
  have e1 : w4[1]? = some (xf, .inr (3, [.ref fb, .int 0])) := hC9.keep e1 (by decide)
  have e4 : w4[4]? = some (xj, .inr (3, [.ref jb, .int 0])) := hC9.keep e4 (by decide)
  have e7 : w4[7]? = some (xl, .inl (t 3, 6, .inr (.inr (.inr (.inr gl))))) := hC9.keep e7 (by decide)
  have e8 : w4[8]? = some (fu, .inr (2, [.int 4, .int 0, .int 0, .int 0])) := hC9.keep e8 (by decide)
  have e10 : w4[10]? = some (l0, .inr (4, [.ref lb, .ref he, .int 0])) := hC9.keep e10 (by decide)
  have e13 : w4[13]? = some (he, .inl (t 1, 768, .inl (fun _ => 0))) := hC9.keep e13 (by decide)
  have e34 : w4[34]? = some (mm, .inr (6, [.ref mb, .ref ms9, .int 1, .int 1, .ref mn, .ref ml, .ref mk9, .ref mq, .int 0, .int 0, .int 0, .int 0, .int 0, .int 0, .int 4, .int 0, .int 0])) := hC9.keep e34 (by decide)
  have e41 : w4[41]? = some (oo, .inl (t 5, 1, .inr (.inl F00))) := hC9.keep e41 (by decide)
  have hC := hC.trans hC9
  refine lv_istore (lv' := [(5, .int 1), (4, .int 0), (3, .ref oo), (2, .ref mm), (1, .ref x), (0, .ref b)]) hx hb d_law_701 hl (by decide) rfl (fun ls hl => ?_)
  refine lv_aload_n hx hb d_law_703 rfl (lv_at hl 3 rfl) ?_
  refine lv_aload_n hx hb d_law_704 rfl (lv_at hl 5 rfl) ?_
  refine lv_iload hx hb d_law_705 (lv_at hl 1 rfl) ?_
  refine lv_iconst (v := 1) hx hb d_law_707 (by decide) ?_
  refine lv_iadd hx hb d_law_708 ?_
  refine lv_topi (fun v6 hv6 => ?_)
  have hv6 : v6 = 1 := hv6.trans (by decide)
  subst hv6
  refine va_sld hx hb hX hbl hbA hS (i := 1) (by unfold vp_in; decide) d_law_709 ?_
  refine W.eq (g2 := F0 m 710 ls [.int (xs 1), .ref mm]) rfl ?_
  refine lv_aload_n hx hb d_law_710 rfl (lv_at hl 5 rfl) ?_
  refine lv_iload hx hb d_law_711 (lv_at hl 1 rfl) ?_
  refine lv_iconst (v := 2) hx hb d_law_713 (by decide) ?_
  refine lv_iadd hx hb d_law_714 ?_
  refine lv_topi (fun v7 hv7 => ?_)
  have hv7 : v7 = 2 := hv7.trans (by decide)
  subst hv7
  refine va_sld hx hb hX hbl hbA hS (i := 2) (by unfold vp_in; decide) d_law_715 ?_
  refine W.eq (g2 := F0 m 716 ls [.int (xs 2), .int (xs 1), .ref mm]) rfl ?_
  refine lv_aload_n hx hb d_law_716 rfl (lv_at hl 5 rfl) ?_
  refine lv_iload hx hb d_law_717 (lv_at hl 1 rfl) ?_
  refine lv_iconst (v := 3) hx hb d_law_719 (by decide) ?_
  refine lv_iadd hx hb d_law_720 ?_
  refine lv_topi (fun v8 hv8 => ?_)
  have hv8 : v8 = 3 := hv8.trans (by decide)
  subst hv8
  refine va_sld hx hb hX hbl hbA hS (i := 3) (by unfold vp_in; decide) d_law_721 ?_
  refine W.eq (g2 := F0 m 722 ls [.int (xs 3), .int (xs 2), .int (xs 1), .ref mm]) rfl ?_
  refine va_callv (va_runV (As := [.int (xs 1), .int (xs 2), .int (xs 3)]) (rest := []) ⟨hx, hb, hml, hown, hts⟩ (c_M_power_b (D := D) (t := t) (z := z) (sa := sa) (ws := w4) (a0 := xs 1) (a1 := xs 2) (a2 := xs 3) e34 g) (cwV 3 hts (gd_V ml_L_125 im_M_power se_M_power in_M cd_M_power) rfl rfl rfl (by decide +kernel) ⟨Nat.le_of_ble_eq_true rfl, Nat.le_of_ble_eq_true rfl⟩) ⟨Pz_blind, va_recv hK hP (ci := 6) rfl e34, Pz_at hP hK hD hz hM hS⟩ rfl rfl hl.1 rfl (lv_room (Nat.le_of_ble_eq_true rfl)) d_law_722 ⟨Nat.le_of_ble_eq_true rfl, Nat.le_of_ble_eq_true rfl⟩) hS (fun q _ h => h) (fun q h => h) (fun w9 t9 H locs ht hvm hp hB hz1 hk1 hS => ?_)
  obtain ⟨hP, hK9, hD, -⟩ := hB
  rw [ht] at hP
  clear hK9
  obtain ⟨hC9, kf34⟩ := hp
  have e0 : w9[0]? = some (x, .inr (5, [.ref xf, .ref xj, .ref xl, .ref fu, .ref xr, .int 1, .int 0, .int 0, .int 0, .int 0])) := hC9.keep e0 (by decide)
  have e1 : w9[1]? = some (xf, .inr (3, [.ref fb, .int 0])) := hC9.keep e1 (by decide)
  have e4 : w9[4]? = some (xj, .inr (3, [.ref jb, .int 0])) := hC9.keep e4 (by decide)
  have e7 : w9[7]? = some (xl, .inl (t 3, 6, .inr (.inr (.inr (.inr gl))))) := hC9.keep e7 (by decide)
  have e8 : w9[8]? = some (fu, .inr (2, [.int 4, .int 0, .int 0, .int 0])) := hC9.keep e8 (by decide)
  have e10 : w9[10]? = some (l0, .inr (4, [.ref lb, .ref he, .int 0])) := hC9.keep e10 (by decide)
  have e13 : w9[13]? = some (he, .inl (t 1, 768, .inl (fun _ => 0))) := hC9.keep e13 (by decide)
  have e34 : w9[34]? = some (mm, .inr (6, [.ref mb, .ref ms9, .int 1, .int 1, .ref mn, .ref ml, .ref mk9, .ref mq, .int 0, .int 0, .int 0, .int 0, .int 0, .int 0, .int 4, .int 0, .int 1])) := kf34
  have e41 : w9[41]? = some (oo, .inl (t 5, 1, .inr (.inl F00))) := hC9.keep e41 (by decide)
  have hC := hC.trans hC9
  refine lv_aload_n hx hb d_law_725 rfl (lv_at hl 3 rfl) ?_
  refine va_calli (va_runV (As := []) (rest := []) ⟨hx, hb, hml, hown, hts⟩ (c_M_thrown (D := D) (t := t) (z := z) (sa := sa) (ws := w9)  e34) (cwV 0 hts (gd_V ml_L_80 im_M_thrown se_M_thrown in_M cd_M_thrown) rfl rfl rfl (by decide +kernel) ⟨Nat.le_of_ble_eq_true rfl, Nat.le_of_ble_eq_true rfl⟩) ⟨Pz_blind, va_recv hK hP (ci := 6) rfl e34, Pz_at hP hK hD hz hM hS⟩ rfl rfl hl.1 rfl (lv_room (Nat.le_of_ble_eq_true rfl)) d_law_726 ⟨Nat.le_of_ble_eq_true rfl, Nat.le_of_ble_eq_true rfl⟩) hS (fun q _ h => h) (fun q h => h) (fun r12 w11 t9 H locs ht hvm hp hB hz1 hk1 hS => ?_)
  obtain ⟨hP, hK9, hD, -⟩ := hB
  rw [ht] at hP
  clear hK9
  obtain ⟨hr9, hw9⟩ := hp
  rw [hw9] at hP hD
  clear hw9
  subst hr9
  refine lv_iload hx hb d_law_729 (lv_at hl 0 rfl) ?_
  refine lv_icmp_eq (tgt := 736) hx hb d_law_731 rfl (fun _ => ?_) (fun h => absurd h (by decide))
  refine lv_goto (tgt := 839) hx hb d_law_736 rfl ?_
  refine lv_iinc (k := 1) (v := 6) (lv' := [(4, .int 6), (5, .int 1), (3, .ref oo), (2, .ref mm), (1, .ref x), (0, .ref b)]) hx hb d_law_839 hl rfl (by decide) (by decide) rfl (fun ls hl => ?_)
  refine lv_goto (tgt := 23) hx hb d_law_842 rfl ?_
  subst hz0
  exact lw_exit hx hb hr hlocks hX hbl hS hl 0 5 rfl rfl (by decide) (Nat.le_of_ble_eq_true rfl) (Nat.le_of_ble_eq_true rfl)
set_option maxHeartbeats 4000000 in
set_option maxRecDepth 100000 in
theorem lc_13 {p : Program} {l : Launch} {e : Env} {s : State} {m : MethodId} {below : List Frame} {meth : Method} {c : Code} {b : Nat} {xs : Nat → Int32} {D : va_G} {t : Nat → ClassId} {z : Nat} {sa : Nat → Nat} {ws : va_W} {x xf xj xl fu xr fb jb l0 lb he mm mb ms9 mn ml mk9 mq oo : Nat} {gl : Nat → Option Nat} {H : Heap} {locs : List Loc} {ls : Array Slot} (hl0 : l.stackTraces = false) (hx : p.tables.exec = Jvm.exec) (hb : c.code = code) (hr : meth.sig.returnType = ret) (hml : c.maxLocals = 8) (hown : s.vm.findClass R_L = some m.cls) (hts : ∀ w ∈ WS, w.before #[Value.ref b] s = true) (hlocks : meth.locks = false) (hX : va_X b 6 xs s s.heap) (hbl : b < s.heap.size) (hK : va_K D Cl (Ty t) s) (hM : Am z sa s) (hz0 : z = s.heap.size) (hP : va_P D Cl ws H) (hD : va_D (Az z) ws) (hS : va_S (Az z) s.heap H locs) (hg0 : gl 0 = some l0) (e0 : ws[0]? = some (x, .inr (5, [.ref xf, .ref xj, .ref xl, .ref fu, .ref xr, .int 1, .int 0, .int 0, .int 0, .int 0]))) (e1 : ws[1]? = some (xf, .inr (3, [.ref fb, .int 0]))) (e4 : ws[4]? = some (xj, .inr (3, [.ref jb, .int 0]))) (e7 : ws[7]? = some (xl, .inl (t 3, 6, .inr (.inr (.inr (.inr gl)))))) (e8 : ws[8]? = some (fu, .inr (2, [.int 4, .int 0, .int 0, .int 0]))) (e10 : ws[10]? = some (l0, .inr (4, [.ref lb, .ref he, .int 0]))) (e13 : ws[13]? = some (he, .inl (t 1, 768, .inl (fun _ => 0)))) (e34 : ws[34]? = some (mm, .inr (6, [.ref mb, .ref ms9, .int 1, .int 1, .ref mn, .ref ml, .ref mk9, .ref mq, .int 0, .int 0, .int 0, .int 0, .int 0, .int 0, .int 4, .int 0, .int 0]))) (e41 : ws[41]? = some (oo, .inl (t 5, 1, .inr (.inl F00)))) (hl : lv_has ls 8 [(4, .int 0), (3, .ref oo), (2, .ref mm), (1, .ref x), (0, .ref b)])  : W p l e room_1 s m #[Value.ref b] below meth c H locs 42 1071195 (lw_Z below #[Value.ref b] s) (F0 m 739 ls []) := by
  have hz : z ≤ s.heap.size := Nat.le_of_eq hz0
  have hbA : ¬ Az z b := fun h => absurd hbl (Nat.not_lt.mpr (by rw [← hz0]; exact h))
  have hC : Ch ws ws [] := Ch.rf
  refine lv_aload_n hx hb d_law_739 rfl (lv_at hl 3 rfl) ?_
  refine lv_aload_n hx hb d_law_740 rfl (lv_at hl 1 rfl) ?_
  refine va_calli (vx_runSW (As := [.ref x, .ref oo]) (rest := []) ⟨hx, hb, hml, hown, hts⟩ (c_L_reopen (D := D) (t := t) (z := z) (sa := sa) (ws := ws)  e0 e1 e4 e7 e8 e10 e13 e41 hg0) (vx_cwSW 2 hts (gd_SW ml_L_126 st_L_reopen in_L cd_L_reopen) rfl rfl rfl (by decide +kernel) ⟨Nat.le_of_ble_eq_true rfl, Nat.le_of_ble_eq_true rfl⟩) ⟨Pz_blind, Pz_at hP hK hD hz hM hS⟩ rfl rfl hl.1 rfl (lv_room (Nat.le_of_ble_eq_true rfl)) d_law_741 ⟨Nat.le_of_ble_eq_true rfl, Nat.le_of_ble_eq_true rfl⟩) hS (fun q _ h => h) (fun q h => h) (fun r2 w1 t9 H locs ht hvm hp hB hz1 hk1 hS => ?_)
  obtain ⟨hP, hK9, hD, -⟩ := hB
  rw [ht] at hP
  clear hK9
  obtain ⟨hr9, hC9, kf41⟩ := hp
  subst hr9
  have e1 : w1[1]? = some (xf, .inr (3, [.ref fb, .int 0])) := hC9.keep e1 (by decide)
  have e7 : w1[7]? = some (xl, .inl (t 3, 6, .inr (.inr (.inr (.inr gl))))) := hC9.keep e7 (by decide)
  have e34 : w1[34]? = some (mm, .inr (6, [.ref mb, .ref ms9, .int 1, .int 1, .ref mn, .ref ml, .ref mk9, .ref mq, .int 0, .int 0, .int 0, .int 0, .int 0, .int 0, .int 4, .int 0, .int 0])) := hC9.keep e34 (by decide)
  have e41 : w1[41]? = some (oo, .inl (t 5, 1, .inr (.inl (vp_updL F00 0 0)))) := kf41
  have hC := hC.trans hC9
  refine lv_istore (lv' := [(5, .int 0), (4, .int 0), (3, .ref oo), (2, .ref mm), (1, .ref x), (0, .ref b)]) hx hb d_law_744 hl (by decide) rfl (fun ls hl => ?_)
  refine lv_aload_n hx hb d_law_746 rfl (lv_at hl 3 rfl) ?_
  refine va_calli (va_runV (As := []) (rest := []) ⟨hx, hb, hml, hown, hts⟩ (c_M_reopen (D := D) (t := t) (z := z) (sa := sa) (ws := w1)  e34) (cwV 0 hts (gd_V ml_L_128 im_M_reopen se_M_reopen in_M cd_M_reopen) rfl rfl rfl (by decide +kernel) ⟨Nat.le_of_ble_eq_true rfl, Nat.le_of_ble_eq_true rfl⟩) ⟨Pz_blind, va_recv hK hP (ci := 6) rfl e34, Pz_at hP hK hD hz hM hS⟩ rfl rfl hl.1 rfl (lv_room (Nat.le_of_ble_eq_true rfl)) d_law_747 ⟨Nat.le_of_ble_eq_true rfl, Nat.le_of_ble_eq_true rfl⟩) hS (fun q _ h => h) (fun q h => h) (fun r4 w3 t9 H locs ht hvm hp hB hz1 hk1 hS => ?_)
  obtain ⟨hP, hK9, hD, -⟩ := hB
  rw [ht] at hP
  clear hK9
  obtain ⟨hr9, hC9, kf34⟩ := hp
  subst hr9
  have e1 : w3[1]? = some (xf, .inr (3, [.ref fb, .int 0])) := hC9.keep e1 (by decide)
  have e7 : w3[7]? = some (xl, .inl (t 3, 6, .inr (.inr (.inr (.inr gl))))) := hC9.keep e7 (by decide)
  have e34 : w3[34]? = some (mm, .inr (6, [.ref mb, .ref ms9, .int 1, .int 1, .ref mn, .ref ml, .ref mk9, .ref mq, .int 0, .int 0, .int 0, .int 0, .int 0, .int 0, .int 4, .int 0, .int 0])) := kf34
  have e41 : w3[41]? = some (oo, .inl (t 5, 1, .inr (.inl (vp_updL F00 0 0)))) := hC9.keep e41 (by decide)
  have hC := hC.trans hC9
  refine lv_istore (lv' := [(6, .int 0), (5, .int 0), (4, .int 0), (3, .ref oo), (2, .ref mm), (1, .ref x), (0, .ref b)]) hx hb d_law_750 hl (by decide) rfl (fun ls hl => ?_)
  refine lv_aload_n hx hb d_law_752 rfl (lv_at hl 4 rfl) ?_
  refine va_calli (va_runV (As := []) (rest := []) ⟨hx, hb, hml, hown, hts⟩ (c_M_thrown (D := D) (t := t) (z := z) (sa := sa) (ws := w3)  e34) (cwV 0 hts (gd_V ml_L_80 im_M_thrown se_M_thrown in_M cd_M_thrown) rfl rfl rfl (by decide +kernel) ⟨Nat.le_of_ble_eq_true rfl, Nat.le_of_ble_eq_true rfl⟩) ⟨Pz_blind, va_recv hK hP (ci := 6) rfl e34, Pz_at hP hK hD hz hM hS⟩ rfl rfl hl.1 rfl (lv_room (Nat.le_of_ble_eq_true rfl)) d_law_753 ⟨Nat.le_of_ble_eq_true rfl, Nat.le_of_ble_eq_true rfl⟩) hS (fun q _ h => h) (fun q h => h) (fun r6 w5 t9 H locs ht hvm hp hB hz1 hk1 hS => ?_)
  obtain ⟨hP, hK9, hD, -⟩ := hB
  rw [ht] at hP
  clear hK9
  obtain ⟨hr9, hw9⟩ := hp
  rw [hw9] at hP hD
  clear hw9
  subst hr9
  refine lv_iload hx hb d_law_756 (lv_at hl 1 rfl) ?_
  refine lv_icmp_eq (tgt := 763) hx hb d_law_758 rfl (fun _ => ?_) (fun h => absurd h (by decide))
  refine lv_iload hx hb d_law_763 (lv_at hl 1 rfl) ?_
  refine lv_if_ne (tgt := 780) hx hb d_law_765 rfl (fun h => absurd h (by decide)) (fun _ => ?_)
  refine lv_aload_n hx hb d_law_768 rfl (lv_at hl 3 rfl) ?_
  refine lv_iconst (v := 0) hx hb d_law_769 (by decide) ?_
  refine va_lald (D := D) hx hb hK hP 41 5 e41 rfl (i := 0) (by unfold vp_in; decide) d_law_770 ?_
  refine W.eq (g2 := F0 m 771 ls [.long 0]) rfl ?_
  refine lv_iload hx hb d_law_771 (lv_at hl 0 rfl) ?_
  refine lv_i2l (v := 0) hx hb d_law_773 (by decide) ?_
  refine W.lcmp hx hb d_law_774 ?_
  refine lv_topi (fun v7 hv7 => ?_)
  have hv7 : v7 = 0 := hv7.trans (by decide)
  subst hv7
  refine lv_if_eq (tgt := 780) hx hb d_law_775 rfl (fun _ => ?_) (fun h => absurd h (by decide))
  refine lv_goto (tgt := 839) hx hb d_law_780 rfl ?_
  refine lv_iinc (k := 2) (v := 6) (lv' := [(4, .int 6), (6, .int 0), (5, .int 0), (3, .ref oo), (2, .ref mm), (1, .ref x), (0, .ref b)]) hx hb d_law_839 hl rfl (by decide) (by decide) rfl (fun ls hl => ?_)
  refine lv_goto (tgt := 23) hx hb d_law_842 rfl ?_
  subst hz0
  exact lw_exit hx hb hr hlocks hX hbl hS hl 0 6 rfl rfl (by decide) (Nat.le_of_ble_eq_true rfl) (Nat.le_of_ble_eq_true rfl)
set_option maxHeartbeats 4000000 in
set_option maxRecDepth 100000 in
theorem lc_14_0 {p : Program} {l : Launch} {e : Env} {s : State} {m : MethodId} {below : List Frame} {meth : Method} {c : Code} {b : Nat} {xs : Nat → Int32} {D : va_G} {t : Nat → ClassId} {z : Nat} {sa : Nat → Nat} {ws : va_W} {x xf xj xl fu xr fb jb l0 lb he mm mb ms9 mn ml mk9 mq oo : Nat} {gl : Nat → Option Nat} {H : Heap} {locs : List Loc} {ls : Array Slot} (hl0 : l.stackTraces = false) (hx : p.tables.exec = Jvm.exec) (hb : c.code = code) (hr : meth.sig.returnType = ret) (hml : c.maxLocals = 8) (hown : s.vm.findClass R_L = some m.cls) (hts : ∀ w ∈ WS, w.before #[Value.ref b] s = true) (hlocks : meth.locks = false) (hX : va_X b 6 xs s s.heap) (hbl : b < s.heap.size) (hK : va_K D Cl (Ty t) s) (hM : Am z sa s) (hz0 : z = s.heap.size) (hP : va_P D Cl ws H) (hD : va_D (Az z) ws) (hS : va_S (Az z) s.heap H locs) (hg0 : gl 0 = some l0) (e0 : ws[0]? = some (x, .inr (5, [.ref xf, .ref xj, .ref xl, .ref fu, .ref xr, .int 1, .int 0, .int 0, .int 0, .int 0]))) (e1 : ws[1]? = some (xf, .inr (3, [.ref fb, .int 0]))) (e4 : ws[4]? = some (xj, .inr (3, [.ref jb, .int 0]))) (e7 : ws[7]? = some (xl, .inl (t 3, 6, .inr (.inr (.inr (.inr gl)))))) (e8 : ws[8]? = some (fu, .inr (2, [.int 4, .int 0, .int 0, .int 0]))) (e10 : ws[10]? = some (l0, .inr (4, [.ref lb, .ref he, .int 0]))) (e13 : ws[13]? = some (he, .inl (t 1, 768, .inl (fun _ => 0)))) (e34 : ws[34]? = some (mm, .inr (6, [.ref mb, .ref ms9, .int 1, .int 1, .ref mn, .ref ml, .ref mk9, .ref mq, .int 0, .int 0, .int 0, .int 0, .int 0, .int 0, .int 4, .int 0, .int 0]))) (e41 : ws[41]? = some (oo, .inl (t 5, 1, .inr (.inl F00)))) (hl : lv_has ls 8 [(4, .int 0), (3, .ref oo), (2, .ref mm), (1, .ref x), (0, .ref b)]) (g : xs 1 = 0) : W p l e room_1 s m #[Value.ref b] below meth c H locs 42 1071195 (lw_Z below #[Value.ref b] s) (F0 m 783 ls []) := by
  have hz : z ≤ s.heap.size := Nat.le_of_eq hz0
  have hbA : ¬ Az z b := fun h => absurd hbl (Nat.not_lt.mpr (by rw [← hz0]; exact h))
  have hC : Ch ws ws [] := Ch.rf
  refine lv_aload_n hx hb d_law_783 rfl (lv_at hl 3 rfl) ?_
  refine lv_aload_n hx hb d_law_784 rfl (lv_at hl 4 rfl) ?_
  refine lv_iload hx hb d_law_785 (lv_at hl 0 rfl) ?_
  refine lv_iconst (v := 1) hx hb d_law_787 (by decide) ?_
  refine lv_iadd hx hb d_law_788 ?_
  refine lv_topi (fun v1 hv1 => ?_)
  have hv1 : v1 = 1 := hv1.trans (by decide)
  subst hv1
  refine va_sld hx hb hX hbl hbA hS (i := 1) (by unfold vp_in; decide) d_law_789 ?_
  refine W.eq (g2 := F0 m 790 ls [.int 0, .ref x]) (by rw [show (1 : Int32).toNatClampNeg = 1 from by decide, g]) ?_
  refine lv_aload_n hx hb d_law_790 rfl (lv_at hl 1 rfl) ?_
  refine va_calli (vx_runSW (As := [.ref x, .int 0, .ref oo]) (rest := []) ⟨hx, hb, hml, hown, hts⟩ (c_L_told0 (D := D) (t := t) (z := z) (sa := sa) (ws := ws)  e0 e41) (vx_cwSW 3 hts (gd_SW ml_L_129 st_L_told in_L cd_L_told) rfl rfl rfl (by decide +kernel) ⟨Nat.le_of_ble_eq_true rfl, Nat.le_of_ble_eq_true rfl⟩) ⟨Pz_blind, Pz_at hP hK hD hz hM hS⟩ rfl rfl hl.1 rfl (lv_room (Nat.le_of_ble_eq_true rfl)) d_law_791 ⟨Nat.le_of_ble_eq_true rfl, Nat.le_of_ble_eq_true rfl⟩) hS (fun q _ h => h) (fun q h => h) (fun r3 w2 t9 H locs ht hvm hp hB hz1 hk1 hS => ?_)
  obtain ⟨hP, hK9, hD, -⟩ := hB
  rw [ht] at hP
  clear hK9
  obtain ⟨hr9, hC9, kf41⟩ := hp
  subst hr9
  have e0 : w2[0]? = some (x, .inr (5, [.ref xf, .ref xj, .ref xl, .ref fu, .ref xr, .int 1, .int 0, .int 0, .int 0, .int 0])) := hC9.keep e0 (by decide)
  have e1 : w2[1]? = some (xf, .inr (3, [.ref fb, .int 0])) := hC9.keep e1 (by decide)
  have e4 : w2[4]? = some (xj, .inr (3, [.ref jb, .int 0])) := hC9.keep e4 (by decide)
  have e7 : w2[7]? = some (xl, .inl (t 3, 6, .inr (.inr (.inr (.inr gl))))) := hC9.keep e7 (by decide)
  have e8 : w2[8]? = some (fu, .inr (2, [.int 4, .int 0, .int 0, .int 0])) := hC9.keep e8 (by decide)
  have e10 : w2[10]? = some (l0, .inr (4, [.ref lb, .ref he, .int 0])) := hC9.keep e10 (by decide)
  have e13 : w2[13]? = some (he, .inl (t 1, 768, .inl (fun _ => 0))) := hC9.keep e13 (by decide)
  have e34 : w2[34]? = some (mm, .inr (6, [.ref mb, .ref ms9, .int 1, .int 1, .ref mn, .ref ml, .ref mk9, .ref mq, .int 0, .int 0, .int 0, .int 0, .int 0, .int 0, .int 4, .int 0, .int 0])) := hC9.keep e34 (by decide)
  have e41 : w2[41]? = some (oo, .inl (t 5, 1, .inr (.inl (vp_updL F00 0 1)))) := kf41
  have hC := hC.trans hC9
  refine lv_istore (lv' := [(5, .int 0), (4, .int 0), (3, .ref oo), (2, .ref mm), (1, .ref x), (0, .ref b)]) hx hb d_law_794 hl (by decide) rfl (fun ls hl => ?_)
  refine lv_aload_n hx hb d_law_796 rfl (lv_at hl 3 rfl) ?_
  refine lv_aload_n hx hb d_law_797 rfl (lv_at hl 5 rfl) ?_
  refine lv_iload hx hb d_law_798 (lv_at hl 1 rfl) ?_
  refine lv_iconst (v := 1) hx hb d_law_800 (by decide) ?_
  refine lv_iadd hx hb d_law_801 ?_
  refine lv_topi (fun v4 hv4 => ?_)
  have hv4 : v4 = 1 := hv4.trans (by decide)
  subst hv4
  refine va_sld hx hb hX hbl hbA hS (i := 1) (by unfold vp_in; decide) d_law_802 ?_
  refine W.eq (g2 := F0 m 803 ls [.int 0, .ref mm]) (by rw [show (1 : Int32).toNatClampNeg = 1 from by decide, g]) ?_
  refine va_calli (va_runV (As := [.int 0]) (rest := []) ⟨hx, hb, hml, hown, hts⟩ (c_M_told0 (D := D) (t := t) (z := z) (sa := sa) (ws := w2)  e34) (cwV 1 hts (gd_V ml_L_131 im_M_told se_M_told in_M cd_M_told) rfl rfl rfl (by decide +kernel) ⟨Nat.le_of_ble_eq_true rfl, Nat.le_of_ble_eq_true rfl⟩) ⟨Pz_blind, va_recv hK hP (ci := 6) rfl e34, Pz_at hP hK hD hz hM hS⟩ rfl rfl hl.1 rfl (lv_room (Nat.le_of_ble_eq_true rfl)) d_law_803 ⟨Nat.le_of_ble_eq_true rfl, Nat.le_of_ble_eq_true rfl⟩) hS (fun q _ h => h) (fun q h => h) (fun r6 w5 t9 H locs ht hvm hp hB hz1 hk1 hS => ?_)
  obtain ⟨hP, hK9, hD, -⟩ := hB
  rw [ht] at hP
  clear hK9
  obtain ⟨hr9, hC9, kf34⟩ := hp
  subst hr9
  have e0 : w5[0]? = some (x, .inr (5, [.ref xf, .ref xj, .ref xl, .ref fu, .ref xr, .int 1, .int 0, .int 0, .int 0, .int 0])) := hC9.keep e0 (by decide)
  have e1 : w5[1]? = some (xf, .inr (3, [.ref fb, .int 0])) := hC9.keep e1 (by decide)
  have e4 : w5[4]? = some (xj, .inr (3, [.ref jb, .int 0])) := hC9.keep e4 (by decide)
  have e7 : w5[7]? = some (xl, .inl (t 3, 6, .inr (.inr (.inr (.inr gl))))) := hC9.keep e7 (by decide)
  have e8 : w5[8]? = some (fu, .inr (2, [.int 4, .int 0, .int 0, .int 0])) := hC9.keep e8 (by decide)
  have e10 : w5[10]? = some (l0, .inr (4, [.ref lb, .ref he, .int 0])) := hC9.keep e10 (by decide)
  have e13 : w5[13]? = some (he, .inl (t 1, 768, .inl (fun _ => 0))) := hC9.keep e13 (by decide)
  have e34 : w5[34]? = some (mm, .inr (6, [.ref mb, .ref ms9, .int 1, .int 1, .ref mn, .ref ml, .ref mk9, .ref mq, .int 0, .int 0, .int 0, .int 0, .int 0, .int 0, .int 4, .int 0, .int 0])) := kf34
  have e41 : w5[41]? = some (oo, .inl (t 5, 1, .inr (.inl (vp_updL F00 0 1)))) := hC9.keep e41 (by decide)
  have hC := hC.trans hC9
  refine lv_istore (lv' := [(6, .int 1), (5, .int 0), (4, .int 0), (3, .ref oo), (2, .ref mm), (1, .ref x), (0, .ref b)]) hx hb d_law_806 hl (by decide) rfl (fun ls hl => ?_)
  refine lv_aload_n hx hb d_law_808 rfl (lv_at hl 4 rfl) ?_
  refine va_calli (va_runV (As := []) (rest := []) ⟨hx, hb, hml, hown, hts⟩ (c_M_thrown (D := D) (t := t) (z := z) (sa := sa) (ws := w5)  e34) (cwV 0 hts (gd_V ml_L_80 im_M_thrown se_M_thrown in_M cd_M_thrown) rfl rfl rfl (by decide +kernel) ⟨Nat.le_of_ble_eq_true rfl, Nat.le_of_ble_eq_true rfl⟩) ⟨Pz_blind, va_recv hK hP (ci := 6) rfl e34, Pz_at hP hK hD hz hM hS⟩ rfl rfl hl.1 rfl (lv_room (Nat.le_of_ble_eq_true rfl)) d_law_809 ⟨Nat.le_of_ble_eq_true rfl, Nat.le_of_ble_eq_true rfl⟩) hS (fun q _ h => h) (fun q h => h) (fun r8 w7 t9 H locs ht hvm hp hB hz1 hk1 hS => ?_)
  obtain ⟨hP, hK9, hD, -⟩ := hB
  rw [ht] at hP
  clear hK9
  obtain ⟨hr9, hw9⟩ := hp
  rw [hw9] at hP hD
  clear hw9
  subst hr9
  refine lv_iload hx hb d_law_812 (lv_at hl 1 rfl) ?_
  refine lv_icmp_eq (tgt := 819) hx hb d_law_814 rfl (fun _ => ?_) (fun h => absurd h (by decide))
  refine lv_iload hx hb d_law_819 (lv_at hl 1 rfl) ?_
  refine lv_if_ne (tgt := 836) hx hb d_law_821 rfl (fun h => absurd h (by decide)) (fun _ => ?_)
  refine lv_aload_n hx hb d_law_824 rfl (lv_at hl 3 rfl) ?_
  refine lv_iconst (v := 0) hx hb d_law_825 (by decide) ?_
  refine va_lald (D := D) hx hb hK hP 41 5 e41 rfl (i := 0) (by unfold vp_in; decide) d_law_826 ?_
  refine W.eq (g2 := F0 m 827 ls [.long 1]) rfl ?_
  refine lv_iload hx hb d_law_827 (lv_at hl 0 rfl) ?_
  refine lv_i2l (v := 1) hx hb d_law_829 (by decide) ?_
  refine W.lcmp hx hb d_law_830 ?_
  refine lv_topi (fun v9 hv9 => ?_)
  have hv9 : v9 = 0 := hv9.trans (by decide)
  subst hv9
  refine lv_if_eq (tgt := 836) hx hb d_law_831 rfl (fun _ => ?_) (fun h => absurd h (by decide))
  refine lv_goto (tgt := 839) hx hb d_law_836 rfl ?_
  refine lv_iinc (k := 2) (v := 6) (lv' := [(4, .int 6), (6, .int 1), (5, .int 0), (3, .ref oo), (2, .ref mm), (1, .ref x), (0, .ref b)]) hx hb d_law_839 hl rfl (by decide) (by decide) rfl (fun ls hl => ?_)
  refine lv_goto (tgt := 23) hx hb d_law_842 rfl ?_
  subst hz0
  exact lw_exit hx hb hr hlocks hX hbl hS hl 0 6 rfl rfl (by decide) (Nat.le_of_ble_eq_true rfl) (Nat.le_of_ble_eq_true rfl)
set_option maxHeartbeats 4000000 in
set_option maxRecDepth 100000 in
theorem lc_14_1 {p : Program} {l : Launch} {e : Env} {s : State} {m : MethodId} {below : List Frame} {meth : Method} {c : Code} {b : Nat} {xs : Nat → Int32} {D : va_G} {t : Nat → ClassId} {z : Nat} {sa : Nat → Nat} {ws : va_W} {x xf xj xl fu xr fb jb l0 lb he mm mb ms9 mn ml mk9 mq oo : Nat} {gl : Nat → Option Nat} {H : Heap} {locs : List Loc} {ls : Array Slot} (hl0 : l.stackTraces = false) (hx : p.tables.exec = Jvm.exec) (hb : c.code = code) (hr : meth.sig.returnType = ret) (hml : c.maxLocals = 8) (hown : s.vm.findClass R_L = some m.cls) (hts : ∀ w ∈ WS, w.before #[Value.ref b] s = true) (hlocks : meth.locks = false) (hX : va_X b 6 xs s s.heap) (hbl : b < s.heap.size) (hK : va_K D Cl (Ty t) s) (hM : Am z sa s) (hz0 : z = s.heap.size) (hP : va_P D Cl ws H) (hD : va_D (Az z) ws) (hS : va_S (Az z) s.heap H locs) (hg0 : gl 0 = some l0) (e0 : ws[0]? = some (x, .inr (5, [.ref xf, .ref xj, .ref xl, .ref fu, .ref xr, .int 1, .int 0, .int 0, .int 0, .int 0]))) (e1 : ws[1]? = some (xf, .inr (3, [.ref fb, .int 0]))) (e4 : ws[4]? = some (xj, .inr (3, [.ref jb, .int 0]))) (e7 : ws[7]? = some (xl, .inl (t 3, 6, .inr (.inr (.inr (.inr gl)))))) (e8 : ws[8]? = some (fu, .inr (2, [.int 4, .int 0, .int 0, .int 0]))) (e10 : ws[10]? = some (l0, .inr (4, [.ref lb, .ref he, .int 0]))) (e13 : ws[13]? = some (he, .inl (t 1, 768, .inl (fun _ => 0)))) (e34 : ws[34]? = some (mm, .inr (6, [.ref mb, .ref ms9, .int 1, .int 1, .ref mn, .ref ml, .ref mk9, .ref mq, .int 0, .int 0, .int 0, .int 0, .int 0, .int 0, .int 4, .int 0, .int 0]))) (e41 : ws[41]? = some (oo, .inl (t 5, 1, .inr (.inl F00)))) (hl : lv_has ls 8 [(4, .int 0), (3, .ref oo), (2, .ref mm), (1, .ref x), (0, .ref b)]) (g : xs 1 = 1) : W p l e room_1 s m #[Value.ref b] below meth c H locs 42 1071195 (lw_Z below #[Value.ref b] s) (F0 m 783 ls []) := by
  have hz : z ≤ s.heap.size := Nat.le_of_eq hz0
  have hbA : ¬ Az z b := fun h => absurd hbl (Nat.not_lt.mpr (by rw [← hz0]; exact h))
  have hC : Ch ws ws [] := Ch.rf
  refine lv_aload_n hx hb d_law_783 rfl (lv_at hl 3 rfl) ?_
  refine lv_aload_n hx hb d_law_784 rfl (lv_at hl 4 rfl) ?_
  refine lv_iload hx hb d_law_785 (lv_at hl 0 rfl) ?_
  refine lv_iconst (v := 1) hx hb d_law_787 (by decide) ?_
  refine lv_iadd hx hb d_law_788 ?_
  refine lv_topi (fun v1 hv1 => ?_)
  have hv1 : v1 = 1 := hv1.trans (by decide)
  subst hv1
  refine va_sld hx hb hX hbl hbA hS (i := 1) (by unfold vp_in; decide) d_law_789 ?_
  refine W.eq (g2 := F0 m 790 ls [.int 1, .ref x]) (by rw [show (1 : Int32).toNatClampNeg = 1 from by decide, g]) ?_
  refine lv_aload_n hx hb d_law_790 rfl (lv_at hl 1 rfl) ?_
  refine va_calli (vx_runSW (As := [.ref x, .int 1, .ref oo]) (rest := []) ⟨hx, hb, hml, hown, hts⟩ (c_L_told1 (D := D) (t := t) (z := z) (sa := sa) (ws := ws)  e0 e41) (vx_cwSW 3 hts (gd_SW ml_L_129 st_L_told in_L cd_L_told) rfl rfl rfl (by decide +kernel) ⟨Nat.le_of_ble_eq_true rfl, Nat.le_of_ble_eq_true rfl⟩) ⟨Pz_blind, Pz_at hP hK hD hz hM hS⟩ rfl rfl hl.1 rfl (lv_room (Nat.le_of_ble_eq_true rfl)) d_law_791 ⟨Nat.le_of_ble_eq_true rfl, Nat.le_of_ble_eq_true rfl⟩) hS (fun q _ h => h) (fun q h => h) (fun r3 w2 t9 H locs ht hvm hp hB hz1 hk1 hS => ?_)
  obtain ⟨hP, hK9, hD, -⟩ := hB
  rw [ht] at hP
  clear hK9
  obtain ⟨hr9, hC9, kf41⟩ := hp
  subst hr9
  have e0 : w2[0]? = some (x, .inr (5, [.ref xf, .ref xj, .ref xl, .ref fu, .ref xr, .int 1, .int 0, .int 0, .int 0, .int 0])) := hC9.keep e0 (by decide)
  have e1 : w2[1]? = some (xf, .inr (3, [.ref fb, .int 0])) := hC9.keep e1 (by decide)
  have e4 : w2[4]? = some (xj, .inr (3, [.ref jb, .int 0])) := hC9.keep e4 (by decide)
  have e7 : w2[7]? = some (xl, .inl (t 3, 6, .inr (.inr (.inr (.inr gl))))) := hC9.keep e7 (by decide)
  have e8 : w2[8]? = some (fu, .inr (2, [.int 4, .int 0, .int 0, .int 0])) := hC9.keep e8 (by decide)
  have e10 : w2[10]? = some (l0, .inr (4, [.ref lb, .ref he, .int 0])) := hC9.keep e10 (by decide)
  have e13 : w2[13]? = some (he, .inl (t 1, 768, .inl (fun _ => 0))) := hC9.keep e13 (by decide)
  have e34 : w2[34]? = some (mm, .inr (6, [.ref mb, .ref ms9, .int 1, .int 1, .ref mn, .ref ml, .ref mk9, .ref mq, .int 0, .int 0, .int 0, .int 0, .int 0, .int 0, .int 4, .int 0, .int 0])) := hC9.keep e34 (by decide)
  have e41 : w2[41]? = some (oo, .inl (t 5, 1, .inr (.inl (vp_updL F00 0 0)))) := kf41
  have hC := hC.trans hC9
  refine lv_istore (lv' := [(5, .int 0), (4, .int 0), (3, .ref oo), (2, .ref mm), (1, .ref x), (0, .ref b)]) hx hb d_law_794 hl (by decide) rfl (fun ls hl => ?_)
  refine lv_aload_n hx hb d_law_796 rfl (lv_at hl 3 rfl) ?_
  refine lv_aload_n hx hb d_law_797 rfl (lv_at hl 5 rfl) ?_
  refine lv_iload hx hb d_law_798 (lv_at hl 1 rfl) ?_
  refine lv_iconst (v := 1) hx hb d_law_800 (by decide) ?_
  refine lv_iadd hx hb d_law_801 ?_
  refine lv_topi (fun v4 hv4 => ?_)
  have hv4 : v4 = 1 := hv4.trans (by decide)
  subst hv4
  refine va_sld hx hb hX hbl hbA hS (i := 1) (by unfold vp_in; decide) d_law_802 ?_
  refine W.eq (g2 := F0 m 803 ls [.int 1, .ref mm]) (by rw [show (1 : Int32).toNatClampNeg = 1 from by decide, g]) ?_
  refine va_calli (va_runV (As := [.int 1]) (rest := []) ⟨hx, hb, hml, hown, hts⟩ (c_M_told1 (D := D) (t := t) (z := z) (sa := sa) (ws := w2)  e34) (cwV 1 hts (gd_V ml_L_131 im_M_told se_M_told in_M cd_M_told) rfl rfl rfl (by decide +kernel) ⟨Nat.le_of_ble_eq_true rfl, Nat.le_of_ble_eq_true rfl⟩) ⟨Pz_blind, va_recv hK hP (ci := 6) rfl e34, Pz_at hP hK hD hz hM hS⟩ rfl rfl hl.1 rfl (lv_room (Nat.le_of_ble_eq_true rfl)) d_law_803 ⟨Nat.le_of_ble_eq_true rfl, Nat.le_of_ble_eq_true rfl⟩) hS (fun q _ h => h) (fun q h => h) (fun r6 w5 t9 H locs ht hvm hp hB hz1 hk1 hS => ?_)
  obtain ⟨hP, hK9, hD, -⟩ := hB
  rw [ht] at hP
  clear hK9
  obtain ⟨hr9, hC9, kf34⟩ := hp
  subst hr9
  have e0 : w5[0]? = some (x, .inr (5, [.ref xf, .ref xj, .ref xl, .ref fu, .ref xr, .int 1, .int 0, .int 0, .int 0, .int 0])) := hC9.keep e0 (by decide)
  have e1 : w5[1]? = some (xf, .inr (3, [.ref fb, .int 0])) := hC9.keep e1 (by decide)
  have e4 : w5[4]? = some (xj, .inr (3, [.ref jb, .int 0])) := hC9.keep e4 (by decide)
  have e7 : w5[7]? = some (xl, .inl (t 3, 6, .inr (.inr (.inr (.inr gl))))) := hC9.keep e7 (by decide)
  have e8 : w5[8]? = some (fu, .inr (2, [.int 4, .int 0, .int 0, .int 0])) := hC9.keep e8 (by decide)
  have e10 : w5[10]? = some (l0, .inr (4, [.ref lb, .ref he, .int 0])) := hC9.keep e10 (by decide)
  have e13 : w5[13]? = some (he, .inl (t 1, 768, .inl (fun _ => 0))) := hC9.keep e13 (by decide)
  have e34 : w5[34]? = some (mm, .inr (6, [.ref mb, .ref ms9, .int 1, .int 1, .ref mn, .ref ml, .ref mk9, .ref mq, .int 0, .int 0, .int 0, .int 0, .int 0, .int 0, .int 4, .int 0, .int 0])) := kf34
  have e41 : w5[41]? = some (oo, .inl (t 5, 1, .inr (.inl (vp_updL F00 0 0)))) := hC9.keep e41 (by decide)
  have hC := hC.trans hC9
  refine lv_istore (lv' := [(6, .int 0), (5, .int 0), (4, .int 0), (3, .ref oo), (2, .ref mm), (1, .ref x), (0, .ref b)]) hx hb d_law_806 hl (by decide) rfl (fun ls hl => ?_)
  refine lv_aload_n hx hb d_law_808 rfl (lv_at hl 4 rfl) ?_
  refine va_calli (va_runV (As := []) (rest := []) ⟨hx, hb, hml, hown, hts⟩ (c_M_thrown (D := D) (t := t) (z := z) (sa := sa) (ws := w5)  e34) (cwV 0 hts (gd_V ml_L_80 im_M_thrown se_M_thrown in_M cd_M_thrown) rfl rfl rfl (by decide +kernel) ⟨Nat.le_of_ble_eq_true rfl, Nat.le_of_ble_eq_true rfl⟩) ⟨Pz_blind, va_recv hK hP (ci := 6) rfl e34, Pz_at hP hK hD hz hM hS⟩ rfl rfl hl.1 rfl (lv_room (Nat.le_of_ble_eq_true rfl)) d_law_809 ⟨Nat.le_of_ble_eq_true rfl, Nat.le_of_ble_eq_true rfl⟩) hS (fun q _ h => h) (fun q h => h) (fun r8 w7 t9 H locs ht hvm hp hB hz1 hk1 hS => ?_)
  obtain ⟨hP, hK9, hD, -⟩ := hB
  rw [ht] at hP
  clear hK9
  obtain ⟨hr9, hw9⟩ := hp
  rw [hw9] at hP hD
  clear hw9
  subst hr9
  refine lv_iload hx hb d_law_812 (lv_at hl 1 rfl) ?_
  refine lv_icmp_eq (tgt := 819) hx hb d_law_814 rfl (fun _ => ?_) (fun h => absurd h (by decide))
  refine lv_iload hx hb d_law_819 (lv_at hl 1 rfl) ?_
  refine lv_if_ne (tgt := 836) hx hb d_law_821 rfl (fun h => absurd h (by decide)) (fun _ => ?_)
  refine lv_aload_n hx hb d_law_824 rfl (lv_at hl 3 rfl) ?_
  refine lv_iconst (v := 0) hx hb d_law_825 (by decide) ?_
  refine va_lald (D := D) hx hb hK hP 41 5 e41 rfl (i := 0) (by unfold vp_in; decide) d_law_826 ?_
  refine W.eq (g2 := F0 m 827 ls [.long 0]) rfl ?_
  refine lv_iload hx hb d_law_827 (lv_at hl 0 rfl) ?_
  refine lv_i2l (v := 0) hx hb d_law_829 (by decide) ?_
  refine W.lcmp hx hb d_law_830 ?_
  refine lv_topi (fun v9 hv9 => ?_)
  have hv9 : v9 = 0 := hv9.trans (by decide)
  subst hv9
  refine lv_if_eq (tgt := 836) hx hb d_law_831 rfl (fun _ => ?_) (fun h => absurd h (by decide))
  refine lv_goto (tgt := 839) hx hb d_law_836 rfl ?_
  refine lv_iinc (k := 2) (v := 6) (lv' := [(4, .int 6), (6, .int 0), (5, .int 0), (3, .ref oo), (2, .ref mm), (1, .ref x), (0, .ref b)]) hx hb d_law_839 hl rfl (by decide) (by decide) rfl (fun ls hl => ?_)
  refine lv_goto (tgt := 23) hx hb d_law_842 rfl ?_
  subst hz0
  exact lw_exit hx hb hr hlocks hX hbl hS hl 0 6 rfl rfl (by decide) (Nat.le_of_ble_eq_true rfl) (Nat.le_of_ble_eq_true rfl)
set_option maxHeartbeats 4000000 in
set_option maxRecDepth 100000 in
theorem lc_14_2 {p : Program} {l : Launch} {e : Env} {s : State} {m : MethodId} {below : List Frame} {meth : Method} {c : Code} {b : Nat} {xs : Nat → Int32} {D : va_G} {t : Nat → ClassId} {z : Nat} {sa : Nat → Nat} {ws : va_W} {x xf xj xl fu xr fb jb l0 lb he mm mb ms9 mn ml mk9 mq oo : Nat} {gl : Nat → Option Nat} {H : Heap} {locs : List Loc} {ls : Array Slot} (hl0 : l.stackTraces = false) (hx : p.tables.exec = Jvm.exec) (hb : c.code = code) (hr : meth.sig.returnType = ret) (hml : c.maxLocals = 8) (hown : s.vm.findClass R_L = some m.cls) (hts : ∀ w ∈ WS, w.before #[Value.ref b] s = true) (hlocks : meth.locks = false) (hX : va_X b 6 xs s s.heap) (hbl : b < s.heap.size) (hK : va_K D Cl (Ty t) s) (hM : Am z sa s) (hz0 : z = s.heap.size) (hP : va_P D Cl ws H) (hD : va_D (Az z) ws) (hS : va_S (Az z) s.heap H locs) (hg0 : gl 0 = some l0) (e0 : ws[0]? = some (x, .inr (5, [.ref xf, .ref xj, .ref xl, .ref fu, .ref xr, .int 1, .int 0, .int 0, .int 0, .int 0]))) (e1 : ws[1]? = some (xf, .inr (3, [.ref fb, .int 0]))) (e4 : ws[4]? = some (xj, .inr (3, [.ref jb, .int 0]))) (e7 : ws[7]? = some (xl, .inl (t 3, 6, .inr (.inr (.inr (.inr gl)))))) (e8 : ws[8]? = some (fu, .inr (2, [.int 4, .int 0, .int 0, .int 0]))) (e10 : ws[10]? = some (l0, .inr (4, [.ref lb, .ref he, .int 0]))) (e13 : ws[13]? = some (he, .inl (t 1, 768, .inl (fun _ => 0)))) (e34 : ws[34]? = some (mm, .inr (6, [.ref mb, .ref ms9, .int 1, .int 1, .ref mn, .ref ml, .ref mk9, .ref mq, .int 0, .int 0, .int 0, .int 0, .int 0, .int 0, .int 4, .int 0, .int 0]))) (e41 : ws[41]? = some (oo, .inl (t 5, 1, .inr (.inl F00)))) (hl : lv_has ls 8 [(4, .int 0), (3, .ref oo), (2, .ref mm), (1, .ref x), (0, .ref b)]) (g : xs 1 = 2) : W p l e room_1 s m #[Value.ref b] below meth c H locs 42 1071195 (lw_Z below #[Value.ref b] s) (F0 m 783 ls []) := by
  have hz : z ≤ s.heap.size := Nat.le_of_eq hz0
  have hbA : ¬ Az z b := fun h => absurd hbl (Nat.not_lt.mpr (by rw [← hz0]; exact h))
  have hC : Ch ws ws [] := Ch.rf
  refine lv_aload_n hx hb d_law_783 rfl (lv_at hl 3 rfl) ?_
  refine lv_aload_n hx hb d_law_784 rfl (lv_at hl 4 rfl) ?_
  refine lv_iload hx hb d_law_785 (lv_at hl 0 rfl) ?_
  refine lv_iconst (v := 1) hx hb d_law_787 (by decide) ?_
  refine lv_iadd hx hb d_law_788 ?_
  refine lv_topi (fun v1 hv1 => ?_)
  have hv1 : v1 = 1 := hv1.trans (by decide)
  subst hv1
  refine va_sld hx hb hX hbl hbA hS (i := 1) (by unfold vp_in; decide) d_law_789 ?_
  refine W.eq (g2 := F0 m 790 ls [.int 2, .ref x]) (by rw [show (1 : Int32).toNatClampNeg = 1 from by decide, g]) ?_
  refine lv_aload_n hx hb d_law_790 rfl (lv_at hl 1 rfl) ?_
  refine va_calli (vx_runSW (As := [.ref x, .int 2, .ref oo]) (rest := []) ⟨hx, hb, hml, hown, hts⟩ (c_L_told2 (D := D) (t := t) (z := z) (sa := sa) (ws := ws)  e0 e41) (vx_cwSW 3 hts (gd_SW ml_L_129 st_L_told in_L cd_L_told) rfl rfl rfl (by decide +kernel) ⟨Nat.le_of_ble_eq_true rfl, Nat.le_of_ble_eq_true rfl⟩) ⟨Pz_blind, Pz_at hP hK hD hz hM hS⟩ rfl rfl hl.1 rfl (lv_room (Nat.le_of_ble_eq_true rfl)) d_law_791 ⟨Nat.le_of_ble_eq_true rfl, Nat.le_of_ble_eq_true rfl⟩) hS (fun q _ h => h) (fun q h => h) (fun r3 w2 t9 H locs ht hvm hp hB hz1 hk1 hS => ?_)
  obtain ⟨hP, hK9, hD, -⟩ := hB
  rw [ht] at hP
  clear hK9
  obtain ⟨hr9, hC9, kf41⟩ := hp
  subst hr9
  have e0 : w2[0]? = some (x, .inr (5, [.ref xf, .ref xj, .ref xl, .ref fu, .ref xr, .int 1, .int 0, .int 0, .int 0, .int 0])) := hC9.keep e0 (by decide)
  have e1 : w2[1]? = some (xf, .inr (3, [.ref fb, .int 0])) := hC9.keep e1 (by decide)
  have e4 : w2[4]? = some (xj, .inr (3, [.ref jb, .int 0])) := hC9.keep e4 (by decide)
  have e7 : w2[7]? = some (xl, .inl (t 3, 6, .inr (.inr (.inr (.inr gl))))) := hC9.keep e7 (by decide)
  have e8 : w2[8]? = some (fu, .inr (2, [.int 4, .int 0, .int 0, .int 0])) := hC9.keep e8 (by decide)
  have e10 : w2[10]? = some (l0, .inr (4, [.ref lb, .ref he, .int 0])) := hC9.keep e10 (by decide)
  have e13 : w2[13]? = some (he, .inl (t 1, 768, .inl (fun _ => 0))) := hC9.keep e13 (by decide)
  have e34 : w2[34]? = some (mm, .inr (6, [.ref mb, .ref ms9, .int 1, .int 1, .ref mn, .ref ml, .ref mk9, .ref mq, .int 0, .int 0, .int 0, .int 0, .int 0, .int 0, .int 4, .int 0, .int 0])) := hC9.keep e34 (by decide)
  have e41 : w2[41]? = some (oo, .inl (t 5, 1, .inr (.inl (vp_updL F00 0 0)))) := kf41
  have hC := hC.trans hC9
  refine lv_istore (lv' := [(5, .int 0), (4, .int 0), (3, .ref oo), (2, .ref mm), (1, .ref x), (0, .ref b)]) hx hb d_law_794 hl (by decide) rfl (fun ls hl => ?_)
  refine lv_aload_n hx hb d_law_796 rfl (lv_at hl 3 rfl) ?_
  refine lv_aload_n hx hb d_law_797 rfl (lv_at hl 5 rfl) ?_
  refine lv_iload hx hb d_law_798 (lv_at hl 1 rfl) ?_
  refine lv_iconst (v := 1) hx hb d_law_800 (by decide) ?_
  refine lv_iadd hx hb d_law_801 ?_
  refine lv_topi (fun v4 hv4 => ?_)
  have hv4 : v4 = 1 := hv4.trans (by decide)
  subst hv4
  refine va_sld hx hb hX hbl hbA hS (i := 1) (by unfold vp_in; decide) d_law_802 ?_
  refine W.eq (g2 := F0 m 803 ls [.int 2, .ref mm]) (by rw [show (1 : Int32).toNatClampNeg = 1 from by decide, g]) ?_
  refine va_calli (va_runV (As := [.int 2]) (rest := []) ⟨hx, hb, hml, hown, hts⟩ (c_M_told2 (D := D) (t := t) (z := z) (sa := sa) (ws := w2)  e34) (cwV 1 hts (gd_V ml_L_131 im_M_told se_M_told in_M cd_M_told) rfl rfl rfl (by decide +kernel) ⟨Nat.le_of_ble_eq_true rfl, Nat.le_of_ble_eq_true rfl⟩) ⟨Pz_blind, va_recv hK hP (ci := 6) rfl e34, Pz_at hP hK hD hz hM hS⟩ rfl rfl hl.1 rfl (lv_room (Nat.le_of_ble_eq_true rfl)) d_law_803 ⟨Nat.le_of_ble_eq_true rfl, Nat.le_of_ble_eq_true rfl⟩) hS (fun q _ h => h) (fun q h => h) (fun r6 w5 t9 H locs ht hvm hp hB hz1 hk1 hS => ?_)
  obtain ⟨hP, hK9, hD, -⟩ := hB
  rw [ht] at hP
  clear hK9
  obtain ⟨hr9, hC9, kf34⟩ := hp
  subst hr9
  have e0 : w5[0]? = some (x, .inr (5, [.ref xf, .ref xj, .ref xl, .ref fu, .ref xr, .int 1, .int 0, .int 0, .int 0, .int 0])) := hC9.keep e0 (by decide)
  have e1 : w5[1]? = some (xf, .inr (3, [.ref fb, .int 0])) := hC9.keep e1 (by decide)
  have e4 : w5[4]? = some (xj, .inr (3, [.ref jb, .int 0])) := hC9.keep e4 (by decide)
  have e7 : w5[7]? = some (xl, .inl (t 3, 6, .inr (.inr (.inr (.inr gl))))) := hC9.keep e7 (by decide)
  have e8 : w5[8]? = some (fu, .inr (2, [.int 4, .int 0, .int 0, .int 0])) := hC9.keep e8 (by decide)
  have e10 : w5[10]? = some (l0, .inr (4, [.ref lb, .ref he, .int 0])) := hC9.keep e10 (by decide)
  have e13 : w5[13]? = some (he, .inl (t 1, 768, .inl (fun _ => 0))) := hC9.keep e13 (by decide)
  have e34 : w5[34]? = some (mm, .inr (6, [.ref mb, .ref ms9, .int 1, .int 1, .ref mn, .ref ml, .ref mk9, .ref mq, .int 0, .int 0, .int 0, .int 0, .int 0, .int 0, .int 4, .int 0, .int 0])) := kf34
  have e41 : w5[41]? = some (oo, .inl (t 5, 1, .inr (.inl (vp_updL F00 0 0)))) := hC9.keep e41 (by decide)
  have hC := hC.trans hC9
  refine lv_istore (lv' := [(6, .int 0), (5, .int 0), (4, .int 0), (3, .ref oo), (2, .ref mm), (1, .ref x), (0, .ref b)]) hx hb d_law_806 hl (by decide) rfl (fun ls hl => ?_)
  refine lv_aload_n hx hb d_law_808 rfl (lv_at hl 4 rfl) ?_
  refine va_calli (va_runV (As := []) (rest := []) ⟨hx, hb, hml, hown, hts⟩ (c_M_thrown (D := D) (t := t) (z := z) (sa := sa) (ws := w5)  e34) (cwV 0 hts (gd_V ml_L_80 im_M_thrown se_M_thrown in_M cd_M_thrown) rfl rfl rfl (by decide +kernel) ⟨Nat.le_of_ble_eq_true rfl, Nat.le_of_ble_eq_true rfl⟩) ⟨Pz_blind, va_recv hK hP (ci := 6) rfl e34, Pz_at hP hK hD hz hM hS⟩ rfl rfl hl.1 rfl (lv_room (Nat.le_of_ble_eq_true rfl)) d_law_809 ⟨Nat.le_of_ble_eq_true rfl, Nat.le_of_ble_eq_true rfl⟩) hS (fun q _ h => h) (fun q h => h) (fun r8 w7 t9 H locs ht hvm hp hB hz1 hk1 hS => ?_)
  obtain ⟨hP, hK9, hD, -⟩ := hB
  rw [ht] at hP
  clear hK9
  obtain ⟨hr9, hw9⟩ := hp
  rw [hw9] at hP hD
  clear hw9
  subst hr9
  refine lv_iload hx hb d_law_812 (lv_at hl 1 rfl) ?_
  refine lv_icmp_eq (tgt := 819) hx hb d_law_814 rfl (fun _ => ?_) (fun h => absurd h (by decide))
  refine lv_iload hx hb d_law_819 (lv_at hl 1 rfl) ?_
  refine lv_if_ne (tgt := 836) hx hb d_law_821 rfl (fun h => absurd h (by decide)) (fun _ => ?_)
  refine lv_aload_n hx hb d_law_824 rfl (lv_at hl 3 rfl) ?_
  refine lv_iconst (v := 0) hx hb d_law_825 (by decide) ?_
  refine va_lald (D := D) hx hb hK hP 41 5 e41 rfl (i := 0) (by unfold vp_in; decide) d_law_826 ?_
  refine W.eq (g2 := F0 m 827 ls [.long 0]) rfl ?_
  refine lv_iload hx hb d_law_827 (lv_at hl 0 rfl) ?_
  refine lv_i2l (v := 0) hx hb d_law_829 (by decide) ?_
  refine W.lcmp hx hb d_law_830 ?_
  refine lv_topi (fun v9 hv9 => ?_)
  have hv9 : v9 = 0 := hv9.trans (by decide)
  subst hv9
  refine lv_if_eq (tgt := 836) hx hb d_law_831 rfl (fun _ => ?_) (fun h => absurd h (by decide))
  refine lv_goto (tgt := 839) hx hb d_law_836 rfl ?_
  refine lv_iinc (k := 2) (v := 6) (lv' := [(4, .int 6), (6, .int 0), (5, .int 0), (3, .ref oo), (2, .ref mm), (1, .ref x), (0, .ref b)]) hx hb d_law_839 hl rfl (by decide) (by decide) rfl (fun ls hl => ?_)
  refine lv_goto (tgt := 23) hx hb d_law_842 rfl ?_
  subst hz0
  exact lw_exit hx hb hr hlocks hX hbl hS hl 0 6 rfl rfl (by decide) (Nat.le_of_ble_eq_true rfl) (Nat.le_of_ble_eq_true rfl)
set_option maxHeartbeats 4000000 in
set_option maxRecDepth 100000 in
theorem lc_14_3 {p : Program} {l : Launch} {e : Env} {s : State} {m : MethodId} {below : List Frame} {meth : Method} {c : Code} {b : Nat} {xs : Nat → Int32} {D : va_G} {t : Nat → ClassId} {z : Nat} {sa : Nat → Nat} {ws : va_W} {x xf xj xl fu xr fb jb l0 lb he mm mb ms9 mn ml mk9 mq oo : Nat} {gl : Nat → Option Nat} {H : Heap} {locs : List Loc} {ls : Array Slot} (hl0 : l.stackTraces = false) (hx : p.tables.exec = Jvm.exec) (hb : c.code = code) (hr : meth.sig.returnType = ret) (hml : c.maxLocals = 8) (hown : s.vm.findClass R_L = some m.cls) (hts : ∀ w ∈ WS, w.before #[Value.ref b] s = true) (hlocks : meth.locks = false) (hX : va_X b 6 xs s s.heap) (hbl : b < s.heap.size) (hK : va_K D Cl (Ty t) s) (hM : Am z sa s) (hz0 : z = s.heap.size) (hP : va_P D Cl ws H) (hD : va_D (Az z) ws) (hS : va_S (Az z) s.heap H locs) (hg0 : gl 0 = some l0) (e0 : ws[0]? = some (x, .inr (5, [.ref xf, .ref xj, .ref xl, .ref fu, .ref xr, .int 1, .int 0, .int 0, .int 0, .int 0]))) (e1 : ws[1]? = some (xf, .inr (3, [.ref fb, .int 0]))) (e4 : ws[4]? = some (xj, .inr (3, [.ref jb, .int 0]))) (e7 : ws[7]? = some (xl, .inl (t 3, 6, .inr (.inr (.inr (.inr gl)))))) (e8 : ws[8]? = some (fu, .inr (2, [.int 4, .int 0, .int 0, .int 0]))) (e10 : ws[10]? = some (l0, .inr (4, [.ref lb, .ref he, .int 0]))) (e13 : ws[13]? = some (he, .inl (t 1, 768, .inl (fun _ => 0)))) (e34 : ws[34]? = some (mm, .inr (6, [.ref mb, .ref ms9, .int 1, .int 1, .ref mn, .ref ml, .ref mk9, .ref mq, .int 0, .int 0, .int 0, .int 0, .int 0, .int 0, .int 4, .int 0, .int 0]))) (e41 : ws[41]? = some (oo, .inl (t 5, 1, .inr (.inl F00)))) (hl : lv_has ls 8 [(4, .int 0), (3, .ref oo), (2, .ref mm), (1, .ref x), (0, .ref b)]) (g : xs 1 = 3) : W p l e room_1 s m #[Value.ref b] below meth c H locs 42 1071195 (lw_Z below #[Value.ref b] s) (F0 m 783 ls []) := by
  have hz : z ≤ s.heap.size := Nat.le_of_eq hz0
  have hbA : ¬ Az z b := fun h => absurd hbl (Nat.not_lt.mpr (by rw [← hz0]; exact h))
  have hC : Ch ws ws [] := Ch.rf
  refine lv_aload_n hx hb d_law_783 rfl (lv_at hl 3 rfl) ?_
  refine lv_aload_n hx hb d_law_784 rfl (lv_at hl 4 rfl) ?_
  refine lv_iload hx hb d_law_785 (lv_at hl 0 rfl) ?_
  refine lv_iconst (v := 1) hx hb d_law_787 (by decide) ?_
  refine lv_iadd hx hb d_law_788 ?_
  refine lv_topi (fun v1 hv1 => ?_)
  have hv1 : v1 = 1 := hv1.trans (by decide)
  subst hv1
  refine va_sld hx hb hX hbl hbA hS (i := 1) (by unfold vp_in; decide) d_law_789 ?_
  refine W.eq (g2 := F0 m 790 ls [.int 3, .ref x]) (by rw [show (1 : Int32).toNatClampNeg = 1 from by decide, g]) ?_
  refine lv_aload_n hx hb d_law_790 rfl (lv_at hl 1 rfl) ?_
  refine va_calli (vx_runSW (As := [.ref x, .int 3, .ref oo]) (rest := []) ⟨hx, hb, hml, hown, hts⟩ (c_L_told3 (D := D) (t := t) (z := z) (sa := sa) (ws := ws)  e0 e41) (vx_cwSW 3 hts (gd_SW ml_L_129 st_L_told in_L cd_L_told) rfl rfl rfl (by decide +kernel) ⟨Nat.le_of_ble_eq_true rfl, Nat.le_of_ble_eq_true rfl⟩) ⟨Pz_blind, Pz_at hP hK hD hz hM hS⟩ rfl rfl hl.1 rfl (lv_room (Nat.le_of_ble_eq_true rfl)) d_law_791 ⟨Nat.le_of_ble_eq_true rfl, Nat.le_of_ble_eq_true rfl⟩) hS (fun q _ h => h) (fun q h => h) (fun r3 w2 t9 H locs ht hvm hp hB hz1 hk1 hS => ?_)
  obtain ⟨hP, hK9, hD, -⟩ := hB
  rw [ht] at hP
  clear hK9
  obtain ⟨hr9, hC9, kf41⟩ := hp
  subst hr9
  have e0 : w2[0]? = some (x, .inr (5, [.ref xf, .ref xj, .ref xl, .ref fu, .ref xr, .int 1, .int 0, .int 0, .int 0, .int 0])) := hC9.keep e0 (by decide)
  have e1 : w2[1]? = some (xf, .inr (3, [.ref fb, .int 0])) := hC9.keep e1 (by decide)
  have e4 : w2[4]? = some (xj, .inr (3, [.ref jb, .int 0])) := hC9.keep e4 (by decide)
  have e7 : w2[7]? = some (xl, .inl (t 3, 6, .inr (.inr (.inr (.inr gl))))) := hC9.keep e7 (by decide)
  have e8 : w2[8]? = some (fu, .inr (2, [.int 4, .int 0, .int 0, .int 0])) := hC9.keep e8 (by decide)
  have e10 : w2[10]? = some (l0, .inr (4, [.ref lb, .ref he, .int 0])) := hC9.keep e10 (by decide)
  have e13 : w2[13]? = some (he, .inl (t 1, 768, .inl (fun _ => 0))) := hC9.keep e13 (by decide)
  have e34 : w2[34]? = some (mm, .inr (6, [.ref mb, .ref ms9, .int 1, .int 1, .ref mn, .ref ml, .ref mk9, .ref mq, .int 0, .int 0, .int 0, .int 0, .int 0, .int 0, .int 4, .int 0, .int 0])) := hC9.keep e34 (by decide)
  have e41 : w2[41]? = some (oo, .inl (t 5, 1, .inr (.inl (vp_updL F00 0 0)))) := kf41
  have hC := hC.trans hC9
  refine lv_istore (lv' := [(5, .int 0), (4, .int 0), (3, .ref oo), (2, .ref mm), (1, .ref x), (0, .ref b)]) hx hb d_law_794 hl (by decide) rfl (fun ls hl => ?_)
  refine lv_aload_n hx hb d_law_796 rfl (lv_at hl 3 rfl) ?_
  refine lv_aload_n hx hb d_law_797 rfl (lv_at hl 5 rfl) ?_
  refine lv_iload hx hb d_law_798 (lv_at hl 1 rfl) ?_
  refine lv_iconst (v := 1) hx hb d_law_800 (by decide) ?_
  refine lv_iadd hx hb d_law_801 ?_
  refine lv_topi (fun v4 hv4 => ?_)
  have hv4 : v4 = 1 := hv4.trans (by decide)
  subst hv4
  refine va_sld hx hb hX hbl hbA hS (i := 1) (by unfold vp_in; decide) d_law_802 ?_
  refine W.eq (g2 := F0 m 803 ls [.int 3, .ref mm]) (by rw [show (1 : Int32).toNatClampNeg = 1 from by decide, g]) ?_
  refine va_calli (va_runV (As := [.int 3]) (rest := []) ⟨hx, hb, hml, hown, hts⟩ (c_M_told3 (D := D) (t := t) (z := z) (sa := sa) (ws := w2)  e34) (cwV 1 hts (gd_V ml_L_131 im_M_told se_M_told in_M cd_M_told) rfl rfl rfl (by decide +kernel) ⟨Nat.le_of_ble_eq_true rfl, Nat.le_of_ble_eq_true rfl⟩) ⟨Pz_blind, va_recv hK hP (ci := 6) rfl e34, Pz_at hP hK hD hz hM hS⟩ rfl rfl hl.1 rfl (lv_room (Nat.le_of_ble_eq_true rfl)) d_law_803 ⟨Nat.le_of_ble_eq_true rfl, Nat.le_of_ble_eq_true rfl⟩) hS (fun q _ h => h) (fun q h => h) (fun r6 w5 t9 H locs ht hvm hp hB hz1 hk1 hS => ?_)
  obtain ⟨hP, hK9, hD, -⟩ := hB
  rw [ht] at hP
  clear hK9
  obtain ⟨hr9, hC9, kf34⟩ := hp
  subst hr9
  have e0 : w5[0]? = some (x, .inr (5, [.ref xf, .ref xj, .ref xl, .ref fu, .ref xr, .int 1, .int 0, .int 0, .int 0, .int 0])) := hC9.keep e0 (by decide)
  have e1 : w5[1]? = some (xf, .inr (3, [.ref fb, .int 0])) := hC9.keep e1 (by decide)
  have e4 : w5[4]? = some (xj, .inr (3, [.ref jb, .int 0])) := hC9.keep e4 (by decide)
  have e7 : w5[7]? = some (xl, .inl (t 3, 6, .inr (.inr (.inr (.inr gl))))) := hC9.keep e7 (by decide)
  have e8 : w5[8]? = some (fu, .inr (2, [.int 4, .int 0, .int 0, .int 0])) := hC9.keep e8 (by decide)
  have e10 : w5[10]? = some (l0, .inr (4, [.ref lb, .ref he, .int 0])) := hC9.keep e10 (by decide)
  have e13 : w5[13]? = some (he, .inl (t 1, 768, .inl (fun _ => 0))) := hC9.keep e13 (by decide)
  have e34 : w5[34]? = some (mm, .inr (6, [.ref mb, .ref ms9, .int 1, .int 1, .ref mn, .ref ml, .ref mk9, .ref mq, .int 0, .int 0, .int 0, .int 0, .int 0, .int 0, .int 4, .int 0, .int 0])) := kf34
  have e41 : w5[41]? = some (oo, .inl (t 5, 1, .inr (.inl (vp_updL F00 0 0)))) := hC9.keep e41 (by decide)
  have hC := hC.trans hC9
  refine lv_istore (lv' := [(6, .int 0), (5, .int 0), (4, .int 0), (3, .ref oo), (2, .ref mm), (1, .ref x), (0, .ref b)]) hx hb d_law_806 hl (by decide) rfl (fun ls hl => ?_)
  refine lv_aload_n hx hb d_law_808 rfl (lv_at hl 4 rfl) ?_
  refine va_calli (va_runV (As := []) (rest := []) ⟨hx, hb, hml, hown, hts⟩ (c_M_thrown (D := D) (t := t) (z := z) (sa := sa) (ws := w5)  e34) (cwV 0 hts (gd_V ml_L_80 im_M_thrown se_M_thrown in_M cd_M_thrown) rfl rfl rfl (by decide +kernel) ⟨Nat.le_of_ble_eq_true rfl, Nat.le_of_ble_eq_true rfl⟩) ⟨Pz_blind, va_recv hK hP (ci := 6) rfl e34, Pz_at hP hK hD hz hM hS⟩ rfl rfl hl.1 rfl (lv_room (Nat.le_of_ble_eq_true rfl)) d_law_809 ⟨Nat.le_of_ble_eq_true rfl, Nat.le_of_ble_eq_true rfl⟩) hS (fun q _ h => h) (fun q h => h) (fun r8 w7 t9 H locs ht hvm hp hB hz1 hk1 hS => ?_)
  obtain ⟨hP, hK9, hD, -⟩ := hB
  rw [ht] at hP
  clear hK9
  obtain ⟨hr9, hw9⟩ := hp
  rw [hw9] at hP hD
  clear hw9
  subst hr9
  refine lv_iload hx hb d_law_812 (lv_at hl 1 rfl) ?_
  refine lv_icmp_eq (tgt := 819) hx hb d_law_814 rfl (fun _ => ?_) (fun h => absurd h (by decide))
  refine lv_iload hx hb d_law_819 (lv_at hl 1 rfl) ?_
  refine lv_if_ne (tgt := 836) hx hb d_law_821 rfl (fun h => absurd h (by decide)) (fun _ => ?_)
  refine lv_aload_n hx hb d_law_824 rfl (lv_at hl 3 rfl) ?_
  refine lv_iconst (v := 0) hx hb d_law_825 (by decide) ?_
  refine va_lald (D := D) hx hb hK hP 41 5 e41 rfl (i := 0) (by unfold vp_in; decide) d_law_826 ?_
  refine W.eq (g2 := F0 m 827 ls [.long 0]) rfl ?_
  refine lv_iload hx hb d_law_827 (lv_at hl 0 rfl) ?_
  refine lv_i2l (v := 0) hx hb d_law_829 (by decide) ?_
  refine W.lcmp hx hb d_law_830 ?_
  refine lv_topi (fun v9 hv9 => ?_)
  have hv9 : v9 = 0 := hv9.trans (by decide)
  subst hv9
  refine lv_if_eq (tgt := 836) hx hb d_law_831 rfl (fun _ => ?_) (fun h => absurd h (by decide))
  refine lv_goto (tgt := 839) hx hb d_law_836 rfl ?_
  refine lv_iinc (k := 2) (v := 6) (lv' := [(4, .int 6), (6, .int 0), (5, .int 0), (3, .ref oo), (2, .ref mm), (1, .ref x), (0, .ref b)]) hx hb d_law_839 hl rfl (by decide) (by decide) rfl (fun ls hl => ?_)
  refine lv_goto (tgt := 23) hx hb d_law_842 rfl ?_
  subst hz0
  exact lw_exit hx hb hr hlocks hX hbl hS hl 0 6 rfl rfl (by decide) (Nat.le_of_ble_eq_true rfl) (Nat.le_of_ble_eq_true rfl)
set_option maxHeartbeats 4000000 in
set_option maxRecDepth 100000 in
theorem lc_14b {p : Program} {l : Launch} {e : Env} {s : State} {m : MethodId} {below : List Frame} {meth : Method} {c : Code} {b : Nat} {xs : Nat → Int32} {D : va_G} {t : Nat → ClassId} {z : Nat} {sa : Nat → Nat} {ws : va_W} {x xf xj xl fu xr fb jb l0 lb he mm mb ms9 mn ml mk9 mq oo : Nat} {gl : Nat → Option Nat} {H : Heap} {locs : List Loc} {ls : Array Slot} (hl0 : l.stackTraces = false) (hx : p.tables.exec = Jvm.exec) (hb : c.code = code) (hr : meth.sig.returnType = ret) (hml : c.maxLocals = 8) (hown : s.vm.findClass R_L = some m.cls) (hts : ∀ w ∈ WS, w.before #[Value.ref b] s = true) (hlocks : meth.locks = false) (hX : va_X b 6 xs s s.heap) (hbl : b < s.heap.size) (hK : va_K D Cl (Ty t) s) (hM : Am z sa s) (hz0 : z = s.heap.size) (hP : va_P D Cl ws H) (hD : va_D (Az z) ws) (hS : va_S (Az z) s.heap H locs) (hg0 : gl 0 = some l0) (e0 : ws[0]? = some (x, .inr (5, [.ref xf, .ref xj, .ref xl, .ref fu, .ref xr, .int 1, .int 0, .int 0, .int 0, .int 0]))) (e1 : ws[1]? = some (xf, .inr (3, [.ref fb, .int 0]))) (e4 : ws[4]? = some (xj, .inr (3, [.ref jb, .int 0]))) (e7 : ws[7]? = some (xl, .inl (t 3, 6, .inr (.inr (.inr (.inr gl)))))) (e8 : ws[8]? = some (fu, .inr (2, [.int 4, .int 0, .int 0, .int 0]))) (e10 : ws[10]? = some (l0, .inr (4, [.ref lb, .ref he, .int 0]))) (e13 : ws[13]? = some (he, .inl (t 1, 768, .inl (fun _ => 0)))) (e34 : ws[34]? = some (mm, .inr (6, [.ref mb, .ref ms9, .int 1, .int 1, .ref mn, .ref ml, .ref mk9, .ref mq, .int 0, .int 0, .int 0, .int 0, .int 0, .int 0, .int 4, .int 0, .int 0]))) (e41 : ws[41]? = some (oo, .inl (t 5, 1, .inr (.inl F00)))) (hl : lv_has ls 8 [(4, .int 0), (3, .ref oo), (2, .ref mm), (1, .ref x), (0, .ref b)]) (g : (xs 1).toInt < 0 ∨ 3 < (xs 1).toInt) : W p l e room_1 s m #[Value.ref b] below meth c H locs 42 1071195 (lw_Z below #[Value.ref b] s) (F0 m 783 ls []) := by
  have hz : z ≤ s.heap.size := Nat.le_of_eq hz0
  have hbA : ¬ Az z b := fun h => absurd hbl (Nat.not_lt.mpr (by rw [← hz0]; exact h))
  have hC : Ch ws ws [] := Ch.rf
  refine lv_aload_n hx hb d_law_783 rfl (lv_at hl 3 rfl) ?_
  refine lv_aload_n hx hb d_law_784 rfl (lv_at hl 4 rfl) ?_
  refine lv_iload hx hb d_law_785 (lv_at hl 0 rfl) ?_
  refine lv_iconst (v := 1) hx hb d_law_787 (by decide) ?_
  refine lv_iadd hx hb d_law_788 ?_
  refine lv_topi (fun v1 hv1 => ?_)
  have hv1 : v1 = 1 := hv1.trans (by decide)
  subst hv1
  refine va_sld hx hb hX hbl hbA hS (i := 1) (by unfold vp_in; decide) d_law_789 ?_
  refine W.eq (g2 := F0 m 790 ls [.int (xs 1), .ref x]) rfl ?_
  refine lv_aload_n hx hb d_law_790 rfl (lv_at hl 1 rfl) ?_
  refine va_calli (vx_runSW (As := [.ref x, .int (xs 1), .ref oo]) (rest := []) ⟨hx, hb, hml, hown, hts⟩ (c_L_told_b (D := D) (t := t) (z := z) (sa := sa) (ws := ws) (a0 := xs 1) hl0 e0 e41 g) (vx_cwSW 3 hts (gd_SW ml_L_129 st_L_told in_L cd_L_told) rfl rfl rfl (by decide +kernel) ⟨Nat.le_of_ble_eq_true rfl, Nat.le_of_ble_eq_true rfl⟩) ⟨Pz_blind, Pz_at hP hK hD hz hM hS⟩ rfl rfl hl.1 rfl (lv_room (Nat.le_of_ble_eq_true rfl)) d_law_791 ⟨Nat.le_of_ble_eq_true rfl, Nat.le_of_ble_eq_true rfl⟩) hS (fun q _ h => h) (fun q h => h) (fun r3 w2 t9 H locs ht hvm hp hB hz1 hk1 hS => ?_)
  obtain ⟨hP, hK9, hD, -⟩ := hB
  rw [ht] at hP
  clear hK9
  obtain ⟨hr9, hC9⟩ := hp
  subst hr9
  have e0 : w2[0]? = some (x, .inr (5, [.ref xf, .ref xj, .ref xl, .ref fu, .ref xr, .int 1, .int 0, .int 0, .int 0, .int 0])) := hC9.keep e0 (by decide)
  have e1 : w2[1]? = some (xf, .inr (3, [.ref fb, .int 0])) := hC9.keep e1 (by decide)
  have e4 : w2[4]? = some (xj, .inr (3, [.ref jb, .int 0])) := hC9.keep e4 (by decide)
  have e7 : w2[7]? = some (xl, .inl (t 3, 6, .inr (.inr (.inr (.inr gl))))) := hC9.keep e7 (by decide)
  have e8 : w2[8]? = some (fu, .inr (2, [.int 4, .int 0, .int 0, .int 0])) := hC9.keep e8 (by decide)
  have e10 : w2[10]? = some (l0, .inr (4, [.ref lb, .ref he, .int 0])) := hC9.keep e10 (by decide)
  have e13 : w2[13]? = some (he, .inl (t 1, 768, .inl (fun _ => 0))) := hC9.keep e13 (by decide)
  have e34 : w2[34]? = some (mm, .inr (6, [.ref mb, .ref ms9, .int 1, .int 1, .ref mn, .ref ml, .ref mk9, .ref mq, .int 0, .int 0, .int 0, .int 0, .int 0, .int 0, .int 4, .int 0, .int 0])) := hC9.keep e34 (by decide)
  have e41 : w2[41]? = some (oo, .inl (t 5, 1, .inr (.inl F00))) := hC9.keep e41 (by decide)
  have hC := hC.trans hC9
  refine lv_istore (lv' := [(5, .int 1), (4, .int 0), (3, .ref oo), (2, .ref mm), (1, .ref x), (0, .ref b)]) hx hb d_law_794 hl (by decide) rfl (fun ls hl => ?_)
  refine lv_aload_n hx hb d_law_796 rfl (lv_at hl 3 rfl) ?_
  refine lv_aload_n hx hb d_law_797 rfl (lv_at hl 5 rfl) ?_
  refine lv_iload hx hb d_law_798 (lv_at hl 1 rfl) ?_
  refine lv_iconst (v := 1) hx hb d_law_800 (by decide) ?_
  refine lv_iadd hx hb d_law_801 ?_
  refine lv_topi (fun v4 hv4 => ?_)
  have hv4 : v4 = 1 := hv4.trans (by decide)
  subst hv4
  refine va_sld hx hb hX hbl hbA hS (i := 1) (by unfold vp_in; decide) d_law_802 ?_
  refine W.eq (g2 := F0 m 803 ls [.int (xs 1), .ref mm]) rfl ?_
  refine va_calli (va_runV (As := [.int (xs 1)]) (rest := []) ⟨hx, hb, hml, hown, hts⟩ (c_M_told_b (D := D) (t := t) (z := z) (sa := sa) (ws := w2) (a0 := xs 1) e34 (told_bad g)) (cwV 1 hts (gd_V ml_L_131 im_M_told se_M_told in_M cd_M_told) rfl rfl rfl (by decide +kernel) ⟨Nat.le_of_ble_eq_true rfl, Nat.le_of_ble_eq_true rfl⟩) ⟨Pz_blind, va_recv hK hP (ci := 6) rfl e34, Pz_at hP hK hD hz hM hS⟩ rfl rfl hl.1 rfl (lv_room (Nat.le_of_ble_eq_true rfl)) d_law_803 ⟨Nat.le_of_ble_eq_true rfl, Nat.le_of_ble_eq_true rfl⟩) hS (fun q _ h => h) (fun q h => h) (fun r6 w5 t9 H locs ht hvm hp hB hz1 hk1 hS => ?_)
  obtain ⟨hP, hK9, hD, -⟩ := hB
  rw [ht] at hP
  clear hK9
  obtain ⟨hr9, hC9, kf34⟩ := hp
  subst hr9
  have e0 : w5[0]? = some (x, .inr (5, [.ref xf, .ref xj, .ref xl, .ref fu, .ref xr, .int 1, .int 0, .int 0, .int 0, .int 0])) := hC9.keep e0 (by decide)
  have e1 : w5[1]? = some (xf, .inr (3, [.ref fb, .int 0])) := hC9.keep e1 (by decide)
  have e4 : w5[4]? = some (xj, .inr (3, [.ref jb, .int 0])) := hC9.keep e4 (by decide)
  have e7 : w5[7]? = some (xl, .inl (t 3, 6, .inr (.inr (.inr (.inr gl))))) := hC9.keep e7 (by decide)
  have e8 : w5[8]? = some (fu, .inr (2, [.int 4, .int 0, .int 0, .int 0])) := hC9.keep e8 (by decide)
  have e10 : w5[10]? = some (l0, .inr (4, [.ref lb, .ref he, .int 0])) := hC9.keep e10 (by decide)
  have e13 : w5[13]? = some (he, .inl (t 1, 768, .inl (fun _ => 0))) := hC9.keep e13 (by decide)
  have e34 : w5[34]? = some (mm, .inr (6, [.ref mb, .ref ms9, .int 1, .int 1, .ref mn, .ref ml, .ref mk9, .ref mq, .int 0, .int 0, .int 0, .int 0, .int 0, .int 0, .int 4, .int 0, .int 1])) := kf34
  have e41 : w5[41]? = some (oo, .inl (t 5, 1, .inr (.inl F00))) := hC9.keep e41 (by decide)
  have hC := hC.trans hC9
  refine lv_istore (lv' := [(6, .int 0), (5, .int 1), (4, .int 0), (3, .ref oo), (2, .ref mm), (1, .ref x), (0, .ref b)]) hx hb d_law_806 hl (by decide) rfl (fun ls hl => ?_)
  refine lv_aload_n hx hb d_law_808 rfl (lv_at hl 4 rfl) ?_
  refine va_calli (va_runV (As := []) (rest := []) ⟨hx, hb, hml, hown, hts⟩ (c_M_thrown (D := D) (t := t) (z := z) (sa := sa) (ws := w5)  e34) (cwV 0 hts (gd_V ml_L_80 im_M_thrown se_M_thrown in_M cd_M_thrown) rfl rfl rfl (by decide +kernel) ⟨Nat.le_of_ble_eq_true rfl, Nat.le_of_ble_eq_true rfl⟩) ⟨Pz_blind, va_recv hK hP (ci := 6) rfl e34, Pz_at hP hK hD hz hM hS⟩ rfl rfl hl.1 rfl (lv_room (Nat.le_of_ble_eq_true rfl)) d_law_809 ⟨Nat.le_of_ble_eq_true rfl, Nat.le_of_ble_eq_true rfl⟩) hS (fun q _ h => h) (fun q h => h) (fun r8 w7 t9 H locs ht hvm hp hB hz1 hk1 hS => ?_)
  obtain ⟨hP, hK9, hD, -⟩ := hB
  rw [ht] at hP
  clear hK9
  obtain ⟨hr9, hw9⟩ := hp
  rw [hw9] at hP hD
  clear hw9
  subst hr9
  refine lv_iload hx hb d_law_812 (lv_at hl 1 rfl) ?_
  refine lv_icmp_eq (tgt := 819) hx hb d_law_814 rfl (fun _ => ?_) (fun h => absurd h (by decide))
  refine lv_iload hx hb d_law_819 (lv_at hl 1 rfl) ?_
  refine lv_if_ne (tgt := 836) hx hb d_law_821 rfl (fun _ => ?_) (fun h => absurd h (by decide))
  refine lv_goto (tgt := 839) hx hb d_law_836 rfl ?_
  refine lv_iinc (k := 2) (v := 6) (lv' := [(4, .int 6), (6, .int 0), (5, .int 1), (3, .ref oo), (2, .ref mm), (1, .ref x), (0, .ref b)]) hx hb d_law_839 hl rfl (by decide) (by decide) rfl (fun ls hl => ?_)
  refine lv_goto (tgt := 23) hx hb d_law_842 rfl ?_
  subst hz0
  exact lw_exit hx hb hr hlocks hX hbl hS hl 0 6 rfl rfl (by decide) (Nat.le_of_ble_eq_true rfl) (Nat.le_of_ble_eq_true rfl)
set_option maxHeartbeats 4000000 in
set_option maxRecDepth 100000 in
theorem lc_15 {p : Program} {l : Launch} {e : Env} {s : State} {m : MethodId} {below : List Frame} {meth : Method} {c : Code} {b : Nat} {xs : Nat → Int32} {D : va_G} {t : Nat → ClassId} {z : Nat} {sa : Nat → Nat} {ws : va_W} {x xf xj xl fu xr fb jb l0 lb he mm mb ms9 mn ml mk9 mq oo : Nat} {gl : Nat → Option Nat} {H : Heap} {locs : List Loc} {ls : Array Slot} (hl0 : l.stackTraces = false) (hx : p.tables.exec = Jvm.exec) (hb : c.code = code) (hr : meth.sig.returnType = ret) (hml : c.maxLocals = 8) (hown : s.vm.findClass R_L = some m.cls) (hts : ∀ w ∈ WS, w.before #[Value.ref b] s = true) (hlocks : meth.locks = false) (hX : va_X b 6 xs s s.heap) (hbl : b < s.heap.size) (hK : va_K D Cl (Ty t) s) (hM : Am z sa s) (hz0 : z = s.heap.size) (hP : va_P D Cl ws H) (hD : va_D (Az z) ws) (hS : va_S (Az z) s.heap H locs) (hg0 : gl 0 = some l0) (e0 : ws[0]? = some (x, .inr (5, [.ref xf, .ref xj, .ref xl, .ref fu, .ref xr, .int 1, .int 0, .int 0, .int 0, .int 0]))) (e1 : ws[1]? = some (xf, .inr (3, [.ref fb, .int 0]))) (e4 : ws[4]? = some (xj, .inr (3, [.ref jb, .int 0]))) (e7 : ws[7]? = some (xl, .inl (t 3, 6, .inr (.inr (.inr (.inr gl)))))) (e8 : ws[8]? = some (fu, .inr (2, [.int 4, .int 0, .int 0, .int 0]))) (e10 : ws[10]? = some (l0, .inr (4, [.ref lb, .ref he, .int 0]))) (e13 : ws[13]? = some (he, .inl (t 1, 768, .inl (fun _ => 0)))) (e34 : ws[34]? = some (mm, .inr (6, [.ref mb, .ref ms9, .int 1, .int 1, .ref mn, .ref ml, .ref mk9, .ref mq, .int 0, .int 0, .int 0, .int 0, .int 0, .int 0, .int 4, .int 0, .int 0]))) (e41 : ws[41]? = some (oo, .inl (t 5, 1, .inr (.inl F00)))) (hl : lv_has ls 8 [(4, .int 0), (3, .ref oo), (2, .ref mm), (1, .ref x), (0, .ref b)])  : W p l e room_1 s m #[Value.ref b] below meth c H locs 42 1071195 (lw_Z below #[Value.ref b] s) (F0 m 839 ls []) := by
  have hz : z ≤ s.heap.size := Nat.le_of_eq hz0
  have hbA : ¬ Az z b := fun h => absurd hbl (Nat.not_lt.mpr (by rw [← hz0]; exact h))
  have hC : Ch ws ws [] := Ch.rf
  refine lv_iinc (k := 0) (v := 6) (lv' := [(4, .int 6), (3, .ref oo), (2, .ref mm), (1, .ref x), (0, .ref b)]) hx hb d_law_839 hl rfl (by decide) (by decide) rfl (fun ls hl => ?_)
  refine lv_goto (tgt := 23) hx hb d_law_842 rfl ?_
  subst hz0
  exact lw_exit hx hb hr hlocks hX hbl hS hl 0 4 rfl rfl (by decide) (Nat.le_of_ble_eq_true rfl) (Nat.le_of_ble_eq_true rfl)
