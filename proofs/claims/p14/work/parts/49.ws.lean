set_option maxHeartbeats 4000000 in
set_option maxRecDepth 100000 in
theorem whole_start {p : Program} {e : Env} {s : State} {m : MethodId} {below : List Frame} {meth : Method} {c : Code} (l : Launch) (hl0 : l.stackTraces = false) {b L : Nat} {xs : Nat → Int32} (hL : L ≤ 3072) (C0 : lw_At p s m meth c b L xs) : W p l e room_1 s m #[Value.ref b] below meth c s.heap [] 0 0 (lw_Z below #[Value.ref b] s) (entryFrame m ([Value.ref b] : List Value).toArray 8) := by
  obtain ⟨hx, hb, hr, hml, hown, htbl, hX, hbl, hlocks, hgv⟩ := C0
  have hts : ∀ w ∈ WS, w.before #[Value.ref b] s = true := fun w h => htbl w (WS_tbl h)
  have hown : s.vm.findClass R_L = some m.cls := hown
  obtain ⟨D, t, hK⟩ := st_K htbl
  have hM := st_Am htbl hgv
  generalize hsa : saOf s = sa at hM
  obtain ⟨z, hz0⟩ : ∃ z, z = s.heap.size := ⟨_, rfl⟩
  rw [← hz0] at hM
  have hz : z ≤ s.heap.size := Nat.le_of_eq hz0
  have hA : ∀ q, s.heap.size ≤ q → Az z q := fun q h => Nat.le_trans hz h
  have hS : va_S (Az z) s.heap s.heap [] := va_S.rf
  obtain ⟨ws, hws⟩ : ∃ w : va_W, w = [] := ⟨_, rfl⟩
  have hn : ws.length = 0 := by rw [hws]; rfl
  have hP : va_P D Cl ws s.heap := by rw [hws]; exact fun k q hk => nomatch hk
  have hD : va_D (Az z) ws := by rw [hws]; exact ⟨fun i j p q hp => (nomatch hp), fun k q hk => (nomatch hk)⟩
  have hC : Ch ws ws [] := Ch.rf
  have hl := lv_entry ([.ref b]) (n := 8) (Nat.le_of_ble_eq_true rfl)
  rw [lg_entry_eq]
  generalize (lg_sl ([.ref b]) ++ List.replicate (8 - (lg_sl ([.ref b])).length) Slot.unset).toArray = ls at hl ⊢
  have hl : lv_has ls 8 [(0, .ref b)] := hl
  refine va_new (ci := 5) (fs := [.null, .null, .null, .null, .null, .int 0, .int 0, .int 0, .int 0, .int 0]) (C := R_S) (T := F_S) (N := 10) hx hb hts ws_S t_S ok_S hown (hts _ cl_L_8) (hts _ ib_S) (hts _ in_S) hK hP hD hS hA rfl (fun j hj => by rcases (show j = 0 ∨ j = 1 ∨ j = 2 ∨ j = 3 ∨ j = 4 ∨ j = 5 ∨ j = 6 ∨ j = 7 ∨ j = 8 ∨ j = 9 by omega) with rfl | rfl | rfl | rfl | rfl | rfl | rfl | rfl | rfl | rfl <;> rfl) (Nat.le_of_ble_eq_true rfl) (Nat.le_of_ble_eq_true rfl) d_law_0 (fun q1 H hP hD hS => ?_)
  obtain ⟨w2, hw⟩ : ∃ q, q = ws ++ [(q1, .inr (5, [.null, .null, .null, .null, .null, .int 0, .int 0, .int 0, .int 0, .int 0]))] := ⟨_, rfl⟩
  have hP : va_P D Cl (ws ++ [(q1, .inr (5, [.null, .null, .null, .null, .null, .int 0, .int 0, .int 0, .int 0, .int 0]))]) H := hP
  have hD : va_D (Az z) (ws ++ [(q1, .inr (5, [.null, .null, .null, .null, .null, .int 0, .int 0, .int 0, .int 0, .int 0]))]) := hD
  rw [← hw] at hP hD
  have hC := hC.push (c := [(q1, .inr (5, [.null, .null, .null, .null, .null, .int 0, .int 0, .int 0, .int 0, .int 0]))])
  rw [← hw] at hC
  have e0 : w2[0]? = some (q1, .inr (5, [.null, .null, .null, .null, .null, .int 0, .int 0, .int 0, .int 0, .int 0])) := by rw [hw]; exact lk_new hn
  have hn : w2.length = 1 := by rw [hw, List.length_append, hn]; rfl
  clear hw
  refine lv_dup hx hb d_law_3 rfl ?_
  refine va_callv (va_runI (As := []) (rest := [.ref q1]) ⟨hx, hb, hml, hown, hts⟩ (c_S_init (D := D) (t := t) (z := z) (sa := sa) (ws := w2)  hn e0) (cwI 0 hts (gd_I cd_S_init) rfl rfl rfl (hts _ in_S) (hts _ ml_L_70) (hts _ im_S_init) rfl (by decide +kernel) ⟨Nat.le_of_ble_eq_true rfl, Nat.le_of_ble_eq_true rfl⟩) ⟨Pz_blind, Pz_at hP hK hD hz hM hS⟩ rfl rfl hl.1 rfl (lv_room (Nat.le_of_ble_eq_true rfl)) d_law_4 ⟨Nat.le_of_ble_eq_true rfl, Nat.le_of_ble_eq_true rfl⟩) hS (fun q _ h => h) (fun q h => h) (fun w3 t9 H locs ht hvm hp hB hz1 hk1 hS => ?_)
  obtain ⟨hP, hK9, hD, -⟩ := hB
  rw [ht] at hP
  clear hK9
  obtain ⟨x1, x2, x3, x4, x5, x6, x7, x8, x9, x10, x11, x12, x13, x14, x15, x16, x17, x18, x19, x20, x21, x22, x23, x24, x25, x26, x27, x28, x29, x30, x31, x32, x33, gl, hC9, hn9, kf0, kf1, kf2, kf3, kf4, kf5, kf6, kf7, kf8, kf9, kf10, kf11, kf12, kf13, kf14, kf15, kf16, kf17, kf18, kf19, kf20, kf21, kf22, kf23, kf24, kf25, kf26, kf27, kf28, kf29, kf30, kf31, kf32, kf33, hrel⟩ := hp
  have e0 : w3[0]? = some (q1, .inr (5, [.ref x1, .ref x4, .ref x7, .ref x8, .ref x9, .int 1, .int 0, .int 0, .int 0, .int 0])) := kf0
  have e1 : w3[1]? = some (x1, .inr (3, [.ref x2, .int 0])) := kf1
  have e2 : w3[2]? = some (x2, .inr (1, [.ref x3])) := kf2
  have e3 : w3[3]? = some (x3, .inl (t 2, 768, .inr (.inr (.inr (.inr (fun _ => none)))))) := kf3
  have e4 : w3[4]? = some (x4, .inr (3, [.ref x5, .int 0])) := kf4
  have e5 : w3[5]? = some (x5, .inr (1, [.ref x6])) := kf5
  have e6 : w3[6]? = some (x6, .inl (t 2, 781, .inr (.inr (.inr (.inr (fun _ => none)))))) := kf6
  have e7 : w3[7]? = some (x7, .inl (t 3, 6, .inr (.inr (.inr (.inr gl))))) := kf7
  have e8 : w3[8]? = some (x8, .inr (2, [.int 4, .int 0, .int 0, .int 0])) := kf8
  have e9 : w3[9]? = some (x9, .inl (t 0, 260, .inl (fun _ => 0))) := kf9
  have e10 : w3[10]? = some (x10, .inr (4, [.ref x11, .ref x13, .int 0])) := kf10
  have e11 : w3[11]? = some (x11, .inr (1, [.ref x12])) := kf11
  have e12 : w3[12]? = some (x12, .inl (t 2, 768, .inr (.inr (.inr (.inr (fun _ => none)))))) := kf12
  have e13 : w3[13]? = some (x13, .inl (t 1, 768, .inl (fun _ => 0))) := kf13
  have e14 : w3[14]? = some (x14, .inr (4, [.ref x15, .ref x17, .int 0])) := kf14
  have e15 : w3[15]? = some (x15, .inr (1, [.ref x16])) := kf15
  have e16 : w3[16]? = some (x16, .inl (t 2, 768, .inr (.inr (.inr (.inr (fun _ => none)))))) := kf16
  have e17 : w3[17]? = some (x17, .inl (t 1, 768, .inl (fun _ => 0))) := kf17
  have e18 : w3[18]? = some (x18, .inr (4, [.ref x19, .ref x21, .int 0])) := kf18
  have e19 : w3[19]? = some (x19, .inr (1, [.ref x20])) := kf19
  have e20 : w3[20]? = some (x20, .inl (t 2, 768, .inr (.inr (.inr (.inr (fun _ => none)))))) := kf20
  have e21 : w3[21]? = some (x21, .inl (t 1, 768, .inl (fun _ => 0))) := kf21
  have e22 : w3[22]? = some (x22, .inr (4, [.ref x23, .ref x25, .int 0])) := kf22
  have e23 : w3[23]? = some (x23, .inr (1, [.ref x24])) := kf23
  have e24 : w3[24]? = some (x24, .inl (t 2, 768, .inr (.inr (.inr (.inr (fun _ => none)))))) := kf24
  have e25 : w3[25]? = some (x25, .inl (t 1, 768, .inl (fun _ => 0))) := kf25
  have e26 : w3[26]? = some (x26, .inr (4, [.ref x27, .ref x29, .int 0])) := kf26
  have e27 : w3[27]? = some (x27, .inr (1, [.ref x28])) := kf27
  have e28 : w3[28]? = some (x28, .inl (t 2, 768, .inr (.inr (.inr (.inr (fun _ => none)))))) := kf28
  have e29 : w3[29]? = some (x29, .inl (t 1, 768, .inl (fun _ => 0))) := kf29
  have e30 : w3[30]? = some (x30, .inr (4, [.ref x31, .ref x33, .int 0])) := kf30
  have e31 : w3[31]? = some (x31, .inr (1, [.ref x32])) := kf31
  have e32 : w3[32]? = some (x32, .inl (t 2, 768, .inr (.inr (.inr (.inr (fun _ => none)))))) := kf32
  have e33 : w3[33]? = some (x33, .inl (t 1, 768, .inl (fun _ => 0))) := kf33
  have hC := hC.trans hC9
  have hn : w3.length = 34 := hn9
  refine lv_astore_n (lv' := [(1, .ref q1), (0, .ref b)]) hx hb d_law_7 rfl hl (by decide) rfl (fun ls hl => ?_)
  refine va_new (ci := 6) (fs := [.null, .null, .int 0, .int 0, .null, .null, .null, .null, .int 0, .int 0, .int 0, .int 0, .int 0, .int 0, .int 0, .int 0, .int 0]) (C := R_M) (T := F_M) (N := 17) hx hb hts ws_M t_M ok_M hown (hts _ cl_L_71) (hts _ ib_M) (hts _ in_M) hK hP hD hS hA rfl (fun j hj => by rcases (show j = 0 ∨ j = 1 ∨ j = 2 ∨ j = 3 ∨ j = 4 ∨ j = 5 ∨ j = 6 ∨ j = 7 ∨ j = 8 ∨ j = 9 ∨ j = 10 ∨ j = 11 ∨ j = 12 ∨ j = 13 ∨ j = 14 ∨ j = 15 ∨ j = 16 by omega) with rfl | rfl | rfl | rfl | rfl | rfl | rfl | rfl | rfl | rfl | rfl | rfl | rfl | rfl | rfl | rfl | rfl <;> rfl) (Nat.le_of_ble_eq_true rfl) (Nat.le_of_ble_eq_true rfl) d_law_8 (fun q5 H hP hD hS => ?_)
  obtain ⟨w6, hw⟩ : ∃ q, q = w3 ++ [(q5, .inr (6, [.null, .null, .int 0, .int 0, .null, .null, .null, .null, .int 0, .int 0, .int 0, .int 0, .int 0, .int 0, .int 0, .int 0, .int 0]))] := ⟨_, rfl⟩
  have hP : va_P D Cl (w3 ++ [(q5, .inr (6, [.null, .null, .int 0, .int 0, .null, .null, .null, .null, .int 0, .int 0, .int 0, .int 0, .int 0, .int 0, .int 0, .int 0, .int 0]))]) H := hP
  have hD : va_D (Az z) (w3 ++ [(q5, .inr (6, [.null, .null, .int 0, .int 0, .null, .null, .null, .null, .int 0, .int 0, .int 0, .int 0, .int 0, .int 0, .int 0, .int 0, .int 0]))]) := hD
  rw [← hw] at hP hD
  have hC := hC.push (c := [(q5, .inr (6, [.null, .null, .int 0, .int 0, .null, .null, .null, .null, .int 0, .int 0, .int 0, .int 0, .int 0, .int 0, .int 0, .int 0, .int 0]))])
  rw [← hw] at hC
  have e0 : w6[0]? = some (q1, .inr (5, [.ref x1, .ref x4, .ref x7, .ref x8, .ref x9, .int 1, .int 0, .int 0, .int 0, .int 0])) := by rw [hw]; exact lk_push e0
  have e1 : w6[1]? = some (x1, .inr (3, [.ref x2, .int 0])) := by rw [hw]; exact lk_push e1
  have e2 : w6[2]? = some (x2, .inr (1, [.ref x3])) := by rw [hw]; exact lk_push e2
  have e3 : w6[3]? = some (x3, .inl (t 2, 768, .inr (.inr (.inr (.inr (fun _ => none)))))) := by rw [hw]; exact lk_push e3
  have e4 : w6[4]? = some (x4, .inr (3, [.ref x5, .int 0])) := by rw [hw]; exact lk_push e4
  have e5 : w6[5]? = some (x5, .inr (1, [.ref x6])) := by rw [hw]; exact lk_push e5
  have e6 : w6[6]? = some (x6, .inl (t 2, 781, .inr (.inr (.inr (.inr (fun _ => none)))))) := by rw [hw]; exact lk_push e6
  have e7 : w6[7]? = some (x7, .inl (t 3, 6, .inr (.inr (.inr (.inr gl))))) := by rw [hw]; exact lk_push e7
  have e8 : w6[8]? = some (x8, .inr (2, [.int 4, .int 0, .int 0, .int 0])) := by rw [hw]; exact lk_push e8
  have e9 : w6[9]? = some (x9, .inl (t 0, 260, .inl (fun _ => 0))) := by rw [hw]; exact lk_push e9
  have e10 : w6[10]? = some (x10, .inr (4, [.ref x11, .ref x13, .int 0])) := by rw [hw]; exact lk_push e10
  have e11 : w6[11]? = some (x11, .inr (1, [.ref x12])) := by rw [hw]; exact lk_push e11
  have e12 : w6[12]? = some (x12, .inl (t 2, 768, .inr (.inr (.inr (.inr (fun _ => none)))))) := by rw [hw]; exact lk_push e12
  have e13 : w6[13]? = some (x13, .inl (t 1, 768, .inl (fun _ => 0))) := by rw [hw]; exact lk_push e13
  have e14 : w6[14]? = some (x14, .inr (4, [.ref x15, .ref x17, .int 0])) := by rw [hw]; exact lk_push e14
  have e15 : w6[15]? = some (x15, .inr (1, [.ref x16])) := by rw [hw]; exact lk_push e15
  have e16 : w6[16]? = some (x16, .inl (t 2, 768, .inr (.inr (.inr (.inr (fun _ => none)))))) := by rw [hw]; exact lk_push e16
  have e17 : w6[17]? = some (x17, .inl (t 1, 768, .inl (fun _ => 0))) := by rw [hw]; exact lk_push e17
  have e18 : w6[18]? = some (x18, .inr (4, [.ref x19, .ref x21, .int 0])) := by rw [hw]; exact lk_push e18
  have e19 : w6[19]? = some (x19, .inr (1, [.ref x20])) := by rw [hw]; exact lk_push e19
  have e20 : w6[20]? = some (x20, .inl (t 2, 768, .inr (.inr (.inr (.inr (fun _ => none)))))) := by rw [hw]; exact lk_push e20
  have e21 : w6[21]? = some (x21, .inl (t 1, 768, .inl (fun _ => 0))) := by rw [hw]; exact lk_push e21
  have e22 : w6[22]? = some (x22, .inr (4, [.ref x23, .ref x25, .int 0])) := by rw [hw]; exact lk_push e22
  have e23 : w6[23]? = some (x23, .inr (1, [.ref x24])) := by rw [hw]; exact lk_push e23
  have e24 : w6[24]? = some (x24, .inl (t 2, 768, .inr (.inr (.inr (.inr (fun _ => none)))))) := by rw [hw]; exact lk_push e24
  have e25 : w6[25]? = some (x25, .inl (t 1, 768, .inl (fun _ => 0))) := by rw [hw]; exact lk_push e25
  have e26 : w6[26]? = some (x26, .inr (4, [.ref x27, .ref x29, .int 0])) := by rw [hw]; exact lk_push e26
  have e27 : w6[27]? = some (x27, .inr (1, [.ref x28])) := by rw [hw]; exact lk_push e27
  have e28 : w6[28]? = some (x28, .inl (t 2, 768, .inr (.inr (.inr (.inr (fun _ => none)))))) := by rw [hw]; exact lk_push e28
  have e29 : w6[29]? = some (x29, .inl (t 1, 768, .inl (fun _ => 0))) := by rw [hw]; exact lk_push e29
  have e30 : w6[30]? = some (x30, .inr (4, [.ref x31, .ref x33, .int 0])) := by rw [hw]; exact lk_push e30
  have e31 : w6[31]? = some (x31, .inr (1, [.ref x32])) := by rw [hw]; exact lk_push e31
  have e32 : w6[32]? = some (x32, .inl (t 2, 768, .inr (.inr (.inr (.inr (fun _ => none)))))) := by rw [hw]; exact lk_push e32
  have e33 : w6[33]? = some (x33, .inl (t 1, 768, .inl (fun _ => 0))) := by rw [hw]; exact lk_push e33
  have e34 : w6[34]? = some (q5, .inr (6, [.null, .null, .int 0, .int 0, .null, .null, .null, .null, .int 0, .int 0, .int 0, .int 0, .int 0, .int 0, .int 0, .int 0, .int 0])) := by rw [hw]; exact lk_new hn
  have hn : w6.length = 35 := by rw [hw, List.length_append, hn]; rfl
  clear hw
  refine lv_dup hx hb d_law_11 rfl ?_
  refine va_callv (va_runI (As := []) (rest := [.ref q5]) ⟨hx, hb, hml, hown, hts⟩ (c_M_init (D := D) (t := t) (z := z) (sa := sa) (ws := w6)  hn e34) (cwI 0 hts (gd_I cd_M_init) rfl rfl rfl (hts _ in_M) (hts _ ml_L_73) (hts _ im_M_init) rfl (by decide +kernel) ⟨Nat.le_of_ble_eq_true rfl, Nat.le_of_ble_eq_true rfl⟩) ⟨Pz_blind, Pz_at hP hK hD hz hM hS⟩ rfl rfl hl.1 rfl (lv_room (Nat.le_of_ble_eq_true rfl)) d_law_12 ⟨Nat.le_of_ble_eq_true rfl, Nat.le_of_ble_eq_true rfl⟩) hS (fun q _ h => h) (fun q h => h) (fun w7 t9 H locs ht hvm hp hB hz1 hk1 hS => ?_)
  obtain ⟨hP, hK9, hD, -⟩ := hB
  rw [ht] at hP
  clear hK9
  obtain ⟨x35, x36, x37, x38, x39, x40, hC9, hn9, kf34, kf35, kf36, kf37, kf38, kf39, kf40⟩ := hp
  have e0 : w7[0]? = some (q1, .inr (5, [.ref x1, .ref x4, .ref x7, .ref x8, .ref x9, .int 1, .int 0, .int 0, .int 0, .int 0])) := hC9.keep e0 (by decide)
  have e1 : w7[1]? = some (x1, .inr (3, [.ref x2, .int 0])) := hC9.keep e1 (by decide)
  have e2 : w7[2]? = some (x2, .inr (1, [.ref x3])) := hC9.keep e2 (by decide)
  have e3 : w7[3]? = some (x3, .inl (t 2, 768, .inr (.inr (.inr (.inr (fun _ => none)))))) := hC9.keep e3 (by decide)
  have e4 : w7[4]? = some (x4, .inr (3, [.ref x5, .int 0])) := hC9.keep e4 (by decide)
  have e5 : w7[5]? = some (x5, .inr (1, [.ref x6])) := hC9.keep e5 (by decide)
  have e6 : w7[6]? = some (x6, .inl (t 2, 781, .inr (.inr (.inr (.inr (fun _ => none)))))) := hC9.keep e6 (by decide)
  have e7 : w7[7]? = some (x7, .inl (t 3, 6, .inr (.inr (.inr (.inr gl))))) := hC9.keep e7 (by decide)
  have e8 : w7[8]? = some (x8, .inr (2, [.int 4, .int 0, .int 0, .int 0])) := hC9.keep e8 (by decide)
  have e9 : w7[9]? = some (x9, .inl (t 0, 260, .inl (fun _ => 0))) := hC9.keep e9 (by decide)
  have e10 : w7[10]? = some (x10, .inr (4, [.ref x11, .ref x13, .int 0])) := hC9.keep e10 (by decide)
  have e11 : w7[11]? = some (x11, .inr (1, [.ref x12])) := hC9.keep e11 (by decide)
  have e12 : w7[12]? = some (x12, .inl (t 2, 768, .inr (.inr (.inr (.inr (fun _ => none)))))) := hC9.keep e12 (by decide)
  have e13 : w7[13]? = some (x13, .inl (t 1, 768, .inl (fun _ => 0))) := hC9.keep e13 (by decide)
  have e14 : w7[14]? = some (x14, .inr (4, [.ref x15, .ref x17, .int 0])) := hC9.keep e14 (by decide)
  have e15 : w7[15]? = some (x15, .inr (1, [.ref x16])) := hC9.keep e15 (by decide)
  have e16 : w7[16]? = some (x16, .inl (t 2, 768, .inr (.inr (.inr (.inr (fun _ => none)))))) := hC9.keep e16 (by decide)
  have e17 : w7[17]? = some (x17, .inl (t 1, 768, .inl (fun _ => 0))) := hC9.keep e17 (by decide)
  have e18 : w7[18]? = some (x18, .inr (4, [.ref x19, .ref x21, .int 0])) := hC9.keep e18 (by decide)
  have e19 : w7[19]? = some (x19, .inr (1, [.ref x20])) := hC9.keep e19 (by decide)
  have e20 : w7[20]? = some (x20, .inl (t 2, 768, .inr (.inr (.inr (.inr (fun _ => none)))))) := hC9.keep e20 (by decide)
  have e21 : w7[21]? = some (x21, .inl (t 1, 768, .inl (fun _ => 0))) := hC9.keep e21 (by decide)
  have e22 : w7[22]? = some (x22, .inr (4, [.ref x23, .ref x25, .int 0])) := hC9.keep e22 (by decide)
  have e23 : w7[23]? = some (x23, .inr (1, [.ref x24])) := hC9.keep e23 (by decide)
  have e24 : w7[24]? = some (x24, .inl (t 2, 768, .inr (.inr (.inr (.inr (fun _ => none)))))) := hC9.keep e24 (by decide)
  have e25 : w7[25]? = some (x25, .inl (t 1, 768, .inl (fun _ => 0))) := hC9.keep e25 (by decide)
  have e26 : w7[26]? = some (x26, .inr (4, [.ref x27, .ref x29, .int 0])) := hC9.keep e26 (by decide)
  have e27 : w7[27]? = some (x27, .inr (1, [.ref x28])) := hC9.keep e27 (by decide)
  have e28 : w7[28]? = some (x28, .inl (t 2, 768, .inr (.inr (.inr (.inr (fun _ => none)))))) := hC9.keep e28 (by decide)
  have e29 : w7[29]? = some (x29, .inl (t 1, 768, .inl (fun _ => 0))) := hC9.keep e29 (by decide)
  have e30 : w7[30]? = some (x30, .inr (4, [.ref x31, .ref x33, .int 0])) := hC9.keep e30 (by decide)
  have e31 : w7[31]? = some (x31, .inr (1, [.ref x32])) := hC9.keep e31 (by decide)
  have e32 : w7[32]? = some (x32, .inl (t 2, 768, .inr (.inr (.inr (.inr (fun _ => none)))))) := hC9.keep e32 (by decide)
  have e33 : w7[33]? = some (x33, .inl (t 1, 768, .inl (fun _ => 0))) := hC9.keep e33 (by decide)
  have e34 : w7[34]? = some (q5, .inr (6, [.ref x35, .ref x36, .int 1, .int 1, .ref x37, .ref x38, .ref x39, .ref x40, .int 0, .int 0, .int 0, .int 0, .int 0, .int 0, .int 4, .int 0, .int 0])) := kf34
  have e35 : w7[35]? = some (x35, .inl (t 0, 1048832, .inl (fun _ => 0))) := kf35
  have e36 : w7[36]? = some (x36, .inl (t 4, 4097, .inl (fun _ => 0))) := kf36
  have e37 : w7[37]? = some (x37, .inl (t 4, 1024, .inl (fun _ => 0))) := kf37
  have e38 : w7[38]? = some (x38, .inl (t 4, 1024, .inl (fun _ => 0))) := kf38
  have e39 : w7[39]? = some (x39, .inl (t 4, 5120, .inl (fun _ => 0))) := kf39
  have e40 : w7[40]? = some (x40, .inl (t 4, 5, .inl (fun _ => 0))) := kf40
  have hC := hC.trans hC9
  have hn : w7.length = 41 := hn9
  refine lv_astore_n (lv' := [(2, .ref q5), (1, .ref q1), (0, .ref b)]) hx hb d_law_15 rfl hl (by decide) rfl (fun ls hl => ?_)
  refine lv_iconst (v := 1) hx hb d_law_16 (by decide) ?_
  refine va_newa (D := D) (atype := .long) hx hb (hts _ ac_long) (ty := .long) rfl hK hP hD hS hA (N' := 1) (a0 := (1, .inr (.inl (fun _ => 0)))) (fun cA => rfl) (by decide) (by decide) (by decide) (Nat.le_of_ble_eq_true rfl) (Nat.le_of_ble_eq_true rfl) d_law_17 (fun q9 cA H hK2 hP hD hS => ?_)
  have hcA : cA = t 5 := Option.some.inj ((hK2.2 6 (cA, .long) rfl).2.symm.trans (hK.2 5 (t 5, .long) rfl).2)
  rw [hcA] at hP hD
  clear hK2 hcA
  obtain ⟨w10, hw⟩ : ∃ q, q = w7 ++ [(q9, .inl (t 5, 1, .inr (.inl (fun _ => 0))))] := ⟨_, rfl⟩
  have hP : va_P D Cl (w7 ++ [(q9, .inl (t 5, 1, .inr (.inl (fun _ => 0))))]) H := hP
  have hD : va_D (Az z) (w7 ++ [(q9, .inl (t 5, 1, .inr (.inl (fun _ => 0))))]) := hD
  rw [← hw] at hP hD
  have hC := hC.push (c := [(q9, .inl (t 5, 1, .inr (.inl (fun _ => 0))))])
  rw [← hw] at hC
  have e0 : w10[0]? = some (q1, .inr (5, [.ref x1, .ref x4, .ref x7, .ref x8, .ref x9, .int 1, .int 0, .int 0, .int 0, .int 0])) := by rw [hw]; exact lk_push e0
  have e1 : w10[1]? = some (x1, .inr (3, [.ref x2, .int 0])) := by rw [hw]; exact lk_push e1
  have e2 : w10[2]? = some (x2, .inr (1, [.ref x3])) := by rw [hw]; exact lk_push e2
  have e3 : w10[3]? = some (x3, .inl (t 2, 768, .inr (.inr (.inr (.inr (fun _ => none)))))) := by rw [hw]; exact lk_push e3
  have e4 : w10[4]? = some (x4, .inr (3, [.ref x5, .int 0])) := by rw [hw]; exact lk_push e4
  have e5 : w10[5]? = some (x5, .inr (1, [.ref x6])) := by rw [hw]; exact lk_push e5
  have e6 : w10[6]? = some (x6, .inl (t 2, 781, .inr (.inr (.inr (.inr (fun _ => none)))))) := by rw [hw]; exact lk_push e6
  have e7 : w10[7]? = some (x7, .inl (t 3, 6, .inr (.inr (.inr (.inr gl))))) := by rw [hw]; exact lk_push e7
  have e8 : w10[8]? = some (x8, .inr (2, [.int 4, .int 0, .int 0, .int 0])) := by rw [hw]; exact lk_push e8
  have e9 : w10[9]? = some (x9, .inl (t 0, 260, .inl (fun _ => 0))) := by rw [hw]; exact lk_push e9
  have e10 : w10[10]? = some (x10, .inr (4, [.ref x11, .ref x13, .int 0])) := by rw [hw]; exact lk_push e10
  have e11 : w10[11]? = some (x11, .inr (1, [.ref x12])) := by rw [hw]; exact lk_push e11
  have e12 : w10[12]? = some (x12, .inl (t 2, 768, .inr (.inr (.inr (.inr (fun _ => none)))))) := by rw [hw]; exact lk_push e12
  have e13 : w10[13]? = some (x13, .inl (t 1, 768, .inl (fun _ => 0))) := by rw [hw]; exact lk_push e13
  have e14 : w10[14]? = some (x14, .inr (4, [.ref x15, .ref x17, .int 0])) := by rw [hw]; exact lk_push e14
  have e15 : w10[15]? = some (x15, .inr (1, [.ref x16])) := by rw [hw]; exact lk_push e15
  have e16 : w10[16]? = some (x16, .inl (t 2, 768, .inr (.inr (.inr (.inr (fun _ => none)))))) := by rw [hw]; exact lk_push e16
  have e17 : w10[17]? = some (x17, .inl (t 1, 768, .inl (fun _ => 0))) := by rw [hw]; exact lk_push e17
  have e18 : w10[18]? = some (x18, .inr (4, [.ref x19, .ref x21, .int 0])) := by rw [hw]; exact lk_push e18
  have e19 : w10[19]? = some (x19, .inr (1, [.ref x20])) := by rw [hw]; exact lk_push e19
  have e20 : w10[20]? = some (x20, .inl (t 2, 768, .inr (.inr (.inr (.inr (fun _ => none)))))) := by rw [hw]; exact lk_push e20
  have e21 : w10[21]? = some (x21, .inl (t 1, 768, .inl (fun _ => 0))) := by rw [hw]; exact lk_push e21
  have e22 : w10[22]? = some (x22, .inr (4, [.ref x23, .ref x25, .int 0])) := by rw [hw]; exact lk_push e22
  have e23 : w10[23]? = some (x23, .inr (1, [.ref x24])) := by rw [hw]; exact lk_push e23
  have e24 : w10[24]? = some (x24, .inl (t 2, 768, .inr (.inr (.inr (.inr (fun _ => none)))))) := by rw [hw]; exact lk_push e24
  have e25 : w10[25]? = some (x25, .inl (t 1, 768, .inl (fun _ => 0))) := by rw [hw]; exact lk_push e25
  have e26 : w10[26]? = some (x26, .inr (4, [.ref x27, .ref x29, .int 0])) := by rw [hw]; exact lk_push e26
  have e27 : w10[27]? = some (x27, .inr (1, [.ref x28])) := by rw [hw]; exact lk_push e27
  have e28 : w10[28]? = some (x28, .inl (t 2, 768, .inr (.inr (.inr (.inr (fun _ => none)))))) := by rw [hw]; exact lk_push e28
  have e29 : w10[29]? = some (x29, .inl (t 1, 768, .inl (fun _ => 0))) := by rw [hw]; exact lk_push e29
  have e30 : w10[30]? = some (x30, .inr (4, [.ref x31, .ref x33, .int 0])) := by rw [hw]; exact lk_push e30
  have e31 : w10[31]? = some (x31, .inr (1, [.ref x32])) := by rw [hw]; exact lk_push e31
  have e32 : w10[32]? = some (x32, .inl (t 2, 768, .inr (.inr (.inr (.inr (fun _ => none)))))) := by rw [hw]; exact lk_push e32
  have e33 : w10[33]? = some (x33, .inl (t 1, 768, .inl (fun _ => 0))) := by rw [hw]; exact lk_push e33
  have e34 : w10[34]? = some (q5, .inr (6, [.ref x35, .ref x36, .int 1, .int 1, .ref x37, .ref x38, .ref x39, .ref x40, .int 0, .int 0, .int 0, .int 0, .int 0, .int 0, .int 4, .int 0, .int 0])) := by rw [hw]; exact lk_push e34
  have e35 : w10[35]? = some (x35, .inl (t 0, 1048832, .inl (fun _ => 0))) := by rw [hw]; exact lk_push e35
  have e36 : w10[36]? = some (x36, .inl (t 4, 4097, .inl (fun _ => 0))) := by rw [hw]; exact lk_push e36
  have e37 : w10[37]? = some (x37, .inl (t 4, 1024, .inl (fun _ => 0))) := by rw [hw]; exact lk_push e37
  have e38 : w10[38]? = some (x38, .inl (t 4, 1024, .inl (fun _ => 0))) := by rw [hw]; exact lk_push e38
  have e39 : w10[39]? = some (x39, .inl (t 4, 5120, .inl (fun _ => 0))) := by rw [hw]; exact lk_push e39
  have e40 : w10[40]? = some (x40, .inl (t 4, 5, .inl (fun _ => 0))) := by rw [hw]; exact lk_push e40
  have e41 : w10[41]? = some (q9, .inl (t 5, 1, .inr (.inl (fun _ => 0)))) := by rw [hw]; exact lk_new hn
  have hn : w10.length = 42 := by rw [hw, List.length_append, hn]; rfl
  clear hw
  refine lv_astore_n (lv' := [(3, .ref q9), (2, .ref q5), (1, .ref q1), (0, .ref b)]) hx hb d_law_19 rfl hl (by decide) rfl (fun ls hl => ?_)
  refine lv_iconst (v := 0) hx hb d_law_20 (by decide) ?_
  refine lv_istore (lv' := [(4, .int 0), (3, .ref q9), (2, .ref q5), (1, .ref q1), (0, .ref b)]) hx hb d_law_21 hl (by decide) rfl (fun ls hl => ?_)
  obtain ⟨a, ha0, ha34, ha41, hI, hc1, hMi, ho, hnul⟩ := iv_new hn e0 e1 e2 e3 e4 e5 e6 e7 e8 e9 e10 e11 e12 e13 e14 e15 e16 e17 e18 e19 e20 e21 e22 e23 e24 e25 e26 e27 e28 e29 e30 e31 e32 e33 e34 e35 e36 e37 e38 e39 e40 e41 hrel
  have hl : lv_has ls 8 [(4, .int 0), (3, .ref q9), (2, .ref q5), (1, .ref q1), (0, .ref b)] := lv_sub hl [0, 1, 2, 3, 4] rfl
  rw [← ha0, ← ha34, ← ha41] at hl
  have hl : lv_has ls 8 [(4, .int (nI (6 * 0))), (3, .ref (a 41)), (2, .ref (a 34)), (1, .ref (a 0)), (0, .ref b)] := hl
  refine W.widen (k := LcC 0 w10) (n := LcS 0 w10) (by unfold LcC; omega) (by unfold LcS; omega) ?_
  exact law_loop hl0 hx hb hr hml hown hts hlocks hX hbl hK hM hz0 hL (L / 6) 0 w10 H _ ls (by omega) (by omega) hP hD hS ⟨_, _, _, hI, hc1, hMi, ho, by omega⟩ hl
