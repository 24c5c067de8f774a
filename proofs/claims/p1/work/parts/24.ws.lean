set_option maxHeartbeats 4000000 in
set_option maxRecDepth 100000 in
theorem whole_start {p : Program} {e : Env} {s : State} {m : MethodId} {below : List Frame} {meth : Method} {c : Code} (l : Launch) (hl0 : l.stackTraces = false) {b L : Nat} {xs : Nat → Int32} (hL : L ≤ 6) (C0 : lw_At p s m meth c b L xs) : W p l e room_1 s m #[Value.ref b] below meth c s.heap [] 0 0 (lw_Z below #[Value.ref b] s) (entryFrame m ([Value.ref b] : List Value).toArray 8) := by
  obtain ⟨hx, hb, hr, hml, hown, htbl, hX, hbl, hlocks, hgv⟩ := C0
  have hts : ∀ w ∈ WS, w.before #[Value.ref b] s = true := fun w h => htbl w (WS_tbl h)
  have hown : s.vm.findClass R_L = some m.cls := hown
  obtain ⟨D, t, hK⟩ := st_K htbl
  have hM := st_Am htbl hgv
  generalize hsa : saOf s = sa at hM
  obtain ⟨z, hz0⟩ : ∃ z, z = s.heap.size := ⟨_, rfl⟩
  rw [← hz0] at hM
  have hz : z ≤ s.heap.size := Nat.le_of_eq hz0
  have hA : ∀ q, s.heap.size ≤ q → Az z q := fun q h => Nat.le_trans hz h
  have hS : va_S (Az z) s.heap s.heap [] := va_S.rf
  obtain ⟨ws, hws⟩ : ∃ w : va_W, w = [] := ⟨_, rfl⟩
  have hn : ws.length = 0 := by rw [hws]; rfl
  have hP : va_P D Cl ws s.heap := by rw [hws]; exact fun k q hk => nomatch hk
  have hD : va_D (Az z) ws := by rw [hws]; exact ⟨fun i j p q hp => (nomatch hp), fun k q hk => (nomatch hk)⟩
  have hC : Ch ws ws [] := Ch.rf
  have hl := lv_entry ([.ref b]) (n := 8) (Nat.le_of_ble_eq_true rfl)
  rw [lg_entry_eq]
  generalize (lg_sl ([.ref b]) ++ List.replicate (8 - (lg_sl ([.ref b])).length) Slot.unset).toArray = ls at hl ⊢
  have hl : lv_has ls 8 [(0, .ref b)] := hl
  refine va_new (ci := 5) (fs := [.null, .null, .null, .null, .null, .int 0, .int 0, .int 0, .int 0, .int 0]) (C := R_S) (T := F_S) (N := 10) hx hb hts ws_S t_S ok_S hown (hts _ cl_L_8) (hts _ ib_S) (hts _ in_S) hK hP hD hS hA rfl (fun j hj => by rcases (show j = 0 ∨ j = 1 ∨ j = 2 ∨ j = 3 ∨ j = 4 ∨ j = 5 ∨ j = 6 ∨ j = 7 ∨ j = 8 ∨ j = 9 by omega) with rfl | rfl | rfl | rfl | rfl | rfl | rfl | rfl | rfl | rfl <;> rfl) (Nat.le_of_ble_eq_true rfl) (Nat.le_of_ble_eq_true rfl) d_law_0 (fun q1 H hP hD hS => ?_)
  obtain ⟨w2, hw⟩ : ∃ q, q = ws ++ [(q1, .inr (5, [.null, .null, .null, .null, .null, .int 0, .int 0, .int 0, .int 0, .int 0]))] := ⟨_, rfl⟩
  have hP : va_P D Cl (ws ++ [(q1, .inr (5, [.null, .null, .null, .null, .null, .int 0, .int 0, .int 0, .int 0, .int 0]))]) H := hP
  have hD : va_D (Az z) (ws ++ [(q1, .inr (5, [.null, .null, .null, .null, .null, .int 0, .int 0, .int 0, .int 0, .int 0]))]) := hD
  rw [← hw] at hP hD
  have hC := hC.push (c := [(q1, .inr (5, [.null, .null, .null, .null, .null, .int 0, .int 0, .int 0, .int 0, .int 0]))])
  rw [← hw] at hC
  have e0 : w2[0]? = some (q1, .inr (5, [.null, .null, .null, .null, .null, .int 0, .int 0, .int 0, .int 0, .int 0])) := by rw [hw]; exact lk_new hn
  have hn : w2.length = 1 := by rw [hw, List.length_append, hn]; rfl
  clear hw
  refine lv_dup hx hb d_law_3 rfl ?_
  refine va_callv (va_runI (As := []) (rest := [.ref q1]) ⟨hx, hb, hml, hown, hts⟩ (c_S_init (D := D) (t := t) (z := z) (sa := sa) (ws := w2)  hn e0) (cwI 0 hts (gd_I cd_S_init) rfl rfl rfl (hts _ in_S) (hts _ ml_L_70) (hts _ im_S_init) rfl (by decide +kernel) ⟨Nat.le_of_ble_eq_true rfl, Nat.le_of_ble_eq_true rfl⟩) ⟨Pz_blind, Pz_at hP hK hD hz hM hS⟩ rfl rfl hl.1 rfl (lv_room (Nat.le_of_ble_eq_true rfl)) d_law_4 ⟨Nat.le_of_ble_eq_true rfl, Nat.le_of_ble_eq_true rfl⟩) hS (fun q _ h => h) (fun q h => h) (fun w3 t9 H locs ht hvm hp hB hz1 hk1 hS => ?_)
  obtain ⟨hP, hK9, hD, -⟩ := hB
  rw [ht] at hP
  clear hK9
  obtain ⟨xf, xj, xl, fu, xr, fb, jb, l0, lb, he, gl, hC9, hn9, kf0, kf1, kf4, kf7, kf8, kf10, kf13, hrel⟩ := hp
  have e0 : w3[0]? = some (q1, .inr (5, [.ref xf, .ref xj, .ref xl, .ref fu, .ref xr, .int 1, .int 0, .int 0, .int 0, .int 0])) := kf0
  have e1 : w3[1]? = some (xf, .inr (3, [.ref fb, .int 0])) := kf1
  have e4 : w3[4]? = some (xj, .inr (3, [.ref jb, .int 0])) := kf4
  have e7 : w3[7]? = some (xl, .inl (t 3, 6, .inr (.inr (.inr (.inr gl))))) := kf7
  have e8 : w3[8]? = some (fu, .inr (2, [.int 4, .int 0, .int 0, .int 0])) := kf8
  have e10 : w3[10]? = some (l0, .inr (4, [.ref lb, .ref he, .int 0])) := kf10
  have e13 : w3[13]? = some (he, .inl (t 1, 768, .inl (fun _ => 0))) := kf13
  have hC := hC.trans hC9
  have hn : w3.length = 34 := hn9
  refine lv_astore_n (lv' := [(1, .ref q1), (0, .ref b)]) hx hb d_law_7 rfl hl (by decide) rfl (fun ls hl => ?_)
  refine va_new (ci := 6) (fs := [.null, .null, .int 0, .int 0, .null, .null, .null, .null, .int 0, .int 0, .int 0, .int 0, .int 0, .int 0, .int 0, .int 0, .int 0]) (C := R_M) (T := F_M) (N := 17) hx hb hts ws_M t_M ok_M hown (hts _ cl_L_71) (hts _ ib_M) (hts _ in_M) hK hP hD hS hA rfl (fun j hj => by rcases (show j = 0 ∨ j = 1 ∨ j = 2 ∨ j = 3 ∨ j = 4 ∨ j = 5 ∨ j = 6 ∨ j = 7 ∨ j = 8 ∨ j = 9 ∨ j = 10 ∨ j = 11 ∨ j = 12 ∨ j = 13 ∨ j = 14 ∨ j = 15 ∨ j = 16 by omega) with rfl | rfl | rfl | rfl | rfl | rfl | rfl | rfl | rfl | rfl | rfl | rfl | rfl | rfl | rfl | rfl | rfl <;> rfl) (Nat.le_of_ble_eq_true rfl) (Nat.le_of_ble_eq_true rfl) d_law_8 (fun q5 H hP hD hS => ?_)
  obtain ⟨w6, hw⟩ : ∃ q, q = w3 ++ [(q5, .inr (6, [.null, .null, .int 0, .int 0, .null, .null, .null, .null, .int 0, .int 0, .int 0, .int 0, .int 0, .int 0, .int 0, .int 0, .int 0]))] := ⟨_, rfl⟩
  have hP : va_P D Cl (w3 ++ [(q5, .inr (6, [.null, .null, .int 0, .int 0, .null, .null, .null, .null, .int 0, .int 0, .int 0, .int 0, .int 0, .int 0, .int 0, .int 0, .int 0]))]) H := hP
  have hD : va_D (Az z) (w3 ++ [(q5, .inr (6, [.null, .null, .int 0, .int 0, .null, .null, .null, .null, .int 0, .int 0, .int 0, .int 0, .int 0, .int 0, .int 0, .int 0, .int 0]))]) := hD
  rw [← hw] at hP hD
  have hC := hC.push (c := [(q5, .inr (6, [.null, .null, .int 0, .int 0, .null, .null, .null, .null, .int 0, .int 0, .int 0, .int 0, .int 0, .int 0, .int 0, .int 0, .int 0]))])
  rw [← hw] at hC
  have e0 : w6[0]? = some (q1, .inr (5, [.ref xf, .ref xj, .ref xl, .ref fu, .ref xr, .int 1, .int 0, .int 0, .int 0, .int 0])) := by rw [hw]; exact lk_push e0
  have e1 : w6[1]? = some (xf, .inr (3, [.ref fb, .int 0])) := by rw [hw]; exact lk_push e1
  have e4 : w6[4]? = some (xj, .inr (3, [.ref jb, .int 0])) := by rw [hw]; exact lk_push e4
  have e7 : w6[7]? = some (xl, .inl (t 3, 6, .inr (.inr (.inr (.inr gl))))) := by rw [hw]; exact lk_push e7
  have e8 : w6[8]? = some (fu, .inr (2, [.int 4, .int 0, .int 0, .int 0])) := by rw [hw]; exact lk_push e8
  have e10 : w6[10]? = some (l0, .inr (4, [.ref lb, .ref he, .int 0])) := by rw [hw]; exact lk_push e10
  have e13 : w6[13]? = some (he, .inl (t 1, 768, .inl (fun _ => 0))) := by rw [hw]; exact lk_push e13
  have e34 : w6[34]? = some (q5, .inr (6, [.null, .null, .int 0, .int 0, .null, .null, .null, .null, .int 0, .int 0, .int 0, .int 0, .int 0, .int 0, .int 0, .int 0, .int 0])) := by rw [hw]; exact lk_new hn
  have hn : w6.length = 35 := by rw [hw, List.length_append, hn]; rfl
  clear hw
  refine lv_dup hx hb d_law_11 rfl ?_
  refine va_callv (va_runI (As := []) (rest := [.ref q5]) ⟨hx, hb, hml, hown, hts⟩ (c_M_init (D := D) (t := t) (z := z) (sa := sa) (ws := w6)  hn e34) (cwI 0 hts (gd_I cd_M_init) rfl rfl rfl (hts _ in_M) (hts _ ml_L_73) (hts _ im_M_init) rfl (by decide +kernel) ⟨Nat.le_of_ble_eq_true rfl, Nat.le_of_ble_eq_true rfl⟩) ⟨Pz_blind, Pz_at hP hK hD hz hM hS⟩ rfl rfl hl.1 rfl (lv_room (Nat.le_of_ble_eq_true rfl)) d_law_12 ⟨Nat.le_of_ble_eq_true rfl, Nat.le_of_ble_eq_true rfl⟩) hS (fun q _ h => h) (fun q h => h) (fun w7 t9 H locs ht hvm hp hB hz1 hk1 hS => ?_)
  obtain ⟨hP, hK9, hD, -⟩ := hB
  rw [ht] at hP
  clear hK9
  obtain ⟨mb, ms9, mn, ml, mk9, mq, hC9, hn9, kf34⟩ := hp
  have e0 : w7[0]? = some (q1, .inr (5, [.ref xf, .ref xj, .ref xl, .ref fu, .ref xr, .int 1, .int 0, .int 0, .int 0, .int 0])) := hC9.keep e0 (by decide)
  have e1 : w7[1]? = some (xf, .inr (3, [.ref fb, .int 0])) := hC9.keep e1 (by decide)
  have e4 : w7[4]? = some (xj, .inr (3, [.ref jb, .int 0])) := hC9.keep e4 (by decide)
  have e7 : w7[7]? = some (xl, .inl (t 3, 6, .inr (.inr (.inr (.inr gl))))) := hC9.keep e7 (by decide)
  have e8 : w7[8]? = some (fu, .inr (2, [.int 4, .int 0, .int 0, .int 0])) := hC9.keep e8 (by decide)
  have e10 : w7[10]? = some (l0, .inr (4, [.ref lb, .ref he, .int 0])) := hC9.keep e10 (by decide)
  have e13 : w7[13]? = some (he, .inl (t 1, 768, .inl (fun _ => 0))) := hC9.keep e13 (by decide)
  have e34 : w7[34]? = some (q5, .inr (6, [.ref mb, .ref ms9, .int 1, .int 1, .ref mn, .ref ml, .ref mk9, .ref mq, .int 0, .int 0, .int 0, .int 0, .int 0, .int 0, .int 4, .int 0, .int 0])) := kf34
  have hC := hC.trans hC9
  have hn : w7.length = 41 := hn9
  refine lv_astore_n (lv' := [(2, .ref q5), (1, .ref q1), (0, .ref b)]) hx hb d_law_15 rfl hl (by decide) rfl (fun ls hl => ?_)
  refine lv_iconst (v := 1) hx hb d_law_16 (by decide) ?_
  refine va_newa (D := D) (atype := .long) hx hb (hts _ ac_long) (ty := .long) rfl hK hP hD hS hA (N' := 1) (a0 := (1, .inr (.inl (fun _ => 0)))) (fun cA => rfl) (by decide) (by decide) (by decide) (Nat.le_of_ble_eq_true rfl) (Nat.le_of_ble_eq_true rfl) d_law_17 (fun q9 cA H hK2 hP hD hS => ?_)
  have hcA : cA = t 5 := Option.some.inj ((hK2.2 6 (cA, .long) rfl).2.symm.trans (hK.2 5 (t 5, .long) rfl).2)
  rw [hcA] at hP hD
  clear hK2 hcA
  obtain ⟨w10, hw⟩ : ∃ q, q = w7 ++ [(q9, .inl (t 5, 1, .inr (.inl (fun _ => 0))))] := ⟨_, rfl⟩
  have hP : va_P D Cl (w7 ++ [(q9, .inl (t 5, 1, .inr (.inl (fun _ => 0))))]) H := hP
  have hD : va_D (Az z) (w7 ++ [(q9, .inl (t 5, 1, .inr (.inl (fun _ => 0))))]) := hD
  rw [← hw] at hP hD
  have hC := hC.push (c := [(q9, .inl (t 5, 1, .inr (.inl (fun _ => 0))))])
  rw [← hw] at hC
  have e0 : w10[0]? = some (q1, .inr (5, [.ref xf, .ref xj, .ref xl, .ref fu, .ref xr, .int 1, .int 0, .int 0, .int 0, .int 0])) := by rw [hw]; exact lk_push e0
  have e1 : w10[1]? = some (xf, .inr (3, [.ref fb, .int 0])) := by rw [hw]; exact lk_push e1
  have e4 : w10[4]? = some (xj, .inr (3, [.ref jb, .int 0])) := by rw [hw]; exact lk_push e4
  have e7 : w10[7]? = some (xl, .inl (t 3, 6, .inr (.inr (.inr (.inr gl))))) := by rw [hw]; exact lk_push e7
  have e8 : w10[8]? = some (fu, .inr (2, [.int 4, .int 0, .int 0, .int 0])) := by rw [hw]; exact lk_push e8
  have e10 : w10[10]? = some (l0, .inr (4, [.ref lb, .ref he, .int 0])) := by rw [hw]; exact lk_push e10
  have e13 : w10[13]? = some (he, .inl (t 1, 768, .inl (fun _ => 0))) := by rw [hw]; exact lk_push e13
  have e34 : w10[34]? = some (q5, .inr (6, [.ref mb, .ref ms9, .int 1, .int 1, .ref mn, .ref ml, .ref mk9, .ref mq, .int 0, .int 0, .int 0, .int 0, .int 0, .int 0, .int 4, .int 0, .int 0])) := by rw [hw]; exact lk_push e34
  have e41 : w10[41]? = some (q9, .inl (t 5, 1, .inr (.inl (fun _ => 0)))) := by rw [hw]; exact lk_new hn
  have hn : w10.length = 42 := by rw [hw, List.length_append, hn]; rfl
  clear hw
  refine lv_astore_n (lv' := [(3, .ref q9), (2, .ref q5), (1, .ref q1), (0, .ref b)]) hx hb d_law_19 rfl hl (by decide) rfl (fun ls hl => ?_)
  refine lv_iconst (v := 0) hx hb d_law_20 (by decide) ?_
  refine lv_istore (lv' := [(4, .int 0), (3, .ref q9), (2, .ref q5), (1, .ref q1), (0, .ref b)]) hx hb d_law_21 hl (by decide) rfl (fun ls hl => ?_)
  by_cases h6 : L = 6
  · subst h6
    have hbA : ¬ Az z b := fun h => absurd hbl (Nat.not_lt.mpr (by rw [← hz0]; exact h))
    refine lv_iload hx hb d_law_23 (lv_at hl 0 rfl) ?_
    refine lv_aload_n hx hb d_law_25 rfl (lv_at hl 4 rfl) ?_
    refine va_slen hx hb hX hbl hbA hS d_law_26 ?_
    refine lv_bipush (v := 6) hx hb d_law_27 (by decide) ?_
    refine lv_isub hx hb d_law_29 ?_
    refine lv_icmp_gt (tgt := 845) hx hb d_law_30 rfl (fun h => absurd h (by decide)) (fun _ => ?_)
    refine lv_aload_n hx hb d_law_33 rfl (lv_at hl 4 rfl) ?_
    refine lv_iload hx hb d_law_34 (lv_at hl 0 rfl) ?_
    refine va_sld hx hb hX hbl hbA hS (i := 0) (by unfold vp_in; decide) d_law_36 ?_
    refine lv_bipush (v := 15) hx hb d_law_37 (by decide) ?_
    refine lv_iand hx hb d_law_39 ?_
    refine lv_topi (fun v hv => ?_)
    obtain ⟨j, hj, hv2⟩ := pk_andE (xs (0 : Int32).toNatClampNeg) (m := 15) 4 (by decide)
    rw [hv2] at hv
    subst hv
    refine W.widen (k := 42) (n := 1071195) (Nat.le_of_ble_eq_true rfl) (Nat.le_of_ble_eq_true rfl) ?_
    rcases (show j = 0 ∨ j = 1 ∨ j = 2 ∨ j = 3 ∨ j = 4 ∨ j = 5 ∨ j = 6 ∨ j = 7 ∨ j = 8 ∨ j = 9 ∨ j = 10 ∨ j = 11 ∨ j = 12 ∨ j = 13 ∨ j = 14 ∨ j = 15 by omega) with rfl | rfl | rfl | rfl | rfl | rfl | rfl | rfl | rfl | rfl | rfl | rfl | rfl | rfl | rfl | rfl
    · refine lv_tableIn (off := 76) (tgt := 116) hx hb d_law_40 (by decide) (by decide) (by decide) rfl ?_
      exact lc_0 hl0 hx hb hr hml hown hts hlocks hX hbl hK hM hz0 hP hD hS hrel e0 e1 e4 e7 e8 e10 e13 e34 e41 hl
    · refine lv_tableIn (off := 120) (tgt := 160) hx hb d_law_40 (by decide) (by decide) (by decide) rfl ?_
      exact lc_1 hl0 hx hb hr hml hown hts hlocks hX hbl hK hM hz0 hP hD hS hrel e0 e1 e4 e7 e8 e10 e13 e34 e41 hl
    · refine lv_tableIn (off := 164) (tgt := 204) hx hb d_law_40 (by decide) (by decide) (by decide) rfl ?_
      exact lc_2 hl0 hx hb hr hml hown hts hlocks hX hbl hK hM hz0 hP hD hS hrel e0 e1 e4 e7 e8 e10 e13 e34 e41 hl
    · refine lv_tableIn (off := 232) (tgt := 272) hx hb d_law_40 (by decide) (by decide) (by decide) rfl ?_
      exact lc_3 hl0 hx hb hr hml hown hts hlocks hX hbl hK hM hz0 hP hD hS hrel e0 e1 e4 e7 e8 e10 e13 e34 e41 hl
    · refine lv_tableIn (off := 312) (tgt := 352) hx hb d_law_40 (by decide) (by decide) (by decide) rfl ?_
      exact lc_4 hl0 hx hb hr hml hown hts hlocks hX hbl hK hM hz0 hP hD hS hrel e0 e1 e4 e7 e8 e10 e13 e34 e41 hl
    · refine lv_tableIn (off := 396) (tgt := 436) hx hb d_law_40 (by decide) (by decide) (by decide) rfl ?_
      exact lc_5 hl0 hx hb hr hml hown hts hlocks hX hbl hK hM hz0 hP hD hS hrel e0 e1 e4 e7 e8 e10 e13 e34 e41 hl
    · refine lv_tableIn (off := 451) (tgt := 491) hx hb d_law_40 (by decide) (by decide) (by decide) rfl ?_
      exact lc_6 hl0 hx hb hr hml hown hts hlocks hX hbl hK hM hz0 hP hD hS hrel e0 e1 e4 e7 e8 e10 e13 e34 e41 hl
    · refine lv_tableIn (off := 475) (tgt := 515) hx hb d_law_40 (by decide) (by decide) (by decide) rfl ?_
      exact lc_7 hl0 hx hb hr hml hown hts hlocks hX hbl hK hM hz0 hP hD hS hrel e0 e1 e4 e7 e8 e10 e13 e34 e41 hl
    · refine lv_tableIn (off := 499) (tgt := 539) hx hb d_law_40 (by decide) (by decide) (by decide) rfl ?_
      exact lc_8 hl0 hx hb hr hml hown hts hlocks hX hbl hK hM hz0 hP hD hS hrel e0 e1 e4 e7 e8 e10 e13 e34 e41 hl
    · refine lv_tableIn (off := 523) (tgt := 563) hx hb d_law_40 (by decide) (by decide) (by decide) rfl ?_
      exact lc_9 hl0 hx hb hr hml hown hts hlocks hX hbl hK hM hz0 hP hD hS hrel e0 e1 e4 e7 e8 e10 e13 e34 e41 hl
    · refine lv_tableIn (off := 567) (tgt := 607) hx hb d_law_40 (by decide) (by decide) (by decide) rfl ?_
      exact lc_10 hl0 hx hb hr hml hown hts hlocks hX hbl hK hM hz0 hP hD hS hrel e0 e1 e4 e7 e8 e10 e13 e34 e41 hl
    · refine lv_tableIn (off := 603) (tgt := 643) hx hb d_law_40 (by decide) (by decide) (by decide) rfl ?_
      exact lc_11 hl0 hx hb hr hml hown hts hlocks hX hbl hK hM hz0 hP hD hS hrel e0 e1 e4 e7 e8 e10 e13 e34 e41 hl
    · refine lv_tableIn (off := 639) (tgt := 679) hx hb d_law_40 (by decide) (by decide) (by decide) rfl ?_
      by_cases g : (¬ xs 1 < 0 ∧ xs 1 ≤ 4 ∧ ¬ xs 2 < 0 ∧ xs 2 ≤ 1000 ∧ ¬ xs 3 < 0 ∧ xs 3 ≤ 300)
      · obtain ⟨g0, g1, g2, g3, g4, g5⟩ := g
        exact lc_12 hl0 hx hb hr hml hown hts hlocks hX hbl hK hM hz0 hP hD hS hrel e0 e1 e4 e7 e8 e10 e13 e34 e41 hl g0 g1 g2 g3 g4 g5
      · exact lc_12b hl0 hx hb hr hml hown hts hlocks hX hbl hK hM hz0 hP hD hS hrel e0 e1 e4 e7 e8 e10 e13 e34 e41 hl g
    · refine lv_tableIn (off := 699) (tgt := 739) hx hb d_law_40 (by decide) (by decide) (by decide) rfl ?_
      exact lc_13 hl0 hx hb hr hml hown hts hlocks hX hbl hK hM hz0 hP hD hS hrel e0 e1 e4 e7 e8 e10 e13 e34 e41 hl
    · refine lv_tableIn (off := 743) (tgt := 783) hx hb d_law_40 (by decide) (by decide) (by decide) rfl ?_
      rcases told_split (xs 1) with g | g | g | g | g
      · exact lc_14_0 hl0 hx hb hr hml hown hts hlocks hX hbl hK hM hz0 hP hD hS hrel e0 e1 e4 e7 e8 e10 e13 e34 e41 hl g
      · exact lc_14_1 hl0 hx hb hr hml hown hts hlocks hX hbl hK hM hz0 hP hD hS hrel e0 e1 e4 e7 e8 e10 e13 e34 e41 hl g
      · exact lc_14_2 hl0 hx hb hr hml hown hts hlocks hX hbl hK hM hz0 hP hD hS hrel e0 e1 e4 e7 e8 e10 e13 e34 e41 hl g
      · exact lc_14_3 hl0 hx hb hr hml hown hts hlocks hX hbl hK hM hz0 hP hD hS hrel e0 e1 e4 e7 e8 e10 e13 e34 e41 hl g
      · exact lc_14b hl0 hx hb hr hml hown hts hlocks hX hbl hK hM hz0 hP hD hS hrel e0 e1 e4 e7 e8 e10 e13 e34 e41 hl g
    · refine lv_tableOut (tgt := 839) hx hb d_law_40 (Or.inr (by decide)) rfl ?_
      exact lc_15 hl0 hx hb hr hml hown hts hlocks hX hbl hK hM hz0 hP hD hS hrel e0 e1 e4 e7 e8 e10 e13 e34 e41 hl
  · subst hz0
    exact lw_exit hx hb hr hlocks hX hbl hS hl 0 4 rfl rfl (by rcases (show L = 0 ∨ L = 1 ∨ L = 2 ∨ L = 3 ∨ L = 4 ∨ L = 5 by omega) with rfl | rfl | rfl | rfl | rfl | rfl <;> decide) (Nat.le_of_ble_eq_true rfl) (Nat.le_of_ble_eq_true rfl)
