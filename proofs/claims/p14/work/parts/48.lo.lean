set_option maxHeartbeats 4000000 in
set_option maxRecDepth 100000 in
theorem law_loop {p : Program} {l : Launch} {e : Env} {s : State} {m : MethodId} {below : List Frame} {meth : Method} {c : Code} {b L : Nat} {xs : Nat → Int32} {D : va_G} {t : Nat → ClassId} {z : Nat} {sa : Nat → Nat} {a : Nat → Nat} (hl0 : l.stackTraces = false) (hx : p.tables.exec = Jvm.exec) (hb : c.code = code) (hr : meth.sig.returnType = ret) (hml : c.maxLocals = 8) (hown : s.vm.findClass R_L = some m.cls) (hts : ∀ w ∈ WS, w.before #[Value.ref b] s = true) (hlocks : meth.locks = false) (hX : va_X b L xs s s.heap) (hbl : b < s.heap.size) (hK : va_K D Cl (Ty t) s) (hM : Am z sa s) (hz0 : z = s.heap.size) (hL : L ≤ 3072) : ∀ (r n : Nat) (ws : va_W) (H : Heap) (locs : List Loc) (ls : Array Slot), 6 * n ≤ L → L < 6 * n + 6 * r + 6 → va_P D Cl ws H → va_D (Az z) ws → va_S (Az z) s.heap H locs → LI a t n ws → lv_has ls 8 [(4, .int (nI (6 * n))), (3, .ref (a 41)), (2, .ref (a 34)), (1, .ref (a 0)), (0, .ref b)] → W p l e room_1 s m #[Value.ref b] below meth c H locs (LcC n ws) (LcS n ws) (lw_Z below #[Value.ref b] s) (F0 m 23 ls []) := by
  intro r
  induction r with
  | zero =>
    intro n ws H locs ls h6 h7 hP hD hS hLI hl
    obtain ⟨k, v, vm, hI, hc1, hMi, ho, hN⟩ := hLI
    subst hz0
    exact lw_exit hx hb hr hlocks hX hbl hS hl 0 4 rfl rfl (sc_out hL h6 (by omega)) (by unfold LcC; omega) (by unfold LcS; omega)
  | succ r ih =>
    intro n ws H locs ls h6 h7 hP hD hS hLI hl
    obtain ⟨k, v, vm, hI, hc1, hMi, ho, hN⟩ := hLI
    by_cases hlt : L < 6 * n + 6
    · subst hz0
      exact lw_exit hx hb hr hlocks hX hbl hS hl 0 4 rfl rfl (sc_out hL h6 hlt) (by unfold LcC; omega) (by unfold LcS; omega)
    · have hbA : ¬ Az z b := fun h => absurd hbl (Nat.not_lt.mpr (by rw [← hz0]; exact h))
      refine lv_iload hx hb d_law_23 (lv_at hl 0 rfl) ?_
      refine lv_aload_n hx hb d_law_25 rfl (lv_at hl 4 rfl) ?_
      refine va_slen hx hb hX hbl hbA hS d_law_26 ?_
      refine lv_bipush (v := 6) hx hb d_law_27 (by decide) ?_
      refine lv_isub hx hb d_law_29 ?_
      refine lv_icmp_gt (tgt := 556) hx hb d_law_30 rfl (fun h => absurd h (sc_in hL (by omega))) (fun _ => ?_)
      refine lv_aload_n hx hb d_law_33 rfl (lv_at hl 4 rfl) ?_
      refine lv_iload hx hb d_law_34 (lv_at hl 0 rfl) ?_
      refine va_sld hx hb hX hbl hbA hS (i := nI (6 * n)) (vp_in_nI (by omega) (by omega)) d_law_36 ?_
      refine lv_bipush (v := 15) hx hb d_law_37 (by decide) ?_
      refine lv_iand hx hb d_law_39 ?_
      refine lv_topi (fun v9 hv => ?_)
      obtain ⟨j, hj, hv2⟩ := pk_andE (xs (nI (6 * n)).toNatClampNeg) (m := 15) 4 (by decide)
      rw [hv2] at hv
      subst hv
      rcases (show j = 0 ∨ j = 1 ∨ j = 2 ∨ j = 3 ∨ j = 4 ∨ j = 5 ∨ j = 6 ∨ j = 7 ∨ j = 8 ∨ j = 9 ∨ j = 10 ∨ j = 11 ∨ j = 12 ∨ j = 13 ∨ j = 14 ∨ j = 15 by omega) with rfl | rfl | rfl | rfl | rfl | rfl | rfl | rfl | rfl | rfl | rfl | rfl | rfl | rfl | rfl | rfl
      · refine lv_tableIn (off := 76) (tgt := 116) hx hb d_law_40 (by decide) (by decide) (by decide) rfl ?_
        exact lc_0 hl0 hx hb hr hml hown hts hlocks hX hbl hK hM hz0 hL (by omega) hP hD hS hI hc1 hMi ho hN hl (fun w H locs ls hP hD hS hI hl => ih (n + 1) w H locs ls (by omega) (by omega) hP hD hS hI hl)
      · refine lv_tableIn (off := 92) (tgt := 132) hx hb d_law_40 (by decide) (by decide) (by decide) rfl ?_
        exact lc_1 hl0 hx hb hr hml hown hts hlocks hX hbl hK hM hz0 hL (by omega) hP hD hS hI hc1 hMi ho hN hl (fun w H locs ls hP hD hS hI hl => ih (n + 1) w H locs ls (by omega) (by omega) hP hD hS hI hl)
      · refine lv_tableIn (off := 108) (tgt := 148) hx hb d_law_40 (by decide) (by decide) (by decide) rfl ?_
        exact lc_2 hl0 hx hb hr hml hown hts hlocks hX hbl hK hM hz0 hL (by omega) hP hD hS hI hc1 hMi ho hN hl (fun w H locs ls hP hD hS hI hl => ih (n + 1) w H locs ls (by omega) (by omega) hP hD hS hI hl)
      · refine lv_tableIn (off := 148) (tgt := 188) hx hb d_law_40 (by decide) (by decide) (by decide) rfl ?_
        exact lc_3 hl0 hx hb hr hml hown hts hlocks hX hbl hK hM hz0 hL (by omega) hP hD hS hI hc1 hMi ho hN hl (fun w H locs ls hP hD hS hI hl => ih (n + 1) w H locs ls (by omega) (by omega) hP hD hS hI hl)
      · refine lv_tableIn (off := 200) (tgt := 240) hx hb d_law_40 (by decide) (by decide) (by decide) rfl ?_
        exact lc_4 hl0 hx hb hr hml hown hts hlocks hX hbl hK hM hz0 hL (by omega) hP hD hS hI hc1 hMi ho hN hl (fun w H locs ls hP hD hS hI hl => ih (n + 1) w H locs ls (by omega) (by omega) hP hD hS hI hl)
      · refine lv_tableIn (off := 273) (tgt := 313) hx hb d_law_40 (by decide) (by decide) (by decide) rfl ?_
        exact lc_5 hl0 hx hb hr hml hown hts hlocks hX hbl hK hM hz0 hL (by omega) hP hD hS hI hc1 hMi ho hN hl (fun w H locs ls hP hD hS hI hl => ih (n + 1) w H locs ls (by omega) (by omega) hP hD hS hI hl)
      · refine lv_tableIn (off := 301) (tgt := 341) hx hb d_law_40 (by decide) (by decide) (by decide) rfl ?_
        exact lc_6 hl0 hx hb hr hml hown hts hlocks hX hbl hK hM hz0 hL (by omega) hP hD hS hI hc1 hMi ho hN hl (fun w H locs ls hP hD hS hI hl => ih (n + 1) w H locs ls (by omega) (by omega) hP hD hS hI hl)
      · refine lv_tableIn (off := 314) (tgt := 354) hx hb d_law_40 (by decide) (by decide) (by decide) rfl ?_
        exact lc_7 hl0 hx hb hr hml hown hts hlocks hX hbl hK hM hz0 hL (by omega) hP hD hS hI hc1 hMi ho hN hl (fun w H locs ls hP hD hS hI hl => ih (n + 1) w H locs ls (by omega) (by omega) hP hD hS hI hl)
      · refine lv_tableIn (off := 327) (tgt := 367) hx hb d_law_40 (by decide) (by decide) (by decide) rfl ?_
        exact lc_8 hl0 hx hb hr hml hown hts hlocks hX hbl hK hM hz0 hL (by omega) hP hD hS hI hc1 hMi ho hN hl (fun w H locs ls hP hD hS hI hl => ih (n + 1) w H locs ls (by omega) (by omega) hP hD hS hI hl)
      · refine lv_tableIn (off := 340) (tgt := 380) hx hb d_law_40 (by decide) (by decide) (by decide) rfl ?_
        exact lc_9 hl0 hx hb hr hml hown hts hlocks hX hbl hK hM hz0 hL (by omega) hP hD hS hI hc1 hMi ho hN hl (fun w H locs ls hP hD hS hI hl => ih (n + 1) w H locs ls (by omega) (by omega) hP hD hS hI hl)
      · refine lv_tableIn (off := 356) (tgt := 396) hx hb d_law_40 (by decide) (by decide) (by decide) rfl ?_
        exact lc_10 hl0 hx hb hr hml hown hts hlocks hX hbl hK hM hz0 hL (by omega) hP hD hS hI hc1 hMi ho hN hl (fun w H locs ls hP hD hS hI hl => ih (n + 1) w H locs ls (by omega) (by omega) hP hD hS hI hl)
      · refine lv_tableIn (off := 381) (tgt := 421) hx hb d_law_40 (by decide) (by decide) (by decide) rfl ?_
        exact lc_11 hl0 hx hb hr hml hown hts hlocks hX hbl hK hM hz0 hL (by omega) hP hD hS hI hc1 hMi ho hN hl (fun w H locs ls hP hD hS hI hl => ih (n + 1) w H locs ls (by omega) (by omega) hP hD hS hI hl)
      · refine lv_tableIn (off := 406) (tgt := 446) hx hb d_law_40 (by decide) (by decide) (by decide) rfl ?_
        exact lc_12 hl0 hx hb hr hml hown hts hlocks hX hbl hK hM hz0 hL (by omega) hP hD hS hI hc1 hMi ho hN hl (fun w H locs ls hP hD hS hI hl => ih (n + 1) w H locs ls (by omega) (by omega) hP hD hS hI hl)
      · refine lv_tableIn (off := 466) (tgt := 506) hx hb d_law_40 (by decide) (by decide) (by decide) rfl ?_
        exact lc_13 hl0 hx hb hr hml hown hts hlocks hX hbl hK hM hz0 hL (by omega) hP hD hS hI hc1 hMi ho hN hl (fun w H locs ls hP hD hS hI hl => ih (n + 1) w H locs ls (by omega) (by omega) hP hD hS hI hl)
      · refine lv_tableIn (off := 482) (tgt := 522) hx hb d_law_40 (by decide) (by decide) (by decide) rfl ?_
        exact lc_14 hl0 hx hb hr hml hown hts hlocks hX hbl hK hM hz0 hL (by omega) hP hD hS hI hc1 hMi ho hN hl (fun w H locs ls hP hD hS hI hl => ih (n + 1) w H locs ls (by omega) (by omega) hP hD hS hI hl)
      · refine lv_tableOut (tgt := 550) hx hb d_law_40 (Or.inr (by decide)) rfl ?_
        exact lc_15 hl0 hx hb hr hml hown hts hlocks hX hbl hK hM hz0 hL (by omega) hP hD hS hI hc1 hMi ho hN hl (fun w H locs ls hP hD hS hI hl => ih (n + 1) w H locs ls (by omega) (by omega) hP hD hS hI hl)
