set_option maxHeartbeats 4000000 in
set_option maxRecDepth 100000 in
theorem c_M_move {l : Launch} {D : va_G} {t : Nat → ClassId} {z : Nat} {sa : Nat → Nat} {ws : va_W} {a : Nat → Nat} {NV : Nat} {v : Nat → Int32} {pa pf pq pt pn : Int32} (hI : Mi a t NV v ws) (hNV : NV ≤ 4000) : Met l y_M_move (Cond.code y_M_move b_M_move 8 (.none : Option Jvm.ClassFile.FieldType) :: WS) ({ frames := 1, cells := 0, slots := 0, locals := 23 }) (Pz D t z sa ws [.ref (a 34), .int pa, .int pf, .int pq, .int pt, .int pn]) (va_Qv (fun u : va_W => ∃ v1, Mi a t (NV + 1) v1 u ∧ Mk ws u) (fun u U => Wd D t z u U) (Az z)) 0 0 (Az z) := by
  refine Met.ofW (cc := b_M_move) (maxL := 8) (ret := (.none : Option Jvm.ClassFile.FieldType)) (by decide) rfl ?_
  intro p e s m args below meth c s₁ B hml hv
  obtain ⟨rfl, ⟨hP, hK, hD, hz⟩, hM⟩ := hv
  have hx := B.exec
  have hb := B.bytes
  have hr := B.returns
  have hts : ∀ w ∈ WS, w.before [.ref (a 34), .int pa, .int pf, .int pq, .int pt, .int pn].toArray s = true := fun w h => atoms_spec B.pre w (List.mem_cons_of_mem _ h)
  have hown : s.vm.findClass R_M = some m.cls := findClass_of_methodNamed B.named
  have hlocks := B.notSynchronized
  have hA : ∀ q, s.heap.size ≤ q → Az z q := fun q h => Nat.le_trans hz h
  have hS : va_S (Az z) s.heap s.heap [] := va_S.rf
  have hC : Mk ws ws := Mk.rf
  have hl := lv_entry ([.ref (a 34), .int pa, .int pf, .int pq, .int pt, .int pn]) (n := 8) (Nat.le_of_ble_eq_true rfl)
  rw [lg_entry_eq]
  generalize (lg_sl ([.ref (a 34), .int pa, .int pf, .int pq, .int pt, .int pn]) ++ List.replicate (8 - (lg_sl ([.ref (a 34), .int pa, .int pf, .int pq, .int pt, .int pn])).length) Slot.unset).toArray = ls at hl ⊢
  have hl : lv_has ls 8 [(0, .ref (a 34)), (1, .int pa), (2, .int pf), (3, .int pq), (4, .int pt), (5, .int pn)] := hl
  refine lv_aload_n hx hb d_M_move_0 rfl (lv_at hl 0 rfl) ?_
  refine lv_aload_n hx hb d_M_move_1 rfl (lv_at hl 0 rfl) ?_
  refine va_get (D := D) (ci := 6) (v := .int (v 6)) (C := R_M) (T := F_M) (N := 17) hx hb hts ws_M hown hK hP 34 hI.1 rfl 12 (by decide) (hts _ fl_M_46) (fun _ h9 => h9) rfl d_M_move_2 ?_
  refine lv_if_ne (tgt := 15) hx hb d_M_move_5 rfl (fun q1 => ?_) (fun q1 => ?_)
  · skip
    refine lv_iconst (v := 1) hx hb d_M_move_15 (by decide) ?_
    refine lv_goto (tgt := 20) hx hb d_M_move_16 rfl ?_
    refine lv_aload_n hx hb d_M_move_20 rfl (lv_at hl 0 rfl) ?_
    refine lv_iload_n hx hb d_M_move_21 rfl (lv_at hl 1 rfl) ?_
    refine va_calli (va_runV (As := [.int pa]) (rest := [.int 1, .ref (a 34)]) ⟨hx, hb, hml, hown, hts⟩ (c_M_isPage (D := D) (t := t) (z := z) (sa := sa) (ws := ws) (x9 := pa) hI ) (cwV 1 hts (gd_V ml_M_57 im_M_isPage se_M_isPage in_M cd_M_isPage) rfl rfl rfl (by decide +kernel) ⟨Nat.le_of_ble_eq_true rfl, Nat.le_of_ble_eq_true rfl⟩) ⟨Pz_blind, va_recv hK hP (ci := 6) rfl hI.1, Pz_at hP hK hD hz hM hS⟩ rfl rfl hl.1 rfl (lv_room (Nat.le_of_ble_eq_true rfl)) d_M_move_22 ⟨Nat.le_of_ble_eq_true rfl, Nat.le_of_ble_eq_true rfl⟩) hS (fun q _ h => h) (fun q h => h) (fun r3 u2 t9 H locs ht hvm hp hB hz1 hk1 hS => ?_)
    obtain ⟨hP, hK9, hD, -⟩ := hB
    rw [ht] at hP
    clear hK9
    obtain ⟨hw9, hr9⟩ := hp
    rw [hw9] at hP hD
    clear hw9
    rcases hr9 with hr9 | ⟨hr9, ip, hip, hxip⟩
    · skip
      subst hr9
      refine lv_if_eq (tgt := 55) hx hb d_M_move_25 rfl (fun _ => ?_) (fun h => absurd h (by decide))
      refine lv_iconst (v := 1) hx hb d_M_move_55 (by decide) ?_
      refine lv_goto (tgt := 60) hx hb d_M_move_56 rfl ?_
      refine va_calli (va_runV (As := [.int 1, .int 1]) (rest := []) ⟨hx, hb, hml, hown, hts⟩ (c_M_fails (D := D) (t := t) (z := z) (sa := sa) (ws := ws) (x9 := 1) (y9 := 1) hI ) (cwV 2 hts (gd_V ml_M_50 im_M_fails se_M_fails in_M cd_M_fails) rfl rfl rfl (by decide +kernel) ⟨Nat.le_of_ble_eq_true rfl, Nat.le_of_ble_eq_true rfl⟩) ⟨Pz_blind, va_recv hK hP (ci := 6) rfl hI.1, Pz_at hP hK hD hz hM hS⟩ rfl rfl hl.1 rfl (lv_room (Nat.le_of_ble_eq_true rfl)) d_M_move_60 ⟨Nat.le_of_ble_eq_true rfl, Nat.le_of_ble_eq_true rfl⟩) hS (fun q _ h => h) (fun q h => h) (fun r5 u4 t9 H locs ht hvm hp hB hz1 hk1 hS => ?_)
      obtain ⟨hP, hK9, hD, -⟩ := hB
      rw [ht] at hP
      clear hK9
      obtain ⟨v6, hI, hC9, nv6, hr9⟩ := hp
      have hC := hC.trans hC9
      rcases hr9 with hr9 | ⟨hr9, hx0, hy0⟩
      · skip
        subst hr9
        refine lv_if_eq (tgt := 67) hx hb d_M_move_63 rfl (fun h => absurd h (by decide)) (fun _ => ?_)
        exact W.vret hx hb hr (fun t9 ht hW => ⟨⟨u4, rfl, ⟨_, hI.mono (by omega), hC⟩, ⟨by rw [ht]; exact hP, va_K.moved hW.alike hK, hD, by rw [ht]; exact Nat.le_trans hz hS.1⟩⟩, hS.F ht⟩) hS.2.2 d_M_move_66
      · skip
        exact absurd hx0 (by decide)
    · skip
      subst hr9
      refine lv_if_eq (tgt := 55) hx hb d_M_move_25 rfl (fun h => absurd h (by decide)) (fun _ => ?_)
      refine lv_aload_n hx hb d_M_move_28 rfl (lv_at hl 0 rfl) ?_
      refine lv_iload_n hx hb d_M_move_29 rfl (lv_at hl 3 rfl) ?_
      refine va_calli (va_runV (As := [.int pq]) (rest := [.int 1, .ref (a 34)]) ⟨hx, hb, hml, hown, hts⟩ (c_M_isPage (D := D) (t := t) (z := z) (sa := sa) (ws := ws) (x9 := pq) hI ) (cwV 1 hts (gd_V ml_M_57 im_M_isPage se_M_isPage in_M cd_M_isPage) rfl rfl rfl (by decide +kernel) ⟨Nat.le_of_ble_eq_true rfl, Nat.le_of_ble_eq_true rfl⟩) ⟨Pz_blind, va_recv hK hP (ci := 6) rfl hI.1, Pz_at hP hK hD hz hM hS⟩ rfl rfl hl.1 rfl (lv_room (Nat.le_of_ble_eq_true rfl)) d_M_move_30 ⟨Nat.le_of_ble_eq_true rfl, Nat.le_of_ble_eq_true rfl⟩) hS (fun q _ h => h) (fun q h => h) (fun r8 u7 t9 H locs ht hvm hp hB hz1 hk1 hS => ?_)
      obtain ⟨hP, hK9, hD, -⟩ := hB
      rw [ht] at hP
      clear hK9
      obtain ⟨hw9, hr9⟩ := hp
      rw [hw9] at hP hD
      clear hw9
      rcases hr9 with hr9 | ⟨hr9, iq, hiq, hxiq⟩
      · skip
        subst hr9
        refine lv_if_eq (tgt := 55) hx hb d_M_move_33 rfl (fun _ => ?_) (fun h => absurd h (by decide))
        refine lv_iconst (v := 1) hx hb d_M_move_55 (by decide) ?_
        refine lv_goto (tgt := 60) hx hb d_M_move_56 rfl ?_
        refine va_calli (va_runV (As := [.int 1, .int 1]) (rest := []) ⟨hx, hb, hml, hown, hts⟩ (c_M_fails (D := D) (t := t) (z := z) (sa := sa) (ws := ws) (x9 := 1) (y9 := 1) hI ) (cwV 2 hts (gd_V ml_M_50 im_M_fails se_M_fails in_M cd_M_fails) rfl rfl rfl (by decide +kernel) ⟨Nat.le_of_ble_eq_true rfl, Nat.le_of_ble_eq_true rfl⟩) ⟨Pz_blind, va_recv hK hP (ci := 6) rfl hI.1, Pz_at hP hK hD hz hM hS⟩ rfl rfl hl.1 rfl (lv_room (Nat.le_of_ble_eq_true rfl)) d_M_move_60 ⟨Nat.le_of_ble_eq_true rfl, Nat.le_of_ble_eq_true rfl⟩) hS (fun q _ h => h) (fun q h => h) (fun r11 u10 t9 H locs ht hvm hp hB hz1 hk1 hS => ?_)
        obtain ⟨hP, hK9, hD, -⟩ := hB
        rw [ht] at hP
        clear hK9
        obtain ⟨v12, hI, hC9, nv12, hr9⟩ := hp
        have hC := hC.trans hC9
        rcases hr9 with hr9 | ⟨hr9, hx0, hy0⟩
        · skip
          subst hr9
          refine lv_if_eq (tgt := 67) hx hb d_M_move_63 rfl (fun h => absurd h (by decide)) (fun _ => ?_)
          exact W.vret hx hb hr (fun t9 ht hW => ⟨⟨u10, rfl, ⟨_, hI.mono (by omega), hC⟩, ⟨by rw [ht]; exact hP, va_K.moved hW.alike hK, hD, by rw [ht]; exact Nat.le_trans hz hS.1⟩⟩, hS.F ht⟩) hS.2.2 d_M_move_66
        · skip
          exact absurd hx0 (by decide)
      · skip
        subst hr9
        refine lv_if_eq (tgt := 55) hx hb d_M_move_33 rfl (fun h => absurd h (by decide)) (fun _ => ?_)
        refine lv_iload_n hx hb d_M_move_36 rfl (lv_at hl 2 rfl) ?_
        refine lv_iload hx hb d_M_move_37 (lv_at hl 5 rfl) ?_
        refine va_calli (va_runS (As := [.int pf, .int pn]) (rest := [.int 1, .ref (a 34)]) ⟨hx, hb, hml, hown, hts⟩ (c_M_isPart (D := D) (t := t) (z := z) (sa := sa) (ws := ws) (x9 := pf) (y9 := pn) hI ) (va_cwS 2 hts (gd_S ml_M_69 st_M_isPart in_M cd_M_isPart) rfl rfl rfl (by decide +kernel) ⟨Nat.le_of_ble_eq_true rfl, Nat.le_of_ble_eq_true rfl⟩) ⟨Pz_blind, Pz_at hP hK hD hz hM hS⟩ rfl rfl hl.1 rfl (lv_room (Nat.le_of_ble_eq_true rfl)) d_M_move_39 ⟨Nat.le_of_ble_eq_true rfl, Nat.le_of_ble_eq_true rfl⟩) hS (fun q _ h => h) (fun q h => h) (fun r14 u13 t9 H locs ht hvm hp hB hz1 hk1 hS => ?_)
        obtain ⟨hP, hK9, hD, -⟩ := hB
        rw [ht] at hP
        clear hK9
        obtain ⟨hw9, hr9⟩ := hp
        rw [hw9] at hP hD
        clear hw9
        rcases hr9 with hr9 | ⟨hr9, i1, m1, hxi1, hxm1, hsi1⟩
        · skip
          subst hr9
          refine lv_if_eq (tgt := 55) hx hb d_M_move_42 rfl (fun _ => ?_) (fun h => absurd h (by decide))
          refine lv_iconst (v := 1) hx hb d_M_move_55 (by decide) ?_
          refine lv_goto (tgt := 60) hx hb d_M_move_56 rfl ?_
          refine va_calli (va_runV (As := [.int 1, .int 1]) (rest := []) ⟨hx, hb, hml, hown, hts⟩ (c_M_fails (D := D) (t := t) (z := z) (sa := sa) (ws := ws) (x9 := 1) (y9 := 1) hI ) (cwV 2 hts (gd_V ml_M_50 im_M_fails se_M_fails in_M cd_M_fails) rfl rfl rfl (by decide +kernel) ⟨Nat.le_of_ble_eq_true rfl, Nat.le_of_ble_eq_true rfl⟩) ⟨Pz_blind, va_recv hK hP (ci := 6) rfl hI.1, Pz_at hP hK hD hz hM hS⟩ rfl rfl hl.1 rfl (lv_room (Nat.le_of_ble_eq_true rfl)) d_M_move_60 ⟨Nat.le_of_ble_eq_true rfl, Nat.le_of_ble_eq_true rfl⟩) hS (fun q _ h => h) (fun q h => h) (fun r16 u15 t9 H locs ht hvm hp hB hz1 hk1 hS => ?_)
          obtain ⟨hP, hK9, hD, -⟩ := hB
          rw [ht] at hP
          clear hK9
          obtain ⟨v17, hI, hC9, nv17, hr9⟩ := hp
          have hC := hC.trans hC9
          rcases hr9 with hr9 | ⟨hr9, hx0, hy0⟩
          · skip
            subst hr9
            refine lv_if_eq (tgt := 67) hx hb d_M_move_63 rfl (fun h => absurd h (by decide)) (fun _ => ?_)
            exact W.vret hx hb hr (fun t9 ht hW => ⟨⟨u15, rfl, ⟨_, hI.mono (by omega), hC⟩, ⟨by rw [ht]; exact hP, va_K.moved hW.alike hK, hD, by rw [ht]; exact Nat.le_trans hz hS.1⟩⟩, hS.F ht⟩) hS.2.2 d_M_move_66
          · skip
            exact absurd hx0 (by decide)
        · skip
          subst hr9
          refine lv_if_eq (tgt := 55) hx hb d_M_move_42 rfl (fun h => absurd h (by decide)) (fun _ => ?_)
          refine lv_iload hx hb d_M_move_45 (lv_at hl 4 rfl) ?_
          refine lv_iload hx hb d_M_move_47 (lv_at hl 5 rfl) ?_
          refine va_calli (va_runS (As := [.int pt, .int pn]) (rest := [.int 1, .ref (a 34)]) ⟨hx, hb, hml, hown, hts⟩ (c_M_isPart (D := D) (t := t) (z := z) (sa := sa) (ws := ws) (x9 := pt) (y9 := pn) hI ) (va_cwS 2 hts (gd_S ml_M_69 st_M_isPart in_M cd_M_isPart) rfl rfl rfl (by decide +kernel) ⟨Nat.le_of_ble_eq_true rfl, Nat.le_of_ble_eq_true rfl⟩) ⟨Pz_blind, Pz_at hP hK hD hz hM hS⟩ rfl rfl hl.1 rfl (lv_room (Nat.le_of_ble_eq_true rfl)) d_M_move_49 ⟨Nat.le_of_ble_eq_true rfl, Nat.le_of_ble_eq_true rfl⟩) hS (fun q _ h => h) (fun q h => h) (fun r19 u18 t9 H locs ht hvm hp hB hz1 hk1 hS => ?_)
          obtain ⟨hP, hK9, hD, -⟩ := hB
          rw [ht] at hP
          clear hK9
          obtain ⟨hw9, hr9⟩ := hp
          rw [hw9] at hP hD
          clear hw9
          rcases hr9 with hr9 | ⟨hr9, i2, m2, hxi2, hxm2, hsi2⟩
          · skip
            subst hr9
            refine lv_if_ne (tgt := 59) hx hb d_M_move_52 rfl (fun h => absurd h (by decide)) (fun _ => ?_)
            refine lv_iconst (v := 1) hx hb d_M_move_55 (by decide) ?_
            refine lv_goto (tgt := 60) hx hb d_M_move_56 rfl ?_
            refine va_calli (va_runV (As := [.int 1, .int 1]) (rest := []) ⟨hx, hb, hml, hown, hts⟩ (c_M_fails (D := D) (t := t) (z := z) (sa := sa) (ws := ws) (x9 := 1) (y9 := 1) hI ) (cwV 2 hts (gd_V ml_M_50 im_M_fails se_M_fails in_M cd_M_fails) rfl rfl rfl (by decide +kernel) ⟨Nat.le_of_ble_eq_true rfl, Nat.le_of_ble_eq_true rfl⟩) ⟨Pz_blind, va_recv hK hP (ci := 6) rfl hI.1, Pz_at hP hK hD hz hM hS⟩ rfl rfl hl.1 rfl (lv_room (Nat.le_of_ble_eq_true rfl)) d_M_move_60 ⟨Nat.le_of_ble_eq_true rfl, Nat.le_of_ble_eq_true rfl⟩) hS (fun q _ h => h) (fun q h => h) (fun r21 u20 t9 H locs ht hvm hp hB hz1 hk1 hS => ?_)
            obtain ⟨hP, hK9, hD, -⟩ := hB
            rw [ht] at hP
            clear hK9
            obtain ⟨v22, hI, hC9, nv22, hr9⟩ := hp
            have hC := hC.trans hC9
            rcases hr9 with hr9 | ⟨hr9, hx0, hy0⟩
            · skip
              subst hr9
              refine lv_if_eq (tgt := 67) hx hb d_M_move_63 rfl (fun h => absurd h (by decide)) (fun _ => ?_)
              exact W.vret hx hb hr (fun t9 ht hW => ⟨⟨u20, rfl, ⟨_, hI.mono (by omega), hC⟩, ⟨by rw [ht]; exact hP, va_K.moved hW.alike hK, hD, by rw [ht]; exact Nat.le_trans hz hS.1⟩⟩, hS.F ht⟩) hS.2.2 d_M_move_66
            · skip
              exact absurd hx0 (by decide)
          · skip
            subst hr9
            have hm12 : m2 = m1 := (nI_eq (by omega) (by omega)).mp (hxm2.symm.trans hxm1)
            refine lv_if_ne (tgt := 59) hx hb d_M_move_52 rfl (fun _ => ?_) (fun h => absurd h (by decide))
            refine lv_iconst (v := 0) hx hb d_M_move_59 (by decide) ?_
            refine va_calli (va_runV (As := [.int 1, .int 0]) (rest := []) ⟨hx, hb, hml, hown, hts⟩ (c_M_fails (D := D) (t := t) (z := z) (sa := sa) (ws := ws) (x9 := 1) (y9 := 0) hI ) (cwV 2 hts (gd_V ml_M_50 im_M_fails se_M_fails in_M cd_M_fails) rfl rfl rfl (by decide +kernel) ⟨Nat.le_of_ble_eq_true rfl, Nat.le_of_ble_eq_true rfl⟩) ⟨Pz_blind, va_recv hK hP (ci := 6) rfl hI.1, Pz_at hP hK hD hz hM hS⟩ rfl rfl hl.1 rfl (lv_room (Nat.le_of_ble_eq_true rfl)) d_M_move_60 ⟨Nat.le_of_ble_eq_true rfl, Nat.le_of_ble_eq_true rfl⟩) hS (fun q _ h => h) (fun q h => h) (fun r24 u23 t9 H locs ht hvm hp hB hz1 hk1 hS => ?_)
            obtain ⟨hP, hK9, hD, -⟩ := hB
            rw [ht] at hP
            clear hK9
            obtain ⟨v25, hI, hC9, nv25, hr9⟩ := hp
            have hC := hC.trans hC9
            rcases hr9 with hr9 | ⟨hr9, hx0, hy0⟩
            · skip
              subst hr9
              refine lv_if_eq (tgt := 67) hx hb d_M_move_63 rfl (fun h => absurd h (by decide)) (fun _ => ?_)
              exact W.vret hx hb hr (fun t9 ht hW => ⟨⟨u23, rfl, ⟨_, hI.mono (by omega), hC⟩, ⟨by rw [ht]; exact hP, va_K.moved hW.alike hK, hD, by rw [ht]; exact Nat.le_trans hz hS.1⟩⟩, hS.F ht⟩) hS.2.2 d_M_move_66
            · skip
              exact absurd hx0 (by decide)
  · skip
    refine lv_aload_n hx hb d_M_move_8 rfl (lv_at hl 0 rfl) ?_
    refine va_get (D := D) (ci := 6) (v := .int (v 7)) (C := R_M) (T := F_M) (N := 17) hx hb hts ws_M hown hK hP 34 hI.1 rfl 13 (by decide) (hts _ fl_M_54) (fun _ h9 => h9) rfl d_M_move_9 ?_
    refine lv_if_ne (tgt := 19) hx hb d_M_move_12 rfl (fun q26 => ?_) (fun q26 => ?_)
    · skip
      refine lv_iconst (v := 0) hx hb d_M_move_19 (by decide) ?_
      refine lv_aload_n hx hb d_M_move_20 rfl (lv_at hl 0 rfl) ?_
      refine lv_iload_n hx hb d_M_move_21 rfl (lv_at hl 1 rfl) ?_
      refine va_calli (va_runV (As := [.int pa]) (rest := [.int 0, .ref (a 34)]) ⟨hx, hb, hml, hown, hts⟩ (c_M_isPage (D := D) (t := t) (z := z) (sa := sa) (ws := ws) (x9 := pa) hI ) (cwV 1 hts (gd_V ml_M_57 im_M_isPage se_M_isPage in_M cd_M_isPage) rfl rfl rfl (by decide +kernel) ⟨Nat.le_of_ble_eq_true rfl, Nat.le_of_ble_eq_true rfl⟩) ⟨Pz_blind, va_recv hK hP (ci := 6) rfl hI.1, Pz_at hP hK hD hz hM hS⟩ rfl rfl hl.1 rfl (lv_room (Nat.le_of_ble_eq_true rfl)) d_M_move_22 ⟨Nat.le_of_ble_eq_true rfl, Nat.le_of_ble_eq_true rfl⟩) hS (fun q _ h => h) (fun q h => h) (fun r28 u27 t9 H locs ht hvm hp hB hz1 hk1 hS => ?_)
      obtain ⟨hP, hK9, hD, -⟩ := hB
      rw [ht] at hP
      clear hK9
      obtain ⟨hw9, hr9⟩ := hp
      rw [hw9] at hP hD
      clear hw9
      rcases hr9 with hr9 | ⟨hr9, ip, hip, hxip⟩
      · skip
        subst hr9
        refine lv_if_eq (tgt := 55) hx hb d_M_move_25 rfl (fun _ => ?_) (fun h => absurd h (by decide))
        refine lv_iconst (v := 1) hx hb d_M_move_55 (by decide) ?_
        refine lv_goto (tgt := 60) hx hb d_M_move_56 rfl ?_
        refine va_calli (va_runV (As := [.int 0, .int 1]) (rest := []) ⟨hx, hb, hml, hown, hts⟩ (c_M_fails (D := D) (t := t) (z := z) (sa := sa) (ws := ws) (x9 := 0) (y9 := 1) hI ) (cwV 2 hts (gd_V ml_M_50 im_M_fails se_M_fails in_M cd_M_fails) rfl rfl rfl (by decide +kernel) ⟨Nat.le_of_ble_eq_true rfl, Nat.le_of_ble_eq_true rfl⟩) ⟨Pz_blind, va_recv hK hP (ci := 6) rfl hI.1, Pz_at hP hK hD hz hM hS⟩ rfl rfl hl.1 rfl (lv_room (Nat.le_of_ble_eq_true rfl)) d_M_move_60 ⟨Nat.le_of_ble_eq_true rfl, Nat.le_of_ble_eq_true rfl⟩) hS (fun q _ h => h) (fun q h => h) (fun r30 u29 t9 H locs ht hvm hp hB hz1 hk1 hS => ?_)
        obtain ⟨hP, hK9, hD, -⟩ := hB
        rw [ht] at hP
        clear hK9
        obtain ⟨v31, hI, hC9, nv31, hr9⟩ := hp
        have hC := hC.trans hC9
        rcases hr9 with hr9 | ⟨hr9, hx0, hy0⟩
        · skip
          subst hr9
          refine lv_if_eq (tgt := 67) hx hb d_M_move_63 rfl (fun h => absurd h (by decide)) (fun _ => ?_)
          exact W.vret hx hb hr (fun t9 ht hW => ⟨⟨u29, rfl, ⟨_, hI.mono (by omega), hC⟩, ⟨by rw [ht]; exact hP, va_K.moved hW.alike hK, hD, by rw [ht]; exact Nat.le_trans hz hS.1⟩⟩, hS.F ht⟩) hS.2.2 d_M_move_66
        · skip
          exact absurd hy0 (by decide)
      · skip
        subst hr9
        refine lv_if_eq (tgt := 55) hx hb d_M_move_25 rfl (fun h => absurd h (by decide)) (fun _ => ?_)
        refine lv_aload_n hx hb d_M_move_28 rfl (lv_at hl 0 rfl) ?_
        refine lv_iload_n hx hb d_M_move_29 rfl (lv_at hl 3 rfl) ?_
        refine va_calli (va_runV (As := [.int pq]) (rest := [.int 0, .ref (a 34)]) ⟨hx, hb, hml, hown, hts⟩ (c_M_isPage (D := D) (t := t) (z := z) (sa := sa) (ws := ws) (x9 := pq) hI ) (cwV 1 hts (gd_V ml_M_57 im_M_isPage se_M_isPage in_M cd_M_isPage) rfl rfl rfl (by decide +kernel) ⟨Nat.le_of_ble_eq_true rfl, Nat.le_of_ble_eq_true rfl⟩) ⟨Pz_blind, va_recv hK hP (ci := 6) rfl hI.1, Pz_at hP hK hD hz hM hS⟩ rfl rfl hl.1 rfl (lv_room (Nat.le_of_ble_eq_true rfl)) d_M_move_30 ⟨Nat.le_of_ble_eq_true rfl, Nat.le_of_ble_eq_true rfl⟩) hS (fun q _ h => h) (fun q h => h) (fun r33 u32 t9 H locs ht hvm hp hB hz1 hk1 hS => ?_)
        obtain ⟨hP, hK9, hD, -⟩ := hB
        rw [ht] at hP
        clear hK9
        obtain ⟨hw9, hr9⟩ := hp
        rw [hw9] at hP hD
        clear hw9
        rcases hr9 with hr9 | ⟨hr9, iq, hiq, hxiq⟩
        · skip
          subst hr9
          refine lv_if_eq (tgt := 55) hx hb d_M_move_33 rfl (fun _ => ?_) (fun h => absurd h (by decide))
          refine lv_iconst (v := 1) hx hb d_M_move_55 (by decide) ?_
          refine lv_goto (tgt := 60) hx hb d_M_move_56 rfl ?_
          refine va_calli (va_runV (As := [.int 0, .int 1]) (rest := []) ⟨hx, hb, hml, hown, hts⟩ (c_M_fails (D := D) (t := t) (z := z) (sa := sa) (ws := ws) (x9 := 0) (y9 := 1) hI ) (cwV 2 hts (gd_V ml_M_50 im_M_fails se_M_fails in_M cd_M_fails) rfl rfl rfl (by decide +kernel) ⟨Nat.le_of_ble_eq_true rfl, Nat.le_of_ble_eq_true rfl⟩) ⟨Pz_blind, va_recv hK hP (ci := 6) rfl hI.1, Pz_at hP hK hD hz hM hS⟩ rfl rfl hl.1 rfl (lv_room (Nat.le_of_ble_eq_true rfl)) d_M_move_60 ⟨Nat.le_of_ble_eq_true rfl, Nat.le_of_ble_eq_true rfl⟩) hS (fun q _ h => h) (fun q h => h) (fun r35 u34 t9 H locs ht hvm hp hB hz1 hk1 hS => ?_)
          obtain ⟨hP, hK9, hD, -⟩ := hB
          rw [ht] at hP
          clear hK9
          obtain ⟨v36, hI, hC9, nv36, hr9⟩ := hp
          have hC := hC.trans hC9
          rcases hr9 with hr9 | ⟨hr9, hx0, hy0⟩
          · skip
            subst hr9
            refine lv_if_eq (tgt := 67) hx hb d_M_move_63 rfl (fun h => absurd h (by decide)) (fun _ => ?_)
            exact W.vret hx hb hr (fun t9 ht hW => ⟨⟨u34, rfl, ⟨_, hI.mono (by omega), hC⟩, ⟨by rw [ht]; exact hP, va_K.moved hW.alike hK, hD, by rw [ht]; exact Nat.le_trans hz hS.1⟩⟩, hS.F ht⟩) hS.2.2 d_M_move_66
          · skip
            exact absurd hy0 (by decide)
        · skip
          subst hr9
          refine lv_if_eq (tgt := 55) hx hb d_M_move_33 rfl (fun h => absurd h (by decide)) (fun _ => ?_)
          refine lv_iload_n hx hb d_M_move_36 rfl (lv_at hl 2 rfl) ?_
          refine lv_iload hx hb d_M_move_37 (lv_at hl 5 rfl) ?_
          refine va_calli (va_runS (As := [.int pf, .int pn]) (rest := [.int 0, .ref (a 34)]) ⟨hx, hb, hml, hown, hts⟩ (c_M_isPart (D := D) (t := t) (z := z) (sa := sa) (ws := ws) (x9 := pf) (y9 := pn) hI ) (va_cwS 2 hts (gd_S ml_M_69 st_M_isPart in_M cd_M_isPart) rfl rfl rfl (by decide +kernel) ⟨Nat.le_of_ble_eq_true rfl, Nat.le_of_ble_eq_true rfl⟩) ⟨Pz_blind, Pz_at hP hK hD hz hM hS⟩ rfl rfl hl.1 rfl (lv_room (Nat.le_of_ble_eq_true rfl)) d_M_move_39 ⟨Nat.le_of_ble_eq_true rfl, Nat.le_of_ble_eq_true rfl⟩) hS (fun q _ h => h) (fun q h => h) (fun r38 u37 t9 H locs ht hvm hp hB hz1 hk1 hS => ?_)
          obtain ⟨hP, hK9, hD, -⟩ := hB
          rw [ht] at hP
          clear hK9
          obtain ⟨hw9, hr9⟩ := hp
          rw [hw9] at hP hD
          clear hw9
          rcases hr9 with hr9 | ⟨hr9, i1, m1, hxi1, hxm1, hsi1⟩
          · skip
            subst hr9
            refine lv_if_eq (tgt := 55) hx hb d_M_move_42 rfl (fun _ => ?_) (fun h => absurd h (by decide))
            refine lv_iconst (v := 1) hx hb d_M_move_55 (by decide) ?_
            refine lv_goto (tgt := 60) hx hb d_M_move_56 rfl ?_
            refine va_calli (va_runV (As := [.int 0, .int 1]) (rest := []) ⟨hx, hb, hml, hown, hts⟩ (c_M_fails (D := D) (t := t) (z := z) (sa := sa) (ws := ws) (x9 := 0) (y9 := 1) hI ) (cwV 2 hts (gd_V ml_M_50 im_M_fails se_M_fails in_M cd_M_fails) rfl rfl rfl (by decide +kernel) ⟨Nat.le_of_ble_eq_true rfl, Nat.le_of_ble_eq_true rfl⟩) ⟨Pz_blind, va_recv hK hP (ci := 6) rfl hI.1, Pz_at hP hK hD hz hM hS⟩ rfl rfl hl.1 rfl (lv_room (Nat.le_of_ble_eq_true rfl)) d_M_move_60 ⟨Nat.le_of_ble_eq_true rfl, Nat.le_of_ble_eq_true rfl⟩) hS (fun q _ h => h) (fun q h => h) (fun r40 u39 t9 H locs ht hvm hp hB hz1 hk1 hS => ?_)
            obtain ⟨hP, hK9, hD, -⟩ := hB
            rw [ht] at hP
            clear hK9
            obtain ⟨v41, hI, hC9, nv41, hr9⟩ := hp
            have hC := hC.trans hC9
            rcases hr9 with hr9 | ⟨hr9, hx0, hy0⟩
            · skip
              subst hr9
              refine lv_if_eq (tgt := 67) hx hb d_M_move_63 rfl (fun h => absurd h (by decide)) (fun _ => ?_)
              exact W.vret hx hb hr (fun t9 ht hW => ⟨⟨u39, rfl, ⟨_, hI.mono (by omega), hC⟩, ⟨by rw [ht]; exact hP, va_K.moved hW.alike hK, hD, by rw [ht]; exact Nat.le_trans hz hS.1⟩⟩, hS.F ht⟩) hS.2.2 d_M_move_66
            · skip
              exact absurd hy0 (by decide)
          · skip
            subst hr9
            refine lv_if_eq (tgt := 55) hx hb d_M_move_42 rfl (fun h => absurd h (by decide)) (fun _ => ?_)
            refine lv_iload hx hb d_M_move_45 (lv_at hl 4 rfl) ?_
            refine lv_iload hx hb d_M_move_47 (lv_at hl 5 rfl) ?_
            refine va_calli (va_runS (As := [.int pt, .int pn]) (rest := [.int 0, .ref (a 34)]) ⟨hx, hb, hml, hown, hts⟩ (c_M_isPart (D := D) (t := t) (z := z) (sa := sa) (ws := ws) (x9 := pt) (y9 := pn) hI ) (va_cwS 2 hts (gd_S ml_M_69 st_M_isPart in_M cd_M_isPart) rfl rfl rfl (by decide +kernel) ⟨Nat.le_of_ble_eq_true rfl, Nat.le_of_ble_eq_true rfl⟩) ⟨Pz_blind, Pz_at hP hK hD hz hM hS⟩ rfl rfl hl.1 rfl (lv_room (Nat.le_of_ble_eq_true rfl)) d_M_move_49 ⟨Nat.le_of_ble_eq_true rfl, Nat.le_of_ble_eq_true rfl⟩) hS (fun q _ h => h) (fun q h => h) (fun r43 u42 t9 H locs ht hvm hp hB hz1 hk1 hS => ?_)
            obtain ⟨hP, hK9, hD, -⟩ := hB
            rw [ht] at hP
            clear hK9
            obtain ⟨hw9, hr9⟩ := hp
            rw [hw9] at hP hD
            clear hw9
            rcases hr9 with hr9 | ⟨hr9, i2, m2, hxi2, hxm2, hsi2⟩
            · skip
              subst hr9
              refine lv_if_ne (tgt := 59) hx hb d_M_move_52 rfl (fun h => absurd h (by decide)) (fun _ => ?_)
              refine lv_iconst (v := 1) hx hb d_M_move_55 (by decide) ?_
              refine lv_goto (tgt := 60) hx hb d_M_move_56 rfl ?_
              refine va_calli (va_runV (As := [.int 0, .int 1]) (rest := []) ⟨hx, hb, hml, hown, hts⟩ (c_M_fails (D := D) (t := t) (z := z) (sa := sa) (ws := ws) (x9 := 0) (y9 := 1) hI ) (cwV 2 hts (gd_V ml_M_50 im_M_fails se_M_fails in_M cd_M_fails) rfl rfl rfl (by decide +kernel) ⟨Nat.le_of_ble_eq_true rfl, Nat.le_of_ble_eq_true rfl⟩) ⟨Pz_blind, va_recv hK hP (ci := 6) rfl hI.1, Pz_at hP hK hD hz hM hS⟩ rfl rfl hl.1 rfl (lv_room (Nat.le_of_ble_eq_true rfl)) d_M_move_60 ⟨Nat.le_of_ble_eq_true rfl, Nat.le_of_ble_eq_true rfl⟩) hS (fun q _ h => h) (fun q h => h) (fun r45 u44 t9 H locs ht hvm hp hB hz1 hk1 hS => ?_)
              obtain ⟨hP, hK9, hD, -⟩ := hB
              rw [ht] at hP
              clear hK9
              obtain ⟨v46, hI, hC9, nv46, hr9⟩ := hp
              have hC := hC.trans hC9
              rcases hr9 with hr9 | ⟨hr9, hx0, hy0⟩
              · skip
                subst hr9
                refine lv_if_eq (tgt := 67) hx hb d_M_move_63 rfl (fun h => absurd h (by decide)) (fun _ => ?_)
                exact W.vret hx hb hr (fun t9 ht hW => ⟨⟨u44, rfl, ⟨_, hI.mono (by omega), hC⟩, ⟨by rw [ht]; exact hP, va_K.moved hW.alike hK, hD, by rw [ht]; exact Nat.le_trans hz hS.1⟩⟩, hS.F ht⟩) hS.2.2 d_M_move_66
              · skip
                exact absurd hy0 (by decide)
            · skip
              subst hr9
              have hm12 : m2 = m1 := (nI_eq (by omega) (by omega)).mp (hxm2.symm.trans hxm1)
              refine lv_if_ne (tgt := 59) hx hb d_M_move_52 rfl (fun _ => ?_) (fun h => absurd h (by decide))
              refine lv_iconst (v := 0) hx hb d_M_move_59 (by decide) ?_
              refine va_calli (va_runV (As := [.int 0, .int 0]) (rest := []) ⟨hx, hb, hml, hown, hts⟩ (c_M_fails (D := D) (t := t) (z := z) (sa := sa) (ws := ws) (x9 := 0) (y9 := 0) hI ) (cwV 2 hts (gd_V ml_M_50 im_M_fails se_M_fails in_M cd_M_fails) rfl rfl rfl (by decide +kernel) ⟨Nat.le_of_ble_eq_true rfl, Nat.le_of_ble_eq_true rfl⟩) ⟨Pz_blind, va_recv hK hP (ci := 6) rfl hI.1, Pz_at hP hK hD hz hM hS⟩ rfl rfl hl.1 rfl (lv_room (Nat.le_of_ble_eq_true rfl)) d_M_move_60 ⟨Nat.le_of_ble_eq_true rfl, Nat.le_of_ble_eq_true rfl⟩) hS (fun q _ h => h) (fun q h => h) (fun r48 u47 t9 H locs ht hvm hp hB hz1 hk1 hS => ?_)
              obtain ⟨hP, hK9, hD, -⟩ := hB
              rw [ht] at hP
              clear hK9
              obtain ⟨v49, hI, hC9, nv49, hr9⟩ := hp
              have hC := hC.trans hC9
              rcases hr9 with hr9 | ⟨hr9, hx0, hy0⟩
              · skip
                subst hr9
                refine lv_if_eq (tgt := 67) hx hb d_M_move_63 rfl (fun h => absurd h (by decide)) (fun _ => ?_)
                exact W.vret hx hb hr (fun t9 ht hW => ⟨⟨u47, rfl, ⟨_, hI.mono (by omega), hC⟩, ⟨by rw [ht]; exact hP, va_K.moved hW.alike hK, hD, by rw [ht]; exact Nat.le_trans hz hS.1⟩⟩, hS.F ht⟩) hS.2.2 d_M_move_66
              · skip
                subst hr9
                refine lv_if_eq (tgt := 67) hx hb d_M_move_63 rfl (fun _ => ?_) (fun h => absurd h (by decide))
                refine lv_aload_n hx hb d_M_move_67 rfl (lv_at hl 0 rfl) ?_
                refine va_get (D := D) (ci := 6) (v := .ref (a 37)) (C := R_M) (T := F_M) (N := 17) hx hb hts ws_M hown hK hP 34 hI.1 rfl 4 (by decide) (hts _ fl_M_25) (fun _ h9 => h9) rfl d_M_move_68 ?_
                refine lv_iload_n hx hb d_M_move_71 rfl (lv_at hl 1 rfl) ?_
                obtain ⟨fA50, eA50, lA50⟩ := hI.a37
                refine va_iald (D := D) hx hb hK hP 37 4 eA50 rfl (i := pa) (by rw [hxip]; exact vp_in_nI (by omega) (by decide)) d_M_move_72 ?_
                obtain ⟨VA50, hVA50, eVA50⟩ := lA50 (pa : Int32).toNatClampNeg
                refine W.eq (g2 := F0 m 73 ls [.int (nI VA50)]) (by rw [eVA50]) ?_
                refine lv_istore (lv' := [(6, .int (nI VA50)), (0, .ref (a 34)), (1, .int pa), (2, .int pf), (3, .int pq), (4, .int pt), (5, .int pn)]) hx hb d_M_move_73 hl (by decide) rfl (fun ls hl => ?_)
                refine lv_iload hx hb d_M_move_75 (lv_at hl 6 rfl) ?_
                refine lv_if_le (tgt := 85) hx hb d_M_move_77 rfl (fun q51 => ?_) (fun q51 => ?_)
                · skip
                  refine lv_iload hx hb d_M_move_85 (lv_at hl 0 rfl) ?_
                  refine lv_aload_n hx hb d_M_move_87 rfl (lv_at hl 1 rfl) ?_
                  refine va_get (D := D) (ci := 6) (v := .ref (a 37)) (C := R_M) (T := F_M) (N := 17) hx hb hts ws_M hown hK hP 34 hI.1 rfl 4 (by decide) (hts _ fl_M_25) (fun _ h9 => h9) rfl d_M_move_88 ?_
                  refine lv_iload_n hx hb d_M_move_91 rfl (lv_at hl 4 rfl) ?_
                  obtain ⟨fA52, eA52, lA52⟩ := hI.a37
                  refine va_iald (D := D) hx hb hK hP 37 4 eA52 rfl (i := pq) (by rw [hxiq]; exact vp_in_nI (by omega) (by decide)) d_M_move_92 ?_
                  obtain ⟨VA52, hVA52, eVA52⟩ := lA52 (pq : Int32).toNatClampNeg
                  refine W.eq (g2 := F0 m 93 ls [.int (nI VA52), .int (nI VA50)]) (by rw [eVA52]) ?_
                  refine lv_icmp_ne (tgt := 157) hx hb d_M_move_93 rfl (fun q53 => ?_) (fun q53 => ?_)
                  · skip
                    refine lv_iconst (v := 0) hx hb d_M_move_157 (by decide) ?_
                    refine lv_istore (lv' := [(7, .int 0), (6, .int (nI VA50)), (0, .ref (a 34)), (1, .int pa), (2, .int pf), (3, .int pq), (4, .int pt), (5, .int pn)]) hx hb d_M_move_158 hl (by decide) rfl (fun ls hl => ?_)
                    have key : ∀ (n9 i : Nat) (w9 : va_W) (H : Heap) (locs : List Loc) (ls : Array Slot), i + n9 = m1 → va_P D Cl w9 H → va_D (Az z) w9 → va_S (Az z) s.heap H locs → Mi a t NV v49 w9 → Mk ws w9 → lv_has ls 8 [(7, .int (nI i)), (6, .int (nI VA50)), (0, .ref (a 34)), (1, .int pa), (2, .int pf), (3, .int pq), (4, .int pt), (5, .int pn)] → W p l e (headSpec (Cond.code y_M_move b_M_move 8 (.none : Option Jvm.ClassFile.FieldType) :: WS) ({ frames := 1, cells := 0, slots := 0, locals := 23 })).room s m [.ref (a 34), .int pa, .int pf, .int pq, .int pt, .int pn].toArray below meth c H locs 0 0 (MQ below (va_Qv (fun u : va_W => ∃ v1, Mi a t (NV + 1) v1 u ∧ Mk ws u) (fun u U => Wd D t z u U) (Az z)) [.ref (a 34), .int pa, .int pf, .int pq, .int pt, .int pn].toArray s 0 0 (Az z)) (F0 m 160 ls []) := by
                      intro n9
                      induction n9 with
                      | zero =>
                        intro i w9 H locs ls hi9 hP hD hS hI hC hl
                        refine lv_iload hx hb d_M_move_160 (lv_at hl 0 rfl) ?_
                        refine lv_iload hx hb d_M_move_162 (lv_at hl 7 rfl) ?_
                        have hB9 : pn = nI m1 := hxm1
                        refine lv_icmp_ge (tgt := 210) hx hb d_M_move_164 rfl (fun _ => ?_) (fun h => absurd (by rw [hB9]; exact nI_le (by omega) (by omega)) h)
                        exact W.vret hx hb hr (fun t9 ht hW => ⟨⟨w9, rfl, ⟨_, hI.mono (by omega), hC⟩, ⟨by rw [ht]; exact hP, va_K.moved hW.alike hK, hD, by rw [ht]; exact Nat.le_trans hz hS.1⟩⟩, hS.F ht⟩) hS.2.2 d_M_move_210
                      | succ n9 ih =>
                        intro i w9 H locs ls hi9 hP hD hS hI hC hl
                        refine lv_iload hx hb d_M_move_160 (lv_at hl 0 rfl) ?_
                        refine lv_iload hx hb d_M_move_162 (lv_at hl 7 rfl) ?_
                        have hB9 : pn = nI m1 := hxm1
                        refine lv_icmp_ge (tgt := 210) hx hb d_M_move_164 rfl (fun h => absurd h (by rw [hB9]; exact nI_ge (by omega) (by omega))) (fun _ => ?_)
                        refine lv_aload_n hx hb d_M_move_167 rfl (lv_at hl 2 rfl) ?_
                        refine va_get (D := D) (ci := 6) (v := .ref (a 35)) (C := R_M) (T := F_M) (N := 17) hx hb hts ws_M hown hK hP 34 hI.1 rfl 0 (by decide) (hts _ fl_M_8) (fun _ h9 => h9) rfl d_M_move_168 ?_
                        refine lv_sipush (v := 256) hx hb d_M_move_171 (by decide) ?_
                        refine lv_aload_n hx hb d_M_move_174 rfl (lv_at hl 2 rfl) ?_
                        refine va_get (D := D) (ci := 6) (v := .ref (a 37)) (C := R_M) (T := F_M) (N := 17) hx hb hts ws_M hown hK hP 34 hI.1 rfl 4 (by decide) (hts _ fl_M_25) (fun _ h9 => h9) rfl d_M_move_175 ?_
                        refine lv_iload_n hx hb d_M_move_178 rfl (lv_at hl 5 rfl) ?_
                        obtain ⟨fA54, eA54, lA54⟩ := hI.a37
                        refine va_iald (D := D) hx hb hK hP 37 4 eA54 rfl (i := pq) (by rw [hxiq]; exact vp_in_nI (by omega) (by decide)) d_M_move_179 ?_
                        obtain ⟨VA54, hVA54, eVA54⟩ := lA54 (pq : Int32).toNatClampNeg
                        refine W.eq (g2 := F0 m 180 ls [.int (nI VA54), .int 256, .ref (a 35)]) (by rw [eVA54]) ?_
                        refine lv_imul hx hb d_M_move_180 ?_
                        refine lv_topi (fun y55 hy55 => ?_)
                        have hy55 : y55 = nI (256 * VA54) := by rw [hy55]; exact pk_mul 256 VA54
                        refine lv_iload hx hb d_M_move_181 (lv_at hl 6 rfl) ?_
                        refine lv_iadd hx hb d_M_move_183 ?_
                        refine lv_topi (fun y56 hy56 => ?_)
                        have hy56 : y56 = nI ((256 * VA54) + i2) := by rw [hy56, hy55, hxi2]; exact nI_add (256 * VA54) i2
                        refine lv_iload hx hb d_M_move_184 (lv_at hl 0 rfl) ?_
                        refine lv_iadd hx hb d_M_move_186 ?_
                        refine lv_topi (fun y57 hy57 => ?_)
                        have hy57 : y57 = nI (((256 * VA54) + i2) + i) := by rw [hy57, hy56]; exact nI_add ((256 * VA54) + i2) i
                        refine lv_aload_n hx hb d_M_move_187 rfl (lv_at hl 2 rfl) ?_
                        refine va_get (D := D) (ci := 6) (v := .ref (a 35)) (C := R_M) (T := F_M) (N := 17) hx hb hts ws_M hown hK hP 34 hI.1 rfl 0 (by decide) (hts _ fl_M_8) (fun _ h9 => h9) rfl d_M_move_188 ?_
                        refine lv_sipush (v := 256) hx hb d_M_move_191 (by decide) ?_
                        refine lv_iload hx hb d_M_move_194 (lv_at hl 1 rfl) ?_
                        refine lv_imul hx hb d_M_move_196 ?_
                        refine lv_topi (fun y58 hy58 => ?_)
                        have hy58 : y58 = nI (256 * VA50) := by rw [hy58]; exact pk_mul 256 VA50
                        refine lv_iload_n hx hb d_M_move_197 rfl (lv_at hl 4 rfl) ?_
                        refine lv_iadd hx hb d_M_move_198 ?_
                        refine lv_topi (fun y59 hy59 => ?_)
                        have hy59 : y59 = nI ((256 * VA50) + i1) := by rw [hy59, hy58, hxi1]; exact nI_add (256 * VA50) i1
                        refine lv_iload hx hb d_M_move_199 (lv_at hl 0 rfl) ?_
                        refine lv_iadd hx hb d_M_move_201 ?_
                        refine lv_topi (fun y60 hy60 => ?_)
                        have hy60 : y60 = nI (((256 * VA50) + i1) + i) := by rw [hy60, hy59]; exact nI_add ((256 * VA50) + i1) i
                        obtain ⟨fA61, eA61⟩ := hI.a35
                        refine va_bald (D := D) hx hb hK hP 35 0 eA61 rfl (i := y60) (by rw [hy60]; exact vp_in_nI (by omega) (by decide)) d_M_move_202 ?_
                        generalize fA61 (y60 : Int32).toNatClampNeg = y62
                        obtain ⟨fA63, eA63⟩ := hI.a35
                        refine va_bast (D := D) hx hb hK hP hD hS 35 0 eA63 rfl (i := y57) (x := y62) (by rw [hy57]; exact vp_in_nI (by omega) (by decide)) d_M_move_203 (fun H locs hP hD hS => ?_)
                        generalize upd fA63 (y57 : Int32).toNatClampNeg (vp_nar .byte y62) = gA63 at hP hD
                        obtain ⟨w64, hw⟩ : ∃ q, q = w9.set 35 (a 35, .inl (t 0, 1048832, .inl gA63)) := ⟨_, rfl⟩
                        have hP : va_P D Cl (w9.set 35 (a 35, .inl (t 0, 1048832, .inl gA63))) H := hP
                        have hD : va_D (Az z) (w9.set 35 (a 35, .inl (t 0, 1048832, .inl gA63))) := hD
                        have hC := hC.set (p := 35) (c := (a 35, .inl (t 0, 1048832, .inl gA63))) (by decide) (by decide)
                        have hI := hI.s35 (f9 := gA63)
                        rw [← hw] at hP hD hC hI
                        clear hw
                        refine lv_iinc (k := 0) (v := nI (i + 1)) (lv' := [(7, .int (nI (i + 1))), (6, .int (nI VA50)), (0, .ref (a 34)), (1, .int pa), (2, .int pf), (3, .int pq), (4, .int pt), (5, .int pn)]) hx hb d_M_move_204 hl rfl (nI_1 i) (by decide) rfl (fun ls hl => ?_)
                        refine lv_goto (tgt := 160) hx hb d_M_move_207 rfl ?_
                        exact ih (i + 1) w64 H locs ls (by omega) hP hD hS hI hC (lv_sub hl [0, 1, 2, 3, 4, 5, 6, 7] rfl)
                    exact key m1 0 _ _ _ _ (Nat.zero_add _) hP hD hS hI hC (lv_sub hl [0, 1, 2, 3, 4, 5, 6, 7] rfl)
                  · skip
                    refine lv_iload hx hb d_M_move_96 (lv_at hl 5 rfl) ?_
                    refine lv_iload_n hx hb d_M_move_98 rfl (lv_at hl 3 rfl) ?_
                    refine lv_icmp_le (tgt := 157) hx hb d_M_move_99 rfl (fun q65 => ?_) (fun q65 => ?_)
                    · skip
                      refine lv_iconst (v := 0) hx hb d_M_move_157 (by decide) ?_
                      refine lv_istore (lv' := [(7, .int 0), (6, .int (nI VA50)), (0, .ref (a 34)), (1, .int pa), (2, .int pf), (3, .int pq), (4, .int pt), (5, .int pn)]) hx hb d_M_move_158 hl (by decide) rfl (fun ls hl => ?_)
                      have key : ∀ (n9 i : Nat) (w9 : va_W) (H : Heap) (locs : List Loc) (ls : Array Slot), i + n9 = m1 → va_P D Cl w9 H → va_D (Az z) w9 → va_S (Az z) s.heap H locs → Mi a t NV v49 w9 → Mk ws w9 → lv_has ls 8 [(7, .int (nI i)), (6, .int (nI VA50)), (0, .ref (a 34)), (1, .int pa), (2, .int pf), (3, .int pq), (4, .int pt), (5, .int pn)] → W p l e (headSpec (Cond.code y_M_move b_M_move 8 (.none : Option Jvm.ClassFile.FieldType) :: WS) ({ frames := 1, cells := 0, slots := 0, locals := 23 })).room s m [.ref (a 34), .int pa, .int pf, .int pq, .int pt, .int pn].toArray below meth c H locs 0 0 (MQ below (va_Qv (fun u : va_W => ∃ v1, Mi a t (NV + 1) v1 u ∧ Mk ws u) (fun u U => Wd D t z u U) (Az z)) [.ref (a 34), .int pa, .int pf, .int pq, .int pt, .int pn].toArray s 0 0 (Az z)) (F0 m 160 ls []) := by
                        intro n9
                        induction n9 with
                        | zero =>
                          intro i w9 H locs ls hi9 hP hD hS hI hC hl
                          refine lv_iload hx hb d_M_move_160 (lv_at hl 0 rfl) ?_
                          refine lv_iload hx hb d_M_move_162 (lv_at hl 7 rfl) ?_
                          have hB9 : pn = nI m1 := hxm1
                          refine lv_icmp_ge (tgt := 210) hx hb d_M_move_164 rfl (fun _ => ?_) (fun h => absurd (by rw [hB9]; exact nI_le (by omega) (by omega)) h)
                          exact W.vret hx hb hr (fun t9 ht hW => ⟨⟨w9, rfl, ⟨_, hI.mono (by omega), hC⟩, ⟨by rw [ht]; exact hP, va_K.moved hW.alike hK, hD, by rw [ht]; exact Nat.le_trans hz hS.1⟩⟩, hS.F ht⟩) hS.2.2 d_M_move_210
                        | succ n9 ih =>
                          intro i w9 H locs ls hi9 hP hD hS hI hC hl
                          refine lv_iload hx hb d_M_move_160 (lv_at hl 0 rfl) ?_
                          refine lv_iload hx hb d_M_move_162 (lv_at hl 7 rfl) ?_
                          have hB9 : pn = nI m1 := hxm1
                          refine lv_icmp_ge (tgt := 210) hx hb d_M_move_164 rfl (fun h => absurd h (by rw [hB9]; exact nI_ge (by omega) (by omega))) (fun _ => ?_)
                          refine lv_aload_n hx hb d_M_move_167 rfl (lv_at hl 2 rfl) ?_
                          refine va_get (D := D) (ci := 6) (v := .ref (a 35)) (C := R_M) (T := F_M) (N := 17) hx hb hts ws_M hown hK hP 34 hI.1 rfl 0 (by decide) (hts _ fl_M_8) (fun _ h9 => h9) rfl d_M_move_168 ?_
                          refine lv_sipush (v := 256) hx hb d_M_move_171 (by decide) ?_
                          refine lv_aload_n hx hb d_M_move_174 rfl (lv_at hl 2 rfl) ?_
                          refine va_get (D := D) (ci := 6) (v := .ref (a 37)) (C := R_M) (T := F_M) (N := 17) hx hb hts ws_M hown hK hP 34 hI.1 rfl 4 (by decide) (hts _ fl_M_25) (fun _ h9 => h9) rfl d_M_move_175 ?_
                          refine lv_iload_n hx hb d_M_move_178 rfl (lv_at hl 5 rfl) ?_
                          obtain ⟨fA66, eA66, lA66⟩ := hI.a37
                          refine va_iald (D := D) hx hb hK hP 37 4 eA66 rfl (i := pq) (by rw [hxiq]; exact vp_in_nI (by omega) (by decide)) d_M_move_179 ?_
                          obtain ⟨VA66, hVA66, eVA66⟩ := lA66 (pq : Int32).toNatClampNeg
                          refine W.eq (g2 := F0 m 180 ls [.int (nI VA66), .int 256, .ref (a 35)]) (by rw [eVA66]) ?_
                          refine lv_imul hx hb d_M_move_180 ?_
                          refine lv_topi (fun y67 hy67 => ?_)
                          have hy67 : y67 = nI (256 * VA66) := by rw [hy67]; exact pk_mul 256 VA66
                          refine lv_iload hx hb d_M_move_181 (lv_at hl 6 rfl) ?_
                          refine lv_iadd hx hb d_M_move_183 ?_
                          refine lv_topi (fun y68 hy68 => ?_)
                          have hy68 : y68 = nI ((256 * VA66) + i2) := by rw [hy68, hy67, hxi2]; exact nI_add (256 * VA66) i2
                          refine lv_iload hx hb d_M_move_184 (lv_at hl 0 rfl) ?_
                          refine lv_iadd hx hb d_M_move_186 ?_
                          refine lv_topi (fun y69 hy69 => ?_)
                          have hy69 : y69 = nI (((256 * VA66) + i2) + i) := by rw [hy69, hy68]; exact nI_add ((256 * VA66) + i2) i
                          refine lv_aload_n hx hb d_M_move_187 rfl (lv_at hl 2 rfl) ?_
                          refine va_get (D := D) (ci := 6) (v := .ref (a 35)) (C := R_M) (T := F_M) (N := 17) hx hb hts ws_M hown hK hP 34 hI.1 rfl 0 (by decide) (hts _ fl_M_8) (fun _ h9 => h9) rfl d_M_move_188 ?_
                          refine lv_sipush (v := 256) hx hb d_M_move_191 (by decide) ?_
                          refine lv_iload hx hb d_M_move_194 (lv_at hl 1 rfl) ?_
                          refine lv_imul hx hb d_M_move_196 ?_
                          refine lv_topi (fun y70 hy70 => ?_)
                          have hy70 : y70 = nI (256 * VA50) := by rw [hy70]; exact pk_mul 256 VA50
                          refine lv_iload_n hx hb d_M_move_197 rfl (lv_at hl 4 rfl) ?_
                          refine lv_iadd hx hb d_M_move_198 ?_
                          refine lv_topi (fun y71 hy71 => ?_)
                          have hy71 : y71 = nI ((256 * VA50) + i1) := by rw [hy71, hy70, hxi1]; exact nI_add (256 * VA50) i1
                          refine lv_iload hx hb d_M_move_199 (lv_at hl 0 rfl) ?_
                          refine lv_iadd hx hb d_M_move_201 ?_
                          refine lv_topi (fun y72 hy72 => ?_)
                          have hy72 : y72 = nI (((256 * VA50) + i1) + i) := by rw [hy72, hy71]; exact nI_add ((256 * VA50) + i1) i
                          obtain ⟨fA73, eA73⟩ := hI.a35
                          refine va_bald (D := D) hx hb hK hP 35 0 eA73 rfl (i := y72) (by rw [hy72]; exact vp_in_nI (by omega) (by decide)) d_M_move_202 ?_
                          generalize fA73 (y72 : Int32).toNatClampNeg = y74
                          obtain ⟨fA75, eA75⟩ := hI.a35
                          refine va_bast (D := D) hx hb hK hP hD hS 35 0 eA75 rfl (i := y69) (x := y74) (by rw [hy69]; exact vp_in_nI (by omega) (by decide)) d_M_move_203 (fun H locs hP hD hS => ?_)
                          generalize upd fA75 (y69 : Int32).toNatClampNeg (vp_nar .byte y74) = gA75 at hP hD
                          obtain ⟨w76, hw⟩ : ∃ q, q = w9.set 35 (a 35, .inl (t 0, 1048832, .inl gA75)) := ⟨_, rfl⟩
                          have hP : va_P D Cl (w9.set 35 (a 35, .inl (t 0, 1048832, .inl gA75))) H := hP
                          have hD : va_D (Az z) (w9.set 35 (a 35, .inl (t 0, 1048832, .inl gA75))) := hD
                          have hC := hC.set (p := 35) (c := (a 35, .inl (t 0, 1048832, .inl gA75))) (by decide) (by decide)
                          have hI := hI.s35 (f9 := gA75)
                          rw [← hw] at hP hD hC hI
                          clear hw
                          refine lv_iinc (k := 0) (v := nI (i + 1)) (lv' := [(7, .int (nI (i + 1))), (6, .int (nI VA50)), (0, .ref (a 34)), (1, .int pa), (2, .int pf), (3, .int pq), (4, .int pt), (5, .int pn)]) hx hb d_M_move_204 hl rfl (nI_1 i) (by decide) rfl (fun ls hl => ?_)
                          refine lv_goto (tgt := 160) hx hb d_M_move_207 rfl ?_
                          exact ih (i + 1) w76 H locs ls (by omega) hP hD hS hI hC (lv_sub hl [0, 1, 2, 3, 4, 5, 6, 7] rfl)
                      exact key m1 0 _ _ _ _ (Nat.zero_add _) hP hD hS hI hC (lv_sub hl [0, 1, 2, 3, 4, 5, 6, 7] rfl)
                    · skip
                      refine lv_iload hx hb d_M_move_102 (lv_at hl 6 rfl) ?_
                      refine lv_iconst (v := 1) hx hb d_M_move_104 (by decide) ?_
                      refine lv_isub hx hb d_M_move_105 ?_
                      refine lv_topi (fun y7 hy7 => ?_)
                      have hy7 : y7 = nI m1 + (-1) := by rw [hy7, hxm1]; exact m_sub1 _
                      refine lv_istore (lv' := [(7, .int y7), (6, .int (nI VA50)), (0, .ref (a 34)), (1, .int pa), (2, .int pf), (3, .int pq), (4, .int pt), (5, .int pn)]) hx hb d_M_move_106 hl (by decide) rfl (fun ls hl => ?_)
                      have key : ∀ (jn : Nat) (y : Int32) (w9 : va_W) (H : Heap) (locs : List Loc) (ls : Array Slot), jn ≤ m1 → y = nI jn + (-1) → va_P D Cl w9 H → va_D (Az z) w9 → va_S (Az z) s.heap H locs → Mi a t NV v49 w9 → Mk ws w9 → lv_has ls 8 [(7, .int y), (6, .int (nI VA50)), (0, .ref (a 34)), (1, .int pa), (2, .int pf), (3, .int pq), (4, .int pt), (5, .int pn)] → W p l e (headSpec (Cond.code y_M_move b_M_move 8 (.none : Option Jvm.ClassFile.FieldType) :: WS) ({ frames := 1, cells := 0, slots := 0, locals := 23 })).room s m [.ref (a 34), .int pa, .int pf, .int pq, .int pt, .int pn].toArray below meth c H locs 0 0 (MQ below (va_Qv (fun u : va_W => ∃ v1, Mi a t (NV + 1) v1 u ∧ Mk ws u) (fun u U => Wd D t z u U) (Az z)) [.ref (a 34), .int pa, .int pf, .int pq, .int pt, .int pn].toArray s 0 0 (Az z)) (F0 m 108 ls []) := by
                        intro jn
                        induction jn with
                        | zero =>
                          intro y w9 H locs ls hj hy hP hD hS hI hC hl
                          refine lv_iload hx hb d_M_move_108 (lv_at hl 0 rfl) ?_
                          refine lv_if_lt (tgt := 156) hx hb d_M_move_110 rfl (fun _ => ?_) (fun h => absurd (by rw [hy]; decide) h)
                          exact W.vret hx hb hr (fun t9 ht hW => ⟨⟨w9, rfl, ⟨_, hI.mono (by omega), hC⟩, ⟨by rw [ht]; exact hP, va_K.moved hW.alike hK, hD, by rw [ht]; exact Nat.le_trans hz hS.1⟩⟩, hS.F ht⟩) hS.2.2 d_M_move_156
                        | succ jn ih =>
                          intro y w9 H locs ls hj hy hP hD hS hI hC hl
                          have hy : y = nI jn := by rw [hy]; exact pk_m1 jn
                          refine lv_iload hx hb d_M_move_108 (lv_at hl 0 rfl) ?_
                          refine lv_if_lt (tgt := 156) hx hb d_M_move_110 rfl (fun h => absurd h (by rw [hy]; exact nI_pos (by omega))) (fun _ => ?_)
                          refine lv_aload_n hx hb d_M_move_113 rfl (lv_at hl 2 rfl) ?_
                          refine va_get (D := D) (ci := 6) (v := .ref (a 35)) (C := R_M) (T := F_M) (N := 17) hx hb hts ws_M hown hK hP 34 hI.1 rfl 0 (by decide) (hts _ fl_M_8) (fun _ h9 => h9) rfl d_M_move_114 ?_
                          refine lv_sipush (v := 256) hx hb d_M_move_117 (by decide) ?_
                          refine lv_aload_n hx hb d_M_move_120 rfl (lv_at hl 2 rfl) ?_
                          refine va_get (D := D) (ci := 6) (v := .ref (a 37)) (C := R_M) (T := F_M) (N := 17) hx hb hts ws_M hown hK hP 34 hI.1 rfl 4 (by decide) (hts _ fl_M_25) (fun _ h9 => h9) rfl d_M_move_121 ?_
                          refine lv_iload_n hx hb d_M_move_124 rfl (lv_at hl 5 rfl) ?_
                          obtain ⟨fA77, eA77, lA77⟩ := hI.a37
                          refine va_iald (D := D) hx hb hK hP 37 4 eA77 rfl (i := pq) (by rw [hxiq]; exact vp_in_nI (by omega) (by decide)) d_M_move_125 ?_
                          obtain ⟨VA77, hVA77, eVA77⟩ := lA77 (pq : Int32).toNatClampNeg
                          refine W.eq (g2 := F0 m 126 ls [.int (nI VA77), .int 256, .ref (a 35)]) (by rw [eVA77]) ?_
                          refine lv_imul hx hb d_M_move_126 ?_
                          refine lv_topi (fun y78 hy78 => ?_)
                          have hy78 : y78 = nI (256 * VA77) := by rw [hy78]; exact pk_mul 256 VA77
                          refine lv_iload hx hb d_M_move_127 (lv_at hl 6 rfl) ?_
                          refine lv_iadd hx hb d_M_move_129 ?_
                          refine lv_topi (fun y79 hy79 => ?_)
                          have hy79 : y79 = nI ((256 * VA77) + i2) := by rw [hy79, hy78, hxi2]; exact nI_add (256 * VA77) i2
                          refine lv_iload hx hb d_M_move_130 (lv_at hl 0 rfl) ?_
                          refine lv_iadd hx hb d_M_move_132 ?_
                          refine lv_topi (fun y80 hy80 => ?_)
                          have hy80 : y80 = nI (((256 * VA77) + i2) + jn) := by rw [hy80, hy79, hy]; exact nI_add ((256 * VA77) + i2) jn
                          refine lv_aload_n hx hb d_M_move_133 rfl (lv_at hl 2 rfl) ?_
                          refine va_get (D := D) (ci := 6) (v := .ref (a 35)) (C := R_M) (T := F_M) (N := 17) hx hb hts ws_M hown hK hP 34 hI.1 rfl 0 (by decide) (hts _ fl_M_8) (fun _ h9 => h9) rfl d_M_move_134 ?_
                          refine lv_sipush (v := 256) hx hb d_M_move_137 (by decide) ?_
                          refine lv_iload hx hb d_M_move_140 (lv_at hl 1 rfl) ?_
                          refine lv_imul hx hb d_M_move_142 ?_
                          refine lv_topi (fun y81 hy81 => ?_)
                          have hy81 : y81 = nI (256 * VA50) := by rw [hy81]; exact pk_mul 256 VA50
                          refine lv_iload_n hx hb d_M_move_143 rfl (lv_at hl 4 rfl) ?_
                          refine lv_iadd hx hb d_M_move_144 ?_
                          refine lv_topi (fun y82 hy82 => ?_)
                          have hy82 : y82 = nI ((256 * VA50) + i1) := by rw [hy82, hy81, hxi1]; exact nI_add (256 * VA50) i1
                          refine lv_iload hx hb d_M_move_145 (lv_at hl 0 rfl) ?_
                          refine lv_iadd hx hb d_M_move_147 ?_
                          refine lv_topi (fun y83 hy83 => ?_)
                          have hy83 : y83 = nI (((256 * VA50) + i1) + jn) := by rw [hy83, hy82, hy]; exact nI_add ((256 * VA50) + i1) jn
                          obtain ⟨fA84, eA84⟩ := hI.a35
                          refine va_bald (D := D) hx hb hK hP 35 0 eA84 rfl (i := y83) (by rw [hy83]; exact vp_in_nI (by omega) (by decide)) d_M_move_148 ?_
                          generalize fA84 (y83 : Int32).toNatClampNeg = y85
                          obtain ⟨fA86, eA86⟩ := hI.a35
                          refine va_bast (D := D) hx hb hK hP hD hS 35 0 eA86 rfl (i := y80) (x := y85) (by rw [hy80]; exact vp_in_nI (by omega) (by decide)) d_M_move_149 (fun H locs hP hD hS => ?_)
                          generalize upd fA86 (y80 : Int32).toNatClampNeg (vp_nar .byte y85) = gA86 at hP hD
                          obtain ⟨w87, hw⟩ : ∃ q, q = w9.set 35 (a 35, .inl (t 0, 1048832, .inl gA86)) := ⟨_, rfl⟩
                          have hP : va_P D Cl (w9.set 35 (a 35, .inl (t 0, 1048832, .inl gA86))) H := hP
                          have hD : va_D (Az z) (w9.set 35 (a 35, .inl (t 0, 1048832, .inl gA86))) := hD
                          have hC := hC.set (p := 35) (c := (a 35, .inl (t 0, 1048832, .inl gA86))) (by decide) (by decide)
                          have hI := hI.s35 (f9 := gA86)
                          rw [← hw] at hP hD hC hI
                          clear hw
                          refine lv_iinc (k := 0) (v := y + (-1)) (lv' := [(7, .int (y + (-1))), (6, .int (nI VA50)), (0, .ref (a 34)), (1, .int pa), (2, .int pf), (3, .int pq), (4, .int pt), (5, .int pn)]) hx hb d_M_move_150 hl rfl rfl (by decide) rfl (fun ls hl => ?_)
                          refine lv_goto (tgt := 108) hx hb d_M_move_153 rfl ?_
                          exact ih _ w87 H locs ls (by omega) (by rw [hy]) hP hD hS hI hC (lv_sub hl [0, 1, 2, 3, 4, 5, 6, 7] rfl)
                      exact key m1 _ _ _ _ _ (Nat.le_refl _) hy7 hP hD hS hI hC (lv_sub hl [0, 1, 2, 3, 4, 5, 6, 7] rfl)
                · skip
                  refine lv_aload_n hx hb d_M_move_80 rfl (lv_at hl 1 rfl) ?_
                  refine lv_iload_n hx hb d_M_move_81 rfl (lv_at hl 4 rfl) ?_
                  refine va_callv (va_runV (As := [.int pq]) (rest := []) ⟨hx, hb, hml, hown, hts⟩ (c_M_own (D := D) (t := t) (z := z) (sa := sa) (ws := u47) (x9 := pq) (ip := iq) hI hiq hxiq hNV) (cwV 1 hts (gd_V ml_M_65 im_M_own se_M_own in_M cd_M_own) rfl rfl rfl (by decide +kernel) ⟨Nat.le_of_ble_eq_true rfl, Nat.le_of_ble_eq_true rfl⟩) ⟨Pz_blind, va_recv hK hP (ci := 6) rfl hI.1, Pz_at hP hK hD hz hM hS⟩ rfl rfl hl.1 rfl (lv_room (Nat.le_of_ble_eq_true rfl)) d_M_move_82 ⟨Nat.le_of_ble_eq_true rfl, Nat.le_of_ble_eq_true rfl⟩) hS (fun q _ h => h) (fun q h => h) (fun u88 t9 H locs ht hvm hp hB hz1 hk1 hS => ?_)
                  obtain ⟨hP, hK9, hD, -⟩ := hB
                  rw [ht] at hP
                  clear hK9
                  obtain ⟨v90, hI, hC9, nv90⟩ := hp
                  have hC := hC.trans hC9
                  refine lv_iload hx hb d_M_move_85 (lv_at hl 0 rfl) ?_
                  refine lv_aload_n hx hb d_M_move_87 rfl (lv_at hl 1 rfl) ?_
                  refine va_get (D := D) (ci := 6) (v := .ref (a 37)) (C := R_M) (T := F_M) (N := 17) hx hb hts ws_M hown hK hP 34 hI.1 rfl 4 (by decide) (hts _ fl_M_25) (fun _ h9 => h9) rfl d_M_move_88 ?_
                  refine lv_iload_n hx hb d_M_move_91 rfl (lv_at hl 4 rfl) ?_
                  obtain ⟨fA91, eA91, lA91⟩ := hI.a37
                  refine va_iald (D := D) hx hb hK hP 37 4 eA91 rfl (i := pq) (by rw [hxiq]; exact vp_in_nI (by omega) (by decide)) d_M_move_92 ?_
                  obtain ⟨VA91, hVA91, eVA91⟩ := lA91 (pq : Int32).toNatClampNeg
                  refine W.eq (g2 := F0 m 93 ls [.int (nI VA91), .int (nI VA50)]) (by rw [eVA91]) ?_
                  refine lv_icmp_ne (tgt := 157) hx hb d_M_move_93 rfl (fun q92 => ?_) (fun q92 => ?_)
                  · skip
                    refine lv_iconst (v := 0) hx hb d_M_move_157 (by decide) ?_
                    refine lv_istore (lv' := [(7, .int 0), (6, .int (nI VA50)), (0, .ref (a 34)), (1, .int pa), (2, .int pf), (3, .int pq), (4, .int pt), (5, .int pn)]) hx hb d_M_move_158 hl (by decide) rfl (fun ls hl => ?_)
                    have key : ∀ (n9 i : Nat) (w9 : va_W) (H : Heap) (locs : List Loc) (ls : Array Slot), i + n9 = m1 → va_P D Cl w9 H → va_D (Az z) w9 → va_S (Az z) s.heap H locs → Mi a t (NV + 1) v90 w9 → Mk ws w9 → lv_has ls 8 [(7, .int (nI i)), (6, .int (nI VA50)), (0, .ref (a 34)), (1, .int pa), (2, .int pf), (3, .int pq), (4, .int pt), (5, .int pn)] → W p l e (headSpec (Cond.code y_M_move b_M_move 8 (.none : Option Jvm.ClassFile.FieldType) :: WS) ({ frames := 1, cells := 0, slots := 0, locals := 23 })).room s m [.ref (a 34), .int pa, .int pf, .int pq, .int pt, .int pn].toArray below meth c H locs 0 0 (MQ below (va_Qv (fun u : va_W => ∃ v1, Mi a t (NV + 1) v1 u ∧ Mk ws u) (fun u U => Wd D t z u U) (Az z)) [.ref (a 34), .int pa, .int pf, .int pq, .int pt, .int pn].toArray s 0 0 (Az z)) (F0 m 160 ls []) := by
                      intro n9
                      induction n9 with
                      | zero =>
                        intro i w9 H locs ls hi9 hP hD hS hI hC hl
                        refine lv_iload hx hb d_M_move_160 (lv_at hl 0 rfl) ?_
                        refine lv_iload hx hb d_M_move_162 (lv_at hl 7 rfl) ?_
                        have hB9 : pn = nI m1 := hxm1
                        refine lv_icmp_ge (tgt := 210) hx hb d_M_move_164 rfl (fun _ => ?_) (fun h => absurd (by rw [hB9]; exact nI_le (by omega) (by omega)) h)
                        exact W.vret hx hb hr (fun t9 ht hW => ⟨⟨w9, rfl, ⟨_, hI, hC⟩, ⟨by rw [ht]; exact hP, va_K.moved hW.alike hK, hD, by rw [ht]; exact Nat.le_trans hz hS.1⟩⟩, hS.F ht⟩) hS.2.2 d_M_move_210
                      | succ n9 ih =>
                        intro i w9 H locs ls hi9 hP hD hS hI hC hl
                        refine lv_iload hx hb d_M_move_160 (lv_at hl 0 rfl) ?_
                        refine lv_iload hx hb d_M_move_162 (lv_at hl 7 rfl) ?_
                        have hB9 : pn = nI m1 := hxm1
                        refine lv_icmp_ge (tgt := 210) hx hb d_M_move_164 rfl (fun h => absurd h (by rw [hB9]; exact nI_ge (by omega) (by omega))) (fun _ => ?_)
                        refine lv_aload_n hx hb d_M_move_167 rfl (lv_at hl 2 rfl) ?_
                        refine va_get (D := D) (ci := 6) (v := .ref (a 35)) (C := R_M) (T := F_M) (N := 17) hx hb hts ws_M hown hK hP 34 hI.1 rfl 0 (by decide) (hts _ fl_M_8) (fun _ h9 => h9) rfl d_M_move_168 ?_
                        refine lv_sipush (v := 256) hx hb d_M_move_171 (by decide) ?_
                        refine lv_aload_n hx hb d_M_move_174 rfl (lv_at hl 2 rfl) ?_
                        refine va_get (D := D) (ci := 6) (v := .ref (a 37)) (C := R_M) (T := F_M) (N := 17) hx hb hts ws_M hown hK hP 34 hI.1 rfl 4 (by decide) (hts _ fl_M_25) (fun _ h9 => h9) rfl d_M_move_175 ?_
                        refine lv_iload_n hx hb d_M_move_178 rfl (lv_at hl 5 rfl) ?_
                        obtain ⟨fA93, eA93, lA93⟩ := hI.a37
                        refine va_iald (D := D) hx hb hK hP 37 4 eA93 rfl (i := pq) (by rw [hxiq]; exact vp_in_nI (by omega) (by decide)) d_M_move_179 ?_
                        obtain ⟨VA93, hVA93, eVA93⟩ := lA93 (pq : Int32).toNatClampNeg
                        refine W.eq (g2 := F0 m 180 ls [.int (nI VA93), .int 256, .ref (a 35)]) (by rw [eVA93]) ?_
                        refine lv_imul hx hb d_M_move_180 ?_
                        refine lv_topi (fun y94 hy94 => ?_)
                        have hy94 : y94 = nI (256 * VA93) := by rw [hy94]; exact pk_mul 256 VA93
                        refine lv_iload hx hb d_M_move_181 (lv_at hl 6 rfl) ?_
                        refine lv_iadd hx hb d_M_move_183 ?_
                        refine lv_topi (fun y95 hy95 => ?_)
                        have hy95 : y95 = nI ((256 * VA93) + i2) := by rw [hy95, hy94, hxi2]; exact nI_add (256 * VA93) i2
                        refine lv_iload hx hb d_M_move_184 (lv_at hl 0 rfl) ?_
                        refine lv_iadd hx hb d_M_move_186 ?_
                        refine lv_topi (fun y96 hy96 => ?_)
                        have hy96 : y96 = nI (((256 * VA93) + i2) + i) := by rw [hy96, hy95]; exact nI_add ((256 * VA93) + i2) i
                        refine lv_aload_n hx hb d_M_move_187 rfl (lv_at hl 2 rfl) ?_
                        refine va_get (D := D) (ci := 6) (v := .ref (a 35)) (C := R_M) (T := F_M) (N := 17) hx hb hts ws_M hown hK hP 34 hI.1 rfl 0 (by decide) (hts _ fl_M_8) (fun _ h9 => h9) rfl d_M_move_188 ?_
                        refine lv_sipush (v := 256) hx hb d_M_move_191 (by decide) ?_
                        refine lv_iload hx hb d_M_move_194 (lv_at hl 1 rfl) ?_
                        refine lv_imul hx hb d_M_move_196 ?_
                        refine lv_topi (fun y97 hy97 => ?_)
                        have hy97 : y97 = nI (256 * VA50) := by rw [hy97]; exact pk_mul 256 VA50
                        refine lv_iload_n hx hb d_M_move_197 rfl (lv_at hl 4 rfl) ?_
                        refine lv_iadd hx hb d_M_move_198 ?_
                        refine lv_topi (fun y98 hy98 => ?_)
                        have hy98 : y98 = nI ((256 * VA50) + i1) := by rw [hy98, hy97, hxi1]; exact nI_add (256 * VA50) i1
                        refine lv_iload hx hb d_M_move_199 (lv_at hl 0 rfl) ?_
                        refine lv_iadd hx hb d_M_move_201 ?_
                        refine lv_topi (fun y99 hy99 => ?_)
                        have hy99 : y99 = nI (((256 * VA50) + i1) + i) := by rw [hy99, hy98]; exact nI_add ((256 * VA50) + i1) i
                        obtain ⟨fA100, eA100⟩ := hI.a35
                        refine va_bald (D := D) hx hb hK hP 35 0 eA100 rfl (i := y99) (by rw [hy99]; exact vp_in_nI (by omega) (by decide)) d_M_move_202 ?_
                        generalize fA100 (y99 : Int32).toNatClampNeg = y101
                        obtain ⟨fA102, eA102⟩ := hI.a35
                        refine va_bast (D := D) hx hb hK hP hD hS 35 0 eA102 rfl (i := y96) (x := y101) (by rw [hy96]; exact vp_in_nI (by omega) (by decide)) d_M_move_203 (fun H locs hP hD hS => ?_)
                        generalize upd fA102 (y96 : Int32).toNatClampNeg (vp_nar .byte y101) = gA102 at hP hD
                        obtain ⟨w103, hw⟩ : ∃ q, q = w9.set 35 (a 35, .inl (t 0, 1048832, .inl gA102)) := ⟨_, rfl⟩
                        have hP : va_P D Cl (w9.set 35 (a 35, .inl (t 0, 1048832, .inl gA102))) H := hP
                        have hD : va_D (Az z) (w9.set 35 (a 35, .inl (t 0, 1048832, .inl gA102))) := hD
                        have hC := hC.set (p := 35) (c := (a 35, .inl (t 0, 1048832, .inl gA102))) (by decide) (by decide)
                        have hI := hI.s35 (f9 := gA102)
                        rw [← hw] at hP hD hC hI
                        clear hw
                        refine lv_iinc (k := 0) (v := nI (i + 1)) (lv' := [(7, .int (nI (i + 1))), (6, .int (nI VA50)), (0, .ref (a 34)), (1, .int pa), (2, .int pf), (3, .int pq), (4, .int pt), (5, .int pn)]) hx hb d_M_move_204 hl rfl (nI_1 i) (by decide) rfl (fun ls hl => ?_)
                        refine lv_goto (tgt := 160) hx hb d_M_move_207 rfl ?_
                        exact ih (i + 1) w103 H locs ls (by omega) hP hD hS hI hC (lv_sub hl [0, 1, 2, 3, 4, 5, 6, 7] rfl)
                    exact key m1 0 _ _ _ _ (Nat.zero_add _) hP hD hS hI hC (lv_sub hl [0, 1, 2, 3, 4, 5, 6, 7] rfl)
                  · skip
                    refine lv_iload hx hb d_M_move_96 (lv_at hl 5 rfl) ?_
                    refine lv_iload_n hx hb d_M_move_98 rfl (lv_at hl 3 rfl) ?_
                    refine lv_icmp_le (tgt := 157) hx hb d_M_move_99 rfl (fun q104 => ?_) (fun q104 => ?_)
                    · skip
                      refine lv_iconst (v := 0) hx hb d_M_move_157 (by decide) ?_
                      refine lv_istore (lv' := [(7, .int 0), (6, .int (nI VA50)), (0, .ref (a 34)), (1, .int pa), (2, .int pf), (3, .int pq), (4, .int pt), (5, .int pn)]) hx hb d_M_move_158 hl (by decide) rfl (fun ls hl => ?_)
                      have key : ∀ (n9 i : Nat) (w9 : va_W) (H : Heap) (locs : List Loc) (ls : Array Slot), i + n9 = m1 → va_P D Cl w9 H → va_D (Az z) w9 → va_S (Az z) s.heap H locs → Mi a t (NV + 1) v90 w9 → Mk ws w9 → lv_has ls 8 [(7, .int (nI i)), (6, .int (nI VA50)), (0, .ref (a 34)), (1, .int pa), (2, .int pf), (3, .int pq), (4, .int pt), (5, .int pn)] → W p l e (headSpec (Cond.code y_M_move b_M_move 8 (.none : Option Jvm.ClassFile.FieldType) :: WS) ({ frames := 1, cells := 0, slots := 0, locals := 23 })).room s m [.ref (a 34), .int pa, .int pf, .int pq, .int pt, .int pn].toArray below meth c H locs 0 0 (MQ below (va_Qv (fun u : va_W => ∃ v1, Mi a t (NV + 1) v1 u ∧ Mk ws u) (fun u U => Wd D t z u U) (Az z)) [.ref (a 34), .int pa, .int pf, .int pq, .int pt, .int pn].toArray s 0 0 (Az z)) (F0 m 160 ls []) := by
                        intro n9
                        induction n9 with
                        | zero =>
                          intro i w9 H locs ls hi9 hP hD hS hI hC hl
                          refine lv_iload hx hb d_M_move_160 (lv_at hl 0 rfl) ?_
                          refine lv_iload hx hb d_M_move_162 (lv_at hl 7 rfl) ?_
                          have hB9 : pn = nI m1 := hxm1
                          refine lv_icmp_ge (tgt := 210) hx hb d_M_move_164 rfl (fun _ => ?_) (fun h => absurd (by rw [hB9]; exact nI_le (by omega) (by omega)) h)
                          exact W.vret hx hb hr (fun t9 ht hW => ⟨⟨w9, rfl, ⟨_, hI, hC⟩, ⟨by rw [ht]; exact hP, va_K.moved hW.alike hK, hD, by rw [ht]; exact Nat.le_trans hz hS.1⟩⟩, hS.F ht⟩) hS.2.2 d_M_move_210
                        | succ n9 ih =>
                          intro i w9 H locs ls hi9 hP hD hS hI hC hl
                          refine lv_iload hx hb d_M_move_160 (lv_at hl 0 rfl) ?_
                          refine lv_iload hx hb d_M_move_162 (lv_at hl 7 rfl) ?_
                          have hB9 : pn = nI m1 := hxm1
                          refine lv_icmp_ge (tgt := 210) hx hb d_M_move_164 rfl (fun h => absurd h (by rw [hB9]; exact nI_ge (by omega) (by omega))) (fun _ => ?_)
                          refine lv_aload_n hx hb d_M_move_167 rfl (lv_at hl 2 rfl) ?_
                          refine va_get (D := D) (ci := 6) (v := .ref (a 35)) (C := R_M) (T := F_M) (N := 17) hx hb hts ws_M hown hK hP 34 hI.1 rfl 0 (by decide) (hts _ fl_M_8) (fun _ h9 => h9) rfl d_M_move_168 ?_
                          refine lv_sipush (v := 256) hx hb d_M_move_171 (by decide) ?_
                          refine lv_aload_n hx hb d_M_move_174 rfl (lv_at hl 2 rfl) ?_
                          refine va_get (D := D) (ci := 6) (v := .ref (a 37)) (C := R_M) (T := F_M) (N := 17) hx hb hts ws_M hown hK hP 34 hI.1 rfl 4 (by decide) (hts _ fl_M_25) (fun _ h9 => h9) rfl d_M_move_175 ?_
                          refine lv_iload_n hx hb d_M_move_178 rfl (lv_at hl 5 rfl) ?_
                          obtain ⟨fA105, eA105, lA105⟩ := hI.a37
                          refine va_iald (D := D) hx hb hK hP 37 4 eA105 rfl (i := pq) (by rw [hxiq]; exact vp_in_nI (by omega) (by decide)) d_M_move_179 ?_
                          obtain ⟨VA105, hVA105, eVA105⟩ := lA105 (pq : Int32).toNatClampNeg
                          refine W.eq (g2 := F0 m 180 ls [.int (nI VA105), .int 256, .ref (a 35)]) (by rw [eVA105]) ?_
                          refine lv_imul hx hb d_M_move_180 ?_
                          refine lv_topi (fun y106 hy106 => ?_)
                          have hy106 : y106 = nI (256 * VA105) := by rw [hy106]; exact pk_mul 256 VA105
                          refine lv_iload hx hb d_M_move_181 (lv_at hl 6 rfl) ?_
                          refine lv_iadd hx hb d_M_move_183 ?_
                          refine lv_topi (fun y107 hy107 => ?_)
                          have hy107 : y107 = nI ((256 * VA105) + i2) := by rw [hy107, hy106, hxi2]; exact nI_add (256 * VA105) i2
                          refine lv_iload hx hb d_M_move_184 (lv_at hl 0 rfl) ?_
                          refine lv_iadd hx hb d_M_move_186 ?_
                          refine lv_topi (fun y108 hy108 => ?_)
                          have hy108 : y108 = nI (((256 * VA105) + i2) + i) := by rw [hy108, hy107]; exact nI_add ((256 * VA105) + i2) i
                          refine lv_aload_n hx hb d_M_move_187 rfl (lv_at hl 2 rfl) ?_
                          refine va_get (D := D) (ci := 6) (v := .ref (a 35)) (C := R_M) (T := F_M) (N := 17) hx hb hts ws_M hown hK hP 34 hI.1 rfl 0 (by decide) (hts _ fl_M_8) (fun _ h9 => h9) rfl d_M_move_188 ?_
                          refine lv_sipush (v := 256) hx hb d_M_move_191 (by decide) ?_
                          refine lv_iload hx hb d_M_move_194 (lv_at hl 1 rfl) ?_
                          refine lv_imul hx hb d_M_move_196 ?_
                          refine lv_topi (fun y109 hy109 => ?_)
                          have hy109 : y109 = nI (256 * VA50) := by rw [hy109]; exact pk_mul 256 VA50
                          refine lv_iload_n hx hb d_M_move_197 rfl (lv_at hl 4 rfl) ?_
                          refine lv_iadd hx hb d_M_move_198 ?_
                          refine lv_topi (fun y110 hy110 => ?_)
                          have hy110 : y110 = nI ((256 * VA50) + i1) := by rw [hy110, hy109, hxi1]; exact nI_add (256 * VA50) i1
                          refine lv_iload hx hb d_M_move_199 (lv_at hl 0 rfl) ?_
                          refine lv_iadd hx hb d_M_move_201 ?_
                          refine lv_topi (fun y111 hy111 => ?_)
                          have hy111 : y111 = nI (((256 * VA50) + i1) + i) := by rw [hy111, hy110]; exact nI_add ((256 * VA50) + i1) i
                          obtain ⟨fA112, eA112⟩ := hI.a35
                          refine va_bald (D := D) hx hb hK hP 35 0 eA112 rfl (i := y111) (by rw [hy111]; exact vp_in_nI (by omega) (by decide)) d_M_move_202 ?_
                          generalize fA112 (y111 : Int32).toNatClampNeg = y113
                          obtain ⟨fA114, eA114⟩ := hI.a35
                          refine va_bast (D := D) hx hb hK hP hD hS 35 0 eA114 rfl (i := y108) (x := y113) (by rw [hy108]; exact vp_in_nI (by omega) (by decide)) d_M_move_203 (fun H locs hP hD hS => ?_)
                          generalize upd fA114 (y108 : Int32).toNatClampNeg (vp_nar .byte y113) = gA114 at hP hD
                          obtain ⟨w115, hw⟩ : ∃ q, q = w9.set 35 (a 35, .inl (t 0, 1048832, .inl gA114)) := ⟨_, rfl⟩
                          have hP : va_P D Cl (w9.set 35 (a 35, .inl (t 0, 1048832, .inl gA114))) H := hP
                          have hD : va_D (Az z) (w9.set 35 (a 35, .inl (t 0, 1048832, .inl gA114))) := hD
                          have hC := hC.set (p := 35) (c := (a 35, .inl (t 0, 1048832, .inl gA114))) (by decide) (by decide)
                          have hI := hI.s35 (f9 := gA114)
                          rw [← hw] at hP hD hC hI
                          clear hw
                          refine lv_iinc (k := 0) (v := nI (i + 1)) (lv' := [(7, .int (nI (i + 1))), (6, .int (nI VA50)), (0, .ref (a 34)), (1, .int pa), (2, .int pf), (3, .int pq), (4, .int pt), (5, .int pn)]) hx hb d_M_move_204 hl rfl (nI_1 i) (by decide) rfl (fun ls hl => ?_)
                          refine lv_goto (tgt := 160) hx hb d_M_move_207 rfl ?_
                          exact ih (i + 1) w115 H locs ls (by omega) hP hD hS hI hC (lv_sub hl [0, 1, 2, 3, 4, 5, 6, 7] rfl)
                      exact key m1 0 _ _ _ _ (Nat.zero_add _) hP hD hS hI hC (lv_sub hl [0, 1, 2, 3, 4, 5, 6, 7] rfl)
                    · skip
                      refine lv_iload hx hb d_M_move_102 (lv_at hl 6 rfl) ?_
                      refine lv_iconst (v := 1) hx hb d_M_move_104 (by decide) ?_
                      refine lv_isub hx hb d_M_move_105 ?_
                      refine lv_topi (fun y7 hy7 => ?_)
                      have hy7 : y7 = nI m1 + (-1) := by rw [hy7, hxm1]; exact m_sub1 _
                      refine lv_istore (lv' := [(7, .int y7), (6, .int (nI VA50)), (0, .ref (a 34)), (1, .int pa), (2, .int pf), (3, .int pq), (4, .int pt), (5, .int pn)]) hx hb d_M_move_106 hl (by decide) rfl (fun ls hl => ?_)
                      have key : ∀ (jn : Nat) (y : Int32) (w9 : va_W) (H : Heap) (locs : List Loc) (ls : Array Slot), jn ≤ m1 → y = nI jn + (-1) → va_P D Cl w9 H → va_D (Az z) w9 → va_S (Az z) s.heap H locs → Mi a t (NV + 1) v90 w9 → Mk ws w9 → lv_has ls 8 [(7, .int y), (6, .int (nI VA50)), (0, .ref (a 34)), (1, .int pa), (2, .int pf), (3, .int pq), (4, .int pt), (5, .int pn)] → W p l e (headSpec (Cond.code y_M_move b_M_move 8 (.none : Option Jvm.ClassFile.FieldType) :: WS) ({ frames := 1, cells := 0, slots := 0, locals := 23 })).room s m [.ref (a 34), .int pa, .int pf, .int pq, .int pt, .int pn].toArray below meth c H locs 0 0 (MQ below (va_Qv (fun u : va_W => ∃ v1, Mi a t (NV + 1) v1 u ∧ Mk ws u) (fun u U => Wd D t z u U) (Az z)) [.ref (a 34), .int pa, .int pf, .int pq, .int pt, .int pn].toArray s 0 0 (Az z)) (F0 m 108 ls []) := by
                        intro jn
                        induction jn with
                        | zero =>
                          intro y w9 H locs ls hj hy hP hD hS hI hC hl
                          refine lv_iload hx hb d_M_move_108 (lv_at hl 0 rfl) ?_
                          refine lv_if_lt (tgt := 156) hx hb d_M_move_110 rfl (fun _ => ?_) (fun h => absurd (by rw [hy]; decide) h)
                          exact W.vret hx hb hr (fun t9 ht hW => ⟨⟨w9, rfl, ⟨_, hI, hC⟩, ⟨by rw [ht]; exact hP, va_K.moved hW.alike hK, hD, by rw [ht]; exact Nat.le_trans hz hS.1⟩⟩, hS.F ht⟩) hS.2.2 d_M_move_156
                        | succ jn ih =>
                          intro y w9 H locs ls hj hy hP hD hS hI hC hl
                          have hy : y = nI jn := by rw [hy]; exact pk_m1 jn
                          refine lv_iload hx hb d_M_move_108 (lv_at hl 0 rfl) ?_
                          refine lv_if_lt (tgt := 156) hx hb d_M_move_110 rfl (fun h => absurd h (by rw [hy]; exact nI_pos (by omega))) (fun _ => ?_)
                          refine lv_aload_n hx hb d_M_move_113 rfl (lv_at hl 2 rfl) ?_
                          refine va_get (D := D) (ci := 6) (v := .ref (a 35)) (C := R_M) (T := F_M) (N := 17) hx hb hts ws_M hown hK hP 34 hI.1 rfl 0 (by decide) (hts _ fl_M_8) (fun _ h9 => h9) rfl d_M_move_114 ?_
                          refine lv_sipush (v := 256) hx hb d_M_move_117 (by decide) ?_
                          refine lv_aload_n hx hb d_M_move_120 rfl (lv_at hl 2 rfl) ?_
                          refine va_get (D := D) (ci := 6) (v := .ref (a 37)) (C := R_M) (T := F_M) (N := 17) hx hb hts ws_M hown hK hP 34 hI.1 rfl 4 (by decide) (hts _ fl_M_25) (fun _ h9 => h9) rfl d_M_move_121 ?_
                          refine lv_iload_n hx hb d_M_move_124 rfl (lv_at hl 5 rfl) ?_
                          obtain ⟨fA116, eA116, lA116⟩ := hI.a37
                          refine va_iald (D := D) hx hb hK hP 37 4 eA116 rfl (i := pq) (by rw [hxiq]; exact vp_in_nI (by omega) (by decide)) d_M_move_125 ?_
                          obtain ⟨VA116, hVA116, eVA116⟩ := lA116 (pq : Int32).toNatClampNeg
                          refine W.eq (g2 := F0 m 126 ls [.int (nI VA116), .int 256, .ref (a 35)]) (by rw [eVA116]) ?_
                          refine lv_imul hx hb d_M_move_126 ?_
                          refine lv_topi (fun y117 hy117 => ?_)
                          have hy117 : y117 = nI (256 * VA116) := by rw [hy117]; exact pk_mul 256 VA116
                          refine lv_iload hx hb d_M_move_127 (lv_at hl 6 rfl) ?_
                          refine lv_iadd hx hb d_M_move_129 ?_
                          refine lv_topi (fun y118 hy118 => ?_)
                          have hy118 : y118 = nI ((256 * VA116) + i2) := by rw [hy118, hy117, hxi2]; exact nI_add (256 * VA116) i2
                          refine lv_iload hx hb d_M_move_130 (lv_at hl 0 rfl) ?_
                          refine lv_iadd hx hb d_M_move_132 ?_
                          refine lv_topi (fun y119 hy119 => ?_)
                          have hy119 : y119 = nI (((256 * VA116) + i2) + jn) := by rw [hy119, hy118, hy]; exact nI_add ((256 * VA116) + i2) jn
                          refine lv_aload_n hx hb d_M_move_133 rfl (lv_at hl 2 rfl) ?_
                          refine va_get (D := D) (ci := 6) (v := .ref (a 35)) (C := R_M) (T := F_M) (N := 17) hx hb hts ws_M hown hK hP 34 hI.1 rfl 0 (by decide) (hts _ fl_M_8) (fun _ h9 => h9) rfl d_M_move_134 ?_
                          refine lv_sipush (v := 256) hx hb d_M_move_137 (by decide) ?_
                          refine lv_iload hx hb d_M_move_140 (lv_at hl 1 rfl) ?_
                          refine lv_imul hx hb d_M_move_142 ?_
                          refine lv_topi (fun y120 hy120 => ?_)
                          have hy120 : y120 = nI (256 * VA50) := by rw [hy120]; exact pk_mul 256 VA50
                          refine lv_iload_n hx hb d_M_move_143 rfl (lv_at hl 4 rfl) ?_
                          refine lv_iadd hx hb d_M_move_144 ?_
                          refine lv_topi (fun y121 hy121 => ?_)
                          have hy121 : y121 = nI ((256 * VA50) + i1) := by rw [hy121, hy120, hxi1]; exact nI_add (256 * VA50) i1
                          refine lv_iload hx hb d_M_move_145 (lv_at hl 0 rfl) ?_
                          refine lv_iadd hx hb d_M_move_147 ?_
                          refine lv_topi (fun y122 hy122 => ?_)
                          have hy122 : y122 = nI (((256 * VA50) + i1) + jn) := by rw [hy122, hy121, hy]; exact nI_add ((256 * VA50) + i1) jn
                          obtain ⟨fA123, eA123⟩ := hI.a35
                          refine va_bald (D := D) hx hb hK hP 35 0 eA123 rfl (i := y122) (by rw [hy122]; exact vp_in_nI (by omega) (by decide)) d_M_move_148 ?_
                          generalize fA123 (y122 : Int32).toNatClampNeg = y124
                          obtain ⟨fA125, eA125⟩ := hI.a35
                          refine va_bast (D := D) hx hb hK hP hD hS 35 0 eA125 rfl (i := y119) (x := y124) (by rw [hy119]; exact vp_in_nI (by omega) (by decide)) d_M_move_149 (fun H locs hP hD hS => ?_)
                          generalize upd fA125 (y119 : Int32).toNatClampNeg (vp_nar .byte y124) = gA125 at hP hD
                          obtain ⟨w126, hw⟩ : ∃ q, q = w9.set 35 (a 35, .inl (t 0, 1048832, .inl gA125)) := ⟨_, rfl⟩
                          have hP : va_P D Cl (w9.set 35 (a 35, .inl (t 0, 1048832, .inl gA125))) H := hP
                          have hD : va_D (Az z) (w9.set 35 (a 35, .inl (t 0, 1048832, .inl gA125))) := hD
                          have hC := hC.set (p := 35) (c := (a 35, .inl (t 0, 1048832, .inl gA125))) (by decide) (by decide)
                          have hI := hI.s35 (f9 := gA125)
                          rw [← hw] at hP hD hC hI
                          clear hw
                          refine lv_iinc (k := 0) (v := y + (-1)) (lv' := [(7, .int (y + (-1))), (6, .int (nI VA50)), (0, .ref (a 34)), (1, .int pa), (2, .int pf), (3, .int pq), (4, .int pt), (5, .int pn)]) hx hb d_M_move_150 hl rfl rfl (by decide) rfl (fun ls hl => ?_)
                          refine lv_goto (tgt := 108) hx hb d_M_move_153 rfl ?_
                          exact ih _ w126 H locs ls (by omega) (by rw [hy]) hP hD hS hI hC (lv_sub hl [0, 1, 2, 3, 4, 5, 6, 7] rfl)
                      exact key m1 _ _ _ _ _ (Nat.le_refl _) hy7 hP hD hS hI hC (lv_sub hl [0, 1, 2, 3, 4, 5, 6, 7] rfl)
    · skip
      refine lv_iconst (v := 1) hx hb d_M_move_15 (by decide) ?_
      refine lv_goto (tgt := 20) hx hb d_M_move_16 rfl ?_
      refine lv_aload_n hx hb d_M_move_20 rfl (lv_at hl 0 rfl) ?_
      refine lv_iload_n hx hb d_M_move_21 rfl (lv_at hl 1 rfl) ?_
      refine va_calli (va_runV (As := [.int pa]) (rest := [.int 1, .ref (a 34)]) ⟨hx, hb, hml, hown, hts⟩ (c_M_isPage (D := D) (t := t) (z := z) (sa := sa) (ws := ws) (x9 := pa) hI ) (cwV 1 hts (gd_V ml_M_57 im_M_isPage se_M_isPage in_M cd_M_isPage) rfl rfl rfl (by decide +kernel) ⟨Nat.le_of_ble_eq_true rfl, Nat.le_of_ble_eq_true rfl⟩) ⟨Pz_blind, va_recv hK hP (ci := 6) rfl hI.1, Pz_at hP hK hD hz hM hS⟩ rfl rfl hl.1 rfl (lv_room (Nat.le_of_ble_eq_true rfl)) d_M_move_22 ⟨Nat.le_of_ble_eq_true rfl, Nat.le_of_ble_eq_true rfl⟩) hS (fun q _ h => h) (fun q h => h) (fun r128 u127 t9 H locs ht hvm hp hB hz1 hk1 hS => ?_)
      obtain ⟨hP, hK9, hD, -⟩ := hB
      rw [ht] at hP
      clear hK9
      obtain ⟨hw9, hr9⟩ := hp
      rw [hw9] at hP hD
      clear hw9
      rcases hr9 with hr9 | ⟨hr9, ip, hip, hxip⟩
      · skip
        subst hr9
        refine lv_if_eq (tgt := 55) hx hb d_M_move_25 rfl (fun _ => ?_) (fun h => absurd h (by decide))
        refine lv_iconst (v := 1) hx hb d_M_move_55 (by decide) ?_
        refine lv_goto (tgt := 60) hx hb d_M_move_56 rfl ?_
        refine va_calli (va_runV (As := [.int 1, .int 1]) (rest := []) ⟨hx, hb, hml, hown, hts⟩ (c_M_fails (D := D) (t := t) (z := z) (sa := sa) (ws := ws) (x9 := 1) (y9 := 1) hI ) (cwV 2 hts (gd_V ml_M_50 im_M_fails se_M_fails in_M cd_M_fails) rfl rfl rfl (by decide +kernel) ⟨Nat.le_of_ble_eq_true rfl, Nat.le_of_ble_eq_true rfl⟩) ⟨Pz_blind, va_recv hK hP (ci := 6) rfl hI.1, Pz_at hP hK hD hz hM hS⟩ rfl rfl hl.1 rfl (lv_room (Nat.le_of_ble_eq_true rfl)) d_M_move_60 ⟨Nat.le_of_ble_eq_true rfl, Nat.le_of_ble_eq_true rfl⟩) hS (fun q _ h => h) (fun q h => h) (fun r130 u129 t9 H locs ht hvm hp hB hz1 hk1 hS => ?_)
        obtain ⟨hP, hK9, hD, -⟩ := hB
        rw [ht] at hP
        clear hK9
        obtain ⟨v131, hI, hC9, nv131, hr9⟩ := hp
        have hC := hC.trans hC9
        rcases hr9 with hr9 | ⟨hr9, hx0, hy0⟩
        · skip
          subst hr9
          refine lv_if_eq (tgt := 67) hx hb d_M_move_63 rfl (fun h => absurd h (by decide)) (fun _ => ?_)
          exact W.vret hx hb hr (fun t9 ht hW => ⟨⟨u129, rfl, ⟨_, hI.mono (by omega), hC⟩, ⟨by rw [ht]; exact hP, va_K.moved hW.alike hK, hD, by rw [ht]; exact Nat.le_trans hz hS.1⟩⟩, hS.F ht⟩) hS.2.2 d_M_move_66
        · skip
          exact absurd hx0 (by decide)
      · skip
        subst hr9
        refine lv_if_eq (tgt := 55) hx hb d_M_move_25 rfl (fun h => absurd h (by decide)) (fun _ => ?_)
        refine lv_aload_n hx hb d_M_move_28 rfl (lv_at hl 0 rfl) ?_
        refine lv_iload_n hx hb d_M_move_29 rfl (lv_at hl 3 rfl) ?_
        refine va_calli (va_runV (As := [.int pq]) (rest := [.int 1, .ref (a 34)]) ⟨hx, hb, hml, hown, hts⟩ (c_M_isPage (D := D) (t := t) (z := z) (sa := sa) (ws := ws) (x9 := pq) hI ) (cwV 1 hts (gd_V ml_M_57 im_M_isPage se_M_isPage in_M cd_M_isPage) rfl rfl rfl (by decide +kernel) ⟨Nat.le_of_ble_eq_true rfl, Nat.le_of_ble_eq_true rfl⟩) ⟨Pz_blind, va_recv hK hP (ci := 6) rfl hI.1, Pz_at hP hK hD hz hM hS⟩ rfl rfl hl.1 rfl (lv_room (Nat.le_of_ble_eq_true rfl)) d_M_move_30 ⟨Nat.le_of_ble_eq_true rfl, Nat.le_of_ble_eq_true rfl⟩) hS (fun q _ h => h) (fun q h => h) (fun r133 u132 t9 H locs ht hvm hp hB hz1 hk1 hS => ?_)
        obtain ⟨hP, hK9, hD, -⟩ := hB
        rw [ht] at hP
        clear hK9
        obtain ⟨hw9, hr9⟩ := hp
        rw [hw9] at hP hD
        clear hw9
        rcases hr9 with hr9 | ⟨hr9, iq, hiq, hxiq⟩
        · skip
          subst hr9
          refine lv_if_eq (tgt := 55) hx hb d_M_move_33 rfl (fun _ => ?_) (fun h => absurd h (by decide))
          refine lv_iconst (v := 1) hx hb d_M_move_55 (by decide) ?_
          refine lv_goto (tgt := 60) hx hb d_M_move_56 rfl ?_
          refine va_calli (va_runV (As := [.int 1, .int 1]) (rest := []) ⟨hx, hb, hml, hown, hts⟩ (c_M_fails (D := D) (t := t) (z := z) (sa := sa) (ws := ws) (x9 := 1) (y9 := 1) hI ) (cwV 2 hts (gd_V ml_M_50 im_M_fails se_M_fails in_M cd_M_fails) rfl rfl rfl (by decide +kernel) ⟨Nat.le_of_ble_eq_true rfl, Nat.le_of_ble_eq_true rfl⟩) ⟨Pz_blind, va_recv hK hP (ci := 6) rfl hI.1, Pz_at hP hK hD hz hM hS⟩ rfl rfl hl.1 rfl (lv_room (Nat.le_of_ble_eq_true rfl)) d_M_move_60 ⟨Nat.le_of_ble_eq_true rfl, Nat.le_of_ble_eq_true rfl⟩) hS (fun q _ h => h) (fun q h => h) (fun r135 u134 t9 H locs ht hvm hp hB hz1 hk1 hS => ?_)
          obtain ⟨hP, hK9, hD, -⟩ := hB
          rw [ht] at hP
          clear hK9
          obtain ⟨v136, hI, hC9, nv136, hr9⟩ := hp
          have hC := hC.trans hC9
          rcases hr9 with hr9 | ⟨hr9, hx0, hy0⟩
          · skip
            subst hr9
            refine lv_if_eq (tgt := 67) hx hb d_M_move_63 rfl (fun h => absurd h (by decide)) (fun _ => ?_)
            exact W.vret hx hb hr (fun t9 ht hW => ⟨⟨u134, rfl, ⟨_, hI.mono (by omega), hC⟩, ⟨by rw [ht]; exact hP, va_K.moved hW.alike hK, hD, by rw [ht]; exact Nat.le_trans hz hS.1⟩⟩, hS.F ht⟩) hS.2.2 d_M_move_66
          · skip
            exact absurd hx0 (by decide)
        · skip
          subst hr9
          refine lv_if_eq (tgt := 55) hx hb d_M_move_33 rfl (fun h => absurd h (by decide)) (fun _ => ?_)
          refine lv_iload_n hx hb d_M_move_36 rfl (lv_at hl 2 rfl) ?_
          refine lv_iload hx hb d_M_move_37 (lv_at hl 5 rfl) ?_
          refine va_calli (va_runS (As := [.int pf, .int pn]) (rest := [.int 1, .ref (a 34)]) ⟨hx, hb, hml, hown, hts⟩ (c_M_isPart (D := D) (t := t) (z := z) (sa := sa) (ws := ws) (x9 := pf) (y9 := pn) hI ) (va_cwS 2 hts (gd_S ml_M_69 st_M_isPart in_M cd_M_isPart) rfl rfl rfl (by decide +kernel) ⟨Nat.le_of_ble_eq_true rfl, Nat.le_of_ble_eq_true rfl⟩) ⟨Pz_blind, Pz_at hP hK hD hz hM hS⟩ rfl rfl hl.1 rfl (lv_room (Nat.le_of_ble_eq_true rfl)) d_M_move_39 ⟨Nat.le_of_ble_eq_true rfl, Nat.le_of_ble_eq_true rfl⟩) hS (fun q _ h => h) (fun q h => h) (fun r138 u137 t9 H locs ht hvm hp hB hz1 hk1 hS => ?_)
          obtain ⟨hP, hK9, hD, -⟩ := hB
          rw [ht] at hP
          clear hK9
          obtain ⟨hw9, hr9⟩ := hp
          rw [hw9] at hP hD
          clear hw9
          rcases hr9 with hr9 | ⟨hr9, i1, m1, hxi1, hxm1, hsi1⟩
          · skip
            subst hr9
            refine lv_if_eq (tgt := 55) hx hb d_M_move_42 rfl (fun _ => ?_) (fun h => absurd h (by decide))
            refine lv_iconst (v := 1) hx hb d_M_move_55 (by decide) ?_
            refine lv_goto (tgt := 60) hx hb d_M_move_56 rfl ?_
            refine va_calli (va_runV (As := [.int 1, .int 1]) (rest := []) ⟨hx, hb, hml, hown, hts⟩ (c_M_fails (D := D) (t := t) (z := z) (sa := sa) (ws := ws) (x9 := 1) (y9 := 1) hI ) (cwV 2 hts (gd_V ml_M_50 im_M_fails se_M_fails in_M cd_M_fails) rfl rfl rfl (by decide +kernel) ⟨Nat.le_of_ble_eq_true rfl, Nat.le_of_ble_eq_true rfl⟩) ⟨Pz_blind, va_recv hK hP (ci := 6) rfl hI.1, Pz_at hP hK hD hz hM hS⟩ rfl rfl hl.1 rfl (lv_room (Nat.le_of_ble_eq_true rfl)) d_M_move_60 ⟨Nat.le_of_ble_eq_true rfl, Nat.le_of_ble_eq_true rfl⟩) hS (fun q _ h => h) (fun q h => h) (fun r140 u139 t9 H locs ht hvm hp hB hz1 hk1 hS => ?_)
            obtain ⟨hP, hK9, hD, -⟩ := hB
            rw [ht] at hP
            clear hK9
            obtain ⟨v141, hI, hC9, nv141, hr9⟩ := hp
            have hC := hC.trans hC9
            rcases hr9 with hr9 | ⟨hr9, hx0, hy0⟩
            · skip
              subst hr9
              refine lv_if_eq (tgt := 67) hx hb d_M_move_63 rfl (fun h => absurd h (by decide)) (fun _ => ?_)
              exact W.vret hx hb hr (fun t9 ht hW => ⟨⟨u139, rfl, ⟨_, hI.mono (by omega), hC⟩, ⟨by rw [ht]; exact hP, va_K.moved hW.alike hK, hD, by rw [ht]; exact Nat.le_trans hz hS.1⟩⟩, hS.F ht⟩) hS.2.2 d_M_move_66
            · skip
              exact absurd hx0 (by decide)
          · skip
            subst hr9
            refine lv_if_eq (tgt := 55) hx hb d_M_move_42 rfl (fun h => absurd h (by decide)) (fun _ => ?_)
            refine lv_iload hx hb d_M_move_45 (lv_at hl 4 rfl) ?_
            refine lv_iload hx hb d_M_move_47 (lv_at hl 5 rfl) ?_
            refine va_calli (va_runS (As := [.int pt, .int pn]) (rest := [.int 1, .ref (a 34)]) ⟨hx, hb, hml, hown, hts⟩ (c_M_isPart (D := D) (t := t) (z := z) (sa := sa) (ws := ws) (x9 := pt) (y9 := pn) hI ) (va_cwS 2 hts (gd_S ml_M_69 st_M_isPart in_M cd_M_isPart) rfl rfl rfl (by decide +kernel) ⟨Nat.le_of_ble_eq_true rfl, Nat.le_of_ble_eq_true rfl⟩) ⟨Pz_blind, Pz_at hP hK hD hz hM hS⟩ rfl rfl hl.1 rfl (lv_room (Nat.le_of_ble_eq_true rfl)) d_M_move_49 ⟨Nat.le_of_ble_eq_true rfl, Nat.le_of_ble_eq_true rfl⟩) hS (fun q _ h => h) (fun q h => h) (fun r143 u142 t9 H locs ht hvm hp hB hz1 hk1 hS => ?_)
            obtain ⟨hP, hK9, hD, -⟩ := hB
            rw [ht] at hP
            clear hK9
            obtain ⟨hw9, hr9⟩ := hp
            rw [hw9] at hP hD
            clear hw9
            rcases hr9 with hr9 | ⟨hr9, i2, m2, hxi2, hxm2, hsi2⟩
            · skip
              subst hr9
              refine lv_if_ne (tgt := 59) hx hb d_M_move_52 rfl (fun h => absurd h (by decide)) (fun _ => ?_)
              refine lv_iconst (v := 1) hx hb d_M_move_55 (by decide) ?_
              refine lv_goto (tgt := 60) hx hb d_M_move_56 rfl ?_
              refine va_calli (va_runV (As := [.int 1, .int 1]) (rest := []) ⟨hx, hb, hml, hown, hts⟩ (c_M_fails (D := D) (t := t) (z := z) (sa := sa) (ws := ws) (x9 := 1) (y9 := 1) hI ) (cwV 2 hts (gd_V ml_M_50 im_M_fails se_M_fails in_M cd_M_fails) rfl rfl rfl (by decide +kernel) ⟨Nat.le_of_ble_eq_true rfl, Nat.le_of_ble_eq_true rfl⟩) ⟨Pz_blind, va_recv hK hP (ci := 6) rfl hI.1, Pz_at hP hK hD hz hM hS⟩ rfl rfl hl.1 rfl (lv_room (Nat.le_of_ble_eq_true rfl)) d_M_move_60 ⟨Nat.le_of_ble_eq_true rfl, Nat.le_of_ble_eq_true rfl⟩) hS (fun q _ h => h) (fun q h => h) (fun r145 u144 t9 H locs ht hvm hp hB hz1 hk1 hS => ?_)
              obtain ⟨hP, hK9, hD, -⟩ := hB
              rw [ht] at hP
              clear hK9
              obtain ⟨v146, hI, hC9, nv146, hr9⟩ := hp
              have hC := hC.trans hC9
              rcases hr9 with hr9 | ⟨hr9, hx0, hy0⟩
              · skip
                subst hr9
                refine lv_if_eq (tgt := 67) hx hb d_M_move_63 rfl (fun h => absurd h (by decide)) (fun _ => ?_)
                exact W.vret hx hb hr (fun t9 ht hW => ⟨⟨u144, rfl, ⟨_, hI.mono (by omega), hC⟩, ⟨by rw [ht]; exact hP, va_K.moved hW.alike hK, hD, by rw [ht]; exact Nat.le_trans hz hS.1⟩⟩, hS.F ht⟩) hS.2.2 d_M_move_66
              · skip
                exact absurd hx0 (by decide)
            · skip
              subst hr9
              have hm12 : m2 = m1 := (nI_eq (by omega) (by omega)).mp (hxm2.symm.trans hxm1)
              refine lv_if_ne (tgt := 59) hx hb d_M_move_52 rfl (fun _ => ?_) (fun h => absurd h (by decide))
              refine lv_iconst (v := 0) hx hb d_M_move_59 (by decide) ?_
              refine va_calli (va_runV (As := [.int 1, .int 0]) (rest := []) ⟨hx, hb, hml, hown, hts⟩ (c_M_fails (D := D) (t := t) (z := z) (sa := sa) (ws := ws) (x9 := 1) (y9 := 0) hI ) (cwV 2 hts (gd_V ml_M_50 im_M_fails se_M_fails in_M cd_M_fails) rfl rfl rfl (by decide +kernel) ⟨Nat.le_of_ble_eq_true rfl, Nat.le_of_ble_eq_true rfl⟩) ⟨Pz_blind, va_recv hK hP (ci := 6) rfl hI.1, Pz_at hP hK hD hz hM hS⟩ rfl rfl hl.1 rfl (lv_room (Nat.le_of_ble_eq_true rfl)) d_M_move_60 ⟨Nat.le_of_ble_eq_true rfl, Nat.le_of_ble_eq_true rfl⟩) hS (fun q _ h => h) (fun q h => h) (fun r148 u147 t9 H locs ht hvm hp hB hz1 hk1 hS => ?_)
              obtain ⟨hP, hK9, hD, -⟩ := hB
              rw [ht] at hP
              clear hK9
              obtain ⟨v149, hI, hC9, nv149, hr9⟩ := hp
              have hC := hC.trans hC9
              rcases hr9 with hr9 | ⟨hr9, hx0, hy0⟩
              · skip
                subst hr9
                refine lv_if_eq (tgt := 67) hx hb d_M_move_63 rfl (fun h => absurd h (by decide)) (fun _ => ?_)
                exact W.vret hx hb hr (fun t9 ht hW => ⟨⟨u147, rfl, ⟨_, hI.mono (by omega), hC⟩, ⟨by rw [ht]; exact hP, va_K.moved hW.alike hK, hD, by rw [ht]; exact Nat.le_trans hz hS.1⟩⟩, hS.F ht⟩) hS.2.2 d_M_move_66
              · skip
                exact absurd hx0 (by decide)
