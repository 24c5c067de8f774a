theorem m_mk {x : Int32} {v : Nat → Int32} {n4 : Nat} (h5 : n4 ≤ 5) (e : v 4 = nI n4) (h1 : ¬ x < 1) (h2 : x ≤ v 4) : ∃ q : Nat, q < n4 ∧ x = nI (q + 1) := by
  obtain ⟨i, hi, rfl⟩ := nI_of (x := x) (fun h => h1 (lt01 h))
  rw [e] at h2
  have h3 := (nI_leI hi (by omega)).mp h2
  have h4 : i ≠ 0 := fun h => h1 (by rw [h]; decide)
  exact ⟨i - 1, by omega, by congr 1; omega⟩
set_option maxHeartbeats 4000000 in
set_option maxRecDepth 100000 in
theorem c_M_back {l : Launch} {D : va_G} {t : Nat → ClassId} {z : Nat} {sa : Nat → Nat} {ws : va_W} {a : Nat → Nat} {NV : Nat} {v : Nat → Int32} {x9 : Int32} (hI : Mi a t NV v ws)  : Met l y_M_back (Cond.code y_M_back b_M_back 3 (.none : Option Jvm.ClassFile.FieldType) :: WS) ({ frames := 1, cells := 0, slots := 0, locals := 22 }) (Pz D t z sa ws [.ref (a 34), .int x9]) (va_Qv (fun u : va_W => ∃ v1, Mi a t NV v1 u ∧ Mk ws u) (fun u U => Wd D t z u U) (Az z)) 0 0 (Az z) := by
  refine Met.ofW (cc := b_M_back) (maxL := 3) (ret := (.none : Option Jvm.ClassFile.FieldType)) (by decide) rfl ?_
  intro p e s m args below meth c s₁ B hml hv
  obtain ⟨rfl, ⟨hP, hK, hD, hz⟩, hM⟩ := hv
  have hx := B.exec
  have hb := B.bytes
  have hr := B.returns
  have hts : ∀ w ∈ WS, w.before [.ref (a 34), .int x9].toArray s = true := fun w h => atoms_spec B.pre w (List.mem_cons_of_mem _ h)
  have hown : s.vm.findClass R_M = some m.cls := findClass_of_methodNamed B.named
  have hlocks := B.notSynchronized
  have hA : ∀ q, s.heap.size ≤ q → Az z q := fun q h => Nat.le_trans hz h
  have hS : va_S (Az z) s.heap s.heap [] := va_S.rf
  have hC : Mk ws ws := Mk.rf
  have hl := lv_entry ([.ref (a 34), .int x9]) (n := 3) (Nat.le_of_ble_eq_true rfl)
  rw [lg_entry_eq]
  generalize (lg_sl ([.ref (a 34), .int x9]) ++ List.replicate (3 - (lg_sl ([.ref (a 34), .int x9])).length) Slot.unset).toArray = ls at hl ⊢
  have hl : lv_has ls 3 [(0, .ref (a 34)), (1, .int x9)] := hl
  obtain ⟨n4, hn4, en4⟩ := hI.2.1.2.2.2
  refine lv_aload_n hx hb d_M_back_0 rfl (lv_at hl 0 rfl) ?_
  refine lv_aload_n hx hb d_M_back_1 rfl (lv_at hl 0 rfl) ?_
  refine va_get (D := D) (ci := 6) (v := .int (v 6)) (C := R_M) (T := F_M) (N := 17) hx hb hts ws_M hown hK hP 34 hI.1 rfl 12 (by decide) (hts _ fl_M_46) (fun _ h9 => h9) rfl d_M_back_2 ?_
  refine lv_if_ne (tgt := 15) hx hb d_M_back_5 rfl (fun q1 => ?_) (fun q1 => ?_)
  · skip
    refine lv_iconst (v := 1) hx hb d_M_back_15 (by decide) ?_
    refine lv_goto (tgt := 20) hx hb d_M_back_16 rfl ?_
    refine lv_iload_n hx hb d_M_back_20 rfl (lv_at hl 1 rfl) ?_
    refine lv_iconst (v := 1) hx hb d_M_back_21 (by decide) ?_
    refine lv_icmp_lt (tgt := 33) hx hb d_M_back_22 rfl (fun q2 => ?_) (fun q2 => ?_)
    · skip
      refine lv_iconst (v := 1) hx hb d_M_back_33 (by decide) ?_
      refine lv_goto (tgt := 38) hx hb d_M_back_34 rfl ?_
      refine va_calli (va_runV (As := [.int 1, .int 1]) (rest := []) ⟨hx, hb, hml, hown, hts⟩ (c_M_fails (D := D) (t := t) (z := z) (sa := sa) (ws := ws) (x9 := 1) (y9 := 1) hI ) (cwV 2 hts (gd_V ml_M_50 im_M_fails se_M_fails in_M cd_M_fails) rfl rfl rfl (by decide +kernel) ⟨Nat.le_of_ble_eq_true rfl, Nat.le_of_ble_eq_true rfl⟩) ⟨Pz_blind, va_recv hK hP (ci := 6) rfl hI.1, Pz_at hP hK hD hz hM hS⟩ rfl rfl hl.1 rfl (lv_room (Nat.le_of_ble_eq_true rfl)) d_M_back_38 ⟨Nat.le_of_ble_eq_true rfl, Nat.le_of_ble_eq_true rfl⟩) hS (fun q _ h => h) (fun q h => h) (fun r4 u3 t9 H locs ht hvm hp hB hz1 hk1 hS => ?_)
      obtain ⟨hP, hK9, hD, -⟩ := hB
      rw [ht] at hP
      clear hK9
      obtain ⟨v5, hI, hC9, nv5, hr9⟩ := hp
      have hC := hC.trans hC9
      rcases hr9 with hr9 | ⟨hr9, hx0, hy0⟩
      · skip
        subst hr9
        refine lv_if_eq (tgt := 45) hx hb d_M_back_41 rfl (fun h => absurd h (by decide)) (fun _ => ?_)
        exact W.vret hx hb hr (fun t9 ht hW => ⟨⟨u3, rfl, ⟨_, hI, hC⟩, ⟨by rw [ht]; exact hP, va_K.moved hW.alike hK, hD, by rw [ht]; exact Nat.le_trans hz hS.1⟩⟩, hS.F ht⟩) hS.2.2 d_M_back_44
      · skip
        exact absurd hx0 (by decide)
    · skip
      refine lv_iload_n hx hb d_M_back_25 rfl (lv_at hl 1 rfl) ?_
      refine lv_aload_n hx hb d_M_back_26 rfl (lv_at hl 0 rfl) ?_
      refine va_get (D := D) (ci := 6) (v := .int (v 4)) (C := R_M) (T := F_M) (N := 17) hx hb hts ws_M hown hK hP 34 hI.1 rfl 10 (by decide) (hts _ fl_M_77) (fun _ h9 => h9) rfl d_M_back_27 ?_
      refine lv_icmp_le (tgt := 37) hx hb d_M_back_30 rfl (fun q6 => ?_) (fun q6 => ?_)
      · skip
        refine lv_iconst (v := 0) hx hb d_M_back_37 (by decide) ?_
        refine va_calli (va_runV (As := [.int 1, .int 0]) (rest := []) ⟨hx, hb, hml, hown, hts⟩ (c_M_fails (D := D) (t := t) (z := z) (sa := sa) (ws := ws) (x9 := 1) (y9 := 0) hI ) (cwV 2 hts (gd_V ml_M_50 im_M_fails se_M_fails in_M cd_M_fails) rfl rfl rfl (by decide +kernel) ⟨Nat.le_of_ble_eq_true rfl, Nat.le_of_ble_eq_true rfl⟩) ⟨Pz_blind, va_recv hK hP (ci := 6) rfl hI.1, Pz_at hP hK hD hz hM hS⟩ rfl rfl hl.1 rfl (lv_room (Nat.le_of_ble_eq_true rfl)) d_M_back_38 ⟨Nat.le_of_ble_eq_true rfl, Nat.le_of_ble_eq_true rfl⟩) hS (fun q _ h => h) (fun q h => h) (fun r8 u7 t9 H locs ht hvm hp hB hz1 hk1 hS => ?_)
        obtain ⟨hP, hK9, hD, -⟩ := hB
        rw [ht] at hP
        clear hK9
        obtain ⟨v10, hI, hC9, nv10, hr9⟩ := hp
        have hC := hC.trans hC9
        rcases hr9 with hr9 | ⟨hr9, hx0, hy0⟩
        · skip
          subst hr9
          refine lv_if_eq (tgt := 45) hx hb d_M_back_41 rfl (fun h => absurd h (by decide)) (fun _ => ?_)
          exact W.vret hx hb hr (fun t9 ht hW => ⟨⟨u7, rfl, ⟨_, hI, hC⟩, ⟨by rw [ht]; exact hP, va_K.moved hW.alike hK, hD, by rw [ht]; exact Nat.le_trans hz hS.1⟩⟩, hS.F ht⟩) hS.2.2 d_M_back_44
        · skip
          exact absurd hx0 (by decide)
      · skip
        refine lv_iconst (v := 1) hx hb d_M_back_33 (by decide) ?_
        refine lv_goto (tgt := 38) hx hb d_M_back_34 rfl ?_
        refine va_calli (va_runV (As := [.int 1, .int 1]) (rest := []) ⟨hx, hb, hml, hown, hts⟩ (c_M_fails (D := D) (t := t) (z := z) (sa := sa) (ws := ws) (x9 := 1) (y9 := 1) hI ) (cwV 2 hts (gd_V ml_M_50 im_M_fails se_M_fails in_M cd_M_fails) rfl rfl rfl (by decide +kernel) ⟨Nat.le_of_ble_eq_true rfl, Nat.le_of_ble_eq_true rfl⟩) ⟨Pz_blind, va_recv hK hP (ci := 6) rfl hI.1, Pz_at hP hK hD hz hM hS⟩ rfl rfl hl.1 rfl (lv_room (Nat.le_of_ble_eq_true rfl)) d_M_back_38 ⟨Nat.le_of_ble_eq_true rfl, Nat.le_of_ble_eq_true rfl⟩) hS (fun q _ h => h) (fun q h => h) (fun r12 u11 t9 H locs ht hvm hp hB hz1 hk1 hS => ?_)
        obtain ⟨hP, hK9, hD, -⟩ := hB
        rw [ht] at hP
        clear hK9
        obtain ⟨v13, hI, hC9, nv13, hr9⟩ := hp
        have hC := hC.trans hC9
        rcases hr9 with hr9 | ⟨hr9, hx0, hy0⟩
        · skip
          subst hr9
          refine lv_if_eq (tgt := 45) hx hb d_M_back_41 rfl (fun h => absurd h (by decide)) (fun _ => ?_)
          exact W.vret hx hb hr (fun t9 ht hW => ⟨⟨u11, rfl, ⟨_, hI, hC⟩, ⟨by rw [ht]; exact hP, va_K.moved hW.alike hK, hD, by rw [ht]; exact Nat.le_trans hz hS.1⟩⟩, hS.F ht⟩) hS.2.2 d_M_back_44
        · skip
          exact absurd hx0 (by decide)
  · skip
    refine lv_aload_n hx hb d_M_back_8 rfl (lv_at hl 0 rfl) ?_
    refine va_get (D := D) (ci := 6) (v := .int (v 7)) (C := R_M) (T := F_M) (N := 17) hx hb hts ws_M hown hK hP 34 hI.1 rfl 13 (by decide) (hts _ fl_M_54) (fun _ h9 => h9) rfl d_M_back_9 ?_
    refine lv_if_ne (tgt := 19) hx hb d_M_back_12 rfl (fun q14 => ?_) (fun q14 => ?_)
    · skip
      refine lv_iconst (v := 0) hx hb d_M_back_19 (by decide) ?_
      refine lv_iload_n hx hb d_M_back_20 rfl (lv_at hl 1 rfl) ?_
      refine lv_iconst (v := 1) hx hb d_M_back_21 (by decide) ?_
      refine lv_icmp_lt (tgt := 33) hx hb d_M_back_22 rfl (fun q15 => ?_) (fun q15 => ?_)
      · skip
        refine lv_iconst (v := 1) hx hb d_M_back_33 (by decide) ?_
        refine lv_goto (tgt := 38) hx hb d_M_back_34 rfl ?_
        refine va_calli (va_runV (As := [.int 0, .int 1]) (rest := []) ⟨hx, hb, hml, hown, hts⟩ (c_M_fails (D := D) (t := t) (z := z) (sa := sa) (ws := ws) (x9 := 0) (y9 := 1) hI ) (cwV 2 hts (gd_V ml_M_50 im_M_fails se_M_fails in_M cd_M_fails) rfl rfl rfl (by decide +kernel) ⟨Nat.le_of_ble_eq_true rfl, Nat.le_of_ble_eq_true rfl⟩) ⟨Pz_blind, va_recv hK hP (ci := 6) rfl hI.1, Pz_at hP hK hD hz hM hS⟩ rfl rfl hl.1 rfl (lv_room (Nat.le_of_ble_eq_true rfl)) d_M_back_38 ⟨Nat.le_of_ble_eq_true rfl, Nat.le_of_ble_eq_true rfl⟩) hS (fun q _ h => h) (fun q h => h) (fun r17 u16 t9 H locs ht hvm hp hB hz1 hk1 hS => ?_)
        obtain ⟨hP, hK9, hD, -⟩ := hB
        rw [ht] at hP
        clear hK9
        obtain ⟨v18, hI, hC9, nv18, hr9⟩ := hp
        have hC := hC.trans hC9
        rcases hr9 with hr9 | ⟨hr9, hx0, hy0⟩
        · skip
          subst hr9
          refine lv_if_eq (tgt := 45) hx hb d_M_back_41 rfl (fun h => absurd h (by decide)) (fun _ => ?_)
          exact W.vret hx hb hr (fun t9 ht hW => ⟨⟨u16, rfl, ⟨_, hI, hC⟩, ⟨by rw [ht]; exact hP, va_K.moved hW.alike hK, hD, by rw [ht]; exact Nat.le_trans hz hS.1⟩⟩, hS.F ht⟩) hS.2.2 d_M_back_44
        · skip
          exact absurd hy0 (by decide)
      · skip
        refine lv_iload_n hx hb d_M_back_25 rfl (lv_at hl 1 rfl) ?_
        refine lv_aload_n hx hb d_M_back_26 rfl (lv_at hl 0 rfl) ?_
        refine va_get (D := D) (ci := 6) (v := .int (v 4)) (C := R_M) (T := F_M) (N := 17) hx hb hts ws_M hown hK hP 34 hI.1 rfl 10 (by decide) (hts _ fl_M_77) (fun _ h9 => h9) rfl d_M_back_27 ?_
        refine lv_icmp_le (tgt := 37) hx hb d_M_back_30 rfl (fun q19 => ?_) (fun q19 => ?_)
        · skip
          refine lv_iconst (v := 0) hx hb d_M_back_37 (by decide) ?_
          refine va_calli (va_runV (As := [.int 0, .int 0]) (rest := []) ⟨hx, hb, hml, hown, hts⟩ (c_M_fails (D := D) (t := t) (z := z) (sa := sa) (ws := ws) (x9 := 0) (y9 := 0) hI ) (cwV 2 hts (gd_V ml_M_50 im_M_fails se_M_fails in_M cd_M_fails) rfl rfl rfl (by decide +kernel) ⟨Nat.le_of_ble_eq_true rfl, Nat.le_of_ble_eq_true rfl⟩) ⟨Pz_blind, va_recv hK hP (ci := 6) rfl hI.1, Pz_at hP hK hD hz hM hS⟩ rfl rfl hl.1 rfl (lv_room (Nat.le_of_ble_eq_true rfl)) d_M_back_38 ⟨Nat.le_of_ble_eq_true rfl, Nat.le_of_ble_eq_true rfl⟩) hS (fun q _ h => h) (fun q h => h) (fun r21 u20 t9 H locs ht hvm hp hB hz1 hk1 hS => ?_)
          obtain ⟨hP, hK9, hD, -⟩ := hB
          rw [ht] at hP
          clear hK9
          obtain ⟨v22, hI, hC9, nv22, hr9⟩ := hp
          have hC := hC.trans hC9
          rcases hr9 with hr9 | ⟨hr9, hx0, hy0⟩
          · skip
            subst hr9
            refine lv_if_eq (tgt := 45) hx hb d_M_back_41 rfl (fun h => absurd h (by decide)) (fun _ => ?_)
            exact W.vret hx hb hr (fun t9 ht hW => ⟨⟨u20, rfl, ⟨_, hI, hC⟩, ⟨by rw [ht]; exact hP, va_K.moved hW.alike hK, hD, by rw [ht]; exact Nat.le_trans hz hS.1⟩⟩, hS.F ht⟩) hS.2.2 d_M_back_44
          · skip
            subst hr9
            refine lv_if_eq (tgt := 45) hx hb d_M_back_41 rfl (fun _ => ?_) (fun h => absurd h (by decide))
            obtain ⟨mq, hmq, hxq⟩ := m_mk (x := x9) hn4 en4 (by assumption) (by assumption)
            refine lv_aload_n hx hb d_M_back_45 rfl (lv_at hl 0 rfl) ?_
            refine lv_aload_n hx hb d_M_back_46 rfl (lv_at hl 0 rfl) ?_
            refine va_get (D := D) (ci := 6) (v := .ref (a 40)) (C := R_M) (T := F_M) (N := 17) hx hb hts ws_M hown hK hP 34 hI.1 rfl 7 (by decide) (hts _ fl_M_34) (fun _ h9 => h9) rfl d_M_back_47 ?_
            refine lv_iload_n hx hb d_M_back_50 rfl (lv_at hl 1 rfl) ?_
            refine lv_iconst (v := 1) hx hb d_M_back_51 (by decide) ?_
            refine lv_isub hx hb d_M_back_52 ?_
            refine lv_topi (fun y23 hy23 => ?_)
            have hy23 : y23 = nI mq := by rw [hy23, hxq]; exact nI_pred mq
            obtain ⟨fA24, eA24, lA24⟩ := hI.a40
            refine va_iald (D := D) hx hb hK hP 40 4 eA24 rfl (i := y23) (by rw [hy23]; exact vp_in_nI (by omega) (by decide)) d_M_back_53 ?_
            obtain ⟨VA24, hVA24, eVA24⟩ := lA24 (y23 : Int32).toNatClampNeg
            refine W.eq (g2 := F0 m 54 ls [.int (nI VA24), .ref (a 34)]) (by rw [eVA24]) ?_
            refine va_put (D := D) (ci := 6) (v := .int (nI VA24)) (ty := .int) (C := R_M) (T := F_M) (N := 17) hx hb hts ws_M t_M ok_M n_M hown hK hP hD hS 34 hI.1 rfl 8 (by decide) (hts _ fl_M_43) (fun _ h9 => h9) rfl (by decide +kernel) rfl rfl (Nat.le_of_ble_eq_true rfl) d_M_back_54 (fun H locs hP hD hS => ?_)
            obtain ⟨v25, hv25⟩ : ∃ q : Nat → Int32, q = upd v22 2 (nI VA24) := ⟨_, rfl⟩
            have gv25 : v25 2 = (nI VA24) := by rw [hv25]; exact pk_us
            have nv25 : ∀ i, i ≠ 2 → v25 i = v22 i := fun i hi => by rw [hv25]; exact pk_un hi
            have hP : va_P D Cl (u20.set 34 (cMo a v25)) H := by rw [hv25]; exact hP
            have hD : va_D (Az z) (u20.set 34 (cMo a v25)) := by rw [hv25]; exact hD
            obtain ⟨w26, hw⟩ : ∃ q, q = u20.set 34 (cMo a v25) := ⟨_, rfl⟩
            have hP : va_P D Cl (u20.set 34 (cMo a v25)) H := hP
            have hD : va_D (Az z) (u20.set 34 (cMo a v25)) := hD
            have hC := hC.set (p := 34) (c := (cMo a v25)) (by decide) (by decide)
            have hI := hI.setO (v' := v25) ⟨by rw [nv25 0 (by decide)]; exact hI.2.1.1, ⟨VA24, by omega, by rw [gv25]⟩, by rw [nv25 3 (by decide)]; exact hI.2.1.2.2.1, by rw [nv25 4 (by decide)]; exact hI.2.1.2.2.2⟩
            rw [← hw] at hP hD hC hI
            clear hw
            refine lv_iconst (v := 0) hx hb d_M_back_57 (by decide) ?_
            refine lv_istore_n (lv' := [(2, .int 0), (0, .ref (a 34)), (1, .int x9)]) hx hb d_M_back_58 rfl hl (by decide) rfl (fun ls hl => ?_)
            have key : ∀ (n9 i : Nat) (w9 : va_W) (H : Heap) (locs : List Loc) (ls : Array Slot), i + n9 = VA24 → va_P D Cl w9 H → va_D (Az z) w9 → va_S (Az z) s.heap H locs → Mi a t NV v25 w9 → Mk ws w9 → lv_has ls 3 [(2, .int (nI i)), (0, .ref (a 34)), (1, .int x9)] → W p l e (headSpec (Cond.code y_M_back b_M_back 3 (.none : Option Jvm.ClassFile.FieldType) :: WS) ({ frames := 1, cells := 0, slots := 0, locals := 22 })).room s m [.ref (a 34), .int x9].toArray below meth c H locs 0 0 (MQ below (va_Qv (fun u : va_W => ∃ v1, Mi a t NV v1 u ∧ Mk ws u) (fun u U => Wd D t z u U) (Az z)) [.ref (a 34), .int x9].toArray s 0 0 (Az z)) (F0 m 59 ls []) := by
              intro n9
              induction n9 with
              | zero =>
                intro i w9 H locs ls hi9 hP hD hS hI hC hl
                refine lv_iload_n hx hb d_M_back_59 rfl (lv_at hl 0 rfl) ?_
                refine lv_aload_n hx hb d_M_back_60 rfl (lv_at hl 1 rfl) ?_
                refine va_get (D := D) (ci := 6) (v := .int (v25 2)) (C := R_M) (T := F_M) (N := 17) hx hb hts ws_M hown hK hP 34 hI.1 rfl 8 (by decide) (hts _ fl_M_43) (fun _ h9 => h9) rfl d_M_back_61 ?_
                have hB9 : (v25 2) = nI VA24 := by rw [gv25]
                refine lv_icmp_ge (tgt := 93) hx hb d_M_back_64 rfl (fun _ => ?_) (fun h => absurd (by rw [hB9]; exact nI_le (by omega) (by omega)) h)
                refine lv_aload_n hx hb d_M_back_93 rfl (lv_at hl 1 rfl) ?_
                refine lv_iload_n hx hb d_M_back_94 rfl (lv_at hl 2 rfl) ?_
                refine va_put (D := D) (ci := 6) (v := .int x9) (ty := .int) (C := R_M) (T := F_M) (N := 17) hx hb hts ws_M t_M ok_M n_M hown hK hP hD hS 34 hI.1 rfl 10 (by decide) (hts _ fl_M_77) (fun _ h9 => h9) rfl (by decide +kernel) rfl rfl (Nat.le_of_ble_eq_true rfl) d_M_back_95 (fun H locs hP hD hS => ?_)
                obtain ⟨v27, hv27⟩ : ∃ q : Nat → Int32, q = upd v25 4 x9 := ⟨_, rfl⟩
                have gv27 : v27 4 = x9 := by rw [hv27]; exact pk_us
                have nv27 : ∀ i, i ≠ 4 → v27 i = v25 i := fun i hi => by rw [hv27]; exact pk_un hi
                have hP : va_P D Cl (w9.set 34 (cMo a v27)) H := by rw [hv27]; exact hP
                have hD : va_D (Az z) (w9.set 34 (cMo a v27)) := by rw [hv27]; exact hD
                obtain ⟨w28, hw⟩ : ∃ q, q = w9.set 34 (cMo a v27) := ⟨_, rfl⟩
                have hP : va_P D Cl (w9.set 34 (cMo a v27)) H := hP
                have hD : va_D (Az z) (w9.set 34 (cMo a v27)) := hD
                have hC := hC.set (p := 34) (c := (cMo a v27)) (by decide) (by decide)
                have hI := hI.setO (v' := v27) ⟨by rw [nv27 0 (by decide)]; exact hI.2.1.1, by rw [nv27 2 (by decide)]; exact hI.2.1.2.1, by rw [nv27 3 (by decide)]; exact hI.2.1.2.2.1, ⟨(mq + 1), by omega, by rw [gv27, hxq]⟩⟩
                rw [← hw] at hP hD hC hI
                clear hw
                refine lv_aload_n hx hb d_M_back_98 rfl (lv_at hl 1 rfl) ?_
                refine lv_dup hx hb d_M_back_99 rfl ?_
                refine va_get (D := D) (ci := 6) (v := .int (v27 1)) (C := R_M) (T := F_M) (N := 17) hx hb hts ws_M hown hK hP 34 hI.1 rfl 3 (by decide) (hts _ fl_M_22) (fun _ h9 => h9) rfl d_M_back_100 ?_
                refine lv_iconst (v := 1) hx hb d_M_back_103 (by decide) ?_
                refine lv_iadd hx hb d_M_back_104 ?_
                refine lv_topi (fun v29 hv29 => ?_)
                refine va_put (D := D) (ci := 6) (v := .int v29) (ty := .int) (C := R_M) (T := F_M) (N := 17) hx hb hts ws_M t_M ok_M n_M hown hK hP hD hS 34 hI.1 rfl 3 (by decide) (hts _ fl_M_22) (fun _ h9 => h9) rfl (by decide +kernel) rfl rfl (Nat.le_of_ble_eq_true rfl) d_M_back_105 (fun H locs hP hD hS => ?_)
                obtain ⟨v30, hv30⟩ : ∃ q : Nat → Int32, q = upd v27 1 v29 := ⟨_, rfl⟩
                have gv30 : v30 1 = v29 := by rw [hv30]; exact pk_us
                have nv30 : ∀ i, i ≠ 1 → v30 i = v27 i := fun i hi => by rw [hv30]; exact pk_un hi
                have hP : va_P D Cl (w28.set 34 (cMo a v30)) H := by rw [hv30]; exact hP
                have hD : va_D (Az z) (w28.set 34 (cMo a v30)) := by rw [hv30]; exact hD
                obtain ⟨w31, hw⟩ : ∃ q, q = w28.set 34 (cMo a v30) := ⟨_, rfl⟩
                have hP : va_P D Cl (w28.set 34 (cMo a v30)) H := hP
                have hD : va_D (Az z) (w28.set 34 (cMo a v30)) := hD
                have hC := hC.set (p := 34) (c := (cMo a v30)) (by decide) (by decide)
                have hI := hI.setO (v' := v30) ⟨by rw [nv30 0 (by decide)]; exact hI.2.1.1, by rw [nv30 2 (by decide)]; exact hI.2.1.2.1, by rw [nv30 3 (by decide)]; exact hI.2.1.2.2.1, by rw [nv30 4 (by decide)]; exact hI.2.1.2.2.2⟩
                rw [← hw] at hP hD hC hI
                clear hw
                exact W.vret hx hb hr (fun t9 ht hW => ⟨⟨w31, rfl, ⟨_, hI, hC⟩, ⟨by rw [ht]; exact hP, va_K.moved hW.alike hK, hD, by rw [ht]; exact Nat.le_trans hz hS.1⟩⟩, hS.F ht⟩) hS.2.2 d_M_back_108
              | succ n9 ih =>
                intro i w9 H locs ls hi9 hP hD hS hI hC hl
                refine lv_iload_n hx hb d_M_back_59 rfl (lv_at hl 0 rfl) ?_
                refine lv_aload_n hx hb d_M_back_60 rfl (lv_at hl 1 rfl) ?_
                refine va_get (D := D) (ci := 6) (v := .int (v25 2)) (C := R_M) (T := F_M) (N := 17) hx hb hts ws_M hown hK hP 34 hI.1 rfl 8 (by decide) (hts _ fl_M_43) (fun _ h9 => h9) rfl d_M_back_61 ?_
                have hB9 : (v25 2) = nI VA24 := by rw [gv25]
                refine lv_icmp_ge (tgt := 93) hx hb d_M_back_64 rfl (fun h => absurd h (by rw [hB9]; exact nI_ge (by omega) (by omega))) (fun _ => ?_)
                refine lv_aload_n hx hb d_M_back_67 rfl (lv_at hl 1 rfl) ?_
                refine va_get (D := D) (ci := 6) (v := .ref (a 37)) (C := R_M) (T := F_M) (N := 17) hx hb hts ws_M hown hK hP 34 hI.1 rfl 4 (by decide) (hts _ fl_M_25) (fun _ h9 => h9) rfl d_M_back_68 ?_
                refine lv_iload_n hx hb d_M_back_71 rfl (lv_at hl 0 rfl) ?_
                refine lv_aload_n hx hb d_M_back_72 rfl (lv_at hl 1 rfl) ?_
                refine va_get (D := D) (ci := 6) (v := .ref (a 39)) (C := R_M) (T := F_M) (N := 17) hx hb hts ws_M hown hK hP 34 hI.1 rfl 6 (by decide) (hts _ fl_M_31) (fun _ h9 => h9) rfl d_M_back_73 ?_
                refine lv_sipush (v := 768) hx hb d_M_back_76 (by decide) ?_
                refine lv_iload_n hx hb d_M_back_79 rfl (lv_at hl 2 rfl) ?_
                refine lv_iconst (v := 1) hx hb d_M_back_80 (by decide) ?_
                refine lv_isub hx hb d_M_back_81 ?_
                refine lv_topi (fun y32 hy32 => ?_)
                have hy32 : y32 = nI mq := by rw [hy32, hxq]; exact nI_pred mq
                refine lv_imul hx hb d_M_back_82 ?_
                refine lv_topi (fun y33 hy33 => ?_)
                have hy33 : y33 = nI (768 * mq) := by rw [hy33, hy32]; exact pk_mul 768 mq
                refine lv_iload_n hx hb d_M_back_83 rfl (lv_at hl 0 rfl) ?_
                refine lv_iadd hx hb d_M_back_84 ?_
                refine lv_topi (fun y34 hy34 => ?_)
                have hy34 : y34 = nI ((768 * mq) + i) := by rw [hy34, hy33]; exact nI_add (768 * mq) i
                obtain ⟨fA35, eA35, lA35⟩ := hI.a39
                refine va_iald (D := D) hx hb hK hP 39 4 eA35 rfl (i := y34) (by rw [hy34]; exact vp_in_nI (by omega) (by decide)) d_M_back_85 ?_
                obtain ⟨VA35, hVA35, eVA35⟩ := lA35 (y34 : Int32).toNatClampNeg
                refine W.eq (g2 := F0 m 86 ls [.int (nI VA35), .int (nI i), .ref (a 37)]) (by rw [eVA35]) ?_
                obtain ⟨Vz, hVz, -⟩ := hI.a37.choose_spec.2 0
                obtain ⟨fA37, eA37, lA37⟩ := hI.a37
                refine va_iast (D := D) hx hb hK hP hD hS 37 4 eA37 rfl (i := (nI i)) (x := (nI VA35)) (vp_in_nI (n := i) (by omega) (by decide)) d_M_back_86 (fun H locs hP hD hS => ?_)
                obtain ⟨gA37, hgA37⟩ : ∃ q, q = upd fA37 ((nI i) : Int32).toNatClampNeg (nI VA35) := ⟨_, rfl⟩
                rw [← hgA37] at hP hD
                obtain ⟨w38, hw⟩ : ∃ q, q = w9.set 37 (cI a t 37 1024 gA37) := ⟨_, rfl⟩
                have hP : va_P D Cl (w9.set 37 (cI a t 37 1024 gA37)) H := hP
                have hD : va_D (Az z) (w9.set 37 (cI a t 37 1024 gA37)) := hD
                have hC := hC.set (p := 37) (c := (cI a t 37 1024 gA37)) (by decide) (by decide)
                have hI := hI.s37 (f9 := gA37) (by rw [hgA37]; exact lA37.upd (V := VA35) (by omega))
                rw [← hw] at hP hD hC hI
                clear hw
                refine lv_iinc (k := 0) (v := nI (i + 1)) (lv' := [(2, .int (nI (i + 1))), (0, .ref (a 34)), (1, .int x9)]) hx hb d_M_back_87 hl rfl (nI_1 i) (by decide) rfl (fun ls hl => ?_)
                refine lv_goto (tgt := 59) hx hb d_M_back_90 rfl ?_
                exact ih (i + 1) w38 H locs ls (by omega) hP hD hS hI hC (lv_sub hl [0, 1, 2] rfl)
            exact key VA24 0 w26 _ _ _ (Nat.zero_add _) hP hD hS hI hC hl
        · skip
          refine lv_iconst (v := 1) hx hb d_M_back_33 (by decide) ?_
          refine lv_goto (tgt := 38) hx hb d_M_back_34 rfl ?_
          refine va_calli (va_runV (As := [.int 0, .int 1]) (rest := []) ⟨hx, hb, hml, hown, hts⟩ (c_M_fails (D := D) (t := t) (z := z) (sa := sa) (ws := ws) (x9 := 0) (y9 := 1) hI ) (cwV 2 hts (gd_V ml_M_50 im_M_fails se_M_fails in_M cd_M_fails) rfl rfl rfl (by decide +kernel) ⟨Nat.le_of_ble_eq_true rfl, Nat.le_of_ble_eq_true rfl⟩) ⟨Pz_blind, va_recv hK hP (ci := 6) rfl hI.1, Pz_at hP hK hD hz hM hS⟩ rfl rfl hl.1 rfl (lv_room (Nat.le_of_ble_eq_true rfl)) d_M_back_38 ⟨Nat.le_of_ble_eq_true rfl, Nat.le_of_ble_eq_true rfl⟩) hS (fun q _ h => h) (fun q h => h) (fun r40 u39 t9 H locs ht hvm hp hB hz1 hk1 hS => ?_)
          obtain ⟨hP, hK9, hD, -⟩ := hB
          rw [ht] at hP
          clear hK9
          obtain ⟨v41, hI, hC9, nv41, hr9⟩ := hp
          have hC := hC.trans hC9
          rcases hr9 with hr9 | ⟨hr9, hx0, hy0⟩
          · skip
            subst hr9
            refine lv_if_eq (tgt := 45) hx hb d_M_back_41 rfl (fun h => absurd h (by decide)) (fun _ => ?_)
            exact W.vret hx hb hr (fun t9 ht hW => ⟨⟨u39, rfl, ⟨_, hI, hC⟩, ⟨by rw [ht]; exact hP, va_K.moved hW.alike hK, hD, by rw [ht]; exact Nat.le_trans hz hS.1⟩⟩, hS.F ht⟩) hS.2.2 d_M_back_44
          · skip
            exact absurd hy0 (by decide)
    · skip
      refine lv_iconst (v := 1) hx hb d_M_back_15 (by decide) ?_
      refine lv_goto (tgt := 20) hx hb d_M_back_16 rfl ?_
      refine lv_iload_n hx hb d_M_back_20 rfl (lv_at hl 1 rfl) ?_
      refine lv_iconst (v := 1) hx hb d_M_back_21 (by decide) ?_
      refine lv_icmp_lt (tgt := 33) hx hb d_M_back_22 rfl (fun q42 => ?_) (fun q42 => ?_)
      · skip
        refine lv_iconst (v := 1) hx hb d_M_back_33 (by decide) ?_
        refine lv_goto (tgt := 38) hx hb d_M_back_34 rfl ?_
        refine va_calli (va_runV (As := [.int 1, .int 1]) (rest := []) ⟨hx, hb, hml, hown, hts⟩ (c_M_fails (D := D) (t := t) (z := z) (sa := sa) (ws := ws) (x9 := 1) (y9 := 1) hI ) (cwV 2 hts (gd_V ml_M_50 im_M_fails se_M_fails in_M cd_M_fails) rfl rfl rfl (by decide +kernel) ⟨Nat.le_of_ble_eq_true rfl, Nat.le_of_ble_eq_true rfl⟩) ⟨Pz_blind, va_recv hK hP (ci := 6) rfl hI.1, Pz_at hP hK hD hz hM hS⟩ rfl rfl hl.1 rfl (lv_room (Nat.le_of_ble_eq_true rfl)) d_M_back_38 ⟨Nat.le_of_ble_eq_true rfl, Nat.le_of_ble_eq_true rfl⟩) hS (fun q _ h => h) (fun q h => h) (fun r44 u43 t9 H locs ht hvm hp hB hz1 hk1 hS => ?_)
        obtain ⟨hP, hK9, hD, -⟩ := hB
        rw [ht] at hP
        clear hK9
        obtain ⟨v45, hI, hC9, nv45, hr9⟩ := hp
        have hC := hC.trans hC9
        rcases hr9 with hr9 | ⟨hr9, hx0, hy0⟩
        · skip
          subst hr9
          refine lv_if_eq (tgt := 45) hx hb d_M_back_41 rfl (fun h => absurd h (by decide)) (fun _ => ?_)
          exact W.vret hx hb hr (fun t9 ht hW => ⟨⟨u43, rfl, ⟨_, hI, hC⟩, ⟨by rw [ht]; exact hP, va_K.moved hW.alike hK, hD, by rw [ht]; exact Nat.le_trans hz hS.1⟩⟩, hS.F ht⟩) hS.2.2 d_M_back_44
        · skip
          exact absurd hx0 (by decide)
      · skip
        refine lv_iload_n hx hb d_M_back_25 rfl (lv_at hl 1 rfl) ?_
        refine lv_aload_n hx hb d_M_back_26 rfl (lv_at hl 0 rfl) ?_
        refine va_get (D := D) (ci := 6) (v := .int (v 4)) (C := R_M) (T := F_M) (N := 17) hx hb hts ws_M hown hK hP 34 hI.1 rfl 10 (by decide) (hts _ fl_M_77) (fun _ h9 => h9) rfl d_M_back_27 ?_
        refine lv_icmp_le (tgt := 37) hx hb d_M_back_30 rfl (fun q46 => ?_) (fun q46 => ?_)
        · skip
          refine lv_iconst (v := 0) hx hb d_M_back_37 (by decide) ?_
          refine va_calli (va_runV (As := [.int 1, .int 0]) (rest := []) ⟨hx, hb, hml, hown, hts⟩ (c_M_fails (D := D) (t := t) (z := z) (sa := sa) (ws := ws) (x9 := 1) (y9 := 0) hI ) (cwV 2 hts (gd_V ml_M_50 im_M_fails se_M_fails in_M cd_M_fails) rfl rfl rfl (by decide +kernel) ⟨Nat.le_of_ble_eq_true rfl, Nat.le_of_ble_eq_true rfl⟩) ⟨Pz_blind, va_recv hK hP (ci := 6) rfl hI.1, Pz_at hP hK hD hz hM hS⟩ rfl rfl hl.1 rfl (lv_room (Nat.le_of_ble_eq_true rfl)) d_M_back_38 ⟨Nat.le_of_ble_eq_true rfl, Nat.le_of_ble_eq_true rfl⟩) hS (fun q _ h => h) (fun q h => h) (fun r48 u47 t9 H locs ht hvm hp hB hz1 hk1 hS => ?_)
          obtain ⟨hP, hK9, hD, -⟩ := hB
          rw [ht] at hP
          clear hK9
          obtain ⟨v49, hI, hC9, nv49, hr9⟩ := hp
          have hC := hC.trans hC9
          rcases hr9 with hr9 | ⟨hr9, hx0, hy0⟩
          · skip
            subst hr9
            refine lv_if_eq (tgt := 45) hx hb d_M_back_41 rfl (fun h => absurd h (by decide)) (fun _ => ?_)
            exact W.vret hx hb hr (fun t9 ht hW => ⟨⟨u47, rfl, ⟨_, hI, hC⟩, ⟨by rw [ht]; exact hP, va_K.moved hW.alike hK, hD, by rw [ht]; exact Nat.le_trans hz hS.1⟩⟩, hS.F ht⟩) hS.2.2 d_M_back_44
          · skip
            exact absurd hx0 (by decide)
        · skip
          refine lv_iconst (v := 1) hx hb d_M_back_33 (by decide) ?_
          refine lv_goto (tgt := 38) hx hb d_M_back_34 rfl ?_
          refine va_calli (va_runV (As := [.int 1, .int 1]) (rest := []) ⟨hx, hb, hml, hown, hts⟩ (c_M_fails (D := D) (t := t) (z := z) (sa := sa) (ws := ws) (x9 := 1) (y9 := 1) hI ) (cwV 2 hts (gd_V ml_M_50 im_M_fails se_M_fails in_M cd_M_fails) rfl rfl rfl (by decide +kernel) ⟨Nat.le_of_ble_eq_true rfl, Nat.le_of_ble_eq_true rfl⟩) ⟨Pz_blind, va_recv hK hP (ci := 6) rfl hI.1, Pz_at hP hK hD hz hM hS⟩ rfl rfl hl.1 rfl (lv_room (Nat.le_of_ble_eq_true rfl)) d_M_back_38 ⟨Nat.le_of_ble_eq_true rfl, Nat.le_of_ble_eq_true rfl⟩) hS (fun q _ h => h) (fun q h => h) (fun r51 u50 t9 H locs ht hvm hp hB hz1 hk1 hS => ?_)
          obtain ⟨hP, hK9, hD, -⟩ := hB
          rw [ht] at hP
          clear hK9
          obtain ⟨v52, hI, hC9, nv52, hr9⟩ := hp
          have hC := hC.trans hC9
          rcases hr9 with hr9 | ⟨hr9, hx0, hy0⟩
          · skip
            subst hr9
            refine lv_if_eq (tgt := 45) hx hb d_M_back_41 rfl (fun h => absurd h (by decide)) (fun _ => ?_)
            exact W.vret hx hb hr (fun t9 ht hW => ⟨⟨u50, rfl, ⟨_, hI, hC⟩, ⟨by rw [ht]; exact hP, va_K.moved hW.alike hK, hD, by rw [ht]; exact Nat.le_trans hz hS.1⟩⟩, hS.F ht⟩) hS.2.2 d_M_back_44
          · skip
            exact absurd hx0 (by decide)
set_option maxHeartbeats 4000000 in
set_option maxRecDepth 100000 in
theorem c_M_keep {l : Launch} {D : va_G} {t : Nat → ClassId} {z : Nat} {sa : Nat → Nat} {ws : va_W} {a : Nat → Nat} {NV : Nat} {v : Nat → Int32} {x9 : Int32} (hI : Mi a t NV v ws)  : Met l y_M_keep (Cond.code y_M_keep b_M_keep 2 (.none : Option Jvm.ClassFile.FieldType) :: WS) ({ frames := 1, cells := 0, slots := 0, locals := 22 }) (Pz D t z sa ws [.ref (a 34), .int x9]) (va_Qv (fun u : va_W => ∃ v1, Mi a t NV v1 u ∧ Mk ws u) (fun u U => Wd D t z u U) (Az z)) 0 0 (Az z) := by
  refine Met.ofW (cc := b_M_keep) (maxL := 2) (ret := (.none : Option Jvm.ClassFile.FieldType)) (by decide) rfl ?_
  intro p e s m args below meth c s₁ B hml hv
  obtain ⟨rfl, ⟨hP, hK, hD, hz⟩, hM⟩ := hv
  have hx := B.exec
  have hb := B.bytes
  have hr := B.returns
  have hts : ∀ w ∈ WS, w.before [.ref (a 34), .int x9].toArray s = true := fun w h => atoms_spec B.pre w (List.mem_cons_of_mem _ h)
  have hown : s.vm.findClass R_M = some m.cls := findClass_of_methodNamed B.named
  have hlocks := B.notSynchronized
  have hA : ∀ q, s.heap.size ≤ q → Az z q := fun q h => Nat.le_trans hz h
  have hS : va_S (Az z) s.heap s.heap [] := va_S.rf
  have hC : Mk ws ws := Mk.rf
  have hl := lv_entry ([.ref (a 34), .int x9]) (n := 2) (Nat.le_of_ble_eq_true rfl)
  rw [lg_entry_eq]
  generalize (lg_sl ([.ref (a 34), .int x9]) ++ List.replicate (2 - (lg_sl ([.ref (a 34), .int x9])).length) Slot.unset).toArray = ls at hl ⊢
  have hl : lv_has ls 2 [(0, .ref (a 34)), (1, .int x9)] := hl
  obtain ⟨n4, hn4, en4⟩ := hI.2.1.2.2.2
  refine lv_aload_n hx hb d_M_keep_0 rfl (lv_at hl 0 rfl) ?_
  refine lv_aload_n hx hb d_M_keep_1 rfl (lv_at hl 0 rfl) ?_
  refine va_get (D := D) (ci := 6) (v := .int (v 6)) (C := R_M) (T := F_M) (N := 17) hx hb hts ws_M hown hK hP 34 hI.1 rfl 12 (by decide) (hts _ fl_M_46) (fun _ h9 => h9) rfl d_M_keep_2 ?_
  refine lv_if_ne (tgt := 15) hx hb d_M_keep_5 rfl (fun q1 => ?_) (fun q1 => ?_)
  · skip
    refine lv_iconst (v := 1) hx hb d_M_keep_15 (by decide) ?_
    refine lv_goto (tgt := 20) hx hb d_M_keep_16 rfl ?_
    refine lv_iload_n hx hb d_M_keep_20 rfl (lv_at hl 1 rfl) ?_
    refine lv_iconst (v := 1) hx hb d_M_keep_21 (by decide) ?_
    refine lv_icmp_lt (tgt := 33) hx hb d_M_keep_22 rfl (fun q2 => ?_) (fun q2 => ?_)
    · skip
      refine lv_iconst (v := 1) hx hb d_M_keep_33 (by decide) ?_
      refine lv_goto (tgt := 38) hx hb d_M_keep_34 rfl ?_
      refine va_calli (va_runV (As := [.int 1, .int 1]) (rest := []) ⟨hx, hb, hml, hown, hts⟩ (c_M_fails (D := D) (t := t) (z := z) (sa := sa) (ws := ws) (x9 := 1) (y9 := 1) hI ) (cwV 2 hts (gd_V ml_M_50 im_M_fails se_M_fails in_M cd_M_fails) rfl rfl rfl (by decide +kernel) ⟨Nat.le_of_ble_eq_true rfl, Nat.le_of_ble_eq_true rfl⟩) ⟨Pz_blind, va_recv hK hP (ci := 6) rfl hI.1, Pz_at hP hK hD hz hM hS⟩ rfl rfl hl.1 rfl (lv_room (Nat.le_of_ble_eq_true rfl)) d_M_keep_38 ⟨Nat.le_of_ble_eq_true rfl, Nat.le_of_ble_eq_true rfl⟩) hS (fun q _ h => h) (fun q h => h) (fun r4 u3 t9 H locs ht hvm hp hB hz1 hk1 hS => ?_)
      obtain ⟨hP, hK9, hD, -⟩ := hB
      rw [ht] at hP
      clear hK9
      obtain ⟨v5, hI, hC9, nv5, hr9⟩ := hp
      have hC := hC.trans hC9
      rcases hr9 with hr9 | ⟨hr9, hx0, hy0⟩
      · skip
        subst hr9
        refine lv_if_eq (tgt := 45) hx hb d_M_keep_41 rfl (fun h => absurd h (by decide)) (fun _ => ?_)
        exact W.vret hx hb hr (fun t9 ht hW => ⟨⟨u3, rfl, ⟨_, hI, hC⟩, ⟨by rw [ht]; exact hP, va_K.moved hW.alike hK, hD, by rw [ht]; exact Nat.le_trans hz hS.1⟩⟩, hS.F ht⟩) hS.2.2 d_M_keep_44
      · skip
        exact absurd hx0 (by decide)
    · skip
      refine lv_iload_n hx hb d_M_keep_25 rfl (lv_at hl 1 rfl) ?_
      refine lv_aload_n hx hb d_M_keep_26 rfl (lv_at hl 0 rfl) ?_
      refine va_get (D := D) (ci := 6) (v := .int (v 4)) (C := R_M) (T := F_M) (N := 17) hx hb hts ws_M hown hK hP 34 hI.1 rfl 10 (by decide) (hts _ fl_M_77) (fun _ h9 => h9) rfl d_M_keep_27 ?_
      refine lv_icmp_le (tgt := 37) hx hb d_M_keep_30 rfl (fun q6 => ?_) (fun q6 => ?_)
      · skip
        refine lv_iconst (v := 0) hx hb d_M_keep_37 (by decide) ?_
        refine va_calli (va_runV (As := [.int 1, .int 0]) (rest := []) ⟨hx, hb, hml, hown, hts⟩ (c_M_fails (D := D) (t := t) (z := z) (sa := sa) (ws := ws) (x9 := 1) (y9 := 0) hI ) (cwV 2 hts (gd_V ml_M_50 im_M_fails se_M_fails in_M cd_M_fails) rfl rfl rfl (by decide +kernel) ⟨Nat.le_of_ble_eq_true rfl, Nat.le_of_ble_eq_true rfl⟩) ⟨Pz_blind, va_recv hK hP (ci := 6) rfl hI.1, Pz_at hP hK hD hz hM hS⟩ rfl rfl hl.1 rfl (lv_room (Nat.le_of_ble_eq_true rfl)) d_M_keep_38 ⟨Nat.le_of_ble_eq_true rfl, Nat.le_of_ble_eq_true rfl⟩) hS (fun q _ h => h) (fun q h => h) (fun r8 u7 t9 H locs ht hvm hp hB hz1 hk1 hS => ?_)
        obtain ⟨hP, hK9, hD, -⟩ := hB
        rw [ht] at hP
        clear hK9
        obtain ⟨v10, hI, hC9, nv10, hr9⟩ := hp
        have hC := hC.trans hC9
        rcases hr9 with hr9 | ⟨hr9, hx0, hy0⟩
        · skip
          subst hr9
          refine lv_if_eq (tgt := 45) hx hb d_M_keep_41 rfl (fun h => absurd h (by decide)) (fun _ => ?_)
          exact W.vret hx hb hr (fun t9 ht hW => ⟨⟨u7, rfl, ⟨_, hI, hC⟩, ⟨by rw [ht]; exact hP, va_K.moved hW.alike hK, hD, by rw [ht]; exact Nat.le_trans hz hS.1⟩⟩, hS.F ht⟩) hS.2.2 d_M_keep_44
        · skip
          exact absurd hx0 (by decide)
      · skip
        refine lv_iconst (v := 1) hx hb d_M_keep_33 (by decide) ?_
        refine lv_goto (tgt := 38) hx hb d_M_keep_34 rfl ?_
        refine va_calli (va_runV (As := [.int 1, .int 1]) (rest := []) ⟨hx, hb, hml, hown, hts⟩ (c_M_fails (D := D) (t := t) (z := z) (sa := sa) (ws := ws) (x9 := 1) (y9 := 1) hI ) (cwV 2 hts (gd_V ml_M_50 im_M_fails se_M_fails in_M cd_M_fails) rfl rfl rfl (by decide +kernel) ⟨Nat.le_of_ble_eq_true rfl, Nat.le_of_ble_eq_true rfl⟩) ⟨Pz_blind, va_recv hK hP (ci := 6) rfl hI.1, Pz_at hP hK hD hz hM hS⟩ rfl rfl hl.1 rfl (lv_room (Nat.le_of_ble_eq_true rfl)) d_M_keep_38 ⟨Nat.le_of_ble_eq_true rfl, Nat.le_of_ble_eq_true rfl⟩) hS (fun q _ h => h) (fun q h => h) (fun r12 u11 t9 H locs ht hvm hp hB hz1 hk1 hS => ?_)
        obtain ⟨hP, hK9, hD, -⟩ := hB
        rw [ht] at hP
        clear hK9
        obtain ⟨v13, hI, hC9, nv13, hr9⟩ := hp
        have hC := hC.trans hC9
        rcases hr9 with hr9 | ⟨hr9, hx0, hy0⟩
        · skip
          subst hr9
          refine lv_if_eq (tgt := 45) hx hb d_M_keep_41 rfl (fun h => absurd h (by decide)) (fun _ => ?_)
          exact W.vret hx hb hr (fun t9 ht hW => ⟨⟨u11, rfl, ⟨_, hI, hC⟩, ⟨by rw [ht]; exact hP, va_K.moved hW.alike hK, hD, by rw [ht]; exact Nat.le_trans hz hS.1⟩⟩, hS.F ht⟩) hS.2.2 d_M_keep_44
        · skip
          exact absurd hx0 (by decide)
  · skip
    refine lv_aload_n hx hb d_M_keep_8 rfl (lv_at hl 0 rfl) ?_
    refine va_get (D := D) (ci := 6) (v := .int (v 7)) (C := R_M) (T := F_M) (N := 17) hx hb hts ws_M hown hK hP 34 hI.1 rfl 13 (by decide) (hts _ fl_M_54) (fun _ h9 => h9) rfl d_M_keep_9 ?_
    refine lv_if_ne (tgt := 19) hx hb d_M_keep_12 rfl (fun q14 => ?_) (fun q14 => ?_)
    · skip
      refine lv_iconst (v := 0) hx hb d_M_keep_19 (by decide) ?_
      refine lv_iload_n hx hb d_M_keep_20 rfl (lv_at hl 1 rfl) ?_
      refine lv_iconst (v := 1) hx hb d_M_keep_21 (by decide) ?_
      refine lv_icmp_lt (tgt := 33) hx hb d_M_keep_22 rfl (fun q15 => ?_) (fun q15 => ?_)
      · skip
        refine lv_iconst (v := 1) hx hb d_M_keep_33 (by decide) ?_
        refine lv_goto (tgt := 38) hx hb d_M_keep_34 rfl ?_
        refine va_calli (va_runV (As := [.int 0, .int 1]) (rest := []) ⟨hx, hb, hml, hown, hts⟩ (c_M_fails (D := D) (t := t) (z := z) (sa := sa) (ws := ws) (x9 := 0) (y9 := 1) hI ) (cwV 2 hts (gd_V ml_M_50 im_M_fails se_M_fails in_M cd_M_fails) rfl rfl rfl (by decide +kernel) ⟨Nat.le_of_ble_eq_true rfl, Nat.le_of_ble_eq_true rfl⟩) ⟨Pz_blind, va_recv hK hP (ci := 6) rfl hI.1, Pz_at hP hK hD hz hM hS⟩ rfl rfl hl.1 rfl (lv_room (Nat.le_of_ble_eq_true rfl)) d_M_keep_38 ⟨Nat.le_of_ble_eq_true rfl, Nat.le_of_ble_eq_true rfl⟩) hS (fun q _ h => h) (fun q h => h) (fun r17 u16 t9 H locs ht hvm hp hB hz1 hk1 hS => ?_)
        obtain ⟨hP, hK9, hD, -⟩ := hB
        rw [ht] at hP
        clear hK9
        obtain ⟨v18, hI, hC9, nv18, hr9⟩ := hp
        have hC := hC.trans hC9
        rcases hr9 with hr9 | ⟨hr9, hx0, hy0⟩
        · skip
          subst hr9
          refine lv_if_eq (tgt := 45) hx hb d_M_keep_41 rfl (fun h => absurd h (by decide)) (fun _ => ?_)
          exact W.vret hx hb hr (fun t9 ht hW => ⟨⟨u16, rfl, ⟨_, hI, hC⟩, ⟨by rw [ht]; exact hP, va_K.moved hW.alike hK, hD, by rw [ht]; exact Nat.le_trans hz hS.1⟩⟩, hS.F ht⟩) hS.2.2 d_M_keep_44
        · skip
          exact absurd hy0 (by decide)
      · skip
        refine lv_iload_n hx hb d_M_keep_25 rfl (lv_at hl 1 rfl) ?_
        refine lv_aload_n hx hb d_M_keep_26 rfl (lv_at hl 0 rfl) ?_
        refine va_get (D := D) (ci := 6) (v := .int (v 4)) (C := R_M) (T := F_M) (N := 17) hx hb hts ws_M hown hK hP 34 hI.1 rfl 10 (by decide) (hts _ fl_M_77) (fun _ h9 => h9) rfl d_M_keep_27 ?_
        refine lv_icmp_le (tgt := 37) hx hb d_M_keep_30 rfl (fun q19 => ?_) (fun q19 => ?_)
        · skip
          refine lv_iconst (v := 0) hx hb d_M_keep_37 (by decide) ?_
          refine va_calli (va_runV (As := [.int 0, .int 0]) (rest := []) ⟨hx, hb, hml, hown, hts⟩ (c_M_fails (D := D) (t := t) (z := z) (sa := sa) (ws := ws) (x9 := 0) (y9 := 0) hI ) (cwV 2 hts (gd_V ml_M_50 im_M_fails se_M_fails in_M cd_M_fails) rfl rfl rfl (by decide +kernel) ⟨Nat.le_of_ble_eq_true rfl, Nat.le_of_ble_eq_true rfl⟩) ⟨Pz_blind, va_recv hK hP (ci := 6) rfl hI.1, Pz_at hP hK hD hz hM hS⟩ rfl rfl hl.1 rfl (lv_room (Nat.le_of_ble_eq_true rfl)) d_M_keep_38 ⟨Nat.le_of_ble_eq_true rfl, Nat.le_of_ble_eq_true rfl⟩) hS (fun q _ h => h) (fun q h => h) (fun r21 u20 t9 H locs ht hvm hp hB hz1 hk1 hS => ?_)
          obtain ⟨hP, hK9, hD, -⟩ := hB
          rw [ht] at hP
          clear hK9
          obtain ⟨v22, hI, hC9, nv22, hr9⟩ := hp
          have hC := hC.trans hC9
          rcases hr9 with hr9 | ⟨hr9, hx0, hy0⟩
          · skip
            subst hr9
            refine lv_if_eq (tgt := 45) hx hb d_M_keep_41 rfl (fun h => absurd h (by decide)) (fun _ => ?_)
            exact W.vret hx hb hr (fun t9 ht hW => ⟨⟨u20, rfl, ⟨_, hI, hC⟩, ⟨by rw [ht]; exact hP, va_K.moved hW.alike hK, hD, by rw [ht]; exact Nat.le_trans hz hS.1⟩⟩, hS.F ht⟩) hS.2.2 d_M_keep_44
          · skip
            subst hr9
            refine lv_if_eq (tgt := 45) hx hb d_M_keep_41 rfl (fun _ => ?_) (fun h => absurd h (by decide))
            obtain ⟨mq, hmq, hxq⟩ := m_mk (x := x9) hn4 en4 (by assumption) (by assumption)
            refine lv_aload_n hx hb d_M_keep_45 rfl (lv_at hl 0 rfl) ?_
            refine lv_iload_n hx hb d_M_keep_46 rfl (lv_at hl 1 rfl) ?_
            refine lv_iconst (v := 1) hx hb d_M_keep_47 (by decide) ?_
            refine lv_isub hx hb d_M_keep_48 ?_
            refine lv_topi (fun y23 hy23 => ?_)
            have hy23 : y23 = nI mq := by rw [hy23, hxq]; exact nI_pred mq
            refine va_put (D := D) (ci := 6) (v := .int y23) (ty := .int) (C := R_M) (T := F_M) (N := 17) hx hb hts ws_M t_M ok_M n_M hown hK hP hD hS 34 hI.1 rfl 10 (by decide) (hts _ fl_M_77) (fun _ h9 => h9) rfl (by decide +kernel) rfl rfl (Nat.le_of_ble_eq_true rfl) d_M_keep_49 (fun H locs hP hD hS => ?_)
            obtain ⟨v24, hv24⟩ : ∃ q : Nat → Int32, q = upd v22 4 y23 := ⟨_, rfl⟩
            have gv24 : v24 4 = y23 := by rw [hv24]; exact pk_us
            have nv24 : ∀ i, i ≠ 4 → v24 i = v22 i := fun i hi => by rw [hv24]; exact pk_un hi
            have hP : va_P D Cl (u20.set 34 (cMo a v24)) H := by rw [hv24]; exact hP
            have hD : va_D (Az z) (u20.set 34 (cMo a v24)) := by rw [hv24]; exact hD
            obtain ⟨w25, hw⟩ : ∃ q, q = u20.set 34 (cMo a v24) := ⟨_, rfl⟩
            have hP : va_P D Cl (u20.set 34 (cMo a v24)) H := hP
            have hD : va_D (Az z) (u20.set 34 (cMo a v24)) := hD
            have hC := hC.set (p := 34) (c := (cMo a v24)) (by decide) (by decide)
            have hI := hI.setO (v' := v24) ⟨by rw [nv24 0 (by decide)]; exact hI.2.1.1, by rw [nv24 2 (by decide)]; exact hI.2.1.2.1, by rw [nv24 3 (by decide)]; exact hI.2.1.2.2.1, ⟨mq, by omega, by rw [gv24, hy23]⟩⟩
            rw [← hw] at hP hD hC hI
            clear hw
            exact W.vret hx hb hr (fun t9 ht hW => ⟨⟨w25, rfl, ⟨_, hI, hC⟩, ⟨by rw [ht]; exact hP, va_K.moved hW.alike hK, hD, by rw [ht]; exact Nat.le_trans hz hS.1⟩⟩, hS.F ht⟩) hS.2.2 d_M_keep_52
        · skip
          refine lv_iconst (v := 1) hx hb d_M_keep_33 (by decide) ?_
          refine lv_goto (tgt := 38) hx hb d_M_keep_34 rfl ?_
          refine va_calli (va_runV (As := [.int 0, .int 1]) (rest := []) ⟨hx, hb, hml, hown, hts⟩ (c_M_fails (D := D) (t := t) (z := z) (sa := sa) (ws := ws) (x9 := 0) (y9 := 1) hI ) (cwV 2 hts (gd_V ml_M_50 im_M_fails se_M_fails in_M cd_M_fails) rfl rfl rfl (by decide +kernel) ⟨Nat.le_of_ble_eq_true rfl, Nat.le_of_ble_eq_true rfl⟩) ⟨Pz_blind, va_recv hK hP (ci := 6) rfl hI.1, Pz_at hP hK hD hz hM hS⟩ rfl rfl hl.1 rfl (lv_room (Nat.le_of_ble_eq_true rfl)) d_M_keep_38 ⟨Nat.le_of_ble_eq_true rfl, Nat.le_of_ble_eq_true rfl⟩) hS (fun q _ h => h) (fun q h => h) (fun r27 u26 t9 H locs ht hvm hp hB hz1 hk1 hS => ?_)
          obtain ⟨hP, hK9, hD, -⟩ := hB
          rw [ht] at hP
          clear hK9
          obtain ⟨v28, hI, hC9, nv28, hr9⟩ := hp
          have hC := hC.trans hC9
          rcases hr9 with hr9 | ⟨hr9, hx0, hy0⟩
          · skip
            subst hr9
            refine lv_if_eq (tgt := 45) hx hb d_M_keep_41 rfl (fun h => absurd h (by decide)) (fun _ => ?_)
            exact W.vret hx hb hr (fun t9 ht hW => ⟨⟨u26, rfl, ⟨_, hI, hC⟩, ⟨by rw [ht]; exact hP, va_K.moved hW.alike hK, hD, by rw [ht]; exact Nat.le_trans hz hS.1⟩⟩, hS.F ht⟩) hS.2.2 d_M_keep_44
          · skip
            exact absurd hy0 (by decide)
    · skip
      refine lv_iconst (v := 1) hx hb d_M_keep_15 (by decide) ?_
      refine lv_goto (tgt := 20) hx hb d_M_keep_16 rfl ?_
      refine lv_iload_n hx hb d_M_keep_20 rfl (lv_at hl 1 rfl) ?_
      refine lv_iconst (v := 1) hx hb d_M_keep_21 (by decide) ?_
      refine lv_icmp_lt (tgt := 33) hx hb d_M_keep_22 rfl (fun q29 => ?_) (fun q29 => ?_)
      · skip
        refine lv_iconst (v := 1) hx hb d_M_keep_33 (by decide) ?_
        refine lv_goto (tgt := 38) hx hb d_M_keep_34 rfl ?_
        refine va_calli (va_runV (As := [.int 1, .int 1]) (rest := []) ⟨hx, hb, hml, hown, hts⟩ (c_M_fails (D := D) (t := t) (z := z) (sa := sa) (ws := ws) (x9 := 1) (y9 := 1) hI ) (cwV 2 hts (gd_V ml_M_50 im_M_fails se_M_fails in_M cd_M_fails) rfl rfl rfl (by decide +kernel) ⟨Nat.le_of_ble_eq_true rfl, Nat.le_of_ble_eq_true rfl⟩) ⟨Pz_blind, va_recv hK hP (ci := 6) rfl hI.1, Pz_at hP hK hD hz hM hS⟩ rfl rfl hl.1 rfl (lv_room (Nat.le_of_ble_eq_true rfl)) d_M_keep_38 ⟨Nat.le_of_ble_eq_true rfl, Nat.le_of_ble_eq_true rfl⟩) hS (fun q _ h => h) (fun q h => h) (fun r31 u30 t9 H locs ht hvm hp hB hz1 hk1 hS => ?_)
        obtain ⟨hP, hK9, hD, -⟩ := hB
        rw [ht] at hP
        clear hK9
        obtain ⟨v32, hI, hC9, nv32, hr9⟩ := hp
        have hC := hC.trans hC9
        rcases hr9 with hr9 | ⟨hr9, hx0, hy0⟩
        · skip
          subst hr9
          refine lv_if_eq (tgt := 45) hx hb d_M_keep_41 rfl (fun h => absurd h (by decide)) (fun _ => ?_)
          exact W.vret hx hb hr (fun t9 ht hW => ⟨⟨u30, rfl, ⟨_, hI, hC⟩, ⟨by rw [ht]; exact hP, va_K.moved hW.alike hK, hD, by rw [ht]; exact Nat.le_trans hz hS.1⟩⟩, hS.F ht⟩) hS.2.2 d_M_keep_44
        · skip
          exact absurd hx0 (by decide)
      · skip
        refine lv_iload_n hx hb d_M_keep_25 rfl (lv_at hl 1 rfl) ?_
        refine lv_aload_n hx hb d_M_keep_26 rfl (lv_at hl 0 rfl) ?_
        refine va_get (D := D) (ci := 6) (v := .int (v 4)) (C := R_M) (T := F_M) (N := 17) hx hb hts ws_M hown hK hP 34 hI.1 rfl 10 (by decide) (hts _ fl_M_77) (fun _ h9 => h9) rfl d_M_keep_27 ?_
        refine lv_icmp_le (tgt := 37) hx hb d_M_keep_30 rfl (fun q33 => ?_) (fun q33 => ?_)
        · skip
          refine lv_iconst (v := 0) hx hb d_M_keep_37 (by decide) ?_
          refine va_calli (va_runV (As := [.int 1, .int 0]) (rest := []) ⟨hx, hb, hml, hown, hts⟩ (c_M_fails (D := D) (t := t) (z := z) (sa := sa) (ws := ws) (x9 := 1) (y9 := 0) hI ) (cwV 2 hts (gd_V ml_M_50 im_M_fails se_M_fails in_M cd_M_fails) rfl rfl rfl (by decide +kernel) ⟨Nat.le_of_ble_eq_true rfl, Nat.le_of_ble_eq_true rfl⟩) ⟨Pz_blind, va_recv hK hP (ci := 6) rfl hI.1, Pz_at hP hK hD hz hM hS⟩ rfl rfl hl.1 rfl (lv_room (Nat.le_of_ble_eq_true rfl)) d_M_keep_38 ⟨Nat.le_of_ble_eq_true rfl, Nat.le_of_ble_eq_true rfl⟩) hS (fun q _ h => h) (fun q h => h) (fun r35 u34 t9 H locs ht hvm hp hB hz1 hk1 hS => ?_)
          obtain ⟨hP, hK9, hD, -⟩ := hB
          rw [ht] at hP
          clear hK9
          obtain ⟨v36, hI, hC9, nv36, hr9⟩ := hp
          have hC := hC.trans hC9
          rcases hr9 with hr9 | ⟨hr9, hx0, hy0⟩
          · skip
            subst hr9
            refine lv_if_eq (tgt := 45) hx hb d_M_keep_41 rfl (fun h => absurd h (by decide)) (fun _ => ?_)
            exact W.vret hx hb hr (fun t9 ht hW => ⟨⟨u34, rfl, ⟨_, hI, hC⟩, ⟨by rw [ht]; exact hP, va_K.moved hW.alike hK, hD, by rw [ht]; exact Nat.le_trans hz hS.1⟩⟩, hS.F ht⟩) hS.2.2 d_M_keep_44
          · skip
            exact absurd hx0 (by decide)
        · skip
          refine lv_iconst (v := 1) hx hb d_M_keep_33 (by decide) ?_
          refine lv_goto (tgt := 38) hx hb d_M_keep_34 rfl ?_
          refine va_calli (va_runV (As := [.int 1, .int 1]) (rest := []) ⟨hx, hb, hml, hown, hts⟩ (c_M_fails (D := D) (t := t) (z := z) (sa := sa) (ws := ws) (x9 := 1) (y9 := 1) hI ) (cwV 2 hts (gd_V ml_M_50 im_M_fails se_M_fails in_M cd_M_fails) rfl rfl rfl (by decide +kernel) ⟨Nat.le_of_ble_eq_true rfl, Nat.le_of_ble_eq_true rfl⟩) ⟨Pz_blind, va_recv hK hP (ci := 6) rfl hI.1, Pz_at hP hK hD hz hM hS⟩ rfl rfl hl.1 rfl (lv_room (Nat.le_of_ble_eq_true rfl)) d_M_keep_38 ⟨Nat.le_of_ble_eq_true rfl, Nat.le_of_ble_eq_true rfl⟩) hS (fun q _ h => h) (fun q h => h) (fun r38 u37 t9 H locs ht hvm hp hB hz1 hk1 hS => ?_)
          obtain ⟨hP, hK9, hD, -⟩ := hB
          rw [ht] at hP
          clear hK9
          obtain ⟨v39, hI, hC9, nv39, hr9⟩ := hp
          have hC := hC.trans hC9
          rcases hr9 with hr9 | ⟨hr9, hx0, hy0⟩
          · skip
            subst hr9
            refine lv_if_eq (tgt := 45) hx hb d_M_keep_41 rfl (fun h => absurd h (by decide)) (fun _ => ?_)
            exact W.vret hx hb hr (fun t9 ht hW => ⟨⟨u37, rfl, ⟨_, hI, hC⟩, ⟨by rw [ht]; exact hP, va_K.moved hW.alike hK, hD, by rw [ht]; exact Nat.le_trans hz hS.1⟩⟩, hS.F ht⟩) hS.2.2 d_M_keep_44
          · skip
            exact absurd hx0 (by decide)
set_option maxHeartbeats 4000000 in
set_option maxRecDepth 100000 in
theorem c_M_power {l : Launch} {D : va_G} {t : Nat → ClassId} {z : Nat} {sa : Nat → Nat} {ws : va_W} {a : Nat → Nat} {NV : Nat} {v : Nat → Int32} {x9 y9 w9 : Int32} (hI : Mi a t NV v ws)  : Met l y_M_power (Cond.code y_M_power b_M_power 4 (.none : Option Jvm.ClassFile.FieldType) :: WS) ({ frames := 0, cells := 0, slots := 0, locals := 0 }) (Pz D t z sa ws [.ref (a 34), .int x9, .int y9, .int w9]) (va_Qv (fun u : va_W => ∃ v1, Mi a t NV v1 u ∧ Mk ws u ∧ ((v1 10 = 0 ∧ (¬ x9 < 0 ∧ x9 ≤ 4 ∧ ¬ y9 < 0 ∧ y9 ≤ 1000 ∧ ¬ w9 < 0 ∧ w9 ≤ 300)) ∨ (v1 10 = 1 ∧ ¬ (¬ x9 < 0 ∧ x9 ≤ 4 ∧ ¬ y9 < 0 ∧ y9 ≤ 1000 ∧ ¬ w9 < 0 ∧ w9 ≤ 300)))) (fun u U => Wd D t z u U) (Az z)) 0 0 (Az z) := by
  refine Met.ofW (cc := b_M_power) (maxL := 4) (ret := (.none : Option Jvm.ClassFile.FieldType)) (by decide) rfl ?_
  intro p e s m args below meth c s₁ B hml hv
  obtain ⟨rfl, ⟨hP, hK, hD, hz⟩, hM⟩ := hv
  have hx := B.exec
  have hb := B.bytes
  have hr := B.returns
  have hts : ∀ w ∈ WS, w.before [.ref (a 34), .int x9, .int y9, .int w9].toArray s = true := fun w h => atoms_spec B.pre w (List.mem_cons_of_mem _ h)
  have hown : s.vm.findClass R_M = some m.cls := findClass_of_methodNamed B.named
  have hlocks := B.notSynchronized
  have hA : ∀ q, s.heap.size ≤ q → Az z q := fun q h => Nat.le_trans hz h
  have hS : va_S (Az z) s.heap s.heap [] := va_S.rf
  have hC : Mk ws ws := Mk.rf
  have hl := lv_entry ([.ref (a 34), .int x9, .int y9, .int w9]) (n := 4) (Nat.le_of_ble_eq_true rfl)
  rw [lg_entry_eq]
  generalize (lg_sl ([.ref (a 34), .int x9, .int y9, .int w9]) ++ List.replicate (4 - (lg_sl ([.ref (a 34), .int x9, .int y9, .int w9])).length) Slot.unset).toArray = ls at hl ⊢
  have hl : lv_has ls 4 [(0, .ref (a 34)), (1, .int x9), (2, .int y9), (3, .int w9)] := hl
  refine lv_aload_n hx hb d_M_power_0 rfl (lv_at hl 0 rfl) ?_
  refine lv_iload_n hx hb d_M_power_1 rfl (lv_at hl 1 rfl) ?_
  refine lv_if_lt (tgt := 32) hx hb d_M_power_2 rfl (fun q1 => ?_) (fun q1 => ?_)
  · skip
    refine lv_iconst (v := 1) hx hb d_M_power_32 (by decide) ?_
    refine lv_goto (tgt := 37) hx hb d_M_power_33 rfl ?_
    refine va_put (D := D) (ci := 6) (v := .int 1) (ty := .int) (C := R_M) (T := F_M) (N := 17) hx hb hts ws_M t_M ok_M n_M hown hK hP hD hS 34 hI.1 rfl 16 (by decide) (hts _ fl_M_40) (fun _ h9 => h9) rfl (by decide +kernel) rfl rfl (Nat.le_of_ble_eq_true rfl) d_M_power_37 (fun H locs hP hD hS => ?_)
    obtain ⟨v2, hv2⟩ : ∃ q : Nat → Int32, q = upd v 10 1 := ⟨_, rfl⟩
    have gv2 : v2 10 = 1 := by rw [hv2]; exact pk_us
    have nv2 : ∀ i, i ≠ 10 → v2 i = v i := fun i hi => by rw [hv2]; exact pk_un hi
    have hP : va_P D Cl (ws.set 34 (cMo a v2)) H := by rw [hv2]; exact hP
    have hD : va_D (Az z) (ws.set 34 (cMo a v2)) := by rw [hv2]; exact hD
    obtain ⟨w3, hw⟩ : ∃ q, q = ws.set 34 (cMo a v2) := ⟨_, rfl⟩
    have hP : va_P D Cl (ws.set 34 (cMo a v2)) H := hP
    have hD : va_D (Az z) (ws.set 34 (cMo a v2)) := hD
    have hC := hC.set (p := 34) (c := (cMo a v2)) (by decide) (by decide)
    have hI := hI.setO (v' := v2) ⟨by rw [nv2 0 (by decide)]; exact hI.2.1.1, by rw [nv2 2 (by decide)]; exact hI.2.1.2.1, by rw [nv2 3 (by decide)]; exact hI.2.1.2.2.1, by rw [nv2 4 (by decide)]; exact hI.2.1.2.2.2⟩
    rw [← hw] at hP hD hC hI
    clear hw
    refine lv_aload_n hx hb d_M_power_40 rfl (lv_at hl 0 rfl) ?_
    refine va_get (D := D) (ci := 6) (v := .int (v2 10)) (C := R_M) (T := F_M) (N := 17) hx hb hts ws_M hown hK hP 34 hI.1 rfl 16 (by decide) (hts _ fl_M_40) (fun _ h9 => h9) rfl d_M_power_41 ?_
    refine W.eq (g2 := F0 m 44 ls [.int 1]) (by rw [gv2]) ?_
    refine lv_if_le (tgt := 48) hx hb d_M_power_44 rfl (fun h => absurd h (by decide)) (fun _ => ?_)
    exact W.vret hx hb hr (fun t9 ht hW => ⟨⟨w3, rfl, ⟨_, hI, hC, Or.inr ⟨by rw [gv2], fun ⟨h1, h2, h3, h4, h5, h6⟩ => by first | exact h1 (by assumption) | exact absurd (by assumption : (4 : Int32) < x9) (Int32.not_lt.mpr h2) | exact h3 (by assumption) | exact absurd (by assumption : (1000 : Int32) < y9) (Int32.not_lt.mpr h4) | exact h5 (by assumption) | exact (by assumption : ¬ w9 ≤ 300) h6⟩⟩, ⟨by rw [ht]; exact hP, va_K.moved hW.alike hK, hD, by rw [ht]; exact Nat.le_trans hz hS.1⟩⟩, hS.F ht⟩) hS.2.2 d_M_power_47
  · skip
    refine lv_iload_n hx hb d_M_power_5 rfl (lv_at hl 1 rfl) ?_
    refine lv_iconst (v := 4) hx hb d_M_power_6 (by decide) ?_
    refine lv_icmp_gt (tgt := 32) hx hb d_M_power_7 rfl (fun q4 => ?_) (fun q4 => ?_)
    · skip
      refine lv_iconst (v := 1) hx hb d_M_power_32 (by decide) ?_
      refine lv_goto (tgt := 37) hx hb d_M_power_33 rfl ?_
      refine va_put (D := D) (ci := 6) (v := .int 1) (ty := .int) (C := R_M) (T := F_M) (N := 17) hx hb hts ws_M t_M ok_M n_M hown hK hP hD hS 34 hI.1 rfl 16 (by decide) (hts _ fl_M_40) (fun _ h9 => h9) rfl (by decide +kernel) rfl rfl (Nat.le_of_ble_eq_true rfl) d_M_power_37 (fun H locs hP hD hS => ?_)
      obtain ⟨v5, hv5⟩ : ∃ q : Nat → Int32, q = upd v 10 1 := ⟨_, rfl⟩
      have gv5 : v5 10 = 1 := by rw [hv5]; exact pk_us
      have nv5 : ∀ i, i ≠ 10 → v5 i = v i := fun i hi => by rw [hv5]; exact pk_un hi
      have hP : va_P D Cl (ws.set 34 (cMo a v5)) H := by rw [hv5]; exact hP
      have hD : va_D (Az z) (ws.set 34 (cMo a v5)) := by rw [hv5]; exact hD
      obtain ⟨w6, hw⟩ : ∃ q, q = ws.set 34 (cMo a v5) := ⟨_, rfl⟩
      have hP : va_P D Cl (ws.set 34 (cMo a v5)) H := hP
      have hD : va_D (Az z) (ws.set 34 (cMo a v5)) := hD
      have hC := hC.set (p := 34) (c := (cMo a v5)) (by decide) (by decide)
      have hI := hI.setO (v' := v5) ⟨by rw [nv5 0 (by decide)]; exact hI.2.1.1, by rw [nv5 2 (by decide)]; exact hI.2.1.2.1, by rw [nv5 3 (by decide)]; exact hI.2.1.2.2.1, by rw [nv5 4 (by decide)]; exact hI.2.1.2.2.2⟩
      rw [← hw] at hP hD hC hI
      clear hw
      refine lv_aload_n hx hb d_M_power_40 rfl (lv_at hl 0 rfl) ?_
      refine va_get (D := D) (ci := 6) (v := .int (v5 10)) (C := R_M) (T := F_M) (N := 17) hx hb hts ws_M hown hK hP 34 hI.1 rfl 16 (by decide) (hts _ fl_M_40) (fun _ h9 => h9) rfl d_M_power_41 ?_
      refine W.eq (g2 := F0 m 44 ls [.int 1]) (by rw [gv5]) ?_
      refine lv_if_le (tgt := 48) hx hb d_M_power_44 rfl (fun h => absurd h (by decide)) (fun _ => ?_)
      exact W.vret hx hb hr (fun t9 ht hW => ⟨⟨w6, rfl, ⟨_, hI, hC, Or.inr ⟨by rw [gv5], fun ⟨h1, h2, h3, h4, h5, h6⟩ => by first | exact h1 (by assumption) | exact absurd (by assumption : (4 : Int32) < x9) (Int32.not_lt.mpr h2) | exact h3 (by assumption) | exact absurd (by assumption : (1000 : Int32) < y9) (Int32.not_lt.mpr h4) | exact h5 (by assumption) | exact (by assumption : ¬ w9 ≤ 300) h6⟩⟩, ⟨by rw [ht]; exact hP, va_K.moved hW.alike hK, hD, by rw [ht]; exact Nat.le_trans hz hS.1⟩⟩, hS.F ht⟩) hS.2.2 d_M_power_47
    · skip
      refine lv_iload_n hx hb d_M_power_10 rfl (lv_at hl 2 rfl) ?_
      refine lv_if_lt (tgt := 32) hx hb d_M_power_11 rfl (fun q7 => ?_) (fun q7 => ?_)
      · skip
        refine lv_iconst (v := 1) hx hb d_M_power_32 (by decide) ?_
        refine lv_goto (tgt := 37) hx hb d_M_power_33 rfl ?_
        refine va_put (D := D) (ci := 6) (v := .int 1) (ty := .int) (C := R_M) (T := F_M) (N := 17) hx hb hts ws_M t_M ok_M n_M hown hK hP hD hS 34 hI.1 rfl 16 (by decide) (hts _ fl_M_40) (fun _ h9 => h9) rfl (by decide +kernel) rfl rfl (Nat.le_of_ble_eq_true rfl) d_M_power_37 (fun H locs hP hD hS => ?_)
        obtain ⟨v8, hv8⟩ : ∃ q : Nat → Int32, q = upd v 10 1 := ⟨_, rfl⟩
        have gv8 : v8 10 = 1 := by rw [hv8]; exact pk_us
        have nv8 : ∀ i, i ≠ 10 → v8 i = v i := fun i hi => by rw [hv8]; exact pk_un hi
        have hP : va_P D Cl (ws.set 34 (cMo a v8)) H := by rw [hv8]; exact hP
        have hD : va_D (Az z) (ws.set 34 (cMo a v8)) := by rw [hv8]; exact hD
        obtain ⟨w10, hw⟩ : ∃ q, q = ws.set 34 (cMo a v8) := ⟨_, rfl⟩
        have hP : va_P D Cl (ws.set 34 (cMo a v8)) H := hP
        have hD : va_D (Az z) (ws.set 34 (cMo a v8)) := hD
        have hC := hC.set (p := 34) (c := (cMo a v8)) (by decide) (by decide)
        have hI := hI.setO (v' := v8) ⟨by rw [nv8 0 (by decide)]; exact hI.2.1.1, by rw [nv8 2 (by decide)]; exact hI.2.1.2.1, by rw [nv8 3 (by decide)]; exact hI.2.1.2.2.1, by rw [nv8 4 (by decide)]; exact hI.2.1.2.2.2⟩
        rw [← hw] at hP hD hC hI
        clear hw
        refine lv_aload_n hx hb d_M_power_40 rfl (lv_at hl 0 rfl) ?_
        refine va_get (D := D) (ci := 6) (v := .int (v8 10)) (C := R_M) (T := F_M) (N := 17) hx hb hts ws_M hown hK hP 34 hI.1 rfl 16 (by decide) (hts _ fl_M_40) (fun _ h9 => h9) rfl d_M_power_41 ?_
        refine W.eq (g2 := F0 m 44 ls [.int 1]) (by rw [gv8]) ?_
        refine lv_if_le (tgt := 48) hx hb d_M_power_44 rfl (fun h => absurd h (by decide)) (fun _ => ?_)
        exact W.vret hx hb hr (fun t9 ht hW => ⟨⟨w10, rfl, ⟨_, hI, hC, Or.inr ⟨by rw [gv8], fun ⟨h1, h2, h3, h4, h5, h6⟩ => by first | exact h1 (by assumption) | exact absurd (by assumption : (4 : Int32) < x9) (Int32.not_lt.mpr h2) | exact h3 (by assumption) | exact absurd (by assumption : (1000 : Int32) < y9) (Int32.not_lt.mpr h4) | exact h5 (by assumption) | exact (by assumption : ¬ w9 ≤ 300) h6⟩⟩, ⟨by rw [ht]; exact hP, va_K.moved hW.alike hK, hD, by rw [ht]; exact Nat.le_trans hz hS.1⟩⟩, hS.F ht⟩) hS.2.2 d_M_power_47
      · skip
        refine lv_iload_n hx hb d_M_power_14 rfl (lv_at hl 2 rfl) ?_
        refine lv_sipush (v := 1000) hx hb d_M_power_15 (by decide) ?_
        refine lv_icmp_gt (tgt := 32) hx hb d_M_power_18 rfl (fun q11 => ?_) (fun q11 => ?_)
        · skip
          refine lv_iconst (v := 1) hx hb d_M_power_32 (by decide) ?_
          refine lv_goto (tgt := 37) hx hb d_M_power_33 rfl ?_
          refine va_put (D := D) (ci := 6) (v := .int 1) (ty := .int) (C := R_M) (T := F_M) (N := 17) hx hb hts ws_M t_M ok_M n_M hown hK hP hD hS 34 hI.1 rfl 16 (by decide) (hts _ fl_M_40) (fun _ h9 => h9) rfl (by decide +kernel) rfl rfl (Nat.le_of_ble_eq_true rfl) d_M_power_37 (fun H locs hP hD hS => ?_)
          obtain ⟨v12, hv12⟩ : ∃ q : Nat → Int32, q = upd v 10 1 := ⟨_, rfl⟩
          have gv12 : v12 10 = 1 := by rw [hv12]; exact pk_us
          have nv12 : ∀ i, i ≠ 10 → v12 i = v i := fun i hi => by rw [hv12]; exact pk_un hi
          have hP : va_P D Cl (ws.set 34 (cMo a v12)) H := by rw [hv12]; exact hP
          have hD : va_D (Az z) (ws.set 34 (cMo a v12)) := by rw [hv12]; exact hD
          obtain ⟨w13, hw⟩ : ∃ q, q = ws.set 34 (cMo a v12) := ⟨_, rfl⟩
          have hP : va_P D Cl (ws.set 34 (cMo a v12)) H := hP
          have hD : va_D (Az z) (ws.set 34 (cMo a v12)) := hD
          have hC := hC.set (p := 34) (c := (cMo a v12)) (by decide) (by decide)
          have hI := hI.setO (v' := v12) ⟨by rw [nv12 0 (by decide)]; exact hI.2.1.1, by rw [nv12 2 (by decide)]; exact hI.2.1.2.1, by rw [nv12 3 (by decide)]; exact hI.2.1.2.2.1, by rw [nv12 4 (by decide)]; exact hI.2.1.2.2.2⟩
          rw [← hw] at hP hD hC hI
          clear hw
          refine lv_aload_n hx hb d_M_power_40 rfl (lv_at hl 0 rfl) ?_
          refine va_get (D := D) (ci := 6) (v := .int (v12 10)) (C := R_M) (T := F_M) (N := 17) hx hb hts ws_M hown hK hP 34 hI.1 rfl 16 (by decide) (hts _ fl_M_40) (fun _ h9 => h9) rfl d_M_power_41 ?_
          refine W.eq (g2 := F0 m 44 ls [.int 1]) (by rw [gv12]) ?_
          refine lv_if_le (tgt := 48) hx hb d_M_power_44 rfl (fun h => absurd h (by decide)) (fun _ => ?_)
          exact W.vret hx hb hr (fun t9 ht hW => ⟨⟨w13, rfl, ⟨_, hI, hC, Or.inr ⟨by rw [gv12], fun ⟨h1, h2, h3, h4, h5, h6⟩ => by first | exact h1 (by assumption) | exact absurd (by assumption : (4 : Int32) < x9) (Int32.not_lt.mpr h2) | exact h3 (by assumption) | exact absurd (by assumption : (1000 : Int32) < y9) (Int32.not_lt.mpr h4) | exact h5 (by assumption) | exact (by assumption : ¬ w9 ≤ 300) h6⟩⟩, ⟨by rw [ht]; exact hP, va_K.moved hW.alike hK, hD, by rw [ht]; exact Nat.le_trans hz hS.1⟩⟩, hS.F ht⟩) hS.2.2 d_M_power_47
        · skip
          refine lv_iload_n hx hb d_M_power_21 rfl (lv_at hl 3 rfl) ?_
          refine lv_if_lt (tgt := 32) hx hb d_M_power_22 rfl (fun q14 => ?_) (fun q14 => ?_)
          · skip
            refine lv_iconst (v := 1) hx hb d_M_power_32 (by decide) ?_
            refine lv_goto (tgt := 37) hx hb d_M_power_33 rfl ?_
            refine va_put (D := D) (ci := 6) (v := .int 1) (ty := .int) (C := R_M) (T := F_M) (N := 17) hx hb hts ws_M t_M ok_M n_M hown hK hP hD hS 34 hI.1 rfl 16 (by decide) (hts _ fl_M_40) (fun _ h9 => h9) rfl (by decide +kernel) rfl rfl (Nat.le_of_ble_eq_true rfl) d_M_power_37 (fun H locs hP hD hS => ?_)
            obtain ⟨v15, hv15⟩ : ∃ q : Nat → Int32, q = upd v 10 1 := ⟨_, rfl⟩
            have gv15 : v15 10 = 1 := by rw [hv15]; exact pk_us
            have nv15 : ∀ i, i ≠ 10 → v15 i = v i := fun i hi => by rw [hv15]; exact pk_un hi
            have hP : va_P D Cl (ws.set 34 (cMo a v15)) H := by rw [hv15]; exact hP
            have hD : va_D (Az z) (ws.set 34 (cMo a v15)) := by rw [hv15]; exact hD
            obtain ⟨w16, hw⟩ : ∃ q, q = ws.set 34 (cMo a v15) := ⟨_, rfl⟩
            have hP : va_P D Cl (ws.set 34 (cMo a v15)) H := hP
            have hD : va_D (Az z) (ws.set 34 (cMo a v15)) := hD
            have hC := hC.set (p := 34) (c := (cMo a v15)) (by decide) (by decide)
            have hI := hI.setO (v' := v15) ⟨by rw [nv15 0 (by decide)]; exact hI.2.1.1, by rw [nv15 2 (by decide)]; exact hI.2.1.2.1, by rw [nv15 3 (by decide)]; exact hI.2.1.2.2.1, by rw [nv15 4 (by decide)]; exact hI.2.1.2.2.2⟩
            rw [← hw] at hP hD hC hI
            clear hw
            refine lv_aload_n hx hb d_M_power_40 rfl (lv_at hl 0 rfl) ?_
            refine va_get (D := D) (ci := 6) (v := .int (v15 10)) (C := R_M) (T := F_M) (N := 17) hx hb hts ws_M hown hK hP 34 hI.1 rfl 16 (by decide) (hts _ fl_M_40) (fun _ h9 => h9) rfl d_M_power_41 ?_
            refine W.eq (g2 := F0 m 44 ls [.int 1]) (by rw [gv15]) ?_
            refine lv_if_le (tgt := 48) hx hb d_M_power_44 rfl (fun h => absurd h (by decide)) (fun _ => ?_)
            exact W.vret hx hb hr (fun t9 ht hW => ⟨⟨w16, rfl, ⟨_, hI, hC, Or.inr ⟨by rw [gv15], fun ⟨h1, h2, h3, h4, h5, h6⟩ => by first | exact h1 (by assumption) | exact absurd (by assumption : (4 : Int32) < x9) (Int32.not_lt.mpr h2) | exact h3 (by assumption) | exact absurd (by assumption : (1000 : Int32) < y9) (Int32.not_lt.mpr h4) | exact h5 (by assumption) | exact (by assumption : ¬ w9 ≤ 300) h6⟩⟩, ⟨by rw [ht]; exact hP, va_K.moved hW.alike hK, hD, by rw [ht]; exact Nat.le_trans hz hS.1⟩⟩, hS.F ht⟩) hS.2.2 d_M_power_47
          · skip
            refine lv_iload_n hx hb d_M_power_25 rfl (lv_at hl 3 rfl) ?_
            refine lv_sipush (v := 300) hx hb d_M_power_26 (by decide) ?_
            refine lv_icmp_le (tgt := 36) hx hb d_M_power_29 rfl (fun q17 => ?_) (fun q17 => ?_)
            · skip
              refine lv_iconst (v := 0) hx hb d_M_power_36 (by decide) ?_
              refine va_put (D := D) (ci := 6) (v := .int 0) (ty := .int) (C := R_M) (T := F_M) (N := 17) hx hb hts ws_M t_M ok_M n_M hown hK hP hD hS 34 hI.1 rfl 16 (by decide) (hts _ fl_M_40) (fun _ h9 => h9) rfl (by decide +kernel) rfl rfl (Nat.le_of_ble_eq_true rfl) d_M_power_37 (fun H locs hP hD hS => ?_)
              obtain ⟨v18, hv18⟩ : ∃ q : Nat → Int32, q = upd v 10 0 := ⟨_, rfl⟩
              have gv18 : v18 10 = 0 := by rw [hv18]; exact pk_us
              have nv18 : ∀ i, i ≠ 10 → v18 i = v i := fun i hi => by rw [hv18]; exact pk_un hi
              have hP : va_P D Cl (ws.set 34 (cMo a v18)) H := by rw [hv18]; exact hP
              have hD : va_D (Az z) (ws.set 34 (cMo a v18)) := by rw [hv18]; exact hD
              obtain ⟨w19, hw⟩ : ∃ q, q = ws.set 34 (cMo a v18) := ⟨_, rfl⟩
              have hP : va_P D Cl (ws.set 34 (cMo a v18)) H := hP
              have hD : va_D (Az z) (ws.set 34 (cMo a v18)) := hD
              have hC := hC.set (p := 34) (c := (cMo a v18)) (by decide) (by decide)
              have hI := hI.setO (v' := v18) ⟨by rw [nv18 0 (by decide)]; exact hI.2.1.1, by rw [nv18 2 (by decide)]; exact hI.2.1.2.1, by rw [nv18 3 (by decide)]; exact hI.2.1.2.2.1, by rw [nv18 4 (by decide)]; exact hI.2.1.2.2.2⟩
              rw [← hw] at hP hD hC hI
              clear hw
              refine lv_aload_n hx hb d_M_power_40 rfl (lv_at hl 0 rfl) ?_
              refine va_get (D := D) (ci := 6) (v := .int (v18 10)) (C := R_M) (T := F_M) (N := 17) hx hb hts ws_M hown hK hP 34 hI.1 rfl 16 (by decide) (hts _ fl_M_40) (fun _ h9 => h9) rfl d_M_power_41 ?_
              refine W.eq (g2 := F0 m 44 ls [.int 0]) (by rw [gv18]) ?_
              refine lv_if_le (tgt := 48) hx hb d_M_power_44 rfl (fun _ => ?_) (fun h => absurd h (by decide))
              refine lv_aload_n hx hb d_M_power_48 rfl (lv_at hl 0 rfl) ?_
              refine lv_iload_n hx hb d_M_power_49 rfl (lv_at hl 1 rfl) ?_
              refine va_put (D := D) (ci := 6) (v := .int x9) (ty := .int) (C := R_M) (T := F_M) (N := 17) hx hb hts ws_M t_M ok_M n_M hown hK hP hD hS 34 hI.1 rfl 14 (by decide) (hts _ fl_M_37) (fun _ h9 => h9) rfl (by decide +kernel) rfl rfl (Nat.le_of_ble_eq_true rfl) d_M_power_50 (fun H locs hP hD hS => ?_)
              obtain ⟨v20, hv20⟩ : ∃ q : Nat → Int32, q = upd v18 8 x9 := ⟨_, rfl⟩
              have gv20 : v20 8 = x9 := by rw [hv20]; exact pk_us
              have nv20 : ∀ i, i ≠ 8 → v20 i = v18 i := fun i hi => by rw [hv20]; exact pk_un hi
              have hP : va_P D Cl (w19.set 34 (cMo a v20)) H := by rw [hv20]; exact hP
              have hD : va_D (Az z) (w19.set 34 (cMo a v20)) := by rw [hv20]; exact hD
              obtain ⟨w21, hw⟩ : ∃ q, q = w19.set 34 (cMo a v20) := ⟨_, rfl⟩
              have hP : va_P D Cl (w19.set 34 (cMo a v20)) H := hP
              have hD : va_D (Az z) (w19.set 34 (cMo a v20)) := hD
              have hC := hC.set (p := 34) (c := (cMo a v20)) (by decide) (by decide)
              have hI := hI.setO (v' := v20) ⟨by rw [nv20 0 (by decide)]; exact hI.2.1.1, by rw [nv20 2 (by decide)]; exact hI.2.1.2.1, by rw [nv20 3 (by decide)]; exact hI.2.1.2.2.1, by rw [nv20 4 (by decide)]; exact hI.2.1.2.2.2⟩
              rw [← hw] at hP hD hC hI
              clear hw
              refine lv_aload_n hx hb d_M_power_53 rfl (lv_at hl 0 rfl) ?_
              refine lv_iload_n hx hb d_M_power_54 rfl (lv_at hl 2 rfl) ?_
              refine va_put (D := D) (ci := 6) (v := .int y9) (ty := .int) (C := R_M) (T := F_M) (N := 17) hx hb hts ws_M t_M ok_M n_M hown hK hP hD hS 34 hI.1 rfl 15 (by decide) (hts _ fl_M_86) (fun _ h9 => h9) rfl (by decide +kernel) rfl rfl (Nat.le_of_ble_eq_true rfl) d_M_power_55 (fun H locs hP hD hS => ?_)
              obtain ⟨v22, hv22⟩ : ∃ q : Nat → Int32, q = upd v20 9 y9 := ⟨_, rfl⟩
              have gv22 : v22 9 = y9 := by rw [hv22]; exact pk_us
              have nv22 : ∀ i, i ≠ 9 → v22 i = v20 i := fun i hi => by rw [hv22]; exact pk_un hi
              have hP : va_P D Cl (w21.set 34 (cMo a v22)) H := by rw [hv22]; exact hP
              have hD : va_D (Az z) (w21.set 34 (cMo a v22)) := by rw [hv22]; exact hD
              obtain ⟨w23, hw⟩ : ∃ q, q = w21.set 34 (cMo a v22) := ⟨_, rfl⟩
              have hP : va_P D Cl (w21.set 34 (cMo a v22)) H := hP
              have hD : va_D (Az z) (w21.set 34 (cMo a v22)) := hD
              have hC := hC.set (p := 34) (c := (cMo a v22)) (by decide) (by decide)
              have hI := hI.setO (v' := v22) ⟨by rw [nv22 0 (by decide)]; exact hI.2.1.1, by rw [nv22 2 (by decide)]; exact hI.2.1.2.1, by rw [nv22 3 (by decide)]; exact hI.2.1.2.2.1, by rw [nv22 4 (by decide)]; exact hI.2.1.2.2.2⟩
              rw [← hw] at hP hD hC hI
              clear hw
              exact W.vret hx hb hr (fun t9 ht hW => ⟨⟨w23, rfl, ⟨_, hI, hC, Or.inl ⟨by rw [nv22 10 (by decide), nv20 10 (by decide), gv18], by assumption, Int32.not_lt.mp (by assumption), by assumption, Int32.not_lt.mp (by assumption), by assumption, by assumption⟩⟩, ⟨by rw [ht]; exact hP, va_K.moved hW.alike hK, hD, by rw [ht]; exact Nat.le_trans hz hS.1⟩⟩, hS.F ht⟩) hS.2.2 d_M_power_58
            · skip
              refine lv_iconst (v := 1) hx hb d_M_power_32 (by decide) ?_
              refine lv_goto (tgt := 37) hx hb d_M_power_33 rfl ?_
              refine va_put (D := D) (ci := 6) (v := .int 1) (ty := .int) (C := R_M) (T := F_M) (N := 17) hx hb hts ws_M t_M ok_M n_M hown hK hP hD hS 34 hI.1 rfl 16 (by decide) (hts _ fl_M_40) (fun _ h9 => h9) rfl (by decide +kernel) rfl rfl (Nat.le_of_ble_eq_true rfl) d_M_power_37 (fun H locs hP hD hS => ?_)
              obtain ⟨v24, hv24⟩ : ∃ q : Nat → Int32, q = upd v 10 1 := ⟨_, rfl⟩
              have gv24 : v24 10 = 1 := by rw [hv24]; exact pk_us
              have nv24 : ∀ i, i ≠ 10 → v24 i = v i := fun i hi => by rw [hv24]; exact pk_un hi
              have hP : va_P D Cl (ws.set 34 (cMo a v24)) H := by rw [hv24]; exact hP
              have hD : va_D (Az z) (ws.set 34 (cMo a v24)) := by rw [hv24]; exact hD
              obtain ⟨w25, hw⟩ : ∃ q, q = ws.set 34 (cMo a v24) := ⟨_, rfl⟩
              have hP : va_P D Cl (ws.set 34 (cMo a v24)) H := hP
              have hD : va_D (Az z) (ws.set 34 (cMo a v24)) := hD
              have hC := hC.set (p := 34) (c := (cMo a v24)) (by decide) (by decide)
              have hI := hI.setO (v' := v24) ⟨by rw [nv24 0 (by decide)]; exact hI.2.1.1, by rw [nv24 2 (by decide)]; exact hI.2.1.2.1, by rw [nv24 3 (by decide)]; exact hI.2.1.2.2.1, by rw [nv24 4 (by decide)]; exact hI.2.1.2.2.2⟩
              rw [← hw] at hP hD hC hI
              clear hw
              refine lv_aload_n hx hb d_M_power_40 rfl (lv_at hl 0 rfl) ?_
              refine va_get (D := D) (ci := 6) (v := .int (v24 10)) (C := R_M) (T := F_M) (N := 17) hx hb hts ws_M hown hK hP 34 hI.1 rfl 16 (by decide) (hts _ fl_M_40) (fun _ h9 => h9) rfl d_M_power_41 ?_
              refine W.eq (g2 := F0 m 44 ls [.int 1]) (by rw [gv24]) ?_
              refine lv_if_le (tgt := 48) hx hb d_M_power_44 rfl (fun h => absurd h (by decide)) (fun _ => ?_)
              exact W.vret hx hb hr (fun t9 ht hW => ⟨⟨w25, rfl, ⟨_, hI, hC, Or.inr ⟨by rw [gv24], fun ⟨h1, h2, h3, h4, h5, h6⟩ => by first | exact h1 (by assumption) | exact absurd (by assumption : (4 : Int32) < x9) (Int32.not_lt.mpr h2) | exact h3 (by assumption) | exact absurd (by assumption : (1000 : Int32) < y9) (Int32.not_lt.mpr h4) | exact h5 (by assumption) | exact (by assumption : ¬ w9 ≤ 300) h6⟩⟩, ⟨by rw [ht]; exact hP, va_K.moved hW.alike hK, hD, by rw [ht]; exact Nat.le_trans hz hS.1⟩⟩, hS.F ht⟩) hS.2.2 d_M_power_47
set_option maxHeartbeats 4000000 in
set_option maxRecDepth 100000 in
theorem c_M_reopen {l : Launch} {D : va_G} {t : Nat → ClassId} {z : Nat} {sa : Nat → Nat} {ws : va_W} {a : Nat → Nat} {NV : Nat} {v : Nat → Int32}  (hI : Mi a t NV v ws)  : Met l y_M_reopen (Cond.code y_M_reopen b_M_reopen 1 (some .int) :: WS) ({ frames := 1, cells := 0, slots := 0, locals := 21 }) (Pz D t z sa ws [.ref (a 34)]) (va_Qi (fun (r : Int32) (u : va_W) => ∃ v1, Mi a t NV v1 u ∧ Mk ws u) (fun u U => Wd D t z u U) (Az z)) 0 0 (Az z) := by
  refine Met.ofW (cc := b_M_reopen) (maxL := 1) (ret := (some .int)) (by decide) rfl ?_
  intro p e s m args below meth c s₁ B hml hv
  obtain ⟨rfl, ⟨hP, hK, hD, hz⟩, hM⟩ := hv
  have hx := B.exec
  have hb := B.bytes
  have hr := B.returns
  have hts : ∀ w ∈ WS, w.before [.ref (a 34)].toArray s = true := fun w h => atoms_spec B.pre w (List.mem_cons_of_mem _ h)
  have hown : s.vm.findClass R_M = some m.cls := findClass_of_methodNamed B.named
  have hlocks := B.notSynchronized
  have hA : ∀ q, s.heap.size ≤ q → Az z q := fun q h => Nat.le_trans hz h
  have hS : va_S (Az z) s.heap s.heap [] := va_S.rf
  have hC : Mk ws ws := Mk.rf
  have hl := lv_entry ([.ref (a 34)]) (n := 1) (Nat.le_of_ble_eq_true rfl)
  rw [lg_entry_eq]
  generalize (lg_sl ([.ref (a 34)]) ++ List.replicate (1 - (lg_sl ([.ref (a 34)])).length) Slot.unset).toArray = ls at hl ⊢
  have hl : lv_has ls 1 [(0, .ref (a 34))] := hl
  refine lv_aload_n hx hb d_M_reopen_0 rfl (lv_at hl 0 rfl) ?_
  refine va_callv (va_runV (As := []) (rest := []) ⟨hx, hb, hml, hown, hts⟩ (c_M_fall (D := D) (t := t) (z := z) (sa := sa) (ws := ws)  hI ) (cwV 0 hts (gd_V ml_M_92 im_M_fall se_M_fall in_M cd_M_fall) rfl rfl rfl (by decide +kernel) ⟨Nat.le_of_ble_eq_true rfl, Nat.le_of_ble_eq_true rfl⟩) ⟨Pz_blind, va_recv hK hP (ci := 6) rfl hI.1, Pz_at hP hK hD hz hM hS⟩ rfl rfl hl.1 rfl (lv_room (Nat.le_of_ble_eq_true rfl)) d_M_reopen_1 ⟨Nat.le_of_ble_eq_true rfl, Nat.le_of_ble_eq_true rfl⟩) hS (fun q _ h => h) (fun q h => h) (fun u1 t9 H locs ht hvm hp hB hz1 hk1 hS => ?_)
  obtain ⟨hP, hK9, hD, -⟩ := hB
  rw [ht] at hP
  clear hK9
  obtain ⟨v3, hI, hC9⟩ := hp
  have hC := hC.trans hC9
  refine lv_aload_n hx hb d_M_reopen_4 rfl (lv_at hl 0 rfl) ?_
  refine lv_aload_n hx hb d_M_reopen_5 rfl (lv_at hl 0 rfl) ?_
  refine va_get (D := D) (ci := 6) (v := .int (v3 8)) (C := R_M) (T := F_M) (N := 17) hx hb hts ws_M hown hK hP 34 hI.1 rfl 14 (by decide) (hts _ fl_M_37) (fun _ h9 => h9) rfl d_M_reopen_6 ?_
  refine lv_iconst (v := 3) hx hb d_M_reopen_9 (by decide) ?_
  refine lv_icmp_ne (tgt := 17) hx hb d_M_reopen_10 rfl (fun q4 => ?_) (fun q4 => ?_)
  · skip
    refine lv_iconst (v := 0) hx hb d_M_reopen_17 (by decide) ?_
    refine va_put (D := D) (ci := 6) (v := .int 0) (ty := .int) (C := R_M) (T := F_M) (N := 17) hx hb hts ws_M t_M ok_M n_M hown hK hP hD hS 34 hI.1 rfl 16 (by decide) (hts _ fl_M_40) (fun _ h9 => h9) rfl (by decide +kernel) rfl rfl (Nat.le_of_ble_eq_true rfl) d_M_reopen_18 (fun H locs hP hD hS => ?_)
    obtain ⟨v5, hv5⟩ : ∃ q : Nat → Int32, q = upd v3 10 0 := ⟨_, rfl⟩
    have gv5 : v5 10 = 0 := by rw [hv5]; exact pk_us
    have nv5 : ∀ i, i ≠ 10 → v5 i = v3 i := fun i hi => by rw [hv5]; exact pk_un hi
    have hP : va_P D Cl (u1.set 34 (cMo a v5)) H := by rw [hv5]; exact hP
    have hD : va_D (Az z) (u1.set 34 (cMo a v5)) := by rw [hv5]; exact hD
    obtain ⟨w6, hw⟩ : ∃ q, q = u1.set 34 (cMo a v5) := ⟨_, rfl⟩
    have hP : va_P D Cl (u1.set 34 (cMo a v5)) H := hP
    have hD : va_D (Az z) (u1.set 34 (cMo a v5)) := hD
    have hC := hC.set (p := 34) (c := (cMo a v5)) (by decide) (by decide)
    have hI := hI.setO (v' := v5) ⟨by rw [nv5 0 (by decide)]; exact hI.2.1.1, by rw [nv5 2 (by decide)]; exact hI.2.1.2.1, by rw [nv5 3 (by decide)]; exact hI.2.1.2.2.1, by rw [nv5 4 (by decide)]; exact hI.2.1.2.2.2⟩
    rw [← hw] at hP hD hC hI
    clear hw
    refine lv_aload_n hx hb d_M_reopen_21 rfl (lv_at hl 0 rfl) ?_
    refine lv_aload_n hx hb d_M_reopen_22 rfl (lv_at hl 0 rfl) ?_
    refine va_get (D := D) (ci := 6) (v := .int (v5 8)) (C := R_M) (T := F_M) (N := 17) hx hb hts ws_M hown hK hP 34 hI.1 rfl 14 (by decide) (hts _ fl_M_37) (fun _ h9 => h9) rfl d_M_reopen_23 ?_
    refine lv_iconst (v := 3) hx hb d_M_reopen_26 (by decide) ?_
    refine lv_icmp_ne (tgt := 34) hx hb d_M_reopen_27 rfl (fun q7 => ?_) (fun q7 => ?_)
    · skip
      refine lv_iconst (v := 0) hx hb d_M_reopen_34 (by decide) ?_
      refine va_put (D := D) (ci := 6) (v := .int 0) (ty := .boolean) (C := R_M) (T := F_M) (N := 17) hx hb hts ws_M t_M ok_M n_M hown hK hP hD hS 34 hI.1 rfl 12 (by decide) (hts _ fl_M_46) (fun _ h9 => h9) rfl (by decide +kernel) rfl rfl (Nat.le_of_ble_eq_true rfl) d_M_reopen_35 (fun H locs hP hD hS => ?_)
      obtain ⟨v8, hv8⟩ : ∃ q : Nat → Int32, q = upd v5 6 0 := ⟨_, rfl⟩
      have gv8 : v8 6 = 0 := by rw [hv8]; exact pk_us
      have nv8 : ∀ i, i ≠ 6 → v8 i = v5 i := fun i hi => by rw [hv8]; exact pk_un hi
      have hP : va_P D Cl (w6.set 34 (cMo a v8)) H := by rw [hv8]; exact hP
      have hD : va_D (Az z) (w6.set 34 (cMo a v8)) := by rw [hv8]; exact hD
      obtain ⟨w10, hw⟩ : ∃ q, q = w6.set 34 (cMo a v8) := ⟨_, rfl⟩
      have hP : va_P D Cl (w6.set 34 (cMo a v8)) H := hP
      have hD : va_D (Az z) (w6.set 34 (cMo a v8)) := hD
      have hC := hC.set (p := 34) (c := (cMo a v8)) (by decide) (by decide)
      have hI := hI.setO (v' := v8) ⟨by rw [nv8 0 (by decide)]; exact hI.2.1.1, by rw [nv8 2 (by decide)]; exact hI.2.1.2.1, by rw [nv8 3 (by decide)]; exact hI.2.1.2.2.1, by rw [nv8 4 (by decide)]; exact hI.2.1.2.2.2⟩
      rw [← hw] at hP hD hC hI
      clear hw
      refine lv_aload_n hx hb d_M_reopen_38 rfl (lv_at hl 0 rfl) ?_
      refine lv_iconst (v := 4) hx hb d_M_reopen_39 (by decide) ?_
      refine va_put (D := D) (ci := 6) (v := .int 4) (ty := .int) (C := R_M) (T := F_M) (N := 17) hx hb hts ws_M t_M ok_M n_M hown hK hP hD hS 34 hI.1 rfl 14 (by decide) (hts _ fl_M_37) (fun _ h9 => h9) rfl (by decide +kernel) rfl rfl (Nat.le_of_ble_eq_true rfl) d_M_reopen_40 (fun H locs hP hD hS => ?_)
      obtain ⟨v11, hv11⟩ : ∃ q : Nat → Int32, q = upd v8 8 4 := ⟨_, rfl⟩
      have gv11 : v11 8 = 4 := by rw [hv11]; exact pk_us
      have nv11 : ∀ i, i ≠ 8 → v11 i = v8 i := fun i hi => by rw [hv11]; exact pk_un hi
      have hP : va_P D Cl (w10.set 34 (cMo a v11)) H := by rw [hv11]; exact hP
      have hD : va_D (Az z) (w10.set 34 (cMo a v11)) := by rw [hv11]; exact hD
      obtain ⟨w12, hw⟩ : ∃ q, q = w10.set 34 (cMo a v11) := ⟨_, rfl⟩
      have hP : va_P D Cl (w10.set 34 (cMo a v11)) H := hP
      have hD : va_D (Az z) (w10.set 34 (cMo a v11)) := hD
      have hC := hC.set (p := 34) (c := (cMo a v11)) (by decide) (by decide)
      have hI := hI.setO (v' := v11) ⟨by rw [nv11 0 (by decide)]; exact hI.2.1.1, by rw [nv11 2 (by decide)]; exact hI.2.1.2.1, by rw [nv11 3 (by decide)]; exact hI.2.1.2.2.1, by rw [nv11 4 (by decide)]; exact hI.2.1.2.2.2⟩
      rw [← hw] at hP hD hC hI
      clear hw
      refine lv_aload_n hx hb d_M_reopen_43 rfl (lv_at hl 0 rfl) ?_
      refine va_get (D := D) (ci := 6) (v := .int (v11 6)) (C := R_M) (T := F_M) (N := 17) hx hb hts ws_M hown hK hP 34 hI.1 rfl 12 (by decide) (hts _ fl_M_46) (fun _ h9 => h9) rfl d_M_reopen_44 ?_
      refine W.eq (g2 := F0 m 47 ls [.int 0]) (by rw [nv11 6 (by decide), gv8]) ?_
      refine lv_if_eq (tgt := 54) hx hb d_M_reopen_47 rfl (fun _ => ?_) (fun h => absurd h (by decide))
      refine lv_aload_n hx hb d_M_reopen_54 rfl (lv_at hl 0 rfl) ?_
      refine va_get (D := D) (ci := 6) (v := .int (v11 2)) (C := R_M) (T := F_M) (N := 17) hx hb hts ws_M hown hK hP 34 hI.1 rfl 8 (by decide) (hts _ fl_M_43) (fun _ h9 => h9) rfl d_M_reopen_55 ?_
      exact W.iret (v := (v11 2)) hx hb hr (fun t9 ht hW => ⟨⟨(v11 2), w12, rfl, ⟨_, hI, hC⟩, ⟨by rw [ht]; exact hP, va_K.moved hW.alike hK, hD, by rw [ht]; exact Nat.le_trans hz hS.1⟩⟩, hS.F ht⟩) hS.2.2 d_M_reopen_58
    · skip
      refine lv_iconst (v := 1) hx hb d_M_reopen_30 (by decide) ?_
      refine lv_goto (tgt := 35) hx hb d_M_reopen_31 rfl ?_
      refine va_put (D := D) (ci := 6) (v := .int 1) (ty := .boolean) (C := R_M) (T := F_M) (N := 17) hx hb hts ws_M t_M ok_M n_M hown hK hP hD hS 34 hI.1 rfl 12 (by decide) (hts _ fl_M_46) (fun _ h9 => h9) rfl (by decide +kernel) rfl rfl (Nat.le_of_ble_eq_true rfl) d_M_reopen_35 (fun H locs hP hD hS => ?_)
      obtain ⟨v13, hv13⟩ : ∃ q : Nat → Int32, q = upd v5 6 1 := ⟨_, rfl⟩
      have gv13 : v13 6 = 1 := by rw [hv13]; exact pk_us
      have nv13 : ∀ i, i ≠ 6 → v13 i = v5 i := fun i hi => by rw [hv13]; exact pk_un hi
      have hP : va_P D Cl (w6.set 34 (cMo a v13)) H := by rw [hv13]; exact hP
      have hD : va_D (Az z) (w6.set 34 (cMo a v13)) := by rw [hv13]; exact hD
      obtain ⟨w14, hw⟩ : ∃ q, q = w6.set 34 (cMo a v13) := ⟨_, rfl⟩
      have hP : va_P D Cl (w6.set 34 (cMo a v13)) H := hP
      have hD : va_D (Az z) (w6.set 34 (cMo a v13)) := hD
      have hC := hC.set (p := 34) (c := (cMo a v13)) (by decide) (by decide)
      have hI := hI.setO (v' := v13) ⟨by rw [nv13 0 (by decide)]; exact hI.2.1.1, by rw [nv13 2 (by decide)]; exact hI.2.1.2.1, by rw [nv13 3 (by decide)]; exact hI.2.1.2.2.1, by rw [nv13 4 (by decide)]; exact hI.2.1.2.2.2⟩
      rw [← hw] at hP hD hC hI
      clear hw
      refine lv_aload_n hx hb d_M_reopen_38 rfl (lv_at hl 0 rfl) ?_
      refine lv_iconst (v := 4) hx hb d_M_reopen_39 (by decide) ?_
      refine va_put (D := D) (ci := 6) (v := .int 4) (ty := .int) (C := R_M) (T := F_M) (N := 17) hx hb hts ws_M t_M ok_M n_M hown hK hP hD hS 34 hI.1 rfl 14 (by decide) (hts _ fl_M_37) (fun _ h9 => h9) rfl (by decide +kernel) rfl rfl (Nat.le_of_ble_eq_true rfl) d_M_reopen_40 (fun H locs hP hD hS => ?_)
      obtain ⟨v15, hv15⟩ : ∃ q : Nat → Int32, q = upd v13 8 4 := ⟨_, rfl⟩
      have gv15 : v15 8 = 4 := by rw [hv15]; exact pk_us
      have nv15 : ∀ i, i ≠ 8 → v15 i = v13 i := fun i hi => by rw [hv15]; exact pk_un hi
      have hP : va_P D Cl (w14.set 34 (cMo a v15)) H := by rw [hv15]; exact hP
      have hD : va_D (Az z) (w14.set 34 (cMo a v15)) := by rw [hv15]; exact hD
      obtain ⟨w16, hw⟩ : ∃ q, q = w14.set 34 (cMo a v15) := ⟨_, rfl⟩
      have hP : va_P D Cl (w14.set 34 (cMo a v15)) H := hP
      have hD : va_D (Az z) (w14.set 34 (cMo a v15)) := hD
      have hC := hC.set (p := 34) (c := (cMo a v15)) (by decide) (by decide)
      have hI := hI.setO (v' := v15) ⟨by rw [nv15 0 (by decide)]; exact hI.2.1.1, by rw [nv15 2 (by decide)]; exact hI.2.1.2.1, by rw [nv15 3 (by decide)]; exact hI.2.1.2.2.1, by rw [nv15 4 (by decide)]; exact hI.2.1.2.2.2⟩
      rw [← hw] at hP hD hC hI
      clear hw
      refine lv_aload_n hx hb d_M_reopen_43 rfl (lv_at hl 0 rfl) ?_
      refine va_get (D := D) (ci := 6) (v := .int (v15 6)) (C := R_M) (T := F_M) (N := 17) hx hb hts ws_M hown hK hP 34 hI.1 rfl 12 (by decide) (hts _ fl_M_46) (fun _ h9 => h9) rfl d_M_reopen_44 ?_
      refine W.eq (g2 := F0 m 47 ls [.int 1]) (by rw [nv15 6 (by decide), gv13]) ?_
      refine lv_if_eq (tgt := 54) hx hb d_M_reopen_47 rfl (fun h => absurd h (by decide)) (fun _ => ?_)
      refine lv_iconst (v := 0) hx hb d_M_reopen_50 (by decide) ?_
      refine lv_goto (tgt := 58) hx hb d_M_reopen_51 rfl ?_
      exact W.iret (v := 0) hx hb hr (fun t9 ht hW => ⟨⟨0, w16, rfl, ⟨_, hI, hC⟩, ⟨by rw [ht]; exact hP, va_K.moved hW.alike hK, hD, by rw [ht]; exact Nat.le_trans hz hS.1⟩⟩, hS.F ht⟩) hS.2.2 d_M_reopen_58
  · skip
    refine lv_iconst (v := 1) hx hb d_M_reopen_13 (by decide) ?_
    refine lv_goto (tgt := 18) hx hb d_M_reopen_14 rfl ?_
    refine va_put (D := D) (ci := 6) (v := .int 1) (ty := .int) (C := R_M) (T := F_M) (N := 17) hx hb hts ws_M t_M ok_M n_M hown hK hP hD hS 34 hI.1 rfl 16 (by decide) (hts _ fl_M_40) (fun _ h9 => h9) rfl (by decide +kernel) rfl rfl (Nat.le_of_ble_eq_true rfl) d_M_reopen_18 (fun H locs hP hD hS => ?_)
    obtain ⟨v17, hv17⟩ : ∃ q : Nat → Int32, q = upd v3 10 1 := ⟨_, rfl⟩
    have gv17 : v17 10 = 1 := by rw [hv17]; exact pk_us
    have nv17 : ∀ i, i ≠ 10 → v17 i = v3 i := fun i hi => by rw [hv17]; exact pk_un hi
    have hP : va_P D Cl (u1.set 34 (cMo a v17)) H := by rw [hv17]; exact hP
    have hD : va_D (Az z) (u1.set 34 (cMo a v17)) := by rw [hv17]; exact hD
    obtain ⟨w18, hw⟩ : ∃ q, q = u1.set 34 (cMo a v17) := ⟨_, rfl⟩
    have hP : va_P D Cl (u1.set 34 (cMo a v17)) H := hP
    have hD : va_D (Az z) (u1.set 34 (cMo a v17)) := hD
    have hC := hC.set (p := 34) (c := (cMo a v17)) (by decide) (by decide)
    have hI := hI.setO (v' := v17) ⟨by rw [nv17 0 (by decide)]; exact hI.2.1.1, by rw [nv17 2 (by decide)]; exact hI.2.1.2.1, by rw [nv17 3 (by decide)]; exact hI.2.1.2.2.1, by rw [nv17 4 (by decide)]; exact hI.2.1.2.2.2⟩
    rw [← hw] at hP hD hC hI
    clear hw
    refine lv_aload_n hx hb d_M_reopen_21 rfl (lv_at hl 0 rfl) ?_
    refine lv_aload_n hx hb d_M_reopen_22 rfl (lv_at hl 0 rfl) ?_
    refine va_get (D := D) (ci := 6) (v := .int (v17 8)) (C := R_M) (T := F_M) (N := 17) hx hb hts ws_M hown hK hP 34 hI.1 rfl 14 (by decide) (hts _ fl_M_37) (fun _ h9 => h9) rfl d_M_reopen_23 ?_
    refine lv_iconst (v := 3) hx hb d_M_reopen_26 (by decide) ?_
    refine lv_icmp_ne (tgt := 34) hx hb d_M_reopen_27 rfl (fun q19 => ?_) (fun q19 => ?_)
    · skip
      refine lv_iconst (v := 0) hx hb d_M_reopen_34 (by decide) ?_
      refine va_put (D := D) (ci := 6) (v := .int 0) (ty := .boolean) (C := R_M) (T := F_M) (N := 17) hx hb hts ws_M t_M ok_M n_M hown hK hP hD hS 34 hI.1 rfl 12 (by decide) (hts _ fl_M_46) (fun _ h9 => h9) rfl (by decide +kernel) rfl rfl (Nat.le_of_ble_eq_true rfl) d_M_reopen_35 (fun H locs hP hD hS => ?_)
      obtain ⟨v20, hv20⟩ : ∃ q : Nat → Int32, q = upd v17 6 0 := ⟨_, rfl⟩
      have gv20 : v20 6 = 0 := by rw [hv20]; exact pk_us
      have nv20 : ∀ i, i ≠ 6 → v20 i = v17 i := fun i hi => by rw [hv20]; exact pk_un hi
      have hP : va_P D Cl (w18.set 34 (cMo a v20)) H := by rw [hv20]; exact hP
      have hD : va_D (Az z) (w18.set 34 (cMo a v20)) := by rw [hv20]; exact hD
      obtain ⟨w21, hw⟩ : ∃ q, q = w18.set 34 (cMo a v20) := ⟨_, rfl⟩
      have hP : va_P D Cl (w18.set 34 (cMo a v20)) H := hP
      have hD : va_D (Az z) (w18.set 34 (cMo a v20)) := hD
      have hC := hC.set (p := 34) (c := (cMo a v20)) (by decide) (by decide)
      have hI := hI.setO (v' := v20) ⟨by rw [nv20 0 (by decide)]; exact hI.2.1.1, by rw [nv20 2 (by decide)]; exact hI.2.1.2.1, by rw [nv20 3 (by decide)]; exact hI.2.1.2.2.1, by rw [nv20 4 (by decide)]; exact hI.2.1.2.2.2⟩
      rw [← hw] at hP hD hC hI
      clear hw
      refine lv_aload_n hx hb d_M_reopen_38 rfl (lv_at hl 0 rfl) ?_
      refine lv_iconst (v := 4) hx hb d_M_reopen_39 (by decide) ?_
      refine va_put (D := D) (ci := 6) (v := .int 4) (ty := .int) (C := R_M) (T := F_M) (N := 17) hx hb hts ws_M t_M ok_M n_M hown hK hP hD hS 34 hI.1 rfl 14 (by decide) (hts _ fl_M_37) (fun _ h9 => h9) rfl (by decide +kernel) rfl rfl (Nat.le_of_ble_eq_true rfl) d_M_reopen_40 (fun H locs hP hD hS => ?_)
      obtain ⟨v22, hv22⟩ : ∃ q : Nat → Int32, q = upd v20 8 4 := ⟨_, rfl⟩
      have gv22 : v22 8 = 4 := by rw [hv22]; exact pk_us
      have nv22 : ∀ i, i ≠ 8 → v22 i = v20 i := fun i hi => by rw [hv22]; exact pk_un hi
      have hP : va_P D Cl (w21.set 34 (cMo a v22)) H := by rw [hv22]; exact hP
      have hD : va_D (Az z) (w21.set 34 (cMo a v22)) := by rw [hv22]; exact hD
      obtain ⟨w23, hw⟩ : ∃ q, q = w21.set 34 (cMo a v22) := ⟨_, rfl⟩
      have hP : va_P D Cl (w21.set 34 (cMo a v22)) H := hP
      have hD : va_D (Az z) (w21.set 34 (cMo a v22)) := hD
      have hC := hC.set (p := 34) (c := (cMo a v22)) (by decide) (by decide)
      have hI := hI.setO (v' := v22) ⟨by rw [nv22 0 (by decide)]; exact hI.2.1.1, by rw [nv22 2 (by decide)]; exact hI.2.1.2.1, by rw [nv22 3 (by decide)]; exact hI.2.1.2.2.1, by rw [nv22 4 (by decide)]; exact hI.2.1.2.2.2⟩
      rw [← hw] at hP hD hC hI
      clear hw
      refine lv_aload_n hx hb d_M_reopen_43 rfl (lv_at hl 0 rfl) ?_
      refine va_get (D := D) (ci := 6) (v := .int (v22 6)) (C := R_M) (T := F_M) (N := 17) hx hb hts ws_M hown hK hP 34 hI.1 rfl 12 (by decide) (hts _ fl_M_46) (fun _ h9 => h9) rfl d_M_reopen_44 ?_
      refine W.eq (g2 := F0 m 47 ls [.int 0]) (by rw [nv22 6 (by decide), gv20]) ?_
      refine lv_if_eq (tgt := 54) hx hb d_M_reopen_47 rfl (fun _ => ?_) (fun h => absurd h (by decide))
      refine lv_aload_n hx hb d_M_reopen_54 rfl (lv_at hl 0 rfl) ?_
      refine va_get (D := D) (ci := 6) (v := .int (v22 2)) (C := R_M) (T := F_M) (N := 17) hx hb hts ws_M hown hK hP 34 hI.1 rfl 8 (by decide) (hts _ fl_M_43) (fun _ h9 => h9) rfl d_M_reopen_55 ?_
      exact W.iret (v := (v22 2)) hx hb hr (fun t9 ht hW => ⟨⟨(v22 2), w23, rfl, ⟨_, hI, hC⟩, ⟨by rw [ht]; exact hP, va_K.moved hW.alike hK, hD, by rw [ht]; exact Nat.le_trans hz hS.1⟩⟩, hS.F ht⟩) hS.2.2 d_M_reopen_58
    · skip
      refine lv_iconst (v := 1) hx hb d_M_reopen_30 (by decide) ?_
      refine lv_goto (tgt := 35) hx hb d_M_reopen_31 rfl ?_
      refine va_put (D := D) (ci := 6) (v := .int 1) (ty := .boolean) (C := R_M) (T := F_M) (N := 17) hx hb hts ws_M t_M ok_M n_M hown hK hP hD hS 34 hI.1 rfl 12 (by decide) (hts _ fl_M_46) (fun _ h9 => h9) rfl (by decide +kernel) rfl rfl (Nat.le_of_ble_eq_true rfl) d_M_reopen_35 (fun H locs hP hD hS => ?_)
      obtain ⟨v24, hv24⟩ : ∃ q : Nat → Int32, q = upd v17 6 1 := ⟨_, rfl⟩
      have gv24 : v24 6 = 1 := by rw [hv24]; exact pk_us
      have nv24 : ∀ i, i ≠ 6 → v24 i = v17 i := fun i hi => by rw [hv24]; exact pk_un hi
      have hP : va_P D Cl (w18.set 34 (cMo a v24)) H := by rw [hv24]; exact hP
      have hD : va_D (Az z) (w18.set 34 (cMo a v24)) := by rw [hv24]; exact hD
      obtain ⟨w25, hw⟩ : ∃ q, q = w18.set 34 (cMo a v24) := ⟨_, rfl⟩
      have hP : va_P D Cl (w18.set 34 (cMo a v24)) H := hP
      have hD : va_D (Az z) (w18.set 34 (cMo a v24)) := hD
      have hC := hC.set (p := 34) (c := (cMo a v24)) (by decide) (by decide)
      have hI := hI.setO (v' := v24) ⟨by rw [nv24 0 (by decide)]; exact hI.2.1.1, by rw [nv24 2 (by decide)]; exact hI.2.1.2.1, by rw [nv24 3 (by decide)]; exact hI.2.1.2.2.1, by rw [nv24 4 (by decide)]; exact hI.2.1.2.2.2⟩
      rw [← hw] at hP hD hC hI
      clear hw
      refine lv_aload_n hx hb d_M_reopen_38 rfl (lv_at hl 0 rfl) ?_
      refine lv_iconst (v := 4) hx hb d_M_reopen_39 (by decide) ?_
      refine va_put (D := D) (ci := 6) (v := .int 4) (ty := .int) (C := R_M) (T := F_M) (N := 17) hx hb hts ws_M t_M ok_M n_M hown hK hP hD hS 34 hI.1 rfl 14 (by decide) (hts _ fl_M_37) (fun _ h9 => h9) rfl (by decide +kernel) rfl rfl (Nat.le_of_ble_eq_true rfl) d_M_reopen_40 (fun H locs hP hD hS => ?_)
      obtain ⟨v26, hv26⟩ : ∃ q : Nat → Int32, q = upd v24 8 4 := ⟨_, rfl⟩
      have gv26 : v26 8 = 4 := by rw [hv26]; exact pk_us
      have nv26 : ∀ i, i ≠ 8 → v26 i = v24 i := fun i hi => by rw [hv26]; exact pk_un hi
      have hP : va_P D Cl (w25.set 34 (cMo a v26)) H := by rw [hv26]; exact hP
      have hD : va_D (Az z) (w25.set 34 (cMo a v26)) := by rw [hv26]; exact hD
      obtain ⟨w27, hw⟩ : ∃ q, q = w25.set 34 (cMo a v26) := ⟨_, rfl⟩
      have hP : va_P D Cl (w25.set 34 (cMo a v26)) H := hP
      have hD : va_D (Az z) (w25.set 34 (cMo a v26)) := hD
      have hC := hC.set (p := 34) (c := (cMo a v26)) (by decide) (by decide)
      have hI := hI.setO (v' := v26) ⟨by rw [nv26 0 (by decide)]; exact hI.2.1.1, by rw [nv26 2 (by decide)]; exact hI.2.1.2.1, by rw [nv26 3 (by decide)]; exact hI.2.1.2.2.1, by rw [nv26 4 (by decide)]; exact hI.2.1.2.2.2⟩
      rw [← hw] at hP hD hC hI
      clear hw
      refine lv_aload_n hx hb d_M_reopen_43 rfl (lv_at hl 0 rfl) ?_
      refine va_get (D := D) (ci := 6) (v := .int (v26 6)) (C := R_M) (T := F_M) (N := 17) hx hb hts ws_M hown hK hP 34 hI.1 rfl 12 (by decide) (hts _ fl_M_46) (fun _ h9 => h9) rfl d_M_reopen_44 ?_
      refine W.eq (g2 := F0 m 47 ls [.int 1]) (by rw [nv26 6 (by decide), gv24]) ?_
      refine lv_if_eq (tgt := 54) hx hb d_M_reopen_47 rfl (fun h => absurd h (by decide)) (fun _ => ?_)
      refine lv_iconst (v := 0) hx hb d_M_reopen_50 (by decide) ?_
      refine lv_goto (tgt := 58) hx hb d_M_reopen_51 rfl ?_
      exact W.iret (v := 0) hx hb hr (fun t9 ht hW => ⟨⟨0, w27, rfl, ⟨_, hI, hC⟩, ⟨by rw [ht]; exact hP, va_K.moved hW.alike hK, hD, by rw [ht]; exact Nat.le_trans hz hS.1⟩⟩, hS.F ht⟩) hS.2.2 d_M_reopen_58
set_option maxHeartbeats 4000000 in
set_option maxRecDepth 100000 in
theorem c_M_told {l : Launch} {D : va_G} {t : Nat → ClassId} {z : Nat} {sa : Nat → Nat} {ws : va_W} {a : Nat → Nat} {NV : Nat} {v : Nat → Int32} {x9 : Int32} (hI : Mi a t NV v ws)  : Met l y_M_told (Cond.code y_M_told b_M_told 2 (some .int) :: WS) ({ frames := 0, cells := 0, slots := 0, locals := 0 }) (Pz D t z sa ws [.ref (a 34), .int x9]) (va_Qi (fun (r : Int32) (u : va_W) => ∃ v1, Mi a t NV v1 u ∧ Mk ws u) (fun u U => Wd D t z u U) (Az z)) 0 0 (Az z) := by
  refine Met.ofW (cc := b_M_told) (maxL := 2) (ret := (some .int)) (by decide) rfl ?_
  intro p e s m args below meth c s₁ B hml hv
  obtain ⟨rfl, ⟨hP, hK, hD, hz⟩, hM⟩ := hv
  have hx := B.exec
  have hb := B.bytes
  have hr := B.returns
  have hts : ∀ w ∈ WS, w.before [.ref (a 34), .int x9].toArray s = true := fun w h => atoms_spec B.pre w (List.mem_cons_of_mem _ h)
  have hown : s.vm.findClass R_M = some m.cls := findClass_of_methodNamed B.named
  have hlocks := B.notSynchronized
  have hA : ∀ q, s.heap.size ≤ q → Az z q := fun q h => Nat.le_trans hz h
  have hS : va_S (Az z) s.heap s.heap [] := va_S.rf
  have hC : Mk ws ws := Mk.rf
  have hl := lv_entry ([.ref (a 34), .int x9]) (n := 2) (Nat.le_of_ble_eq_true rfl)
  rw [lg_entry_eq]
  generalize (lg_sl ([.ref (a 34), .int x9]) ++ List.replicate (2 - (lg_sl ([.ref (a 34), .int x9])).length) Slot.unset).toArray = ls at hl ⊢
  have hl : lv_has ls 2 [(0, .ref (a 34)), (1, .int x9)] := hl
  refine lv_aload_n hx hb d_M_told_0 rfl (lv_at hl 0 rfl) ?_
  refine lv_iload_n hx hb d_M_told_1 rfl (lv_at hl 1 rfl) ?_
  refine lv_if_lt (tgt := 10) hx hb d_M_told_2 rfl (fun q1 => ?_) (fun q1 => ?_)
  · skip
    refine lv_iconst (v := 1) hx hb d_M_told_10 (by decide) ?_
    refine lv_goto (tgt := 15) hx hb d_M_told_11 rfl ?_
    refine va_put (D := D) (ci := 6) (v := .int 1) (ty := .int) (C := R_M) (T := F_M) (N := 17) hx hb hts ws_M t_M ok_M n_M hown hK hP hD hS 34 hI.1 rfl 16 (by decide) (hts _ fl_M_40) (fun _ h9 => h9) rfl (by decide +kernel) rfl rfl (Nat.le_of_ble_eq_true rfl) d_M_told_15 (fun H locs hP hD hS => ?_)
    obtain ⟨v2, hv2⟩ : ∃ q : Nat → Int32, q = upd v 10 1 := ⟨_, rfl⟩
    have gv2 : v2 10 = 1 := by rw [hv2]; exact pk_us
    have nv2 : ∀ i, i ≠ 10 → v2 i = v i := fun i hi => by rw [hv2]; exact pk_un hi
    have hP : va_P D Cl (ws.set 34 (cMo a v2)) H := by rw [hv2]; exact hP
    have hD : va_D (Az z) (ws.set 34 (cMo a v2)) := by rw [hv2]; exact hD
    obtain ⟨w3, hw⟩ : ∃ q, q = ws.set 34 (cMo a v2) := ⟨_, rfl⟩
    have hP : va_P D Cl (ws.set 34 (cMo a v2)) H := hP
    have hD : va_D (Az z) (ws.set 34 (cMo a v2)) := hD
    have hC := hC.set (p := 34) (c := (cMo a v2)) (by decide) (by decide)
    have hI := hI.setO (v' := v2) ⟨by rw [nv2 0 (by decide)]; exact hI.2.1.1, by rw [nv2 2 (by decide)]; exact hI.2.1.2.1, by rw [nv2 3 (by decide)]; exact hI.2.1.2.2.1, by rw [nv2 4 (by decide)]; exact hI.2.1.2.2.2⟩
    rw [← hw] at hP hD hC hI
    clear hw
    refine lv_aload_n hx hb d_M_told_18 rfl (lv_at hl 0 rfl) ?_
    refine va_get (D := D) (ci := 6) (v := .int (v2 10)) (C := R_M) (T := F_M) (N := 17) hx hb hts ws_M hown hK hP 34 hI.1 rfl 16 (by decide) (hts _ fl_M_40) (fun _ h9 => h9) rfl d_M_told_19 ?_
    refine W.eq (g2 := F0 m 22 ls [.int 1]) (by rw [gv2]) ?_
    refine lv_if_le (tgt := 27) hx hb d_M_told_22 rfl (fun h => absurd h (by decide)) (fun _ => ?_)
    refine lv_iconst (v := 0) hx hb d_M_told_25 (by decide) ?_
    exact W.iret (v := 0) hx hb hr (fun t9 ht hW => ⟨⟨0, w3, rfl, ⟨_, hI, hC⟩, ⟨by rw [ht]; exact hP, va_K.moved hW.alike hK, hD, by rw [ht]; exact Nat.le_trans hz hS.1⟩⟩, hS.F ht⟩) hS.2.2 d_M_told_26
  · skip
    refine lv_iload_n hx hb d_M_told_5 rfl (lv_at hl 1 rfl) ?_
    refine lv_iconst (v := 3) hx hb d_M_told_6 (by decide) ?_
    refine lv_icmp_le (tgt := 14) hx hb d_M_told_7 rfl (fun q4 => ?_) (fun q4 => ?_)
    · skip
      refine lv_iconst (v := 0) hx hb d_M_told_14 (by decide) ?_
      refine va_put (D := D) (ci := 6) (v := .int 0) (ty := .int) (C := R_M) (T := F_M) (N := 17) hx hb hts ws_M t_M ok_M n_M hown hK hP hD hS 34 hI.1 rfl 16 (by decide) (hts _ fl_M_40) (fun _ h9 => h9) rfl (by decide +kernel) rfl rfl (Nat.le_of_ble_eq_true rfl) d_M_told_15 (fun H locs hP hD hS => ?_)
      obtain ⟨v5, hv5⟩ : ∃ q : Nat → Int32, q = upd v 10 0 := ⟨_, rfl⟩
      have gv5 : v5 10 = 0 := by rw [hv5]; exact pk_us
      have nv5 : ∀ i, i ≠ 10 → v5 i = v i := fun i hi => by rw [hv5]; exact pk_un hi
      have hP : va_P D Cl (ws.set 34 (cMo a v5)) H := by rw [hv5]; exact hP
      have hD : va_D (Az z) (ws.set 34 (cMo a v5)) := by rw [hv5]; exact hD
      obtain ⟨w6, hw⟩ : ∃ q, q = ws.set 34 (cMo a v5) := ⟨_, rfl⟩
      have hP : va_P D Cl (ws.set 34 (cMo a v5)) H := hP
      have hD : va_D (Az z) (ws.set 34 (cMo a v5)) := hD
      have hC := hC.set (p := 34) (c := (cMo a v5)) (by decide) (by decide)
      have hI := hI.setO (v' := v5) ⟨by rw [nv5 0 (by decide)]; exact hI.2.1.1, by rw [nv5 2 (by decide)]; exact hI.2.1.2.1, by rw [nv5 3 (by decide)]; exact hI.2.1.2.2.1, by rw [nv5 4 (by decide)]; exact hI.2.1.2.2.2⟩
      rw [← hw] at hP hD hC hI
      clear hw
      refine lv_aload_n hx hb d_M_told_18 rfl (lv_at hl 0 rfl) ?_
      refine va_get (D := D) (ci := 6) (v := .int (v5 10)) (C := R_M) (T := F_M) (N := 17) hx hb hts ws_M hown hK hP 34 hI.1 rfl 16 (by decide) (hts _ fl_M_40) (fun _ h9 => h9) rfl d_M_told_19 ?_
      refine W.eq (g2 := F0 m 22 ls [.int 0]) (by rw [gv5]) ?_
      refine lv_if_le (tgt := 27) hx hb d_M_told_22 rfl (fun _ => ?_) (fun h => absurd h (by decide))
      refine lv_iload_n hx hb d_M_told_27 rfl (lv_at hl 1 rfl) ?_
      refine lv_if_ne (tgt := 44) hx hb d_M_told_28 rfl (fun q7 => ?_) (fun q7 => ?_)
      · skip
        refine lv_iload_n hx hb d_M_told_44 rfl (lv_at hl 1 rfl) ?_
        refine lv_iconst (v := 1) hx hb d_M_told_45 (by decide) ?_
        refine lv_icmp_ne (tgt := 62) hx hb d_M_told_46 rfl (fun q8 => ?_) (fun q8 => ?_)
        · skip
          refine lv_iload_n hx hb d_M_told_62 rfl (lv_at hl 1 rfl) ?_
          refine lv_iconst (v := 2) hx hb d_M_told_63 (by decide) ?_
          refine lv_icmp_ne (tgt := 74) hx hb d_M_told_64 rfl (fun q10 => ?_) (fun q10 => ?_)
          · skip
            refine lv_aload_n hx hb d_M_told_74 rfl (lv_at hl 0 rfl) ?_
            refine va_get (D := D) (ci := 6) (v := .int (v5 5)) (C := R_M) (T := F_M) (N := 17) hx hb hts ws_M hown hK hP 34 hI.1 rfl 11 (by decide) (hts _ fl_M_83) (fun _ h9 => h9) rfl d_M_told_75 ?_
            exact W.iret (v := (v5 5)) hx hb hr (fun t9 ht hW => ⟨⟨(v5 5), w6, rfl, ⟨_, hI, hC⟩, ⟨by rw [ht]; exact hP, va_K.moved hW.alike hK, hD, by rw [ht]; exact Nat.le_trans hz hS.1⟩⟩, hS.F ht⟩) hS.2.2 d_M_told_78
          · skip
            refine lv_aload_n hx hb d_M_told_67 rfl (lv_at hl 0 rfl) ?_
            refine va_get (D := D) (ci := 6) (v := .int (v5 4)) (C := R_M) (T := F_M) (N := 17) hx hb hts ws_M hown hK hP 34 hI.1 rfl 10 (by decide) (hts _ fl_M_77) (fun _ h9 => h9) rfl d_M_told_68 ?_
            refine lv_goto (tgt := 78) hx hb d_M_told_71 rfl ?_
            exact W.iret (v := (v5 4)) hx hb hr (fun t9 ht hW => ⟨⟨(v5 4), w6, rfl, ⟨_, hI, hC⟩, ⟨by rw [ht]; exact hP, va_K.moved hW.alike hK, hD, by rw [ht]; exact Nat.le_trans hz hS.1⟩⟩, hS.F ht⟩) hS.2.2 d_M_told_78
        · skip
          refine lv_aload_n hx hb d_M_told_49 rfl (lv_at hl 0 rfl) ?_
          refine va_get (D := D) (ci := 6) (v := .int (v5 7)) (C := R_M) (T := F_M) (N := 17) hx hb hts ws_M hown hK hP 34 hI.1 rfl 13 (by decide) (hts _ fl_M_54) (fun _ h9 => h9) rfl d_M_told_50 ?_
          refine lv_if_eq (tgt := 60) hx hb d_M_told_53 rfl (fun q11 => ?_) (fun q11 => ?_)
          · skip
            refine lv_iconst (v := 0) hx hb d_M_told_60 (by decide) ?_
            exact W.iret (v := 0) hx hb hr (fun t9 ht hW => ⟨⟨0, w6, rfl, ⟨_, hI, hC⟩, ⟨by rw [ht]; exact hP, va_K.moved hW.alike hK, hD, by rw [ht]; exact Nat.le_trans hz hS.1⟩⟩, hS.F ht⟩) hS.2.2 d_M_told_61
          · skip
            refine lv_iconst (v := 1) hx hb d_M_told_56 (by decide) ?_
            refine lv_goto (tgt := 61) hx hb d_M_told_57 rfl ?_
            exact W.iret (v := 1) hx hb hr (fun t9 ht hW => ⟨⟨1, w6, rfl, ⟨_, hI, hC⟩, ⟨by rw [ht]; exact hP, va_K.moved hW.alike hK, hD, by rw [ht]; exact Nat.le_trans hz hS.1⟩⟩, hS.F ht⟩) hS.2.2 d_M_told_61
      · skip
        refine lv_aload_n hx hb d_M_told_31 rfl (lv_at hl 0 rfl) ?_
        refine va_get (D := D) (ci := 6) (v := .int (v5 6)) (C := R_M) (T := F_M) (N := 17) hx hb hts ws_M hown hK hP 34 hI.1 rfl 12 (by decide) (hts _ fl_M_46) (fun _ h9 => h9) rfl d_M_told_32 ?_
        refine lv_if_eq (tgt := 42) hx hb d_M_told_35 rfl (fun q12 => ?_) (fun q12 => ?_)
        · skip
          refine lv_iconst (v := 1) hx hb d_M_told_42 (by decide) ?_
          exact W.iret (v := 1) hx hb hr (fun t9 ht hW => ⟨⟨1, w6, rfl, ⟨_, hI, hC⟩, ⟨by rw [ht]; exact hP, va_K.moved hW.alike hK, hD, by rw [ht]; exact Nat.le_trans hz hS.1⟩⟩, hS.F ht⟩) hS.2.2 d_M_told_43
        · skip
          refine lv_iconst (v := 0) hx hb d_M_told_38 (by decide) ?_
          refine lv_goto (tgt := 43) hx hb d_M_told_39 rfl ?_
          exact W.iret (v := 0) hx hb hr (fun t9 ht hW => ⟨⟨0, w6, rfl, ⟨_, hI, hC⟩, ⟨by rw [ht]; exact hP, va_K.moved hW.alike hK, hD, by rw [ht]; exact Nat.le_trans hz hS.1⟩⟩, hS.F ht⟩) hS.2.2 d_M_told_43
    · skip
      refine lv_iconst (v := 1) hx hb d_M_told_10 (by decide) ?_
      refine lv_goto (tgt := 15) hx hb d_M_told_11 rfl ?_
      refine va_put (D := D) (ci := 6) (v := .int 1) (ty := .int) (C := R_M) (T := F_M) (N := 17) hx hb hts ws_M t_M ok_M n_M hown hK hP hD hS 34 hI.1 rfl 16 (by decide) (hts _ fl_M_40) (fun _ h9 => h9) rfl (by decide +kernel) rfl rfl (Nat.le_of_ble_eq_true rfl) d_M_told_15 (fun H locs hP hD hS => ?_)
      obtain ⟨v13, hv13⟩ : ∃ q : Nat → Int32, q = upd v 10 1 := ⟨_, rfl⟩
      have gv13 : v13 10 = 1 := by rw [hv13]; exact pk_us
      have nv13 : ∀ i, i ≠ 10 → v13 i = v i := fun i hi => by rw [hv13]; exact pk_un hi
      have hP : va_P D Cl (ws.set 34 (cMo a v13)) H := by rw [hv13]; exact hP
      have hD : va_D (Az z) (ws.set 34 (cMo a v13)) := by rw [hv13]; exact hD
      obtain ⟨w14, hw⟩ : ∃ q, q = ws.set 34 (cMo a v13) := ⟨_, rfl⟩
      have hP : va_P D Cl (ws.set 34 (cMo a v13)) H := hP
      have hD : va_D (Az z) (ws.set 34 (cMo a v13)) := hD
      have hC := hC.set (p := 34) (c := (cMo a v13)) (by decide) (by decide)
      have hI := hI.setO (v' := v13) ⟨by rw [nv13 0 (by decide)]; exact hI.2.1.1, by rw [nv13 2 (by decide)]; exact hI.2.1.2.1, by rw [nv13 3 (by decide)]; exact hI.2.1.2.2.1, by rw [nv13 4 (by decide)]; exact hI.2.1.2.2.2⟩
      rw [← hw] at hP hD hC hI
      clear hw
      refine lv_aload_n hx hb d_M_told_18 rfl (lv_at hl 0 rfl) ?_
      refine va_get (D := D) (ci := 6) (v := .int (v13 10)) (C := R_M) (T := F_M) (N := 17) hx hb hts ws_M hown hK hP 34 hI.1 rfl 16 (by decide) (hts _ fl_M_40) (fun _ h9 => h9) rfl d_M_told_19 ?_
      refine W.eq (g2 := F0 m 22 ls [.int 1]) (by rw [gv13]) ?_
      refine lv_if_le (tgt := 27) hx hb d_M_told_22 rfl (fun h => absurd h (by decide)) (fun _ => ?_)
      refine lv_iconst (v := 0) hx hb d_M_told_25 (by decide) ?_
      exact W.iret (v := 0) hx hb hr (fun t9 ht hW => ⟨⟨0, w14, rfl, ⟨_, hI, hC⟩, ⟨by rw [ht]; exact hP, va_K.moved hW.alike hK, hD, by rw [ht]; exact Nat.le_trans hz hS.1⟩⟩, hS.F ht⟩) hS.2.2 d_M_told_26
