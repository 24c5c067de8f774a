set_option maxHeartbeats 4000000 in
set_option maxRecDepth 100000 in
theorem c_M_sum {l : Launch} {D : va_G} {t : Nat → ClassId} {z : Nat} {sa : Nat → Nat} {ws : va_W} {a : Nat → Nat} {NV : Nat} {v : Nat → Int32} {x9 : Int32} (hI : Mi a t NV v ws) (hNV : NV ≤ 4000) : Met l y_M_sum (Cond.code y_M_sum b_M_sum 5 (some .long) :: WS) ({ frames := 1, cells := 0, slots := 0, locals := 22 }) (Pz D t z sa ws [.ref (a 34), .int x9]) (va_Ql (fun (r : Int64) (u : va_W) => ∃ v1, Mi a t NV v1 u ∧ Mk ws u) (fun u U => Wd D t z u U) (Az z)) 0 0 (Az z) := by
  refine Met.ofW (cc := b_M_sum) (maxL := 5) (ret := (some .long)) (by decide) rfl ?_
  intro p e s m args below meth c s₁ B hml hv
  obtain ⟨rfl, ⟨hP, hK, hD, hz⟩, hM⟩ := hv
  have hx := B.exec
  have hb := B.bytes
  have hr := B.returns
  have hts : ∀ w ∈ WS, w.before [.ref (a 34), .int x9].toArray s = true := fun w h => atoms_spec B.pre w (List.mem_cons_of_mem _ h)
  have hown : s.vm.findClass R_M = some m.cls := findClass_of_methodNamed B.named
  have hlocks := B.notSynchronized
  have hA : ∀ q, s.heap.size ≤ q → Az z q := fun q h => Nat.le_trans hz h
  have hS : va_S (Az z) s.heap s.heap [] := va_S.rf
  have hC : Mk ws ws := Mk.rf
  have hl := lv_entry ([.ref (a 34), .int x9]) (n := 5) (Nat.le_of_ble_eq_true rfl)
  rw [lg_entry_eq]
  generalize (lg_sl ([.ref (a 34), .int x9]) ++ List.replicate (5 - (lg_sl ([.ref (a 34), .int x9])).length) Slot.unset).toArray = ls at hl ⊢
  have hl : lv_has ls 5 [(0, .ref (a 34)), (1, .int x9)] := hl
  refine lv_aload_n hx hb d_M_sum_0 rfl (lv_at hl 0 rfl) ?_
  refine lv_aload_n hx hb d_M_sum_1 rfl (lv_at hl 0 rfl) ?_
  refine va_get (D := D) (ci := 6) (v := .int (v 6)) (C := R_M) (T := F_M) (N := 17) hx hb hts ws_M hown hK hP 34 hI.1 rfl 12 (by decide) (hts _ fl_M_46) (fun _ h9 => h9) rfl d_M_sum_2 ?_
  refine lv_aload_n hx hb d_M_sum_5 rfl (lv_at hl 0 rfl) ?_
  refine lv_iload_n hx hb d_M_sum_6 rfl (lv_at hl 1 rfl) ?_
  refine va_calli (va_runV (As := [.int x9]) (rest := [.int (v 6), .ref (a 34)]) ⟨hx, hb, hml, hown, hts⟩ (c_M_isPage (D := D) (t := t) (z := z) (sa := sa) (ws := ws) (x9 := x9) hI ) (cwV 1 hts (gd_V ml_M_57 im_M_isPage se_M_isPage in_M cd_M_isPage) rfl rfl rfl (by decide +kernel) ⟨Nat.le_of_ble_eq_true rfl, Nat.le_of_ble_eq_true rfl⟩) ⟨Pz_blind, va_recv hK hP (ci := 6) rfl hI.1, Pz_at hP hK hD hz hM hS⟩ rfl rfl hl.1 rfl (lv_room (Nat.le_of_ble_eq_true rfl)) d_M_sum_7 ⟨Nat.le_of_ble_eq_true rfl, Nat.le_of_ble_eq_true rfl⟩) hS (fun q _ h => h) (fun q h => h) (fun r2 u1 t9 H locs ht hvm hp hB hz1 hk1 hS => ?_)
  obtain ⟨hP, hK9, hD, -⟩ := hB
  rw [ht] at hP
  clear hK9
  obtain ⟨hw9, hr9⟩ := hp
  rw [hw9] at hP hD
  clear hw9
  rcases hr9 with hr9 | ⟨hr9, ip, hip, hxip⟩
  · skip
    subst hr9
    refine lv_if_ne (tgt := 17) hx hb d_M_sum_10 rfl (fun h => absurd h (by decide)) (fun _ => ?_)
    refine lv_iconst (v := 1) hx hb d_M_sum_13 (by decide) ?_
    refine lv_goto (tgt := 18) hx hb d_M_sum_14 rfl ?_
    refine va_calli (va_runV (As := [.int (v 6), .int 1]) (rest := []) ⟨hx, hb, hml, hown, hts⟩ (c_M_fails (D := D) (t := t) (z := z) (sa := sa) (ws := ws) (x9 := (v 6)) (y9 := 1) hI ) (cwV 2 hts (gd_V ml_M_50 im_M_fails se_M_fails in_M cd_M_fails) rfl rfl rfl (by decide +kernel) ⟨Nat.le_of_ble_eq_true rfl, Nat.le_of_ble_eq_true rfl⟩) ⟨Pz_blind, va_recv hK hP (ci := 6) rfl hI.1, Pz_at hP hK hD hz hM hS⟩ rfl rfl hl.1 rfl (lv_room (Nat.le_of_ble_eq_true rfl)) d_M_sum_18 ⟨Nat.le_of_ble_eq_true rfl, Nat.le_of_ble_eq_true rfl⟩) hS (fun q _ h => h) (fun q h => h) (fun r4 u3 t9 H locs ht hvm hp hB hz1 hk1 hS => ?_)
    obtain ⟨hP, hK9, hD, -⟩ := hB
    rw [ht] at hP
    clear hK9
    obtain ⟨v5, hI, hC9, nv5, hr9⟩ := hp
    have hC := hC.trans hC9
    rcases hr9 with hr9 | ⟨hr9, hx0, hy0⟩
    · skip
      subst hr9
      refine lv_if_eq (tgt := 26) hx hb d_M_sum_21 rfl (fun h => absurd h (by decide)) (fun _ => ?_)
      refine lv_lconst (v := 0) hx hb d_M_sum_24 (by decide) ?_
      exact W.lret (v := 0) hx hb hr (fun t9 ht hW => ⟨⟨0, u3, rfl, ⟨_, hI, hC⟩, ⟨by rw [ht]; exact hP, va_K.moved hW.alike hK, hD, by rw [ht]; exact Nat.le_trans hz hS.1⟩⟩, hS.F ht⟩) hS.2.2 d_M_sum_25
    · skip
      exact absurd hy0 (by decide)
  · skip
    subst hr9
    refine lv_if_ne (tgt := 17) hx hb d_M_sum_10 rfl (fun _ => ?_) (fun h => absurd h (by decide))
    refine lv_iconst (v := 0) hx hb d_M_sum_17 (by decide) ?_
    refine va_calli (va_runV (As := [.int (v 6), .int 0]) (rest := []) ⟨hx, hb, hml, hown, hts⟩ (c_M_fails (D := D) (t := t) (z := z) (sa := sa) (ws := ws) (x9 := (v 6)) (y9 := 0) hI ) (cwV 2 hts (gd_V ml_M_50 im_M_fails se_M_fails in_M cd_M_fails) rfl rfl rfl (by decide +kernel) ⟨Nat.le_of_ble_eq_true rfl, Nat.le_of_ble_eq_true rfl⟩) ⟨Pz_blind, va_recv hK hP (ci := 6) rfl hI.1, Pz_at hP hK hD hz hM hS⟩ rfl rfl hl.1 rfl (lv_room (Nat.le_of_ble_eq_true rfl)) d_M_sum_18 ⟨Nat.le_of_ble_eq_true rfl, Nat.le_of_ble_eq_true rfl⟩) hS (fun q _ h => h) (fun q h => h) (fun r7 u6 t9 H locs ht hvm hp hB hz1 hk1 hS => ?_)
    obtain ⟨hP, hK9, hD, -⟩ := hB
    rw [ht] at hP
    clear hK9
    obtain ⟨v8, hI, hC9, nv8, hr9⟩ := hp
    have hC := hC.trans hC9
    rcases hr9 with hr9 | ⟨hr9, hx0, hy0⟩
    · skip
      subst hr9
      refine lv_if_eq (tgt := 26) hx hb d_M_sum_21 rfl (fun h => absurd h (by decide)) (fun _ => ?_)
      refine lv_lconst (v := 0) hx hb d_M_sum_24 (by decide) ?_
      exact W.lret (v := 0) hx hb hr (fun t9 ht hW => ⟨⟨0, u6, rfl, ⟨_, hI, hC⟩, ⟨by rw [ht]; exact hP, va_K.moved hW.alike hK, hD, by rw [ht]; exact Nat.le_trans hz hS.1⟩⟩, hS.F ht⟩) hS.2.2 d_M_sum_25
    · skip
      subst hr9
      refine lv_if_eq (tgt := 26) hx hb d_M_sum_21 rfl (fun _ => ?_) (fun h => absurd h (by decide))
      refine lv_ldc2 (v := 7) hx hb hown (hts _ co_M_73) d_M_sum_26 ?_
      refine lv_lstore_n (lv' := [(2, .long 7), (0, .ref (a 34)), (1, .int x9)]) hx hb d_M_sum_29 rfl hl (by decide) rfl (fun ls hl => ?_)
      refine lv_iconst (v := 0) hx hb d_M_sum_30 (by decide) ?_
      refine lv_istore (lv' := [(4, .int 0), (2, .long 7), (0, .ref (a 34)), (1, .int x9)]) hx hb d_M_sum_31 hl (by decide) rfl (fun ls hl => ?_)
      have key : ∀ (n9 i : Nat) (sv : Int64) (w9 : va_W) (H : Heap) (locs : List Loc) (ls : Array Slot), i + n9 = 256 → va_P D Cl w9 H → va_D (Az z) w9 → va_S (Az z) s.heap H locs → Mi a t NV v8 w9 → Mk ws w9 → lv_has ls 5 [(4, .int (nI i)), (2, .long sv), (0, .ref (a 34)), (1, .int x9)] → W p l e (headSpec (Cond.code y_M_sum b_M_sum 5 (some .long) :: WS) ({ frames := 1, cells := 0, slots := 0, locals := 22 })).room s m [.ref (a 34), .int x9].toArray below meth c H locs 0 0 (MQ below (va_Ql (fun (r : Int64) (u : va_W) => ∃ v1, Mi a t NV v1 u ∧ Mk ws u) (fun u U => Wd D t z u U) (Az z)) [.ref (a 34), .int x9].toArray s 0 0 (Az z)) (F0 m 33 ls []) := by
        intro n9
        induction n9 with
        | zero =>
          intro i sv w9 H locs ls hi9 hP hD hS hI hC hl
          refine lv_iload hx hb d_M_sum_33 (lv_at hl 0 rfl) ?_
          refine lv_sipush (v := 256) hx hb d_M_sum_35 (by decide) ?_
          have hB9 : (256 : Int32) = nI 256 := rfl
          refine lv_icmp_ge (tgt := 62) hx hb d_M_sum_38 rfl (fun _ => ?_) (fun h => absurd (by rw [hB9]; exact nI_le (by omega) (by omega)) h)
          refine lv_lload_n hx hb d_M_sum_62 rfl (lv_at hl 1 rfl) ?_
          exact W.lret (v := sv) hx hb hr (fun t9 ht hW => ⟨⟨sv, w9, rfl, ⟨_, hI, hC⟩, ⟨by rw [ht]; exact hP, va_K.moved hW.alike hK, hD, by rw [ht]; exact Nat.le_trans hz hS.1⟩⟩, hS.F ht⟩) hS.2.2 d_M_sum_63
        | succ n9 ih =>
          intro i sv w9 H locs ls hi9 hP hD hS hI hC hl
          refine lv_iload hx hb d_M_sum_33 (lv_at hl 0 rfl) ?_
          refine lv_sipush (v := 256) hx hb d_M_sum_35 (by decide) ?_
          have hB9 : (256 : Int32) = nI 256 := rfl
          refine lv_icmp_ge (tgt := 62) hx hb d_M_sum_38 rfl (fun h => absurd h (by rw [hB9]; exact nI_ge (by omega) (by omega))) (fun _ => ?_)
          refine lv_ldc2 (v := 31) hx hb hown (hts _ co_M_75) d_M_sum_41 ?_
          refine lv_lload_n hx hb d_M_sum_44 rfl (lv_at hl 1 rfl) ?_
          refine lv_lmul hx hb d_M_sum_45 ?_
          refine lv_topl (fun l10 hl10 => ?_)
          refine lv_aload_n hx hb d_M_sum_46 rfl (lv_at hl 2 rfl) ?_
          refine lv_iload_n hx hb d_M_sum_47 rfl (lv_at hl 3 rfl) ?_
          refine lv_iload hx hb d_M_sum_48 (lv_at hl 0 rfl) ?_
          refine va_calli (va_runV (As := [.int x9, .int (nI i)]) (rest := [.long l10]) ⟨hx, hb, hml, hown, hts⟩ (c_M_at (D := D) (t := t) (z := z) (sa := sa) (ws := w9) (ip := ip) (iy := i) hI hip hxip (by omega) rfl hNV) (cwV 2 hts (gd_V ml_M_61 im_M_at se_M_at in_M cd_M_at) rfl rfl rfl (by decide +kernel) ⟨Nat.le_of_ble_eq_true rfl, Nat.le_of_ble_eq_true rfl⟩) ⟨Pz_blind, va_recv hK hP (ci := 6) rfl hI.1, Pz_at hP hK hD hz hM hS⟩ rfl rfl hl.1 rfl (lv_room (Nat.le_of_ble_eq_true rfl)) d_M_sum_50 ⟨Nat.le_of_ble_eq_true rfl, Nat.le_of_ble_eq_true rfl⟩) hS (fun q _ h => h) (fun q h => h) (fun r12 u11 t9 H locs ht hvm hp hB hz1 hk1 hS => ?_)
          obtain ⟨hP, hK9, hD, -⟩ := hB
          rw [ht] at hP
          clear hK9
          have hw9 := hp
          rw [hw9] at hP hD
          clear hw9
          refine lv_i2l (v := r12.toInt64) hx hb d_M_sum_53 rfl ?_
          refine lv_ladd hx hb d_M_sum_54 ?_
          refine lv_topl (fun l13 hl13 => ?_)
          refine lv_lstore_n (lv' := [(2, .long l13), (4, .int (nI i)), (0, .ref (a 34)), (1, .int x9)]) hx hb d_M_sum_55 rfl hl (by decide) rfl (fun ls hl => ?_)
          refine lv_iinc (k := 1) (v := nI (i + 1)) (lv' := [(4, .int (nI (i + 1))), (2, .long l13), (0, .ref (a 34)), (1, .int x9)]) hx hb d_M_sum_56 hl rfl (nI_1 i) (by decide) rfl (fun ls hl => ?_)
          refine lv_goto (tgt := 33) hx hb d_M_sum_59 rfl ?_
          exact ih (i + 1) _ w9 H locs ls (by omega) hP hD hS hI hC (lv_sub hl [0, 1, 2, 3] rfl)
      exact key 256 0 7 _ _ _ _ rfl hP hD hS hI hC hl
set_option maxHeartbeats 4000000 in
set_option maxRecDepth 100000 in
theorem c_M_begin {l : Launch} {D : va_G} {t : Nat → ClassId} {z : Nat} {sa : Nat → Nat} {ws : va_W} {a : Nat → Nat} {NV : Nat} {v : Nat → Int32}  (hI : Mi a t NV v ws)  : Met l y_M_begin (Cond.code y_M_begin b_M_begin 1 (.none : Option Jvm.ClassFile.FieldType) :: WS) ({ frames := 1, cells := 0, slots := 0, locals := 22 }) (Pz D t z sa ws [.ref (a 34)]) (va_Qv (fun u : va_W => ∃ v1, Mi a t NV v1 u ∧ Mk ws u) (fun u U => Wd D t z u U) (Az z)) 0 0 (Az z) := by
  refine Met.ofW (cc := b_M_begin) (maxL := 1) (ret := (.none : Option Jvm.ClassFile.FieldType)) (by decide) rfl ?_
  intro p e s m args below meth c s₁ B hml hv
  obtain ⟨rfl, ⟨hP, hK, hD, hz⟩, hM⟩ := hv
  have hx := B.exec
  have hb := B.bytes
  have hr := B.returns
  have hts : ∀ w ∈ WS, w.before [.ref (a 34)].toArray s = true := fun w h => atoms_spec B.pre w (List.mem_cons_of_mem _ h)
  have hown : s.vm.findClass R_M = some m.cls := findClass_of_methodNamed B.named
  have hlocks := B.notSynchronized
  have hA : ∀ q, s.heap.size ≤ q → Az z q := fun q h => Nat.le_trans hz h
  have hS : va_S (Az z) s.heap s.heap [] := va_S.rf
  have hC : Mk ws ws := Mk.rf
  have hl := lv_entry ([.ref (a 34)]) (n := 1) (Nat.le_of_ble_eq_true rfl)
  rw [lg_entry_eq]
  generalize (lg_sl ([.ref (a 34)]) ++ List.replicate (1 - (lg_sl ([.ref (a 34)])).length) Slot.unset).toArray = ls at hl ⊢
  have hl : lv_has ls 1 [(0, .ref (a 34))] := hl
  refine lv_aload_n hx hb d_M_begin_0 rfl (lv_at hl 0 rfl) ?_
  refine lv_aload_n hx hb d_M_begin_1 rfl (lv_at hl 0 rfl) ?_
  refine va_get (D := D) (ci := 6) (v := .int (v 6)) (C := R_M) (T := F_M) (N := 17) hx hb hts ws_M hown hK hP 34 hI.1 rfl 12 (by decide) (hts _ fl_M_46) (fun _ h9 => h9) rfl d_M_begin_2 ?_
  refine lv_if_ne (tgt := 15) hx hb d_M_begin_5 rfl (fun q1 => ?_) (fun q1 => ?_)
  · skip
    refine lv_iconst (v := 1) hx hb d_M_begin_15 (by decide) ?_
    refine lv_goto (tgt := 20) hx hb d_M_begin_16 rfl ?_
    refine lv_iconst (v := 0) hx hb d_M_begin_20 (by decide) ?_
    refine va_calli (va_runV (As := [.int 1, .int 0]) (rest := []) ⟨hx, hb, hml, hown, hts⟩ (c_M_fails (D := D) (t := t) (z := z) (sa := sa) (ws := ws) (x9 := 1) (y9 := 0) hI ) (cwV 2 hts (gd_V ml_M_50 im_M_fails se_M_fails in_M cd_M_fails) rfl rfl rfl (by decide +kernel) ⟨Nat.le_of_ble_eq_true rfl, Nat.le_of_ble_eq_true rfl⟩) ⟨Pz_blind, va_recv hK hP (ci := 6) rfl hI.1, Pz_at hP hK hD hz hM hS⟩ rfl rfl hl.1 rfl (lv_room (Nat.le_of_ble_eq_true rfl)) d_M_begin_21 ⟨Nat.le_of_ble_eq_true rfl, Nat.le_of_ble_eq_true rfl⟩) hS (fun q _ h => h) (fun q h => h) (fun r3 u2 t9 H locs ht hvm hp hB hz1 hk1 hS => ?_)
    obtain ⟨hP, hK9, hD, -⟩ := hB
    rw [ht] at hP
    clear hK9
    obtain ⟨v4, hI, hC9, nv4, hr9⟩ := hp
    have hC := hC.trans hC9
    rcases hr9 with hr9 | ⟨hr9, hx0, hy0⟩
    · skip
      subst hr9
      refine lv_if_eq (tgt := 28) hx hb d_M_begin_24 rfl (fun h => absurd h (by decide)) (fun _ => ?_)
      exact W.vret hx hb hr (fun t9 ht hW => ⟨⟨u2, rfl, ⟨_, hI, hC⟩, ⟨by rw [ht]; exact hP, va_K.moved hW.alike hK, hD, by rw [ht]; exact Nat.le_trans hz hS.1⟩⟩, hS.F ht⟩) hS.2.2 d_M_begin_27
    · skip
      exact absurd hx0 (by decide)
  · skip
    refine lv_aload_n hx hb d_M_begin_8 rfl (lv_at hl 0 rfl) ?_
    refine va_get (D := D) (ci := 6) (v := .int (v 7)) (C := R_M) (T := F_M) (N := 17) hx hb hts ws_M hown hK hP 34 hI.1 rfl 13 (by decide) (hts _ fl_M_54) (fun _ h9 => h9) rfl d_M_begin_9 ?_
    refine lv_if_eq (tgt := 19) hx hb d_M_begin_12 rfl (fun q5 => ?_) (fun q5 => ?_)
    · skip
      refine lv_iconst (v := 0) hx hb d_M_begin_19 (by decide) ?_
      refine lv_iconst (v := 0) hx hb d_M_begin_20 (by decide) ?_
      refine va_calli (va_runV (As := [.int 0, .int 0]) (rest := []) ⟨hx, hb, hml, hown, hts⟩ (c_M_fails (D := D) (t := t) (z := z) (sa := sa) (ws := ws) (x9 := 0) (y9 := 0) hI ) (cwV 2 hts (gd_V ml_M_50 im_M_fails se_M_fails in_M cd_M_fails) rfl rfl rfl (by decide +kernel) ⟨Nat.le_of_ble_eq_true rfl, Nat.le_of_ble_eq_true rfl⟩) ⟨Pz_blind, va_recv hK hP (ci := 6) rfl hI.1, Pz_at hP hK hD hz hM hS⟩ rfl rfl hl.1 rfl (lv_room (Nat.le_of_ble_eq_true rfl)) d_M_begin_21 ⟨Nat.le_of_ble_eq_true rfl, Nat.le_of_ble_eq_true rfl⟩) hS (fun q _ h => h) (fun q h => h) (fun r7 u6 t9 H locs ht hvm hp hB hz1 hk1 hS => ?_)
      obtain ⟨hP, hK9, hD, -⟩ := hB
      rw [ht] at hP
      clear hK9
      obtain ⟨v8, hI, hC9, nv8, hr9⟩ := hp
      have hC := hC.trans hC9
      rcases hr9 with hr9 | ⟨hr9, hx0, hy0⟩
      · skip
        subst hr9
        refine lv_if_eq (tgt := 28) hx hb d_M_begin_24 rfl (fun h => absurd h (by decide)) (fun _ => ?_)
        exact W.vret hx hb hr (fun t9 ht hW => ⟨⟨u6, rfl, ⟨_, hI, hC⟩, ⟨by rw [ht]; exact hP, va_K.moved hW.alike hK, hD, by rw [ht]; exact Nat.le_trans hz hS.1⟩⟩, hS.F ht⟩) hS.2.2 d_M_begin_27
      · skip
        subst hr9
        refine lv_if_eq (tgt := 28) hx hb d_M_begin_24 rfl (fun _ => ?_) (fun h => absurd h (by decide))
        refine lv_aload_n hx hb d_M_begin_28 rfl (lv_at hl 0 rfl) ?_
        refine lv_iconst (v := 1) hx hb d_M_begin_29 (by decide) ?_
        refine va_put (D := D) (ci := 6) (v := .int 1) (ty := .boolean) (C := R_M) (T := F_M) (N := 17) hx hb hts ws_M t_M ok_M n_M hown hK hP hD hS 34 hI.1 rfl 13 (by decide) (hts _ fl_M_54) (fun _ h9 => h9) rfl (by decide +kernel) rfl rfl (Nat.le_of_ble_eq_true rfl) d_M_begin_30 (fun H locs hP hD hS => ?_)
        obtain ⟨v10, hv10⟩ : ∃ q : Nat → Int32, q = upd v8 7 1 := ⟨_, rfl⟩
        have gv10 : v10 7 = 1 := by rw [hv10]; exact pk_us
        have nv10 : ∀ i, i ≠ 7 → v10 i = v8 i := fun i hi => by rw [hv10]; exact pk_un hi
        have hP : va_P D Cl (u6.set 34 (cMo a v10)) H := by rw [hv10]; exact hP
        have hD : va_D (Az z) (u6.set 34 (cMo a v10)) := by rw [hv10]; exact hD
        obtain ⟨w11, hw⟩ : ∃ q, q = u6.set 34 (cMo a v10) := ⟨_, rfl⟩
        have hP : va_P D Cl (u6.set 34 (cMo a v10)) H := hP
        have hD : va_D (Az z) (u6.set 34 (cMo a v10)) := hD
        have hC := hC.set (p := 34) (c := (cMo a v10)) (by decide) (by decide)
        have hI := hI.setO (v' := v10) ⟨by rw [nv10 0 (by decide)]; exact hI.2.1.1, by rw [nv10 2 (by decide)]; exact hI.2.1.2.1, by rw [nv10 3 (by decide)]; exact hI.2.1.2.2.1, by rw [nv10 4 (by decide)]; exact hI.2.1.2.2.2⟩
        rw [← hw] at hP hD hC hI
        clear hw
        refine lv_aload_n hx hb d_M_begin_33 rfl (lv_at hl 0 rfl) ?_
        refine lv_iconst (v := 0) hx hb d_M_begin_34 (by decide) ?_
        refine va_put (D := D) (ci := 6) (v := .int 0) (ty := .int) (C := R_M) (T := F_M) (N := 17) hx hb hts ws_M t_M ok_M n_M hown hK hP hD hS 34 hI.1 rfl 10 (by decide) (hts _ fl_M_77) (fun _ h9 => h9) rfl (by decide +kernel) rfl rfl (Nat.le_of_ble_eq_true rfl) d_M_begin_35 (fun H locs hP hD hS => ?_)
        obtain ⟨v12, hv12⟩ : ∃ q : Nat → Int32, q = upd v10 4 0 := ⟨_, rfl⟩
        have gv12 : v12 4 = 0 := by rw [hv12]; exact pk_us
        have nv12 : ∀ i, i ≠ 4 → v12 i = v10 i := fun i hi => by rw [hv12]; exact pk_un hi
        have hP : va_P D Cl (w11.set 34 (cMo a v12)) H := by rw [hv12]; exact hP
        have hD : va_D (Az z) (w11.set 34 (cMo a v12)) := by rw [hv12]; exact hD
        obtain ⟨w13, hw⟩ : ∃ q, q = w11.set 34 (cMo a v12) := ⟨_, rfl⟩
        have hP : va_P D Cl (w11.set 34 (cMo a v12)) H := hP
        have hD : va_D (Az z) (w11.set 34 (cMo a v12)) := hD
        have hC := hC.set (p := 34) (c := (cMo a v12)) (by decide) (by decide)
        have hI := hI.setO (v' := v12) ⟨by rw [nv12 0 (by decide)]; exact hI.2.1.1, by rw [nv12 2 (by decide)]; exact hI.2.1.2.1, by rw [nv12 3 (by decide)]; exact hI.2.1.2.2.1, ⟨0, by omega, by rw [gv12]; rfl⟩⟩
        rw [← hw] at hP hD hC hI
        clear hw
        refine lv_aload_n hx hb d_M_begin_38 rfl (lv_at hl 0 rfl) ?_
        refine lv_dup hx hb d_M_begin_39 rfl ?_
        refine va_get (D := D) (ci := 6) (v := .int (v12 1)) (C := R_M) (T := F_M) (N := 17) hx hb hts ws_M hown hK hP 34 hI.1 rfl 3 (by decide) (hts _ fl_M_22) (fun _ h9 => h9) rfl d_M_begin_40 ?_
        refine lv_iconst (v := 1) hx hb d_M_begin_43 (by decide) ?_
        refine lv_iadd hx hb d_M_begin_44 ?_
        refine lv_topi (fun v14 hv14 => ?_)
        refine va_put (D := D) (ci := 6) (v := .int v14) (ty := .int) (C := R_M) (T := F_M) (N := 17) hx hb hts ws_M t_M ok_M n_M hown hK hP hD hS 34 hI.1 rfl 3 (by decide) (hts _ fl_M_22) (fun _ h9 => h9) rfl (by decide +kernel) rfl rfl (Nat.le_of_ble_eq_true rfl) d_M_begin_45 (fun H locs hP hD hS => ?_)
        obtain ⟨v15, hv15⟩ : ∃ q : Nat → Int32, q = upd v12 1 v14 := ⟨_, rfl⟩
        have gv15 : v15 1 = v14 := by rw [hv15]; exact pk_us
        have nv15 : ∀ i, i ≠ 1 → v15 i = v12 i := fun i hi => by rw [hv15]; exact pk_un hi
        have hP : va_P D Cl (w13.set 34 (cMo a v15)) H := by rw [hv15]; exact hP
        have hD : va_D (Az z) (w13.set 34 (cMo a v15)) := by rw [hv15]; exact hD
        obtain ⟨w16, hw⟩ : ∃ q, q = w13.set 34 (cMo a v15) := ⟨_, rfl⟩
        have hP : va_P D Cl (w13.set 34 (cMo a v15)) H := hP
        have hD : va_D (Az z) (w13.set 34 (cMo a v15)) := hD
        have hC := hC.set (p := 34) (c := (cMo a v15)) (by decide) (by decide)
        have hI := hI.setO (v' := v15) ⟨by rw [nv15 0 (by decide)]; exact hI.2.1.1, by rw [nv15 2 (by decide)]; exact hI.2.1.2.1, by rw [nv15 3 (by decide)]; exact hI.2.1.2.2.1, by rw [nv15 4 (by decide)]; exact hI.2.1.2.2.2⟩
        rw [← hw] at hP hD hC hI
        clear hw
        exact W.vret hx hb hr (fun t9 ht hW => ⟨⟨w16, rfl, ⟨_, hI, hC⟩, ⟨by rw [ht]; exact hP, va_K.moved hW.alike hK, hD, by rw [ht]; exact Nat.le_trans hz hS.1⟩⟩, hS.F ht⟩) hS.2.2 d_M_begin_48
    · skip
      refine lv_iconst (v := 1) hx hb d_M_begin_15 (by decide) ?_
      refine lv_goto (tgt := 20) hx hb d_M_begin_16 rfl ?_
      refine lv_iconst (v := 0) hx hb d_M_begin_20 (by decide) ?_
      refine va_calli (va_runV (As := [.int 1, .int 0]) (rest := []) ⟨hx, hb, hml, hown, hts⟩ (c_M_fails (D := D) (t := t) (z := z) (sa := sa) (ws := ws) (x9 := 1) (y9 := 0) hI ) (cwV 2 hts (gd_V ml_M_50 im_M_fails se_M_fails in_M cd_M_fails) rfl rfl rfl (by decide +kernel) ⟨Nat.le_of_ble_eq_true rfl, Nat.le_of_ble_eq_true rfl⟩) ⟨Pz_blind, va_recv hK hP (ci := 6) rfl hI.1, Pz_at hP hK hD hz hM hS⟩ rfl rfl hl.1 rfl (lv_room (Nat.le_of_ble_eq_true rfl)) d_M_begin_21 ⟨Nat.le_of_ble_eq_true rfl, Nat.le_of_ble_eq_true rfl⟩) hS (fun q _ h => h) (fun q h => h) (fun r18 u17 t9 H locs ht hvm hp hB hz1 hk1 hS => ?_)
      obtain ⟨hP, hK9, hD, -⟩ := hB
      rw [ht] at hP
      clear hK9
      obtain ⟨v19, hI, hC9, nv19, hr9⟩ := hp
      have hC := hC.trans hC9
      rcases hr9 with hr9 | ⟨hr9, hx0, hy0⟩
      · skip
        subst hr9
        refine lv_if_eq (tgt := 28) hx hb d_M_begin_24 rfl (fun h => absurd h (by decide)) (fun _ => ?_)
        exact W.vret hx hb hr (fun t9 ht hW => ⟨⟨u17, rfl, ⟨_, hI, hC⟩, ⟨by rw [ht]; exact hP, va_K.moved hW.alike hK, hD, by rw [ht]; exact Nat.le_trans hz hS.1⟩⟩, hS.F ht⟩) hS.2.2 d_M_begin_27
      · skip
        exact absurd hx0 (by decide)
set_option maxHeartbeats 4000000 in
set_option maxRecDepth 100000 in
theorem c_M_lasts {l : Launch} {D : va_G} {t : Nat → ClassId} {z : Nat} {sa : Nat → Nat} {ws : va_W} {a : Nat → Nat} {NV : Nat} {v : Nat → Int32}  (hI : Mi a t NV v ws)  : Met l y_M_lasts (Cond.code y_M_lasts b_M_lasts 2 (.none : Option Jvm.ClassFile.FieldType) :: WS) ({ frames := 0, cells := 0, slots := 0, locals := 0 }) (Pz D t z sa ws [.ref (a 34)]) (va_Qv (fun u : va_W => ∃ v1, Mi a t NV v1 u ∧ Mk ws u) (fun u U => Wd D t z u U) (Az z)) 0 0 (Az z) := by
  refine Met.ofW (cc := b_M_lasts) (maxL := 2) (ret := (.none : Option Jvm.ClassFile.FieldType)) (by decide) rfl ?_
  intro p e s m args below meth c s₁ B hml hv
  obtain ⟨rfl, ⟨hP, hK, hD, hz⟩, hM⟩ := hv
  have hx := B.exec
  have hb := B.bytes
  have hr := B.returns
  have hts : ∀ w ∈ WS, w.before [.ref (a 34)].toArray s = true := fun w h => atoms_spec B.pre w (List.mem_cons_of_mem _ h)
  have hown : s.vm.findClass R_M = some m.cls := findClass_of_methodNamed B.named
  have hlocks := B.notSynchronized
  have hA : ∀ q, s.heap.size ≤ q → Az z q := fun q h => Nat.le_trans hz h
  have hS : va_S (Az z) s.heap s.heap [] := va_S.rf
  have hC : Mk ws ws := Mk.rf
  have hl := lv_entry ([.ref (a 34)]) (n := 2) (Nat.le_of_ble_eq_true rfl)
  rw [lg_entry_eq]
  generalize (lg_sl ([.ref (a 34)]) ++ List.replicate (2 - (lg_sl ([.ref (a 34)])).length) Slot.unset).toArray = ls at hl ⊢
  have hl : lv_has ls 2 [(0, .ref (a 34))] := hl
  obtain ⟨n2, hn2, en2⟩ := hI.2.1.2.1
  refine lv_iconst (v := 0) hx hb d_M_lasts_0 (by decide) ?_
  refine lv_istore_n (lv' := [(1, .int 0), (0, .ref (a 34))]) hx hb d_M_lasts_1 rfl hl (by decide) rfl (fun ls hl => ?_)
  have key : ∀ (n9 i : Nat) (w9 : va_W) (H : Heap) (locs : List Loc) (ls : Array Slot), i + n9 = n2 → va_P D Cl w9 H → va_D (Az z) w9 → va_S (Az z) s.heap H locs → Mi a t NV v w9 → Mk ws w9 → lv_has ls 2 [(1, .int (nI i)), (0, .ref (a 34))] → W p l e (headSpec (Cond.code y_M_lasts b_M_lasts 2 (.none : Option Jvm.ClassFile.FieldType) :: WS) ({ frames := 0, cells := 0, slots := 0, locals := 0 })).room s m [.ref (a 34)].toArray below meth c H locs 0 0 (MQ below (va_Qv (fun u : va_W => ∃ v1, Mi a t NV v1 u ∧ Mk ws u) (fun u U => Wd D t z u U) (Az z)) [.ref (a 34)].toArray s 0 0 (Az z)) (F0 m 2 ls []) := by
    intro n9
    induction n9 with
    | zero =>
      intro i w9 H locs ls hi9 hP hD hS hI hC hl
      refine lv_iload_n hx hb d_M_lasts_2 rfl (lv_at hl 0 rfl) ?_
      refine lv_aload_n hx hb d_M_lasts_3 rfl (lv_at hl 1 rfl) ?_
      refine va_get (D := D) (ci := 6) (v := .int (v 2)) (C := R_M) (T := F_M) (N := 17) hx hb hts ws_M hown hK hP 34 hI.1 rfl 8 (by decide) (hts _ fl_M_43) (fun _ h9 => h9) rfl d_M_lasts_4 ?_
      have hB9 : (v 2) = nI n2 := by rw [en2]
      refine lv_icmp_ge (tgt := 28) hx hb d_M_lasts_7 rfl (fun _ => ?_) (fun h => absurd (by rw [hB9]; exact nI_le (by omega) (by omega)) h)
      refine lv_aload_n hx hb d_M_lasts_28 rfl (lv_at hl 1 rfl) ?_
      refine lv_aload_n hx hb d_M_lasts_29 rfl (lv_at hl 1 rfl) ?_
      refine va_get (D := D) (ci := 6) (v := .int (v 2)) (C := R_M) (T := F_M) (N := 17) hx hb hts ws_M hown hK hP 34 hI.1 rfl 8 (by decide) (hts _ fl_M_43) (fun _ h9 => h9) rfl d_M_lasts_30 ?_
      refine va_put (D := D) (ci := 6) (v := .int (v 2)) (ty := .int) (C := R_M) (T := F_M) (N := 17) hx hb hts ws_M t_M ok_M n_M hown hK hP hD hS 34 hI.1 rfl 9 (by decide) (hts _ fl_M_80) (fun _ h9 => h9) rfl (by decide +kernel) rfl rfl (Nat.le_of_ble_eq_true rfl) d_M_lasts_33 (fun H locs hP hD hS => ?_)
      obtain ⟨v1, hv1⟩ : ∃ q : Nat → Int32, q = upd v 3 (v 2) := ⟨_, rfl⟩
      have gv1 : v1 3 = (v 2) := by rw [hv1]; exact pk_us
      have nv1 : ∀ i, i ≠ 3 → v1 i = v i := fun i hi => by rw [hv1]; exact pk_un hi
      have hP : va_P D Cl (w9.set 34 (cMo a v1)) H := by rw [hv1]; exact hP
      have hD : va_D (Az z) (w9.set 34 (cMo a v1)) := by rw [hv1]; exact hD
      obtain ⟨w2, hw⟩ : ∃ q, q = w9.set 34 (cMo a v1) := ⟨_, rfl⟩
      have hP : va_P D Cl (w9.set 34 (cMo a v1)) H := hP
      have hD : va_D (Az z) (w9.set 34 (cMo a v1)) := hD
      have hC := hC.set (p := 34) (c := (cMo a v1)) (by decide) (by decide)
      have hI := hI.setO (v' := v1) ⟨by rw [nv1 0 (by decide)]; exact hI.2.1.1, by rw [nv1 2 (by decide)]; exact hI.2.1.2.1, ⟨n2, by omega, by rw [gv1, en2]⟩, by rw [nv1 4 (by decide)]; exact hI.2.1.2.2.2⟩
      rw [← hw] at hP hD hC hI
      clear hw
      refine lv_aload_n hx hb d_M_lasts_36 rfl (lv_at hl 1 rfl) ?_
      refine lv_dup hx hb d_M_lasts_37 rfl ?_
      refine va_get (D := D) (ci := 6) (v := .int (v1 5)) (C := R_M) (T := F_M) (N := 17) hx hb hts ws_M hown hK hP 34 hI.1 rfl 11 (by decide) (hts _ fl_M_83) (fun _ h9 => h9) rfl d_M_lasts_38 ?_
      refine lv_iconst (v := 1) hx hb d_M_lasts_41 (by decide) ?_
      refine lv_iadd hx hb d_M_lasts_42 ?_
      refine lv_topi (fun v3 hv3 => ?_)
      refine va_put (D := D) (ci := 6) (v := .int v3) (ty := .int) (C := R_M) (T := F_M) (N := 17) hx hb hts ws_M t_M ok_M n_M hown hK hP hD hS 34 hI.1 rfl 11 (by decide) (hts _ fl_M_83) (fun _ h9 => h9) rfl (by decide +kernel) rfl rfl (Nat.le_of_ble_eq_true rfl) d_M_lasts_43 (fun H locs hP hD hS => ?_)
      obtain ⟨v4, hv4⟩ : ∃ q : Nat → Int32, q = upd v1 5 v3 := ⟨_, rfl⟩
      have gv4 : v4 5 = v3 := by rw [hv4]; exact pk_us
      have nv4 : ∀ i, i ≠ 5 → v4 i = v1 i := fun i hi => by rw [hv4]; exact pk_un hi
      have hP : va_P D Cl (w2.set 34 (cMo a v4)) H := by rw [hv4]; exact hP
      have hD : va_D (Az z) (w2.set 34 (cMo a v4)) := by rw [hv4]; exact hD
      obtain ⟨w5, hw⟩ : ∃ q, q = w2.set 34 (cMo a v4) := ⟨_, rfl⟩
      have hP : va_P D Cl (w2.set 34 (cMo a v4)) H := hP
      have hD : va_D (Az z) (w2.set 34 (cMo a v4)) := hD
      have hC := hC.set (p := 34) (c := (cMo a v4)) (by decide) (by decide)
      have hI := hI.setO (v' := v4) ⟨by rw [nv4 0 (by decide)]; exact hI.2.1.1, by rw [nv4 2 (by decide)]; exact hI.2.1.2.1, by rw [nv4 3 (by decide)]; exact hI.2.1.2.2.1, by rw [nv4 4 (by decide)]; exact hI.2.1.2.2.2⟩
      rw [← hw] at hP hD hC hI
      clear hw
      exact W.vret hx hb hr (fun t9 ht hW => ⟨⟨w5, rfl, ⟨_, hI, hC⟩, ⟨by rw [ht]; exact hP, va_K.moved hW.alike hK, hD, by rw [ht]; exact Nat.le_trans hz hS.1⟩⟩, hS.F ht⟩) hS.2.2 d_M_lasts_46
    | succ n9 ih =>
      intro i w9 H locs ls hi9 hP hD hS hI hC hl
      refine lv_iload_n hx hb d_M_lasts_2 rfl (lv_at hl 0 rfl) ?_
      refine lv_aload_n hx hb d_M_lasts_3 rfl (lv_at hl 1 rfl) ?_
      refine va_get (D := D) (ci := 6) (v := .int (v 2)) (C := R_M) (T := F_M) (N := 17) hx hb hts ws_M hown hK hP 34 hI.1 rfl 8 (by decide) (hts _ fl_M_43) (fun _ h9 => h9) rfl d_M_lasts_4 ?_
      have hB9 : (v 2) = nI n2 := by rw [en2]
      refine lv_icmp_ge (tgt := 28) hx hb d_M_lasts_7 rfl (fun h => absurd h (by rw [hB9]; exact nI_ge (by omega) (by omega))) (fun _ => ?_)
      refine lv_aload_n hx hb d_M_lasts_10 rfl (lv_at hl 1 rfl) ?_
      refine va_get (D := D) (ci := 6) (v := .ref (a 38)) (C := R_M) (T := F_M) (N := 17) hx hb hts ws_M hown hK hP 34 hI.1 rfl 5 (by decide) (hts _ fl_M_28) (fun _ h9 => h9) rfl d_M_lasts_11 ?_
      refine lv_iload_n hx hb d_M_lasts_14 rfl (lv_at hl 0 rfl) ?_
      refine lv_aload_n hx hb d_M_lasts_15 rfl (lv_at hl 1 rfl) ?_
      refine va_get (D := D) (ci := 6) (v := .ref (a 37)) (C := R_M) (T := F_M) (N := 17) hx hb hts ws_M hown hK hP 34 hI.1 rfl 4 (by decide) (hts _ fl_M_25) (fun _ h9 => h9) rfl d_M_lasts_16 ?_
      refine lv_iload_n hx hb d_M_lasts_19 rfl (lv_at hl 0 rfl) ?_
      obtain ⟨fA6, eA6, lA6⟩ := hI.a37
      refine va_iald (D := D) hx hb hK hP 37 4 eA6 rfl (i := (nI i)) (vp_in_nI (n := i) (by omega) (by decide)) d_M_lasts_20 ?_
      obtain ⟨VA6, hVA6, eVA6⟩ := lA6 ((nI i) : Int32).toNatClampNeg
      refine W.eq (g2 := F0 m 21 ls [.int (nI VA6), .int (nI i), .ref (a 38)]) (by rw [eVA6]) ?_
      obtain ⟨Vz, hVz, -⟩ := hI.a38.choose_spec.2 0
      obtain ⟨fA8, eA8, lA8⟩ := hI.a38
      refine va_iast (D := D) hx hb hK hP hD hS 38 4 eA8 rfl (i := (nI i)) (x := (nI VA6)) (vp_in_nI (n := i) (by omega) (by decide)) d_M_lasts_21 (fun H locs hP hD hS => ?_)
      obtain ⟨gA8, hgA8⟩ : ∃ q, q = upd fA8 ((nI i) : Int32).toNatClampNeg (nI VA6) := ⟨_, rfl⟩
      rw [← hgA8] at hP hD
      obtain ⟨w10, hw⟩ : ∃ q, q = w9.set 38 (cI a t 38 1024 gA8) := ⟨_, rfl⟩
      have hP : va_P D Cl (w9.set 38 (cI a t 38 1024 gA8)) H := hP
      have hD : va_D (Az z) (w9.set 38 (cI a t 38 1024 gA8)) := hD
      have hC := hC.set (p := 38) (c := (cI a t 38 1024 gA8)) (by decide) (by decide)
      have hI := hI.s38 (f9 := gA8) (by rw [hgA8]; exact lA8.upd (V := VA6) (by omega))
      rw [← hw] at hP hD hC hI
      clear hw
      refine lv_iinc (k := 0) (v := nI (i + 1)) (lv' := [(1, .int (nI (i + 1))), (0, .ref (a 34))]) hx hb d_M_lasts_22 hl rfl (nI_1 i) (by decide) rfl (fun ls hl => ?_)
      refine lv_goto (tgt := 2) hx hb d_M_lasts_25 rfl ?_
      exact ih (i + 1) w10 H locs ls (by omega) hP hD hS hI hC (lv_sub hl [0, 1] rfl)
  exact key n2 0 ws _ _ _ (Nat.zero_add _) hP hD hS hI hC hl
set_option maxHeartbeats 4000000 in
set_option maxRecDepth 100000 in
theorem c_M_fall {l : Launch} {D : va_G} {t : Nat → ClassId} {z : Nat} {sa : Nat → Nat} {ws : va_W} {a : Nat → Nat} {NV : Nat} {v : Nat → Int32}  (hI : Mi a t NV v ws)  : Met l y_M_fall (Cond.code y_M_fall b_M_fall 2 (.none : Option Jvm.ClassFile.FieldType) :: WS) ({ frames := 0, cells := 0, slots := 0, locals := 0 }) (Pz D t z sa ws [.ref (a 34)]) (va_Qv (fun u : va_W => ∃ v1, Mi a t NV v1 u ∧ Mk ws u) (fun u U => Wd D t z u U) (Az z)) 0 0 (Az z) := by
  refine Met.ofW (cc := b_M_fall) (maxL := 2) (ret := (.none : Option Jvm.ClassFile.FieldType)) (by decide) rfl ?_
  intro p e s m args below meth c s₁ B hml hv
  obtain ⟨rfl, ⟨hP, hK, hD, hz⟩, hM⟩ := hv
  have hx := B.exec
  have hb := B.bytes
  have hr := B.returns
  have hts : ∀ w ∈ WS, w.before [.ref (a 34)].toArray s = true := fun w h => atoms_spec B.pre w (List.mem_cons_of_mem _ h)
  have hown : s.vm.findClass R_M = some m.cls := findClass_of_methodNamed B.named
  have hlocks := B.notSynchronized
  have hA : ∀ q, s.heap.size ≤ q → Az z q := fun q h => Nat.le_trans hz h
  have hS : va_S (Az z) s.heap s.heap [] := va_S.rf
  have hC : Mk ws ws := Mk.rf
  have hl := lv_entry ([.ref (a 34)]) (n := 2) (Nat.le_of_ble_eq_true rfl)
  rw [lg_entry_eq]
  generalize (lg_sl ([.ref (a 34)]) ++ List.replicate (2 - (lg_sl ([.ref (a 34)])).length) Slot.unset).toArray = ls at hl ⊢
  have hl : lv_has ls 2 [(0, .ref (a 34))] := hl
  obtain ⟨n3, hn3, en3⟩ := hI.2.1.2.2.1
  refine lv_iconst (v := 0) hx hb d_M_fall_0 (by decide) ?_
  refine lv_istore_n (lv' := [(1, .int 0), (0, .ref (a 34))]) hx hb d_M_fall_1 rfl hl (by decide) rfl (fun ls hl => ?_)
  have key : ∀ (n9 i : Nat) (w9 : va_W) (H : Heap) (locs : List Loc) (ls : Array Slot), i + n9 = n3 → va_P D Cl w9 H → va_D (Az z) w9 → va_S (Az z) s.heap H locs → Mi a t NV v w9 → Mk ws w9 → lv_has ls 2 [(1, .int (nI i)), (0, .ref (a 34))] → W p l e (headSpec (Cond.code y_M_fall b_M_fall 2 (.none : Option Jvm.ClassFile.FieldType) :: WS) ({ frames := 0, cells := 0, slots := 0, locals := 0 })).room s m [.ref (a 34)].toArray below meth c H locs 0 0 (MQ below (va_Qv (fun u : va_W => ∃ v1, Mi a t NV v1 u ∧ Mk ws u) (fun u U => Wd D t z u U) (Az z)) [.ref (a 34)].toArray s 0 0 (Az z)) (F0 m 2 ls []) := by
    intro n9
    induction n9 with
    | zero =>
      intro i w9 H locs ls hi9 hP hD hS hI hC hl
      refine lv_iload_n hx hb d_M_fall_2 rfl (lv_at hl 0 rfl) ?_
      refine lv_aload_n hx hb d_M_fall_3 rfl (lv_at hl 1 rfl) ?_
      refine va_get (D := D) (ci := 6) (v := .int (v 3)) (C := R_M) (T := F_M) (N := 17) hx hb hts ws_M hown hK hP 34 hI.1 rfl 9 (by decide) (hts _ fl_M_80) (fun _ h9 => h9) rfl d_M_fall_4 ?_
      have hB9 : (v 3) = nI n3 := by rw [en3]
      refine lv_icmp_ge (tgt := 28) hx hb d_M_fall_7 rfl (fun _ => ?_) (fun h => absurd (by rw [hB9]; exact nI_le (by omega) (by omega)) h)
      refine lv_aload_n hx hb d_M_fall_28 rfl (lv_at hl 1 rfl) ?_
      refine lv_aload_n hx hb d_M_fall_29 rfl (lv_at hl 1 rfl) ?_
      refine va_get (D := D) (ci := 6) (v := .int (v 3)) (C := R_M) (T := F_M) (N := 17) hx hb hts ws_M hown hK hP 34 hI.1 rfl 9 (by decide) (hts _ fl_M_80) (fun _ h9 => h9) rfl d_M_fall_30 ?_
      refine va_put (D := D) (ci := 6) (v := .int (v 3)) (ty := .int) (C := R_M) (T := F_M) (N := 17) hx hb hts ws_M t_M ok_M n_M hown hK hP hD hS 34 hI.1 rfl 8 (by decide) (hts _ fl_M_43) (fun _ h9 => h9) rfl (by decide +kernel) rfl rfl (Nat.le_of_ble_eq_true rfl) d_M_fall_33 (fun H locs hP hD hS => ?_)
      obtain ⟨v1, hv1⟩ : ∃ q : Nat → Int32, q = upd v 2 (v 3) := ⟨_, rfl⟩
      have gv1 : v1 2 = (v 3) := by rw [hv1]; exact pk_us
      have nv1 : ∀ i, i ≠ 2 → v1 i = v i := fun i hi => by rw [hv1]; exact pk_un hi
      have hP : va_P D Cl (w9.set 34 (cMo a v1)) H := by rw [hv1]; exact hP
      have hD : va_D (Az z) (w9.set 34 (cMo a v1)) := by rw [hv1]; exact hD
      obtain ⟨w2, hw⟩ : ∃ q, q = w9.set 34 (cMo a v1) := ⟨_, rfl⟩
      have hP : va_P D Cl (w9.set 34 (cMo a v1)) H := hP
      have hD : va_D (Az z) (w9.set 34 (cMo a v1)) := hD
      have hC := hC.set (p := 34) (c := (cMo a v1)) (by decide) (by decide)
      have hI := hI.setO (v' := v1) ⟨by rw [nv1 0 (by decide)]; exact hI.2.1.1, ⟨n3, by omega, by rw [gv1, en3]⟩, by rw [nv1 3 (by decide)]; exact hI.2.1.2.2.1, by rw [nv1 4 (by decide)]; exact hI.2.1.2.2.2⟩
      rw [← hw] at hP hD hC hI
      clear hw
      refine lv_aload_n hx hb d_M_fall_36 rfl (lv_at hl 1 rfl) ?_
      refine lv_iconst (v := 0) hx hb d_M_fall_37 (by decide) ?_
      refine va_put (D := D) (ci := 6) (v := .int 0) (ty := .boolean) (C := R_M) (T := F_M) (N := 17) hx hb hts ws_M t_M ok_M n_M hown hK hP hD hS 34 hI.1 rfl 13 (by decide) (hts _ fl_M_54) (fun _ h9 => h9) rfl (by decide +kernel) rfl rfl (Nat.le_of_ble_eq_true rfl) d_M_fall_38 (fun H locs hP hD hS => ?_)
      obtain ⟨v3, hv3⟩ : ∃ q : Nat → Int32, q = upd v1 7 0 := ⟨_, rfl⟩
      have gv3 : v3 7 = 0 := by rw [hv3]; exact pk_us
      have nv3 : ∀ i, i ≠ 7 → v3 i = v1 i := fun i hi => by rw [hv3]; exact pk_un hi
      have hP : va_P D Cl (w2.set 34 (cMo a v3)) H := by rw [hv3]; exact hP
      have hD : va_D (Az z) (w2.set 34 (cMo a v3)) := by rw [hv3]; exact hD
      obtain ⟨w4, hw⟩ : ∃ q, q = w2.set 34 (cMo a v3) := ⟨_, rfl⟩
      have hP : va_P D Cl (w2.set 34 (cMo a v3)) H := hP
      have hD : va_D (Az z) (w2.set 34 (cMo a v3)) := hD
      have hC := hC.set (p := 34) (c := (cMo a v3)) (by decide) (by decide)
      have hI := hI.setO (v' := v3) ⟨by rw [nv3 0 (by decide)]; exact hI.2.1.1, by rw [nv3 2 (by decide)]; exact hI.2.1.2.1, by rw [nv3 3 (by decide)]; exact hI.2.1.2.2.1, by rw [nv3 4 (by decide)]; exact hI.2.1.2.2.2⟩
      rw [← hw] at hP hD hC hI
      clear hw
      refine lv_aload_n hx hb d_M_fall_41 rfl (lv_at hl 1 rfl) ?_
      refine lv_iconst (v := 0) hx hb d_M_fall_42 (by decide) ?_
      refine va_put (D := D) (ci := 6) (v := .int 0) (ty := .int) (C := R_M) (T := F_M) (N := 17) hx hb hts ws_M t_M ok_M n_M hown hK hP hD hS 34 hI.1 rfl 10 (by decide) (hts _ fl_M_77) (fun _ h9 => h9) rfl (by decide +kernel) rfl rfl (Nat.le_of_ble_eq_true rfl) d_M_fall_43 (fun H locs hP hD hS => ?_)
      obtain ⟨v5, hv5⟩ : ∃ q : Nat → Int32, q = upd v3 4 0 := ⟨_, rfl⟩
      have gv5 : v5 4 = 0 := by rw [hv5]; exact pk_us
      have nv5 : ∀ i, i ≠ 4 → v5 i = v3 i := fun i hi => by rw [hv5]; exact pk_un hi
      have hP : va_P D Cl (w4.set 34 (cMo a v5)) H := by rw [hv5]; exact hP
      have hD : va_D (Az z) (w4.set 34 (cMo a v5)) := by rw [hv5]; exact hD
      obtain ⟨w6, hw⟩ : ∃ q, q = w4.set 34 (cMo a v5) := ⟨_, rfl⟩
      have hP : va_P D Cl (w4.set 34 (cMo a v5)) H := hP
      have hD : va_D (Az z) (w4.set 34 (cMo a v5)) := hD
      have hC := hC.set (p := 34) (c := (cMo a v5)) (by decide) (by decide)
      have hI := hI.setO (v' := v5) ⟨by rw [nv5 0 (by decide)]; exact hI.2.1.1, by rw [nv5 2 (by decide)]; exact hI.2.1.2.1, by rw [nv5 3 (by decide)]; exact hI.2.1.2.2.1, ⟨0, by omega, by rw [gv5]; rfl⟩⟩
      rw [← hw] at hP hD hC hI
      clear hw
      exact W.vret hx hb hr (fun t9 ht hW => ⟨⟨w6, rfl, ⟨_, hI, hC⟩, ⟨by rw [ht]; exact hP, va_K.moved hW.alike hK, hD, by rw [ht]; exact Nat.le_trans hz hS.1⟩⟩, hS.F ht⟩) hS.2.2 d_M_fall_46
    | succ n9 ih =>
      intro i w9 H locs ls hi9 hP hD hS hI hC hl
      refine lv_iload_n hx hb d_M_fall_2 rfl (lv_at hl 0 rfl) ?_
      refine lv_aload_n hx hb d_M_fall_3 rfl (lv_at hl 1 rfl) ?_
      refine va_get (D := D) (ci := 6) (v := .int (v 3)) (C := R_M) (T := F_M) (N := 17) hx hb hts ws_M hown hK hP 34 hI.1 rfl 9 (by decide) (hts _ fl_M_80) (fun _ h9 => h9) rfl d_M_fall_4 ?_
      have hB9 : (v 3) = nI n3 := by rw [en3]
      refine lv_icmp_ge (tgt := 28) hx hb d_M_fall_7 rfl (fun h => absurd h (by rw [hB9]; exact nI_ge (by omega) (by omega))) (fun _ => ?_)
      refine lv_aload_n hx hb d_M_fall_10 rfl (lv_at hl 1 rfl) ?_
      refine va_get (D := D) (ci := 6) (v := .ref (a 37)) (C := R_M) (T := F_M) (N := 17) hx hb hts ws_M hown hK hP 34 hI.1 rfl 4 (by decide) (hts _ fl_M_25) (fun _ h9 => h9) rfl d_M_fall_11 ?_
      refine lv_iload_n hx hb d_M_fall_14 rfl (lv_at hl 0 rfl) ?_
      refine lv_aload_n hx hb d_M_fall_15 rfl (lv_at hl 1 rfl) ?_
      refine va_get (D := D) (ci := 6) (v := .ref (a 38)) (C := R_M) (T := F_M) (N := 17) hx hb hts ws_M hown hK hP 34 hI.1 rfl 5 (by decide) (hts _ fl_M_28) (fun _ h9 => h9) rfl d_M_fall_16 ?_
      refine lv_iload_n hx hb d_M_fall_19 rfl (lv_at hl 0 rfl) ?_
      obtain ⟨fA7, eA7, lA7⟩ := hI.a38
      refine va_iald (D := D) hx hb hK hP 38 4 eA7 rfl (i := (nI i)) (vp_in_nI (n := i) (by omega) (by decide)) d_M_fall_20 ?_
      obtain ⟨VA7, hVA7, eVA7⟩ := lA7 ((nI i) : Int32).toNatClampNeg
      refine W.eq (g2 := F0 m 21 ls [.int (nI VA7), .int (nI i), .ref (a 37)]) (by rw [eVA7]) ?_
      obtain ⟨Vz, hVz, -⟩ := hI.a37.choose_spec.2 0
      obtain ⟨fA10, eA10, lA10⟩ := hI.a37
      refine va_iast (D := D) hx hb hK hP hD hS 37 4 eA10 rfl (i := (nI i)) (x := (nI VA7)) (vp_in_nI (n := i) (by omega) (by decide)) d_M_fall_21 (fun H locs hP hD hS => ?_)
      obtain ⟨gA10, hgA10⟩ : ∃ q, q = upd fA10 ((nI i) : Int32).toNatClampNeg (nI VA7) := ⟨_, rfl⟩
      rw [← hgA10] at hP hD
      obtain ⟨w11, hw⟩ : ∃ q, q = w9.set 37 (cI a t 37 1024 gA10) := ⟨_, rfl⟩
      have hP : va_P D Cl (w9.set 37 (cI a t 37 1024 gA10)) H := hP
      have hD : va_D (Az z) (w9.set 37 (cI a t 37 1024 gA10)) := hD
      have hC := hC.set (p := 37) (c := (cI a t 37 1024 gA10)) (by decide) (by decide)
      have hI := hI.s37 (f9 := gA10) (by rw [hgA10]; exact lA10.upd (V := VA7) (by omega))
      rw [← hw] at hP hD hC hI
      clear hw
      refine lv_iinc (k := 0) (v := nI (i + 1)) (lv' := [(1, .int (nI (i + 1))), (0, .ref (a 34))]) hx hb d_M_fall_22 hl rfl (nI_1 i) (by decide) rfl (fun ls hl => ?_)
      refine lv_goto (tgt := 2) hx hb d_M_fall_25 rfl ?_
      exact ih (i + 1) w11 H locs ls (by omega) hP hD hS hI hC (lv_sub hl [0, 1] rfl)
  exact key n3 0 ws _ _ _ (Nat.zero_add _) hP hD hS hI hC hl
set_option maxHeartbeats 4000000 in
set_option maxRecDepth 100000 in
theorem c_M_commit {l : Launch} {D : va_G} {t : Nat → ClassId} {z : Nat} {sa : Nat → Nat} {ws : va_W} {a : Nat → Nat} {NV : Nat} {v : Nat → Int32}  (hI : Mi a t NV v ws)  : Met l y_M_commit (Cond.code y_M_commit b_M_commit 2 (.none : Option Jvm.ClassFile.FieldType) :: WS) ({ frames := 1, cells := 0, slots := 0, locals := 22 }) (Pz D t z sa ws [.ref (a 34)]) (va_Qv (fun u : va_W => ∃ v1, Mi a t NV v1 u ∧ Mk ws u) (fun u U => Wd D t z u U) (Az z)) 0 0 (Az z) := by
  refine Met.ofW (cc := b_M_commit) (maxL := 2) (ret := (.none : Option Jvm.ClassFile.FieldType)) (by decide) rfl ?_
  intro p e s m args below meth c s₁ B hml hv
  obtain ⟨rfl, ⟨hP, hK, hD, hz⟩, hM⟩ := hv
  have hx := B.exec
  have hb := B.bytes
  have hr := B.returns
  have hts : ∀ w ∈ WS, w.before [.ref (a 34)].toArray s = true := fun w h => atoms_spec B.pre w (List.mem_cons_of_mem _ h)
  have hown : s.vm.findClass R_M = some m.cls := findClass_of_methodNamed B.named
  have hlocks := B.notSynchronized
  have hA : ∀ q, s.heap.size ≤ q → Az z q := fun q h => Nat.le_trans hz h
  have hS : va_S (Az z) s.heap s.heap [] := va_S.rf
  have hC : Mk ws ws := Mk.rf
  have hl := lv_entry ([.ref (a 34)]) (n := 2) (Nat.le_of_ble_eq_true rfl)
  rw [lg_entry_eq]
  generalize (lg_sl ([.ref (a 34)]) ++ List.replicate (2 - (lg_sl ([.ref (a 34)])).length) Slot.unset).toArray = ls at hl ⊢
  have hl : lv_has ls 2 [(0, .ref (a 34))] := hl
  refine lv_aload_n hx hb d_M_commit_0 rfl (lv_at hl 0 rfl) ?_
  refine lv_aload_n hx hb d_M_commit_1 rfl (lv_at hl 0 rfl) ?_
  refine va_get (D := D) (ci := 6) (v := .int (v 6)) (C := R_M) (T := F_M) (N := 17) hx hb hts ws_M hown hK hP 34 hI.1 rfl 12 (by decide) (hts _ fl_M_46) (fun _ h9 => h9) rfl d_M_commit_2 ?_
  refine lv_if_ne (tgt := 15) hx hb d_M_commit_5 rfl (fun q1 => ?_) (fun q1 => ?_)
  · skip
    refine lv_iconst (v := 1) hx hb d_M_commit_15 (by decide) ?_
    refine lv_goto (tgt := 20) hx hb d_M_commit_16 rfl ?_
    refine lv_iconst (v := 0) hx hb d_M_commit_20 (by decide) ?_
    refine va_calli (va_runV (As := [.int 1, .int 0]) (rest := []) ⟨hx, hb, hml, hown, hts⟩ (c_M_fails (D := D) (t := t) (z := z) (sa := sa) (ws := ws) (x9 := 1) (y9 := 0) hI ) (cwV 2 hts (gd_V ml_M_50 im_M_fails se_M_fails in_M cd_M_fails) rfl rfl rfl (by decide +kernel) ⟨Nat.le_of_ble_eq_true rfl, Nat.le_of_ble_eq_true rfl⟩) ⟨Pz_blind, va_recv hK hP (ci := 6) rfl hI.1, Pz_at hP hK hD hz hM hS⟩ rfl rfl hl.1 rfl (lv_room (Nat.le_of_ble_eq_true rfl)) d_M_commit_21 ⟨Nat.le_of_ble_eq_true rfl, Nat.le_of_ble_eq_true rfl⟩) hS (fun q _ h => h) (fun q h => h) (fun r3 u2 t9 H locs ht hvm hp hB hz1 hk1 hS => ?_)
    obtain ⟨hP, hK9, hD, -⟩ := hB
    rw [ht] at hP
    clear hK9
    obtain ⟨v4, hI, hC9, nv4, hr9⟩ := hp
    have hC := hC.trans hC9
    rcases hr9 with hr9 | ⟨hr9, hx0, hy0⟩
    · skip
      subst hr9
      refine lv_if_eq (tgt := 28) hx hb d_M_commit_24 rfl (fun h => absurd h (by decide)) (fun _ => ?_)
      exact W.vret hx hb hr (fun t9 ht hW => ⟨⟨u2, rfl, ⟨_, hI, hC⟩, ⟨by rw [ht]; exact hP, va_K.moved hW.alike hK, hD, by rw [ht]; exact Nat.le_trans hz hS.1⟩⟩, hS.F ht⟩) hS.2.2 d_M_commit_27
    · skip
      exact absurd hx0 (by decide)
  · skip
    refine lv_aload_n hx hb d_M_commit_8 rfl (lv_at hl 0 rfl) ?_
    refine va_get (D := D) (ci := 6) (v := .int (v 7)) (C := R_M) (T := F_M) (N := 17) hx hb hts ws_M hown hK hP 34 hI.1 rfl 13 (by decide) (hts _ fl_M_54) (fun _ h9 => h9) rfl d_M_commit_9 ?_
    refine lv_if_ne (tgt := 19) hx hb d_M_commit_12 rfl (fun q5 => ?_) (fun q5 => ?_)
    · skip
      refine lv_iconst (v := 0) hx hb d_M_commit_19 (by decide) ?_
      refine lv_iconst (v := 0) hx hb d_M_commit_20 (by decide) ?_
      refine va_calli (va_runV (As := [.int 0, .int 0]) (rest := []) ⟨hx, hb, hml, hown, hts⟩ (c_M_fails (D := D) (t := t) (z := z) (sa := sa) (ws := ws) (x9 := 0) (y9 := 0) hI ) (cwV 2 hts (gd_V ml_M_50 im_M_fails se_M_fails in_M cd_M_fails) rfl rfl rfl (by decide +kernel) ⟨Nat.le_of_ble_eq_true rfl, Nat.le_of_ble_eq_true rfl⟩) ⟨Pz_blind, va_recv hK hP (ci := 6) rfl hI.1, Pz_at hP hK hD hz hM hS⟩ rfl rfl hl.1 rfl (lv_room (Nat.le_of_ble_eq_true rfl)) d_M_commit_21 ⟨Nat.le_of_ble_eq_true rfl, Nat.le_of_ble_eq_true rfl⟩) hS (fun q _ h => h) (fun q h => h) (fun r7 u6 t9 H locs ht hvm hp hB hz1 hk1 hS => ?_)
      obtain ⟨hP, hK9, hD, -⟩ := hB
      rw [ht] at hP
      clear hK9
      obtain ⟨v8, hI, hC9, nv8, hr9⟩ := hp
      have hC := hC.trans hC9
      rcases hr9 with hr9 | ⟨hr9, hx0, hy0⟩
      · skip
        subst hr9
        refine lv_if_eq (tgt := 28) hx hb d_M_commit_24 rfl (fun h => absurd h (by decide)) (fun _ => ?_)
        exact W.vret hx hb hr (fun t9 ht hW => ⟨⟨u6, rfl, ⟨_, hI, hC⟩, ⟨by rw [ht]; exact hP, va_K.moved hW.alike hK, hD, by rw [ht]; exact Nat.le_trans hz hS.1⟩⟩, hS.F ht⟩) hS.2.2 d_M_commit_27
      · skip
        subst hr9
        refine lv_if_eq (tgt := 28) hx hb d_M_commit_24 rfl (fun _ => ?_) (fun h => absurd h (by decide))
        refine lv_aload_n hx hb d_M_commit_28 rfl (lv_at hl 0 rfl) ?_
        refine va_get (D := D) (ci := 6) (v := .int (v8 8)) (C := R_M) (T := F_M) (N := 17) hx hb hts ws_M hown hK hP 34 hI.1 rfl 14 (by decide) (hts _ fl_M_37) (fun _ h9 => h9) rfl d_M_commit_29 ?_
        refine lv_iconst (v := 3) hx hb d_M_commit_32 (by decide) ?_
        refine lv_icmp_ge (tgt := 40) hx hb d_M_commit_33 rfl (fun q10 => ?_) (fun q10 => ?_)
        · skip
          refine lv_iconst (v := 0) hx hb d_M_commit_40 (by decide) ?_
          refine lv_istore_n (lv' := [(1, .int 0), (0, .ref (a 34))]) hx hb d_M_commit_41 rfl hl (by decide) rfl (fun ls hl => ?_)
          refine lv_iload_n hx hb d_M_commit_42 rfl (lv_at hl 0 rfl) ?_
          refine lv_if_eq (tgt := 61) hx hb d_M_commit_43 rfl (fun _ => ?_) (fun h => absurd h (by decide))
          refine lv_aload_n hx hb d_M_commit_61 rfl (lv_at hl 1 rfl) ?_
          refine va_callv (va_runV (As := []) (rest := []) ⟨hx, hb, hml, hown, hts⟩ (c_M_lasts (D := D) (t := t) (z := z) (sa := sa) (ws := u6)  hI ) (cwV 0 hts (gd_V ml_M_89 im_M_lasts se_M_lasts in_M cd_M_lasts) rfl rfl rfl (by decide +kernel) ⟨Nat.le_of_ble_eq_true rfl, Nat.le_of_ble_eq_true rfl⟩) ⟨Pz_blind, va_recv hK hP (ci := 6) rfl hI.1, Pz_at hP hK hD hz hM hS⟩ rfl rfl hl.1 rfl (lv_room (Nat.le_of_ble_eq_true rfl)) d_M_commit_62 ⟨Nat.le_of_ble_eq_true rfl, Nat.le_of_ble_eq_true rfl⟩) hS (fun q _ h => h) (fun q h => h) (fun u11 t9 H locs ht hvm hp hB hz1 hk1 hS => ?_)
          obtain ⟨hP, hK9, hD, -⟩ := hB
          rw [ht] at hP
          clear hK9
          obtain ⟨v13, hI, hC9⟩ := hp
          have hC := hC.trans hC9
          refine lv_aload_n hx hb d_M_commit_65 rfl (lv_at hl 1 rfl) ?_
          refine lv_iconst (v := 0) hx hb d_M_commit_66 (by decide) ?_
          refine va_put (D := D) (ci := 6) (v := .int 0) (ty := .boolean) (C := R_M) (T := F_M) (N := 17) hx hb hts ws_M t_M ok_M n_M hown hK hP hD hS 34 hI.1 rfl 13 (by decide) (hts _ fl_M_54) (fun _ h9 => h9) rfl (by decide +kernel) rfl rfl (Nat.le_of_ble_eq_true rfl) d_M_commit_67 (fun H locs hP hD hS => ?_)
          obtain ⟨v14, hv14⟩ : ∃ q : Nat → Int32, q = upd v13 7 0 := ⟨_, rfl⟩
          have gv14 : v14 7 = 0 := by rw [hv14]; exact pk_us
          have nv14 : ∀ i, i ≠ 7 → v14 i = v13 i := fun i hi => by rw [hv14]; exact pk_un hi
          have hP : va_P D Cl (u11.set 34 (cMo a v14)) H := by rw [hv14]; exact hP
          have hD : va_D (Az z) (u11.set 34 (cMo a v14)) := by rw [hv14]; exact hD
          obtain ⟨w15, hw⟩ : ∃ q, q = u11.set 34 (cMo a v14) := ⟨_, rfl⟩
          have hP : va_P D Cl (u11.set 34 (cMo a v14)) H := hP
          have hD : va_D (Az z) (u11.set 34 (cMo a v14)) := hD
          have hC := hC.set (p := 34) (c := (cMo a v14)) (by decide) (by decide)
          have hI := hI.setO (v' := v14) ⟨by rw [nv14 0 (by decide)]; exact hI.2.1.1, by rw [nv14 2 (by decide)]; exact hI.2.1.2.1, by rw [nv14 3 (by decide)]; exact hI.2.1.2.2.1, by rw [nv14 4 (by decide)]; exact hI.2.1.2.2.2⟩
          rw [← hw] at hP hD hC hI
          clear hw
          refine lv_aload_n hx hb d_M_commit_70 rfl (lv_at hl 1 rfl) ?_
          refine lv_iconst (v := 0) hx hb d_M_commit_71 (by decide) ?_
          refine va_put (D := D) (ci := 6) (v := .int 0) (ty := .int) (C := R_M) (T := F_M) (N := 17) hx hb hts ws_M t_M ok_M n_M hown hK hP hD hS 34 hI.1 rfl 10 (by decide) (hts _ fl_M_77) (fun _ h9 => h9) rfl (by decide +kernel) rfl rfl (Nat.le_of_ble_eq_true rfl) d_M_commit_72 (fun H locs hP hD hS => ?_)
          obtain ⟨v16, hv16⟩ : ∃ q : Nat → Int32, q = upd v14 4 0 := ⟨_, rfl⟩
          have gv16 : v16 4 = 0 := by rw [hv16]; exact pk_us
          have nv16 : ∀ i, i ≠ 4 → v16 i = v14 i := fun i hi => by rw [hv16]; exact pk_un hi
          have hP : va_P D Cl (w15.set 34 (cMo a v16)) H := by rw [hv16]; exact hP
          have hD : va_D (Az z) (w15.set 34 (cMo a v16)) := by rw [hv16]; exact hD
          obtain ⟨w17, hw⟩ : ∃ q, q = w15.set 34 (cMo a v16) := ⟨_, rfl⟩
          have hP : va_P D Cl (w15.set 34 (cMo a v16)) H := hP
          have hD : va_D (Az z) (w15.set 34 (cMo a v16)) := hD
          have hC := hC.set (p := 34) (c := (cMo a v16)) (by decide) (by decide)
          have hI := hI.setO (v' := v16) ⟨by rw [nv16 0 (by decide)]; exact hI.2.1.1, by rw [nv16 2 (by decide)]; exact hI.2.1.2.1, by rw [nv16 3 (by decide)]; exact hI.2.1.2.2.1, ⟨0, by omega, by rw [gv16]; rfl⟩⟩
          rw [← hw] at hP hD hC hI
          clear hw
          refine lv_iload_n hx hb d_M_commit_75 rfl (lv_at hl 0 rfl) ?_
          refine lv_if_ne (tgt := 80) hx hb d_M_commit_76 rfl (fun h => absurd h (by decide)) (fun _ => ?_)
          exact W.vret hx hb hr (fun t9 ht hW => ⟨⟨w17, rfl, ⟨_, hI, hC⟩, ⟨by rw [ht]; exact hP, va_K.moved hW.alike hK, hD, by rw [ht]; exact Nat.le_trans hz hS.1⟩⟩, hS.F ht⟩) hS.2.2 d_M_commit_79
        · skip
          refine lv_iconst (v := 1) hx hb d_M_commit_36 (by decide) ?_
          refine lv_goto (tgt := 41) hx hb d_M_commit_37 rfl ?_
          refine lv_istore_n (lv' := [(1, .int 1), (0, .ref (a 34))]) hx hb d_M_commit_41 rfl hl (by decide) rfl (fun ls hl => ?_)
          refine lv_iload_n hx hb d_M_commit_42 rfl (lv_at hl 0 rfl) ?_
          refine lv_if_eq (tgt := 61) hx hb d_M_commit_43 rfl (fun h => absurd h (by decide)) (fun _ => ?_)
          refine lv_aload_n hx hb d_M_commit_46 rfl (lv_at hl 1 rfl) ?_
          refine va_get (D := D) (ci := 6) (v := .int (v8 8)) (C := R_M) (T := F_M) (N := 17) hx hb hts ws_M hown hK hP 34 hI.1 rfl 14 (by decide) (hts _ fl_M_37) (fun _ h9 => h9) rfl d_M_commit_47 ?_
          refine lv_iconst (v := 2) hx hb d_M_commit_50 (by decide) ?_
          refine lv_icmp_ne (tgt := 65) hx hb d_M_commit_51 rfl (fun q18 => ?_) (fun q18 => ?_)
          · skip
            refine lv_aload_n hx hb d_M_commit_65 rfl (lv_at hl 1 rfl) ?_
            refine lv_iconst (v := 0) hx hb d_M_commit_66 (by decide) ?_
            refine va_put (D := D) (ci := 6) (v := .int 0) (ty := .boolean) (C := R_M) (T := F_M) (N := 17) hx hb hts ws_M t_M ok_M n_M hown hK hP hD hS 34 hI.1 rfl 13 (by decide) (hts _ fl_M_54) (fun _ h9 => h9) rfl (by decide +kernel) rfl rfl (Nat.le_of_ble_eq_true rfl) d_M_commit_67 (fun H locs hP hD hS => ?_)
            obtain ⟨v19, hv19⟩ : ∃ q : Nat → Int32, q = upd v8 7 0 := ⟨_, rfl⟩
            have gv19 : v19 7 = 0 := by rw [hv19]; exact pk_us
            have nv19 : ∀ i, i ≠ 7 → v19 i = v8 i := fun i hi => by rw [hv19]; exact pk_un hi
            have hP : va_P D Cl (u6.set 34 (cMo a v19)) H := by rw [hv19]; exact hP
            have hD : va_D (Az z) (u6.set 34 (cMo a v19)) := by rw [hv19]; exact hD
            obtain ⟨w20, hw⟩ : ∃ q, q = u6.set 34 (cMo a v19) := ⟨_, rfl⟩
            have hP : va_P D Cl (u6.set 34 (cMo a v19)) H := hP
            have hD : va_D (Az z) (u6.set 34 (cMo a v19)) := hD
            have hC := hC.set (p := 34) (c := (cMo a v19)) (by decide) (by decide)
            have hI := hI.setO (v' := v19) ⟨by rw [nv19 0 (by decide)]; exact hI.2.1.1, by rw [nv19 2 (by decide)]; exact hI.2.1.2.1, by rw [nv19 3 (by decide)]; exact hI.2.1.2.2.1, by rw [nv19 4 (by decide)]; exact hI.2.1.2.2.2⟩
            rw [← hw] at hP hD hC hI
            clear hw
            refine lv_aload_n hx hb d_M_commit_70 rfl (lv_at hl 1 rfl) ?_
            refine lv_iconst (v := 0) hx hb d_M_commit_71 (by decide) ?_
            refine va_put (D := D) (ci := 6) (v := .int 0) (ty := .int) (C := R_M) (T := F_M) (N := 17) hx hb hts ws_M t_M ok_M n_M hown hK hP hD hS 34 hI.1 rfl 10 (by decide) (hts _ fl_M_77) (fun _ h9 => h9) rfl (by decide +kernel) rfl rfl (Nat.le_of_ble_eq_true rfl) d_M_commit_72 (fun H locs hP hD hS => ?_)
            obtain ⟨v21, hv21⟩ : ∃ q : Nat → Int32, q = upd v19 4 0 := ⟨_, rfl⟩
            have gv21 : v21 4 = 0 := by rw [hv21]; exact pk_us
            have nv21 : ∀ i, i ≠ 4 → v21 i = v19 i := fun i hi => by rw [hv21]; exact pk_un hi
            have hP : va_P D Cl (w20.set 34 (cMo a v21)) H := by rw [hv21]; exact hP
            have hD : va_D (Az z) (w20.set 34 (cMo a v21)) := by rw [hv21]; exact hD
            obtain ⟨w22, hw⟩ : ∃ q, q = w20.set 34 (cMo a v21) := ⟨_, rfl⟩
            have hP : va_P D Cl (w20.set 34 (cMo a v21)) H := hP
            have hD : va_D (Az z) (w20.set 34 (cMo a v21)) := hD
            have hC := hC.set (p := 34) (c := (cMo a v21)) (by decide) (by decide)
            have hI := hI.setO (v' := v21) ⟨by rw [nv21 0 (by decide)]; exact hI.2.1.1, by rw [nv21 2 (by decide)]; exact hI.2.1.2.1, by rw [nv21 3 (by decide)]; exact hI.2.1.2.2.1, ⟨0, by omega, by rw [gv21]; rfl⟩⟩
            rw [← hw] at hP hD hC hI
            clear hw
            refine lv_iload_n hx hb d_M_commit_75 rfl (lv_at hl 0 rfl) ?_
            refine lv_if_ne (tgt := 80) hx hb d_M_commit_76 rfl (fun _ => ?_) (fun h => absurd h (by decide))
            refine lv_aload_n hx hb d_M_commit_80 rfl (lv_at hl 1 rfl) ?_
            refine va_callv (va_runV (As := []) (rest := []) ⟨hx, hb, hml, hown, hts⟩ (c_M_fall (D := D) (t := t) (z := z) (sa := sa) (ws := w22)  hI ) (cwV 0 hts (gd_V ml_M_92 im_M_fall se_M_fall in_M cd_M_fall) rfl rfl rfl (by decide +kernel) ⟨Nat.le_of_ble_eq_true rfl, Nat.le_of_ble_eq_true rfl⟩) ⟨Pz_blind, va_recv hK hP (ci := 6) rfl hI.1, Pz_at hP hK hD hz hM hS⟩ rfl rfl hl.1 rfl (lv_room (Nat.le_of_ble_eq_true rfl)) d_M_commit_81 ⟨Nat.le_of_ble_eq_true rfl, Nat.le_of_ble_eq_true rfl⟩) hS (fun q _ h => h) (fun q h => h) (fun u23 t9 H locs ht hvm hp hB hz1 hk1 hS => ?_)
            obtain ⟨hP, hK9, hD, -⟩ := hB
            rw [ht] at hP
            clear hK9
            obtain ⟨v25, hI, hC9⟩ := hp
            have hC := hC.trans hC9
            refine lv_aload_n hx hb d_M_commit_84 rfl (lv_at hl 1 rfl) ?_
            refine lv_iconst (v := 4) hx hb d_M_commit_85 (by decide) ?_
            refine va_put (D := D) (ci := 6) (v := .int 4) (ty := .int) (C := R_M) (T := F_M) (N := 17) hx hb hts ws_M t_M ok_M n_M hown hK hP hD hS 34 hI.1 rfl 14 (by decide) (hts _ fl_M_37) (fun _ h9 => h9) rfl (by decide +kernel) rfl rfl (Nat.le_of_ble_eq_true rfl) d_M_commit_86 (fun H locs hP hD hS => ?_)
            obtain ⟨v26, hv26⟩ : ∃ q : Nat → Int32, q = upd v25 8 4 := ⟨_, rfl⟩
            have gv26 : v26 8 = 4 := by rw [hv26]; exact pk_us
            have nv26 : ∀ i, i ≠ 8 → v26 i = v25 i := fun i hi => by rw [hv26]; exact pk_un hi
            have hP : va_P D Cl (u23.set 34 (cMo a v26)) H := by rw [hv26]; exact hP
            have hD : va_D (Az z) (u23.set 34 (cMo a v26)) := by rw [hv26]; exact hD
            obtain ⟨w27, hw⟩ : ∃ q, q = u23.set 34 (cMo a v26) := ⟨_, rfl⟩
            have hP : va_P D Cl (u23.set 34 (cMo a v26)) H := hP
            have hD : va_D (Az z) (u23.set 34 (cMo a v26)) := hD
            have hC := hC.set (p := 34) (c := (cMo a v26)) (by decide) (by decide)
            have hI := hI.setO (v' := v26) ⟨by rw [nv26 0 (by decide)]; exact hI.2.1.1, by rw [nv26 2 (by decide)]; exact hI.2.1.2.1, by rw [nv26 3 (by decide)]; exact hI.2.1.2.2.1, by rw [nv26 4 (by decide)]; exact hI.2.1.2.2.2⟩
            rw [← hw] at hP hD hC hI
            clear hw
            refine lv_aload_n hx hb d_M_commit_89 rfl (lv_at hl 1 rfl) ?_
            refine lv_iconst (v := 1) hx hb d_M_commit_90 (by decide) ?_
            refine va_put (D := D) (ci := 6) (v := .int 1) (ty := .boolean) (C := R_M) (T := F_M) (N := 17) hx hb hts ws_M t_M ok_M n_M hown hK hP hD hS 34 hI.1 rfl 12 (by decide) (hts _ fl_M_46) (fun _ h9 => h9) rfl (by decide +kernel) rfl rfl (Nat.le_of_ble_eq_true rfl) d_M_commit_91 (fun H locs hP hD hS => ?_)
            obtain ⟨v28, hv28⟩ : ∃ q : Nat → Int32, q = upd v26 6 1 := ⟨_, rfl⟩
            have gv28 : v28 6 = 1 := by rw [hv28]; exact pk_us
            have nv28 : ∀ i, i ≠ 6 → v28 i = v26 i := fun i hi => by rw [hv28]; exact pk_un hi
            have hP : va_P D Cl (w27.set 34 (cMo a v28)) H := by rw [hv28]; exact hP
            have hD : va_D (Az z) (w27.set 34 (cMo a v28)) := by rw [hv28]; exact hD
            obtain ⟨w29, hw⟩ : ∃ q, q = w27.set 34 (cMo a v28) := ⟨_, rfl⟩
            have hP : va_P D Cl (w27.set 34 (cMo a v28)) H := hP
            have hD : va_D (Az z) (w27.set 34 (cMo a v28)) := hD
            have hC := hC.set (p := 34) (c := (cMo a v28)) (by decide) (by decide)
            have hI := hI.setO (v' := v28) ⟨by rw [nv28 0 (by decide)]; exact hI.2.1.1, by rw [nv28 2 (by decide)]; exact hI.2.1.2.1, by rw [nv28 3 (by decide)]; exact hI.2.1.2.2.1, by rw [nv28 4 (by decide)]; exact hI.2.1.2.2.2⟩
            rw [← hw] at hP hD hC hI
            clear hw
            refine lv_aload_n hx hb d_M_commit_94 rfl (lv_at hl 1 rfl) ?_
            refine lv_iconst (v := 2) hx hb d_M_commit_95 (by decide) ?_
            refine va_put (D := D) (ci := 6) (v := .int 2) (ty := .int) (C := R_M) (T := F_M) (N := 17) hx hb hts ws_M t_M ok_M n_M hown hK hP hD hS 34 hI.1 rfl 16 (by decide) (hts _ fl_M_40) (fun _ h9 => h9) rfl (by decide +kernel) rfl rfl (Nat.le_of_ble_eq_true rfl) d_M_commit_96 (fun H locs hP hD hS => ?_)
            obtain ⟨v30, hv30⟩ : ∃ q : Nat → Int32, q = upd v28 10 2 := ⟨_, rfl⟩
            have gv30 : v30 10 = 2 := by rw [hv30]; exact pk_us
            have nv30 : ∀ i, i ≠ 10 → v30 i = v28 i := fun i hi => by rw [hv30]; exact pk_un hi
            have hP : va_P D Cl (w29.set 34 (cMo a v30)) H := by rw [hv30]; exact hP
            have hD : va_D (Az z) (w29.set 34 (cMo a v30)) := by rw [hv30]; exact hD
            obtain ⟨w31, hw⟩ : ∃ q, q = w29.set 34 (cMo a v30) := ⟨_, rfl⟩
            have hP : va_P D Cl (w29.set 34 (cMo a v30)) H := hP
            have hD : va_D (Az z) (w29.set 34 (cMo a v30)) := hD
            have hC := hC.set (p := 34) (c := (cMo a v30)) (by decide) (by decide)
            have hI := hI.setO (v' := v30) ⟨by rw [nv30 0 (by decide)]; exact hI.2.1.1, by rw [nv30 2 (by decide)]; exact hI.2.1.2.1, by rw [nv30 3 (by decide)]; exact hI.2.1.2.2.1, by rw [nv30 4 (by decide)]; exact hI.2.1.2.2.2⟩
            rw [← hw] at hP hD hC hI
            clear hw
            exact W.vret hx hb hr (fun t9 ht hW => ⟨⟨w31, rfl, ⟨_, hI, hC⟩, ⟨by rw [ht]; exact hP, va_K.moved hW.alike hK, hD, by rw [ht]; exact Nat.le_trans hz hS.1⟩⟩, hS.F ht⟩) hS.2.2 d_M_commit_99
          · skip
            refine lv_aload_n hx hb d_M_commit_54 rfl (lv_at hl 1 rfl) ?_
            refine va_get (D := D) (ci := 6) (v := .int (v8 9)) (C := R_M) (T := F_M) (N := 17) hx hb hts ws_M hown hK hP 34 hI.1 rfl 15 (by decide) (hts _ fl_M_86) (fun _ h9 => h9) rfl d_M_commit_55 ?_
            refine lv_if_le (tgt := 65) hx hb d_M_commit_58 rfl (fun q32 => ?_) (fun q32 => ?_)
            · skip
              refine lv_aload_n hx hb d_M_commit_65 rfl (lv_at hl 1 rfl) ?_
              refine lv_iconst (v := 0) hx hb d_M_commit_66 (by decide) ?_
              refine va_put (D := D) (ci := 6) (v := .int 0) (ty := .boolean) (C := R_M) (T := F_M) (N := 17) hx hb hts ws_M t_M ok_M n_M hown hK hP hD hS 34 hI.1 rfl 13 (by decide) (hts _ fl_M_54) (fun _ h9 => h9) rfl (by decide +kernel) rfl rfl (Nat.le_of_ble_eq_true rfl) d_M_commit_67 (fun H locs hP hD hS => ?_)
              obtain ⟨v33, hv33⟩ : ∃ q : Nat → Int32, q = upd v8 7 0 := ⟨_, rfl⟩
              have gv33 : v33 7 = 0 := by rw [hv33]; exact pk_us
              have nv33 : ∀ i, i ≠ 7 → v33 i = v8 i := fun i hi => by rw [hv33]; exact pk_un hi
              have hP : va_P D Cl (u6.set 34 (cMo a v33)) H := by rw [hv33]; exact hP
              have hD : va_D (Az z) (u6.set 34 (cMo a v33)) := by rw [hv33]; exact hD
              obtain ⟨w34, hw⟩ : ∃ q, q = u6.set 34 (cMo a v33) := ⟨_, rfl⟩
              have hP : va_P D Cl (u6.set 34 (cMo a v33)) H := hP
              have hD : va_D (Az z) (u6.set 34 (cMo a v33)) := hD
              have hC := hC.set (p := 34) (c := (cMo a v33)) (by decide) (by decide)
              have hI := hI.setO (v' := v33) ⟨by rw [nv33 0 (by decide)]; exact hI.2.1.1, by rw [nv33 2 (by decide)]; exact hI.2.1.2.1, by rw [nv33 3 (by decide)]; exact hI.2.1.2.2.1, by rw [nv33 4 (by decide)]; exact hI.2.1.2.2.2⟩
              rw [← hw] at hP hD hC hI
              clear hw
              refine lv_aload_n hx hb d_M_commit_70 rfl (lv_at hl 1 rfl) ?_
              refine lv_iconst (v := 0) hx hb d_M_commit_71 (by decide) ?_
              refine va_put (D := D) (ci := 6) (v := .int 0) (ty := .int) (C := R_M) (T := F_M) (N := 17) hx hb hts ws_M t_M ok_M n_M hown hK hP hD hS 34 hI.1 rfl 10 (by decide) (hts _ fl_M_77) (fun _ h9 => h9) rfl (by decide +kernel) rfl rfl (Nat.le_of_ble_eq_true rfl) d_M_commit_72 (fun H locs hP hD hS => ?_)
              obtain ⟨v35, hv35⟩ : ∃ q : Nat → Int32, q = upd v33 4 0 := ⟨_, rfl⟩
              have gv35 : v35 4 = 0 := by rw [hv35]; exact pk_us
              have nv35 : ∀ i, i ≠ 4 → v35 i = v33 i := fun i hi => by rw [hv35]; exact pk_un hi
              have hP : va_P D Cl (w34.set 34 (cMo a v35)) H := by rw [hv35]; exact hP
              have hD : va_D (Az z) (w34.set 34 (cMo a v35)) := by rw [hv35]; exact hD
              obtain ⟨w36, hw⟩ : ∃ q, q = w34.set 34 (cMo a v35) := ⟨_, rfl⟩
              have hP : va_P D Cl (w34.set 34 (cMo a v35)) H := hP
              have hD : va_D (Az z) (w34.set 34 (cMo a v35)) := hD
              have hC := hC.set (p := 34) (c := (cMo a v35)) (by decide) (by decide)
              have hI := hI.setO (v' := v35) ⟨by rw [nv35 0 (by decide)]; exact hI.2.1.1, by rw [nv35 2 (by decide)]; exact hI.2.1.2.1, by rw [nv35 3 (by decide)]; exact hI.2.1.2.2.1, ⟨0, by omega, by rw [gv35]; rfl⟩⟩
              rw [← hw] at hP hD hC hI
              clear hw
              refine lv_iload_n hx hb d_M_commit_75 rfl (lv_at hl 0 rfl) ?_
              refine lv_if_ne (tgt := 80) hx hb d_M_commit_76 rfl (fun _ => ?_) (fun h => absurd h (by decide))
              refine lv_aload_n hx hb d_M_commit_80 rfl (lv_at hl 1 rfl) ?_
              refine va_callv (va_runV (As := []) (rest := []) ⟨hx, hb, hml, hown, hts⟩ (c_M_fall (D := D) (t := t) (z := z) (sa := sa) (ws := w36)  hI ) (cwV 0 hts (gd_V ml_M_92 im_M_fall se_M_fall in_M cd_M_fall) rfl rfl rfl (by decide +kernel) ⟨Nat.le_of_ble_eq_true rfl, Nat.le_of_ble_eq_true rfl⟩) ⟨Pz_blind, va_recv hK hP (ci := 6) rfl hI.1, Pz_at hP hK hD hz hM hS⟩ rfl rfl hl.1 rfl (lv_room (Nat.le_of_ble_eq_true rfl)) d_M_commit_81 ⟨Nat.le_of_ble_eq_true rfl, Nat.le_of_ble_eq_true rfl⟩) hS (fun q _ h => h) (fun q h => h) (fun u37 t9 H locs ht hvm hp hB hz1 hk1 hS => ?_)
              obtain ⟨hP, hK9, hD, -⟩ := hB
              rw [ht] at hP
              clear hK9
              obtain ⟨v39, hI, hC9⟩ := hp
              have hC := hC.trans hC9
              refine lv_aload_n hx hb d_M_commit_84 rfl (lv_at hl 1 rfl) ?_
              refine lv_iconst (v := 4) hx hb d_M_commit_85 (by decide) ?_
              refine va_put (D := D) (ci := 6) (v := .int 4) (ty := .int) (C := R_M) (T := F_M) (N := 17) hx hb hts ws_M t_M ok_M n_M hown hK hP hD hS 34 hI.1 rfl 14 (by decide) (hts _ fl_M_37) (fun _ h9 => h9) rfl (by decide +kernel) rfl rfl (Nat.le_of_ble_eq_true rfl) d_M_commit_86 (fun H locs hP hD hS => ?_)
              obtain ⟨v40, hv40⟩ : ∃ q : Nat → Int32, q = upd v39 8 4 := ⟨_, rfl⟩
              have gv40 : v40 8 = 4 := by rw [hv40]; exact pk_us
              have nv40 : ∀ i, i ≠ 8 → v40 i = v39 i := fun i hi => by rw [hv40]; exact pk_un hi
              have hP : va_P D Cl (u37.set 34 (cMo a v40)) H := by rw [hv40]; exact hP
              have hD : va_D (Az z) (u37.set 34 (cMo a v40)) := by rw [hv40]; exact hD
              obtain ⟨w41, hw⟩ : ∃ q, q = u37.set 34 (cMo a v40) := ⟨_, rfl⟩
              have hP : va_P D Cl (u37.set 34 (cMo a v40)) H := hP
              have hD : va_D (Az z) (u37.set 34 (cMo a v40)) := hD
              have hC := hC.set (p := 34) (c := (cMo a v40)) (by decide) (by decide)
              have hI := hI.setO (v' := v40) ⟨by rw [nv40 0 (by decide)]; exact hI.2.1.1, by rw [nv40 2 (by decide)]; exact hI.2.1.2.1, by rw [nv40 3 (by decide)]; exact hI.2.1.2.2.1, by rw [nv40 4 (by decide)]; exact hI.2.1.2.2.2⟩
              rw [← hw] at hP hD hC hI
              clear hw
              refine lv_aload_n hx hb d_M_commit_89 rfl (lv_at hl 1 rfl) ?_
              refine lv_iconst (v := 1) hx hb d_M_commit_90 (by decide) ?_
              refine va_put (D := D) (ci := 6) (v := .int 1) (ty := .boolean) (C := R_M) (T := F_M) (N := 17) hx hb hts ws_M t_M ok_M n_M hown hK hP hD hS 34 hI.1 rfl 12 (by decide) (hts _ fl_M_46) (fun _ h9 => h9) rfl (by decide +kernel) rfl rfl (Nat.le_of_ble_eq_true rfl) d_M_commit_91 (fun H locs hP hD hS => ?_)
              obtain ⟨v42, hv42⟩ : ∃ q : Nat → Int32, q = upd v40 6 1 := ⟨_, rfl⟩
              have gv42 : v42 6 = 1 := by rw [hv42]; exact pk_us
              have nv42 : ∀ i, i ≠ 6 → v42 i = v40 i := fun i hi => by rw [hv42]; exact pk_un hi
              have hP : va_P D Cl (w41.set 34 (cMo a v42)) H := by rw [hv42]; exact hP
              have hD : va_D (Az z) (w41.set 34 (cMo a v42)) := by rw [hv42]; exact hD
              obtain ⟨w43, hw⟩ : ∃ q, q = w41.set 34 (cMo a v42) := ⟨_, rfl⟩
              have hP : va_P D Cl (w41.set 34 (cMo a v42)) H := hP
              have hD : va_D (Az z) (w41.set 34 (cMo a v42)) := hD
              have hC := hC.set (p := 34) (c := (cMo a v42)) (by decide) (by decide)
              have hI := hI.setO (v' := v42) ⟨by rw [nv42 0 (by decide)]; exact hI.2.1.1, by rw [nv42 2 (by decide)]; exact hI.2.1.2.1, by rw [nv42 3 (by decide)]; exact hI.2.1.2.2.1, by rw [nv42 4 (by decide)]; exact hI.2.1.2.2.2⟩
              rw [← hw] at hP hD hC hI
              clear hw
              refine lv_aload_n hx hb d_M_commit_94 rfl (lv_at hl 1 rfl) ?_
              refine lv_iconst (v := 2) hx hb d_M_commit_95 (by decide) ?_
              refine va_put (D := D) (ci := 6) (v := .int 2) (ty := .int) (C := R_M) (T := F_M) (N := 17) hx hb hts ws_M t_M ok_M n_M hown hK hP hD hS 34 hI.1 rfl 16 (by decide) (hts _ fl_M_40) (fun _ h9 => h9) rfl (by decide +kernel) rfl rfl (Nat.le_of_ble_eq_true rfl) d_M_commit_96 (fun H locs hP hD hS => ?_)
              obtain ⟨v44, hv44⟩ : ∃ q : Nat → Int32, q = upd v42 10 2 := ⟨_, rfl⟩
              have gv44 : v44 10 = 2 := by rw [hv44]; exact pk_us
              have nv44 : ∀ i, i ≠ 10 → v44 i = v42 i := fun i hi => by rw [hv44]; exact pk_un hi
              have hP : va_P D Cl (w43.set 34 (cMo a v44)) H := by rw [hv44]; exact hP
              have hD : va_D (Az z) (w43.set 34 (cMo a v44)) := by rw [hv44]; exact hD
              obtain ⟨w45, hw⟩ : ∃ q, q = w43.set 34 (cMo a v44) := ⟨_, rfl⟩
              have hP : va_P D Cl (w43.set 34 (cMo a v44)) H := hP
              have hD : va_D (Az z) (w43.set 34 (cMo a v44)) := hD
              have hC := hC.set (p := 34) (c := (cMo a v44)) (by decide) (by decide)
              have hI := hI.setO (v' := v44) ⟨by rw [nv44 0 (by decide)]; exact hI.2.1.1, by rw [nv44 2 (by decide)]; exact hI.2.1.2.1, by rw [nv44 3 (by decide)]; exact hI.2.1.2.2.1, by rw [nv44 4 (by decide)]; exact hI.2.1.2.2.2⟩
              rw [← hw] at hP hD hC hI
              clear hw
              exact W.vret hx hb hr (fun t9 ht hW => ⟨⟨w45, rfl, ⟨_, hI, hC⟩, ⟨by rw [ht]; exact hP, va_K.moved hW.alike hK, hD, by rw [ht]; exact Nat.le_trans hz hS.1⟩⟩, hS.F ht⟩) hS.2.2 d_M_commit_99
            · skip
              refine lv_aload_n hx hb d_M_commit_61 rfl (lv_at hl 1 rfl) ?_
              refine va_callv (va_runV (As := []) (rest := []) ⟨hx, hb, hml, hown, hts⟩ (c_M_lasts (D := D) (t := t) (z := z) (sa := sa) (ws := u6)  hI ) (cwV 0 hts (gd_V ml_M_89 im_M_lasts se_M_lasts in_M cd_M_lasts) rfl rfl rfl (by decide +kernel) ⟨Nat.le_of_ble_eq_true rfl, Nat.le_of_ble_eq_true rfl⟩) ⟨Pz_blind, va_recv hK hP (ci := 6) rfl hI.1, Pz_at hP hK hD hz hM hS⟩ rfl rfl hl.1 rfl (lv_room (Nat.le_of_ble_eq_true rfl)) d_M_commit_62 ⟨Nat.le_of_ble_eq_true rfl, Nat.le_of_ble_eq_true rfl⟩) hS (fun q _ h => h) (fun q h => h) (fun u46 t9 H locs ht hvm hp hB hz1 hk1 hS => ?_)
              obtain ⟨hP, hK9, hD, -⟩ := hB
              rw [ht] at hP
              clear hK9
              obtain ⟨v48, hI, hC9⟩ := hp
              have hC := hC.trans hC9
              refine lv_aload_n hx hb d_M_commit_65 rfl (lv_at hl 1 rfl) ?_
              refine lv_iconst (v := 0) hx hb d_M_commit_66 (by decide) ?_
              refine va_put (D := D) (ci := 6) (v := .int 0) (ty := .boolean) (C := R_M) (T := F_M) (N := 17) hx hb hts ws_M t_M ok_M n_M hown hK hP hD hS 34 hI.1 rfl 13 (by decide) (hts _ fl_M_54) (fun _ h9 => h9) rfl (by decide +kernel) rfl rfl (Nat.le_of_ble_eq_true rfl) d_M_commit_67 (fun H locs hP hD hS => ?_)
              obtain ⟨v49, hv49⟩ : ∃ q : Nat → Int32, q = upd v48 7 0 := ⟨_, rfl⟩
              have gv49 : v49 7 = 0 := by rw [hv49]; exact pk_us
              have nv49 : ∀ i, i ≠ 7 → v49 i = v48 i := fun i hi => by rw [hv49]; exact pk_un hi
              have hP : va_P D Cl (u46.set 34 (cMo a v49)) H := by rw [hv49]; exact hP
              have hD : va_D (Az z) (u46.set 34 (cMo a v49)) := by rw [hv49]; exact hD
              obtain ⟨w50, hw⟩ : ∃ q, q = u46.set 34 (cMo a v49) := ⟨_, rfl⟩
              have hP : va_P D Cl (u46.set 34 (cMo a v49)) H := hP
              have hD : va_D (Az z) (u46.set 34 (cMo a v49)) := hD
              have hC := hC.set (p := 34) (c := (cMo a v49)) (by decide) (by decide)
              have hI := hI.setO (v' := v49) ⟨by rw [nv49 0 (by decide)]; exact hI.2.1.1, by rw [nv49 2 (by decide)]; exact hI.2.1.2.1, by rw [nv49 3 (by decide)]; exact hI.2.1.2.2.1, by rw [nv49 4 (by decide)]; exact hI.2.1.2.2.2⟩
              rw [← hw] at hP hD hC hI
              clear hw
              refine lv_aload_n hx hb d_M_commit_70 rfl (lv_at hl 1 rfl) ?_
              refine lv_iconst (v := 0) hx hb d_M_commit_71 (by decide) ?_
              refine va_put (D := D) (ci := 6) (v := .int 0) (ty := .int) (C := R_M) (T := F_M) (N := 17) hx hb hts ws_M t_M ok_M n_M hown hK hP hD hS 34 hI.1 rfl 10 (by decide) (hts _ fl_M_77) (fun _ h9 => h9) rfl (by decide +kernel) rfl rfl (Nat.le_of_ble_eq_true rfl) d_M_commit_72 (fun H locs hP hD hS => ?_)
              obtain ⟨v51, hv51⟩ : ∃ q : Nat → Int32, q = upd v49 4 0 := ⟨_, rfl⟩
              have gv51 : v51 4 = 0 := by rw [hv51]; exact pk_us
              have nv51 : ∀ i, i ≠ 4 → v51 i = v49 i := fun i hi => by rw [hv51]; exact pk_un hi
              have hP : va_P D Cl (w50.set 34 (cMo a v51)) H := by rw [hv51]; exact hP
              have hD : va_D (Az z) (w50.set 34 (cMo a v51)) := by rw [hv51]; exact hD
              obtain ⟨w52, hw⟩ : ∃ q, q = w50.set 34 (cMo a v51) := ⟨_, rfl⟩
              have hP : va_P D Cl (w50.set 34 (cMo a v51)) H := hP
              have hD : va_D (Az z) (w50.set 34 (cMo a v51)) := hD
              have hC := hC.set (p := 34) (c := (cMo a v51)) (by decide) (by decide)
              have hI := hI.setO (v' := v51) ⟨by rw [nv51 0 (by decide)]; exact hI.2.1.1, by rw [nv51 2 (by decide)]; exact hI.2.1.2.1, by rw [nv51 3 (by decide)]; exact hI.2.1.2.2.1, ⟨0, by omega, by rw [gv51]; rfl⟩⟩
              rw [← hw] at hP hD hC hI
              clear hw
              refine lv_iload_n hx hb d_M_commit_75 rfl (lv_at hl 0 rfl) ?_
              refine lv_if_ne (tgt := 80) hx hb d_M_commit_76 rfl (fun _ => ?_) (fun h => absurd h (by decide))
              refine lv_aload_n hx hb d_M_commit_80 rfl (lv_at hl 1 rfl) ?_
              refine va_callv (va_runV (As := []) (rest := []) ⟨hx, hb, hml, hown, hts⟩ (c_M_fall (D := D) (t := t) (z := z) (sa := sa) (ws := w52)  hI ) (cwV 0 hts (gd_V ml_M_92 im_M_fall se_M_fall in_M cd_M_fall) rfl rfl rfl (by decide +kernel) ⟨Nat.le_of_ble_eq_true rfl, Nat.le_of_ble_eq_true rfl⟩) ⟨Pz_blind, va_recv hK hP (ci := 6) rfl hI.1, Pz_at hP hK hD hz hM hS⟩ rfl rfl hl.1 rfl (lv_room (Nat.le_of_ble_eq_true rfl)) d_M_commit_81 ⟨Nat.le_of_ble_eq_true rfl, Nat.le_of_ble_eq_true rfl⟩) hS (fun q _ h => h) (fun q h => h) (fun u53 t9 H locs ht hvm hp hB hz1 hk1 hS => ?_)
              obtain ⟨hP, hK9, hD, -⟩ := hB
              rw [ht] at hP
              clear hK9
              obtain ⟨v55, hI, hC9⟩ := hp
              have hC := hC.trans hC9
              refine lv_aload_n hx hb d_M_commit_84 rfl (lv_at hl 1 rfl) ?_
              refine lv_iconst (v := 4) hx hb d_M_commit_85 (by decide) ?_
              refine va_put (D := D) (ci := 6) (v := .int 4) (ty := .int) (C := R_M) (T := F_M) (N := 17) hx hb hts ws_M t_M ok_M n_M hown hK hP hD hS 34 hI.1 rfl 14 (by decide) (hts _ fl_M_37) (fun _ h9 => h9) rfl (by decide +kernel) rfl rfl (Nat.le_of_ble_eq_true rfl) d_M_commit_86 (fun H locs hP hD hS => ?_)
              obtain ⟨v56, hv56⟩ : ∃ q : Nat → Int32, q = upd v55 8 4 := ⟨_, rfl⟩
              have gv56 : v56 8 = 4 := by rw [hv56]; exact pk_us
              have nv56 : ∀ i, i ≠ 8 → v56 i = v55 i := fun i hi => by rw [hv56]; exact pk_un hi
              have hP : va_P D Cl (u53.set 34 (cMo a v56)) H := by rw [hv56]; exact hP
              have hD : va_D (Az z) (u53.set 34 (cMo a v56)) := by rw [hv56]; exact hD
              obtain ⟨w57, hw⟩ : ∃ q, q = u53.set 34 (cMo a v56) := ⟨_, rfl⟩
              have hP : va_P D Cl (u53.set 34 (cMo a v56)) H := hP
              have hD : va_D (Az z) (u53.set 34 (cMo a v56)) := hD
              have hC := hC.set (p := 34) (c := (cMo a v56)) (by decide) (by decide)
              have hI := hI.setO (v' := v56) ⟨by rw [nv56 0 (by decide)]; exact hI.2.1.1, by rw [nv56 2 (by decide)]; exact hI.2.1.2.1, by rw [nv56 3 (by decide)]; exact hI.2.1.2.2.1, by rw [nv56 4 (by decide)]; exact hI.2.1.2.2.2⟩
              rw [← hw] at hP hD hC hI
              clear hw
              refine lv_aload_n hx hb d_M_commit_89 rfl (lv_at hl 1 rfl) ?_
              refine lv_iconst (v := 1) hx hb d_M_commit_90 (by decide) ?_
              refine va_put (D := D) (ci := 6) (v := .int 1) (ty := .boolean) (C := R_M) (T := F_M) (N := 17) hx hb hts ws_M t_M ok_M n_M hown hK hP hD hS 34 hI.1 rfl 12 (by decide) (hts _ fl_M_46) (fun _ h9 => h9) rfl (by decide +kernel) rfl rfl (Nat.le_of_ble_eq_true rfl) d_M_commit_91 (fun H locs hP hD hS => ?_)
              obtain ⟨v58, hv58⟩ : ∃ q : Nat → Int32, q = upd v56 6 1 := ⟨_, rfl⟩
              have gv58 : v58 6 = 1 := by rw [hv58]; exact pk_us
              have nv58 : ∀ i, i ≠ 6 → v58 i = v56 i := fun i hi => by rw [hv58]; exact pk_un hi
              have hP : va_P D Cl (w57.set 34 (cMo a v58)) H := by rw [hv58]; exact hP
              have hD : va_D (Az z) (w57.set 34 (cMo a v58)) := by rw [hv58]; exact hD
              obtain ⟨w59, hw⟩ : ∃ q, q = w57.set 34 (cMo a v58) := ⟨_, rfl⟩
              have hP : va_P D Cl (w57.set 34 (cMo a v58)) H := hP
              have hD : va_D (Az z) (w57.set 34 (cMo a v58)) := hD
              have hC := hC.set (p := 34) (c := (cMo a v58)) (by decide) (by decide)
              have hI := hI.setO (v' := v58) ⟨by rw [nv58 0 (by decide)]; exact hI.2.1.1, by rw [nv58 2 (by decide)]; exact hI.2.1.2.1, by rw [nv58 3 (by decide)]; exact hI.2.1.2.2.1, by rw [nv58 4 (by decide)]; exact hI.2.1.2.2.2⟩
              rw [← hw] at hP hD hC hI
              clear hw
              refine lv_aload_n hx hb d_M_commit_94 rfl (lv_at hl 1 rfl) ?_
              refine lv_iconst (v := 2) hx hb d_M_commit_95 (by decide) ?_
              refine va_put (D := D) (ci := 6) (v := .int 2) (ty := .int) (C := R_M) (T := F_M) (N := 17) hx hb hts ws_M t_M ok_M n_M hown hK hP hD hS 34 hI.1 rfl 16 (by decide) (hts _ fl_M_40) (fun _ h9 => h9) rfl (by decide +kernel) rfl rfl (Nat.le_of_ble_eq_true rfl) d_M_commit_96 (fun H locs hP hD hS => ?_)
              obtain ⟨v60, hv60⟩ : ∃ q : Nat → Int32, q = upd v58 10 2 := ⟨_, rfl⟩
              have gv60 : v60 10 = 2 := by rw [hv60]; exact pk_us
              have nv60 : ∀ i, i ≠ 10 → v60 i = v58 i := fun i hi => by rw [hv60]; exact pk_un hi
              have hP : va_P D Cl (w59.set 34 (cMo a v60)) H := by rw [hv60]; exact hP
              have hD : va_D (Az z) (w59.set 34 (cMo a v60)) := by rw [hv60]; exact hD
              obtain ⟨w61, hw⟩ : ∃ q, q = w59.set 34 (cMo a v60) := ⟨_, rfl⟩
              have hP : va_P D Cl (w59.set 34 (cMo a v60)) H := hP
              have hD : va_D (Az z) (w59.set 34 (cMo a v60)) := hD
              have hC := hC.set (p := 34) (c := (cMo a v60)) (by decide) (by decide)
              have hI := hI.setO (v' := v60) ⟨by rw [nv60 0 (by decide)]; exact hI.2.1.1, by rw [nv60 2 (by decide)]; exact hI.2.1.2.1, by rw [nv60 3 (by decide)]; exact hI.2.1.2.2.1, by rw [nv60 4 (by decide)]; exact hI.2.1.2.2.2⟩
              rw [← hw] at hP hD hC hI
              clear hw
              exact W.vret hx hb hr (fun t9 ht hW => ⟨⟨w61, rfl, ⟨_, hI, hC⟩, ⟨by rw [ht]; exact hP, va_K.moved hW.alike hK, hD, by rw [ht]; exact Nat.le_trans hz hS.1⟩⟩, hS.F ht⟩) hS.2.2 d_M_commit_99
    · skip
      refine lv_iconst (v := 1) hx hb d_M_commit_15 (by decide) ?_
      refine lv_goto (tgt := 20) hx hb d_M_commit_16 rfl ?_
      refine lv_iconst (v := 0) hx hb d_M_commit_20 (by decide) ?_
      refine va_calli (va_runV (As := [.int 1, .int 0]) (rest := []) ⟨hx, hb, hml, hown, hts⟩ (c_M_fails (D := D) (t := t) (z := z) (sa := sa) (ws := ws) (x9 := 1) (y9 := 0) hI ) (cwV 2 hts (gd_V ml_M_50 im_M_fails se_M_fails in_M cd_M_fails) rfl rfl rfl (by decide +kernel) ⟨Nat.le_of_ble_eq_true rfl, Nat.le_of_ble_eq_true rfl⟩) ⟨Pz_blind, va_recv hK hP (ci := 6) rfl hI.1, Pz_at hP hK hD hz hM hS⟩ rfl rfl hl.1 rfl (lv_room (Nat.le_of_ble_eq_true rfl)) d_M_commit_21 ⟨Nat.le_of_ble_eq_true rfl, Nat.le_of_ble_eq_true rfl⟩) hS (fun q _ h => h) (fun q h => h) (fun r63 u62 t9 H locs ht hvm hp hB hz1 hk1 hS => ?_)
      obtain ⟨hP, hK9, hD, -⟩ := hB
      rw [ht] at hP
      clear hK9
      obtain ⟨v64, hI, hC9, nv64, hr9⟩ := hp
      have hC := hC.trans hC9
      rcases hr9 with hr9 | ⟨hr9, hx0, hy0⟩
      · skip
        subst hr9
        refine lv_if_eq (tgt := 28) hx hb d_M_commit_24 rfl (fun h => absurd h (by decide)) (fun _ => ?_)
        exact W.vret hx hb hr (fun t9 ht hW => ⟨⟨u62, rfl, ⟨_, hI, hC⟩, ⟨by rw [ht]; exact hP, va_K.moved hW.alike hK, hD, by rw [ht]; exact Nat.le_trans hz hS.1⟩⟩, hS.F ht⟩) hS.2.2 d_M_commit_27
      · skip
        exact absurd hx0 (by decide)
set_option maxHeartbeats 4000000 in
set_option maxRecDepth 100000 in
theorem c_M_rollback {l : Launch} {D : va_G} {t : Nat → ClassId} {z : Nat} {sa : Nat → Nat} {ws : va_W} {a : Nat → Nat} {NV : Nat} {v : Nat → Int32}  (hI : Mi a t NV v ws)  : Met l y_M_rollback (Cond.code y_M_rollback b_M_rollback 1 (.none : Option Jvm.ClassFile.FieldType) :: WS) ({ frames := 1, cells := 0, slots := 0, locals := 22 }) (Pz D t z sa ws [.ref (a 34)]) (va_Qv (fun u : va_W => ∃ v1, Mi a t NV v1 u ∧ Mk ws u) (fun u U => Wd D t z u U) (Az z)) 0 0 (Az z) := by
  refine Met.ofW (cc := b_M_rollback) (maxL := 1) (ret := (.none : Option Jvm.ClassFile.FieldType)) (by decide) rfl ?_
  intro p e s m args below meth c s₁ B hml hv
  obtain ⟨rfl, ⟨hP, hK, hD, hz⟩, hM⟩ := hv
  have hx := B.exec
  have hb := B.bytes
  have hr := B.returns
  have hts : ∀ w ∈ WS, w.before [.ref (a 34)].toArray s = true := fun w h => atoms_spec B.pre w (List.mem_cons_of_mem _ h)
  have hown : s.vm.findClass R_M = some m.cls := findClass_of_methodNamed B.named
  have hlocks := B.notSynchronized
  have hA : ∀ q, s.heap.size ≤ q → Az z q := fun q h => Nat.le_trans hz h
  have hS : va_S (Az z) s.heap s.heap [] := va_S.rf
  have hC : Mk ws ws := Mk.rf
  have hl := lv_entry ([.ref (a 34)]) (n := 1) (Nat.le_of_ble_eq_true rfl)
  rw [lg_entry_eq]
  generalize (lg_sl ([.ref (a 34)]) ++ List.replicate (1 - (lg_sl ([.ref (a 34)])).length) Slot.unset).toArray = ls at hl ⊢
  have hl : lv_has ls 1 [(0, .ref (a 34))] := hl
  refine lv_aload_n hx hb d_M_rollback_0 rfl (lv_at hl 0 rfl) ?_
  refine lv_aload_n hx hb d_M_rollback_1 rfl (lv_at hl 0 rfl) ?_
  refine va_get (D := D) (ci := 6) (v := .int (v 6)) (C := R_M) (T := F_M) (N := 17) hx hb hts ws_M hown hK hP 34 hI.1 rfl 12 (by decide) (hts _ fl_M_46) (fun _ h9 => h9) rfl d_M_rollback_2 ?_
  refine lv_if_ne (tgt := 15) hx hb d_M_rollback_5 rfl (fun q1 => ?_) (fun q1 => ?_)
  · skip
    refine lv_iconst (v := 1) hx hb d_M_rollback_15 (by decide) ?_
    refine lv_goto (tgt := 20) hx hb d_M_rollback_16 rfl ?_
    refine lv_iconst (v := 0) hx hb d_M_rollback_20 (by decide) ?_
    refine va_calli (va_runV (As := [.int 1, .int 0]) (rest := []) ⟨hx, hb, hml, hown, hts⟩ (c_M_fails (D := D) (t := t) (z := z) (sa := sa) (ws := ws) (x9 := 1) (y9 := 0) hI ) (cwV 2 hts (gd_V ml_M_50 im_M_fails se_M_fails in_M cd_M_fails) rfl rfl rfl (by decide +kernel) ⟨Nat.le_of_ble_eq_true rfl, Nat.le_of_ble_eq_true rfl⟩) ⟨Pz_blind, va_recv hK hP (ci := 6) rfl hI.1, Pz_at hP hK hD hz hM hS⟩ rfl rfl hl.1 rfl (lv_room (Nat.le_of_ble_eq_true rfl)) d_M_rollback_21 ⟨Nat.le_of_ble_eq_true rfl, Nat.le_of_ble_eq_true rfl⟩) hS (fun q _ h => h) (fun q h => h) (fun r3 u2 t9 H locs ht hvm hp hB hz1 hk1 hS => ?_)
    obtain ⟨hP, hK9, hD, -⟩ := hB
    rw [ht] at hP
    clear hK9
    obtain ⟨v4, hI, hC9, nv4, hr9⟩ := hp
    have hC := hC.trans hC9
    rcases hr9 with hr9 | ⟨hr9, hx0, hy0⟩
    · skip
      subst hr9
      refine lv_if_eq (tgt := 28) hx hb d_M_rollback_24 rfl (fun h => absurd h (by decide)) (fun _ => ?_)
      exact W.vret hx hb hr (fun t9 ht hW => ⟨⟨u2, rfl, ⟨_, hI, hC⟩, ⟨by rw [ht]; exact hP, va_K.moved hW.alike hK, hD, by rw [ht]; exact Nat.le_trans hz hS.1⟩⟩, hS.F ht⟩) hS.2.2 d_M_rollback_27
    · skip
      exact absurd hx0 (by decide)
  · skip
    refine lv_aload_n hx hb d_M_rollback_8 rfl (lv_at hl 0 rfl) ?_
    refine va_get (D := D) (ci := 6) (v := .int (v 7)) (C := R_M) (T := F_M) (N := 17) hx hb hts ws_M hown hK hP 34 hI.1 rfl 13 (by decide) (hts _ fl_M_54) (fun _ h9 => h9) rfl d_M_rollback_9 ?_
    refine lv_if_ne (tgt := 19) hx hb d_M_rollback_12 rfl (fun q5 => ?_) (fun q5 => ?_)
    · skip
      refine lv_iconst (v := 0) hx hb d_M_rollback_19 (by decide) ?_
      refine lv_iconst (v := 0) hx hb d_M_rollback_20 (by decide) ?_
      refine va_calli (va_runV (As := [.int 0, .int 0]) (rest := []) ⟨hx, hb, hml, hown, hts⟩ (c_M_fails (D := D) (t := t) (z := z) (sa := sa) (ws := ws) (x9 := 0) (y9 := 0) hI ) (cwV 2 hts (gd_V ml_M_50 im_M_fails se_M_fails in_M cd_M_fails) rfl rfl rfl (by decide +kernel) ⟨Nat.le_of_ble_eq_true rfl, Nat.le_of_ble_eq_true rfl⟩) ⟨Pz_blind, va_recv hK hP (ci := 6) rfl hI.1, Pz_at hP hK hD hz hM hS⟩ rfl rfl hl.1 rfl (lv_room (Nat.le_of_ble_eq_true rfl)) d_M_rollback_21 ⟨Nat.le_of_ble_eq_true rfl, Nat.le_of_ble_eq_true rfl⟩) hS (fun q _ h => h) (fun q h => h) (fun r7 u6 t9 H locs ht hvm hp hB hz1 hk1 hS => ?_)
      obtain ⟨hP, hK9, hD, -⟩ := hB
      rw [ht] at hP
      clear hK9
      obtain ⟨v8, hI, hC9, nv8, hr9⟩ := hp
      have hC := hC.trans hC9
      rcases hr9 with hr9 | ⟨hr9, hx0, hy0⟩
      · skip
        subst hr9
        refine lv_if_eq (tgt := 28) hx hb d_M_rollback_24 rfl (fun h => absurd h (by decide)) (fun _ => ?_)
        exact W.vret hx hb hr (fun t9 ht hW => ⟨⟨u6, rfl, ⟨_, hI, hC⟩, ⟨by rw [ht]; exact hP, va_K.moved hW.alike hK, hD, by rw [ht]; exact Nat.le_trans hz hS.1⟩⟩, hS.F ht⟩) hS.2.2 d_M_rollback_27
      · skip
        subst hr9
        refine lv_if_eq (tgt := 28) hx hb d_M_rollback_24 rfl (fun _ => ?_) (fun h => absurd h (by decide))
        refine lv_aload_n hx hb d_M_rollback_28 rfl (lv_at hl 0 rfl) ?_
        refine va_callv (va_runV (As := []) (rest := []) ⟨hx, hb, hml, hown, hts⟩ (c_M_fall (D := D) (t := t) (z := z) (sa := sa) (ws := u6)  hI ) (cwV 0 hts (gd_V ml_M_92 im_M_fall se_M_fall in_M cd_M_fall) rfl rfl rfl (by decide +kernel) ⟨Nat.le_of_ble_eq_true rfl, Nat.le_of_ble_eq_true rfl⟩) ⟨Pz_blind, va_recv hK hP (ci := 6) rfl hI.1, Pz_at hP hK hD hz hM hS⟩ rfl rfl hl.1 rfl (lv_room (Nat.le_of_ble_eq_true rfl)) d_M_rollback_29 ⟨Nat.le_of_ble_eq_true rfl, Nat.le_of_ble_eq_true rfl⟩) hS (fun q _ h => h) (fun q h => h) (fun u10 t9 H locs ht hvm hp hB hz1 hk1 hS => ?_)
        obtain ⟨hP, hK9, hD, -⟩ := hB
        rw [ht] at hP
        clear hK9
        obtain ⟨v12, hI, hC9⟩ := hp
        have hC := hC.trans hC9
        exact W.vret hx hb hr (fun t9 ht hW => ⟨⟨u10, rfl, ⟨_, hI, hC⟩, ⟨by rw [ht]; exact hP, va_K.moved hW.alike hK, hD, by rw [ht]; exact Nat.le_trans hz hS.1⟩⟩, hS.F ht⟩) hS.2.2 d_M_rollback_32
    · skip
      refine lv_iconst (v := 1) hx hb d_M_rollback_15 (by decide) ?_
      refine lv_goto (tgt := 20) hx hb d_M_rollback_16 rfl ?_
      refine lv_iconst (v := 0) hx hb d_M_rollback_20 (by decide) ?_
      refine va_calli (va_runV (As := [.int 1, .int 0]) (rest := []) ⟨hx, hb, hml, hown, hts⟩ (c_M_fails (D := D) (t := t) (z := z) (sa := sa) (ws := ws) (x9 := 1) (y9 := 0) hI ) (cwV 2 hts (gd_V ml_M_50 im_M_fails se_M_fails in_M cd_M_fails) rfl rfl rfl (by decide +kernel) ⟨Nat.le_of_ble_eq_true rfl, Nat.le_of_ble_eq_true rfl⟩) ⟨Pz_blind, va_recv hK hP (ci := 6) rfl hI.1, Pz_at hP hK hD hz hM hS⟩ rfl rfl hl.1 rfl (lv_room (Nat.le_of_ble_eq_true rfl)) d_M_rollback_21 ⟨Nat.le_of_ble_eq_true rfl, Nat.le_of_ble_eq_true rfl⟩) hS (fun q _ h => h) (fun q h => h) (fun r14 u13 t9 H locs ht hvm hp hB hz1 hk1 hS => ?_)
      obtain ⟨hP, hK9, hD, -⟩ := hB
      rw [ht] at hP
      clear hK9
      obtain ⟨v15, hI, hC9, nv15, hr9⟩ := hp
      have hC := hC.trans hC9
      rcases hr9 with hr9 | ⟨hr9, hx0, hy0⟩
      · skip
        subst hr9
        refine lv_if_eq (tgt := 28) hx hb d_M_rollback_24 rfl (fun h => absurd h (by decide)) (fun _ => ?_)
        exact W.vret hx hb hr (fun t9 ht hW => ⟨⟨u13, rfl, ⟨_, hI, hC⟩, ⟨by rw [ht]; exact hP, va_K.moved hW.alike hK, hD, by rw [ht]; exact Nat.le_trans hz hS.1⟩⟩, hS.F ht⟩) hS.2.2 d_M_rollback_27
      · skip
        exact absurd hx0 (by decide)
set_option maxHeartbeats 4000000 in
set_option maxRecDepth 100000 in
theorem c_M_mark {l : Launch} {D : va_G} {t : Nat → ClassId} {z : Nat} {sa : Nat → Nat} {ws : va_W} {a : Nat → Nat} {NV : Nat} {v : Nat → Int32}  (hI : Mi a t NV v ws)  : Met l y_M_mark (Cond.code y_M_mark b_M_mark 2 (some .int) :: WS) ({ frames := 1, cells := 0, slots := 0, locals := 22 }) (Pz D t z sa ws [.ref (a 34)]) (va_Qi (fun (r : Int32) (u : va_W) => ∃ v1, Mi a t NV v1 u ∧ Mk ws u) (fun u U => Wd D t z u U) (Az z)) 0 0 (Az z) := by
  refine Met.ofW (cc := b_M_mark) (maxL := 2) (ret := (some .int)) (by decide) rfl ?_
  intro p e s m args below meth c s₁ B hml hv
  obtain ⟨rfl, ⟨hP, hK, hD, hz⟩, hM⟩ := hv
  have hx := B.exec
  have hb := B.bytes
  have hr := B.returns
  have hts : ∀ w ∈ WS, w.before [.ref (a 34)].toArray s = true := fun w h => atoms_spec B.pre w (List.mem_cons_of_mem _ h)
  have hown : s.vm.findClass R_M = some m.cls := findClass_of_methodNamed B.named
  have hlocks := B.notSynchronized
  have hA : ∀ q, s.heap.size ≤ q → Az z q := fun q h => Nat.le_trans hz h
  have hS : va_S (Az z) s.heap s.heap [] := va_S.rf
  have hC : Mk ws ws := Mk.rf
  have hl := lv_entry ([.ref (a 34)]) (n := 2) (Nat.le_of_ble_eq_true rfl)
  rw [lg_entry_eq]
  generalize (lg_sl ([.ref (a 34)]) ++ List.replicate (2 - (lg_sl ([.ref (a 34)])).length) Slot.unset).toArray = ls at hl ⊢
  have hl : lv_has ls 2 [(0, .ref (a 34))] := hl
  obtain ⟨n2, hn2, en2⟩ := hI.2.1.2.1
  obtain ⟨n4, hn4, en4⟩ := hI.2.1.2.2.2
  refine lv_aload_n hx hb d_M_mark_0 rfl (lv_at hl 0 rfl) ?_
  refine lv_aload_n hx hb d_M_mark_1 rfl (lv_at hl 0 rfl) ?_
  refine va_get (D := D) (ci := 6) (v := .int (v 6)) (C := R_M) (T := F_M) (N := 17) hx hb hts ws_M hown hK hP 34 hI.1 rfl 12 (by decide) (hts _ fl_M_46) (fun _ h9 => h9) rfl d_M_mark_2 ?_
  refine lv_if_ne (tgt := 23) hx hb d_M_mark_5 rfl (fun q1 => ?_) (fun q1 => ?_)
  · skip
    refine lv_iconst (v := 1) hx hb d_M_mark_23 (by decide) ?_
    refine lv_goto (tgt := 28) hx hb d_M_mark_24 rfl ?_
    refine lv_iconst (v := 0) hx hb d_M_mark_28 (by decide) ?_
    refine va_calli (va_runV (As := [.int 1, .int 0]) (rest := []) ⟨hx, hb, hml, hown, hts⟩ (c_M_fails (D := D) (t := t) (z := z) (sa := sa) (ws := ws) (x9 := 1) (y9 := 0) hI ) (cwV 2 hts (gd_V ml_M_50 im_M_fails se_M_fails in_M cd_M_fails) rfl rfl rfl (by decide +kernel) ⟨Nat.le_of_ble_eq_true rfl, Nat.le_of_ble_eq_true rfl⟩) ⟨Pz_blind, va_recv hK hP (ci := 6) rfl hI.1, Pz_at hP hK hD hz hM hS⟩ rfl rfl hl.1 rfl (lv_room (Nat.le_of_ble_eq_true rfl)) d_M_mark_29 ⟨Nat.le_of_ble_eq_true rfl, Nat.le_of_ble_eq_true rfl⟩) hS (fun q _ h => h) (fun q h => h) (fun r3 u2 t9 H locs ht hvm hp hB hz1 hk1 hS => ?_)
    obtain ⟨hP, hK9, hD, -⟩ := hB
    rw [ht] at hP
    clear hK9
    obtain ⟨v4, hI, hC9, nv4, hr9⟩ := hp
    have hC := hC.trans hC9
    rcases hr9 with hr9 | ⟨hr9, hx0, hy0⟩
    · skip
      subst hr9
      refine lv_if_eq (tgt := 37) hx hb d_M_mark_32 rfl (fun h => absurd h (by decide)) (fun _ => ?_)
      refine lv_iconst (v := 0) hx hb d_M_mark_35 (by decide) ?_
      exact W.iret (v := 0) hx hb hr (fun t9 ht hW => ⟨⟨0, u2, rfl, ⟨_, hI, hC⟩, ⟨by rw [ht]; exact hP, va_K.moved hW.alike hK, hD, by rw [ht]; exact Nat.le_trans hz hS.1⟩⟩, hS.F ht⟩) hS.2.2 d_M_mark_36
    · skip
      exact absurd hx0 (by decide)
  · skip
    refine lv_aload_n hx hb d_M_mark_8 rfl (lv_at hl 0 rfl) ?_
    refine va_get (D := D) (ci := 6) (v := .int (v 7)) (C := R_M) (T := F_M) (N := 17) hx hb hts ws_M hown hK hP 34 hI.1 rfl 13 (by decide) (hts _ fl_M_54) (fun _ h9 => h9) rfl d_M_mark_9 ?_
    refine lv_if_eq (tgt := 23) hx hb d_M_mark_12 rfl (fun q5 => ?_) (fun q5 => ?_)
    · skip
      refine lv_iconst (v := 1) hx hb d_M_mark_23 (by decide) ?_
      refine lv_goto (tgt := 28) hx hb d_M_mark_24 rfl ?_
      refine lv_iconst (v := 0) hx hb d_M_mark_28 (by decide) ?_
      refine va_calli (va_runV (As := [.int 1, .int 0]) (rest := []) ⟨hx, hb, hml, hown, hts⟩ (c_M_fails (D := D) (t := t) (z := z) (sa := sa) (ws := ws) (x9 := 1) (y9 := 0) hI ) (cwV 2 hts (gd_V ml_M_50 im_M_fails se_M_fails in_M cd_M_fails) rfl rfl rfl (by decide +kernel) ⟨Nat.le_of_ble_eq_true rfl, Nat.le_of_ble_eq_true rfl⟩) ⟨Pz_blind, va_recv hK hP (ci := 6) rfl hI.1, Pz_at hP hK hD hz hM hS⟩ rfl rfl hl.1 rfl (lv_room (Nat.le_of_ble_eq_true rfl)) d_M_mark_29 ⟨Nat.le_of_ble_eq_true rfl, Nat.le_of_ble_eq_true rfl⟩) hS (fun q _ h => h) (fun q h => h) (fun r7 u6 t9 H locs ht hvm hp hB hz1 hk1 hS => ?_)
      obtain ⟨hP, hK9, hD, -⟩ := hB
      rw [ht] at hP
      clear hK9
      obtain ⟨v8, hI, hC9, nv8, hr9⟩ := hp
      have hC := hC.trans hC9
      rcases hr9 with hr9 | ⟨hr9, hx0, hy0⟩
      · skip
        subst hr9
        refine lv_if_eq (tgt := 37) hx hb d_M_mark_32 rfl (fun h => absurd h (by decide)) (fun _ => ?_)
        refine lv_iconst (v := 0) hx hb d_M_mark_35 (by decide) ?_
        exact W.iret (v := 0) hx hb hr (fun t9 ht hW => ⟨⟨0, u6, rfl, ⟨_, hI, hC⟩, ⟨by rw [ht]; exact hP, va_K.moved hW.alike hK, hD, by rw [ht]; exact Nat.le_trans hz hS.1⟩⟩, hS.F ht⟩) hS.2.2 d_M_mark_36
      · skip
        exact absurd hx0 (by decide)
    · skip
      refine lv_aload_n hx hb d_M_mark_15 rfl (lv_at hl 0 rfl) ?_
      refine va_get (D := D) (ci := 6) (v := .int (v 4)) (C := R_M) (T := F_M) (N := 17) hx hb hts ws_M hown hK hP 34 hI.1 rfl 10 (by decide) (hts _ fl_M_77) (fun _ h9 => h9) rfl d_M_mark_16 ?_
      refine lv_iconst (v := 5) hx hb d_M_mark_19 (by decide) ?_
      refine lv_icmp_ne (tgt := 27) hx hb d_M_mark_20 rfl (fun q10 => ?_) (fun q10 => ?_)
      · skip
        refine lv_iconst (v := 0) hx hb d_M_mark_27 (by decide) ?_
        refine lv_iconst (v := 0) hx hb d_M_mark_28 (by decide) ?_
        refine va_calli (va_runV (As := [.int 0, .int 0]) (rest := []) ⟨hx, hb, hml, hown, hts⟩ (c_M_fails (D := D) (t := t) (z := z) (sa := sa) (ws := ws) (x9 := 0) (y9 := 0) hI ) (cwV 2 hts (gd_V ml_M_50 im_M_fails se_M_fails in_M cd_M_fails) rfl rfl rfl (by decide +kernel) ⟨Nat.le_of_ble_eq_true rfl, Nat.le_of_ble_eq_true rfl⟩) ⟨Pz_blind, va_recv hK hP (ci := 6) rfl hI.1, Pz_at hP hK hD hz hM hS⟩ rfl rfl hl.1 rfl (lv_room (Nat.le_of_ble_eq_true rfl)) d_M_mark_29 ⟨Nat.le_of_ble_eq_true rfl, Nat.le_of_ble_eq_true rfl⟩) hS (fun q _ h => h) (fun q h => h) (fun r12 u11 t9 H locs ht hvm hp hB hz1 hk1 hS => ?_)
        obtain ⟨hP, hK9, hD, -⟩ := hB
        rw [ht] at hP
        clear hK9
        obtain ⟨v13, hI, hC9, nv13, hr9⟩ := hp
        have hC := hC.trans hC9
        rcases hr9 with hr9 | ⟨hr9, hx0, hy0⟩
        · skip
          subst hr9
          refine lv_if_eq (tgt := 37) hx hb d_M_mark_32 rfl (fun h => absurd h (by decide)) (fun _ => ?_)
          refine lv_iconst (v := 0) hx hb d_M_mark_35 (by decide) ?_
          exact W.iret (v := 0) hx hb hr (fun t9 ht hW => ⟨⟨0, u11, rfl, ⟨_, hI, hC⟩, ⟨by rw [ht]; exact hP, va_K.moved hW.alike hK, hD, by rw [ht]; exact Nat.le_trans hz hS.1⟩⟩, hS.F ht⟩) hS.2.2 d_M_mark_36
        · skip
          subst hr9
          refine lv_if_eq (tgt := 37) hx hb d_M_mark_32 rfl (fun _ => ?_) (fun h => absurd h (by decide))
          have hn4l : n4 < 5 := Nat.lt_of_le_of_ne hn4 (fun h => (by assumption : ¬ v 4 = 5) (by rw [en4, h]; rfl))
          refine lv_iconst (v := 0) hx hb d_M_mark_37 (by decide) ?_
          refine lv_istore_n (lv' := [(1, .int 0), (0, .ref (a 34))]) hx hb d_M_mark_38 rfl hl (by decide) rfl (fun ls hl => ?_)
          have key : ∀ (n9 i : Nat) (w9 : va_W) (H : Heap) (locs : List Loc) (ls : Array Slot), i + n9 = n2 → va_P D Cl w9 H → va_D (Az z) w9 → va_S (Az z) s.heap H locs → Mi a t NV v13 w9 → Mk ws w9 → lv_has ls 2 [(1, .int (nI i)), (0, .ref (a 34))] → W p l e (headSpec (Cond.code y_M_mark b_M_mark 2 (some .int) :: WS) ({ frames := 1, cells := 0, slots := 0, locals := 22 })).room s m [.ref (a 34)].toArray below meth c H locs 0 0 (MQ below (va_Qi (fun (r : Int32) (u : va_W) => ∃ v1, Mi a t NV v1 u ∧ Mk ws u) (fun u U => Wd D t z u U) (Az z)) [.ref (a 34)].toArray s 0 0 (Az z)) (F0 m 39 ls []) := by
            intro n9
            induction n9 with
            | zero =>
              intro i w9 H locs ls hi9 hP hD hS hI hC hl
              refine lv_iload_n hx hb d_M_mark_39 rfl (lv_at hl 0 rfl) ?_
              refine lv_aload_n hx hb d_M_mark_40 rfl (lv_at hl 1 rfl) ?_
              refine va_get (D := D) (ci := 6) (v := .int (v13 2)) (C := R_M) (T := F_M) (N := 17) hx hb hts ws_M hown hK hP 34 hI.1 rfl 8 (by decide) (hts _ fl_M_43) (fun _ h9 => h9) rfl d_M_mark_41 ?_
              have hB9 : (v13 2) = nI n2 := by rw [nv13 2 (by decide), en2]
              refine lv_icmp_ge (tgt := 74) hx hb d_M_mark_44 rfl (fun _ => ?_) (fun h => absurd (by rw [hB9]; exact nI_le (by omega) (by omega)) h)
              refine lv_aload_n hx hb d_M_mark_74 rfl (lv_at hl 1 rfl) ?_
              refine va_get (D := D) (ci := 6) (v := .ref (a 40)) (C := R_M) (T := F_M) (N := 17) hx hb hts ws_M hown hK hP 34 hI.1 rfl 7 (by decide) (hts _ fl_M_34) (fun _ h9 => h9) rfl d_M_mark_75 ?_
              refine lv_aload_n hx hb d_M_mark_78 rfl (lv_at hl 1 rfl) ?_
              refine va_get (D := D) (ci := 6) (v := .int (v13 4)) (C := R_M) (T := F_M) (N := 17) hx hb hts ws_M hown hK hP 34 hI.1 rfl 10 (by decide) (hts _ fl_M_77) (fun _ h9 => h9) rfl d_M_mark_79 ?_
              refine lv_aload_n hx hb d_M_mark_82 rfl (lv_at hl 1 rfl) ?_
              refine va_get (D := D) (ci := 6) (v := .int (v13 2)) (C := R_M) (T := F_M) (N := 17) hx hb hts ws_M hown hK hP 34 hI.1 rfl 8 (by decide) (hts _ fl_M_43) (fun _ h9 => h9) rfl d_M_mark_83 ?_
              obtain ⟨Vz, hVz, -⟩ := hI.a40.choose_spec.2 0
              obtain ⟨fA15, eA15, lA15⟩ := hI.a40
              refine va_iast (D := D) hx hb hK hP hD hS 40 4 eA15 rfl (i := (v13 4)) (x := (v13 2)) (by rw [nv13 4 (by decide), en4]; exact vp_in_nI (by omega) (by decide)) d_M_mark_86 (fun H locs hP hD hS => ?_)
              obtain ⟨gA15, hgA15⟩ : ∃ q, q = upd fA15 ((v13 4) : Int32).toNatClampNeg (v13 2) := ⟨_, rfl⟩
              rw [← hgA15] at hP hD
              obtain ⟨w16, hw⟩ : ∃ q, q = w9.set 40 (cI a t 40 5 gA15) := ⟨_, rfl⟩
              have hP : va_P D Cl (w9.set 40 (cI a t 40 5 gA15)) H := hP
              have hD : va_D (Az z) (w9.set 40 (cI a t 40 5 gA15)) := hD
              have hC := hC.set (p := 40) (c := (cI a t 40 5 gA15)) (by decide) (by decide)
              have hI := hI.s40 (f9 := gA15) (by rw [hgA15, nv13 2 (by decide), en2]; exact lA15.upd (V := n2) (by omega))
              rw [← hw] at hP hD hC hI
              clear hw
              refine lv_aload_n hx hb d_M_mark_87 rfl (lv_at hl 1 rfl) ?_
              refine lv_dup hx hb d_M_mark_88 rfl ?_
              refine va_get (D := D) (ci := 6) (v := .int (v13 4)) (C := R_M) (T := F_M) (N := 17) hx hb hts ws_M hown hK hP 34 hI.1 rfl 10 (by decide) (hts _ fl_M_77) (fun _ h9 => h9) rfl d_M_mark_89 ?_
              refine lv_iconst (v := 1) hx hb d_M_mark_92 (by decide) ?_
              refine lv_iadd hx hb d_M_mark_93 ?_
              refine lv_topi (fun y17 hy17 => ?_)
              have hy17 : y17 = nI (n4 + 1) := by rw [hy17, nv13 4 (by decide), en4]; exact nI_add n4 1
              refine va_put (D := D) (ci := 6) (v := .int y17) (ty := .int) (C := R_M) (T := F_M) (N := 17) hx hb hts ws_M t_M ok_M n_M hown hK hP hD hS 34 hI.1 rfl 10 (by decide) (hts _ fl_M_77) (fun _ h9 => h9) rfl (by decide +kernel) rfl rfl (Nat.le_of_ble_eq_true rfl) d_M_mark_94 (fun H locs hP hD hS => ?_)
              obtain ⟨v18, hv18⟩ : ∃ q : Nat → Int32, q = upd v13 4 y17 := ⟨_, rfl⟩
              have gv18 : v18 4 = y17 := by rw [hv18]; exact pk_us
              have nv18 : ∀ i, i ≠ 4 → v18 i = v13 i := fun i hi => by rw [hv18]; exact pk_un hi
              have hP : va_P D Cl (w16.set 34 (cMo a v18)) H := by rw [hv18]; exact hP
              have hD : va_D (Az z) (w16.set 34 (cMo a v18)) := by rw [hv18]; exact hD
              obtain ⟨w19, hw⟩ : ∃ q, q = w16.set 34 (cMo a v18) := ⟨_, rfl⟩
              have hP : va_P D Cl (w16.set 34 (cMo a v18)) H := hP
              have hD : va_D (Az z) (w16.set 34 (cMo a v18)) := hD
              have hC := hC.set (p := 34) (c := (cMo a v18)) (by decide) (by decide)
              have hI := hI.setO (v' := v18) ⟨by rw [nv18 0 (by decide)]; exact hI.2.1.1, by rw [nv18 2 (by decide)]; exact hI.2.1.2.1, by rw [nv18 3 (by decide)]; exact hI.2.1.2.2.1, ⟨(n4 + 1), by omega, by rw [gv18, hy17]⟩⟩
              rw [← hw] at hP hD hC hI
              clear hw
              refine lv_aload_n hx hb d_M_mark_97 rfl (lv_at hl 1 rfl) ?_
              refine lv_dup hx hb d_M_mark_98 rfl ?_
              refine va_get (D := D) (ci := 6) (v := .int (v18 1)) (C := R_M) (T := F_M) (N := 17) hx hb hts ws_M hown hK hP 34 hI.1 rfl 3 (by decide) (hts _ fl_M_22) (fun _ h9 => h9) rfl d_M_mark_99 ?_
              refine lv_iconst (v := 1) hx hb d_M_mark_102 (by decide) ?_
              refine lv_iadd hx hb d_M_mark_103 ?_
              refine lv_topi (fun v20 hv20 => ?_)
              refine va_put (D := D) (ci := 6) (v := .int v20) (ty := .int) (C := R_M) (T := F_M) (N := 17) hx hb hts ws_M t_M ok_M n_M hown hK hP hD hS 34 hI.1 rfl 3 (by decide) (hts _ fl_M_22) (fun _ h9 => h9) rfl (by decide +kernel) rfl rfl (Nat.le_of_ble_eq_true rfl) d_M_mark_104 (fun H locs hP hD hS => ?_)
              obtain ⟨v21, hv21⟩ : ∃ q : Nat → Int32, q = upd v18 1 v20 := ⟨_, rfl⟩
              have gv21 : v21 1 = v20 := by rw [hv21]; exact pk_us
              have nv21 : ∀ i, i ≠ 1 → v21 i = v18 i := fun i hi => by rw [hv21]; exact pk_un hi
              have hP : va_P D Cl (w19.set 34 (cMo a v21)) H := by rw [hv21]; exact hP
              have hD : va_D (Az z) (w19.set 34 (cMo a v21)) := by rw [hv21]; exact hD
              obtain ⟨w22, hw⟩ : ∃ q, q = w19.set 34 (cMo a v21) := ⟨_, rfl⟩
              have hP : va_P D Cl (w19.set 34 (cMo a v21)) H := hP
              have hD : va_D (Az z) (w19.set 34 (cMo a v21)) := hD
              have hC := hC.set (p := 34) (c := (cMo a v21)) (by decide) (by decide)
              have hI := hI.setO (v' := v21) ⟨by rw [nv21 0 (by decide)]; exact hI.2.1.1, by rw [nv21 2 (by decide)]; exact hI.2.1.2.1, by rw [nv21 3 (by decide)]; exact hI.2.1.2.2.1, by rw [nv21 4 (by decide)]; exact hI.2.1.2.2.2⟩
              rw [← hw] at hP hD hC hI
              clear hw
              refine lv_aload_n hx hb d_M_mark_107 rfl (lv_at hl 1 rfl) ?_
              refine va_get (D := D) (ci := 6) (v := .int (v21 4)) (C := R_M) (T := F_M) (N := 17) hx hb hts ws_M hown hK hP 34 hI.1 rfl 10 (by decide) (hts _ fl_M_77) (fun _ h9 => h9) rfl d_M_mark_108 ?_
              exact W.iret (v := (v21 4)) hx hb hr (fun t9 ht hW => ⟨⟨(v21 4), w22, rfl, ⟨_, hI, hC⟩, ⟨by rw [ht]; exact hP, va_K.moved hW.alike hK, hD, by rw [ht]; exact Nat.le_trans hz hS.1⟩⟩, hS.F ht⟩) hS.2.2 d_M_mark_111
            | succ n9 ih =>
              intro i w9 H locs ls hi9 hP hD hS hI hC hl
              refine lv_iload_n hx hb d_M_mark_39 rfl (lv_at hl 0 rfl) ?_
              refine lv_aload_n hx hb d_M_mark_40 rfl (lv_at hl 1 rfl) ?_
              refine va_get (D := D) (ci := 6) (v := .int (v13 2)) (C := R_M) (T := F_M) (N := 17) hx hb hts ws_M hown hK hP 34 hI.1 rfl 8 (by decide) (hts _ fl_M_43) (fun _ h9 => h9) rfl d_M_mark_41 ?_
              have hB9 : (v13 2) = nI n2 := by rw [nv13 2 (by decide), en2]
              refine lv_icmp_ge (tgt := 74) hx hb d_M_mark_44 rfl (fun h => absurd h (by rw [hB9]; exact nI_ge (by omega) (by omega))) (fun _ => ?_)
              refine lv_aload_n hx hb d_M_mark_47 rfl (lv_at hl 1 rfl) ?_
              refine va_get (D := D) (ci := 6) (v := .ref (a 39)) (C := R_M) (T := F_M) (N := 17) hx hb hts ws_M hown hK hP 34 hI.1 rfl 6 (by decide) (hts _ fl_M_31) (fun _ h9 => h9) rfl d_M_mark_48 ?_
              refine lv_sipush (v := 768) hx hb d_M_mark_51 (by decide) ?_
              refine lv_aload_n hx hb d_M_mark_54 rfl (lv_at hl 1 rfl) ?_
              refine va_get (D := D) (ci := 6) (v := .int (v13 4)) (C := R_M) (T := F_M) (N := 17) hx hb hts ws_M hown hK hP 34 hI.1 rfl 10 (by decide) (hts _ fl_M_77) (fun _ h9 => h9) rfl d_M_mark_55 ?_
              refine lv_imul hx hb d_M_mark_58 ?_
              refine lv_topi (fun y23 hy23 => ?_)
              have hy23 : y23 = nI (768 * n4) := by rw [hy23, nv13 4 (by decide), en4]; exact pk_mul 768 n4
              refine lv_iload_n hx hb d_M_mark_59 rfl (lv_at hl 0 rfl) ?_
              refine lv_iadd hx hb d_M_mark_60 ?_
              refine lv_topi (fun y24 hy24 => ?_)
              have hy24 : y24 = nI ((768 * n4) + i) := by rw [hy24, hy23]; exact nI_add (768 * n4) i
              refine lv_aload_n hx hb d_M_mark_61 rfl (lv_at hl 1 rfl) ?_
              refine va_get (D := D) (ci := 6) (v := .ref (a 37)) (C := R_M) (T := F_M) (N := 17) hx hb hts ws_M hown hK hP 34 hI.1 rfl 4 (by decide) (hts _ fl_M_25) (fun _ h9 => h9) rfl d_M_mark_62 ?_
              refine lv_iload_n hx hb d_M_mark_65 rfl (lv_at hl 0 rfl) ?_
              obtain ⟨fA25, eA25, lA25⟩ := hI.a37
              refine va_iald (D := D) hx hb hK hP 37 4 eA25 rfl (i := (nI i)) (vp_in_nI (n := i) (by omega) (by decide)) d_M_mark_66 ?_
              obtain ⟨VA25, hVA25, eVA25⟩ := lA25 ((nI i) : Int32).toNatClampNeg
              refine W.eq (g2 := F0 m 67 ls [.int (nI VA25), .int y24, .ref (a 39)]) (by rw [eVA25]) ?_
              obtain ⟨Vz, hVz, -⟩ := hI.a39.choose_spec.2 0
              obtain ⟨fA27, eA27, lA27⟩ := hI.a39
              refine va_iast (D := D) hx hb hK hP hD hS 39 4 eA27 rfl (i := y24) (x := (nI VA25)) (by rw [hy24]; exact vp_in_nI (by omega) (by decide)) d_M_mark_67 (fun H locs hP hD hS => ?_)
              obtain ⟨gA27, hgA27⟩ : ∃ q, q = upd fA27 (y24 : Int32).toNatClampNeg (nI VA25) := ⟨_, rfl⟩
              rw [← hgA27] at hP hD
              obtain ⟨w28, hw⟩ : ∃ q, q = w9.set 39 (cI a t 39 5120 gA27) := ⟨_, rfl⟩
              have hP : va_P D Cl (w9.set 39 (cI a t 39 5120 gA27)) H := hP
              have hD : va_D (Az z) (w9.set 39 (cI a t 39 5120 gA27)) := hD
              have hC := hC.set (p := 39) (c := (cI a t 39 5120 gA27)) (by decide) (by decide)
              have hI := hI.s39 (f9 := gA27) (by rw [hgA27]; exact lA27.upd (V := VA25) (by omega))
              rw [← hw] at hP hD hC hI
              clear hw
              refine lv_iinc (k := 0) (v := nI (i + 1)) (lv' := [(1, .int (nI (i + 1))), (0, .ref (a 34))]) hx hb d_M_mark_68 hl rfl (nI_1 i) (by decide) rfl (fun ls hl => ?_)
              refine lv_goto (tgt := 39) hx hb d_M_mark_71 rfl ?_
              exact ih (i + 1) w28 H locs ls (by omega) hP hD hS hI hC (lv_sub hl [0, 1] rfl)
          exact key n2 0 u11 _ _ _ (Nat.zero_add _) hP hD hS hI hC hl
      · skip
        refine lv_iconst (v := 1) hx hb d_M_mark_23 (by decide) ?_
        refine lv_goto (tgt := 28) hx hb d_M_mark_24 rfl ?_
        refine lv_iconst (v := 0) hx hb d_M_mark_28 (by decide) ?_
        refine va_calli (va_runV (As := [.int 1, .int 0]) (rest := []) ⟨hx, hb, hml, hown, hts⟩ (c_M_fails (D := D) (t := t) (z := z) (sa := sa) (ws := ws) (x9 := 1) (y9 := 0) hI ) (cwV 2 hts (gd_V ml_M_50 im_M_fails se_M_fails in_M cd_M_fails) rfl rfl rfl (by decide +kernel) ⟨Nat.le_of_ble_eq_true rfl, Nat.le_of_ble_eq_true rfl⟩) ⟨Pz_blind, va_recv hK hP (ci := 6) rfl hI.1, Pz_at hP hK hD hz hM hS⟩ rfl rfl hl.1 rfl (lv_room (Nat.le_of_ble_eq_true rfl)) d_M_mark_29 ⟨Nat.le_of_ble_eq_true rfl, Nat.le_of_ble_eq_true rfl⟩) hS (fun q _ h => h) (fun q h => h) (fun r30 u29 t9 H locs ht hvm hp hB hz1 hk1 hS => ?_)
        obtain ⟨hP, hK9, hD, -⟩ := hB
        rw [ht] at hP
        clear hK9
        obtain ⟨v31, hI, hC9, nv31, hr9⟩ := hp
        have hC := hC.trans hC9
        rcases hr9 with hr9 | ⟨hr9, hx0, hy0⟩
        · skip
          subst hr9
          refine lv_if_eq (tgt := 37) hx hb d_M_mark_32 rfl (fun h => absurd h (by decide)) (fun _ => ?_)
          refine lv_iconst (v := 0) hx hb d_M_mark_35 (by decide) ?_
          exact W.iret (v := 0) hx hb hr (fun t9 ht hW => ⟨⟨0, u29, rfl, ⟨_, hI, hC⟩, ⟨by rw [ht]; exact hP, va_K.moved hW.alike hK, hD, by rw [ht]; exact Nat.le_trans hz hS.1⟩⟩, hS.F ht⟩) hS.2.2 d_M_mark_36
        · skip
          exact absurd hx0 (by decide)
