set_option maxHeartbeats 4000000 in
set_option maxRecDepth 100000 in
theorem c_M_own {l : Launch} {D : va_G} {t : Nat → ClassId} {z : Nat} {sa : Nat → Nat} {ws : va_W} {a : Nat → Nat} {NV : Nat} {v : Nat → Int32} {x9 : Int32} {ip : Nat} (hI : Mi a t NV v ws) (hip : ip < 768) (hxp : x9 = nI ip) (hNV : NV ≤ 4000) : Met l y_M_own (Cond.code y_M_own b_M_own 4 (.none : Option Jvm.ClassFile.FieldType) :: WS) ({ frames := 0, cells := 0, slots := 0, locals := 0 }) (Pz D t z sa ws [.ref (a 34), .int x9]) (va_Qv (fun u : va_W => ∃ v1, Mi a t (NV + 1) v1 u ∧ Mk ws u ∧ (∀ i, i ≠ 0 → v1 i = v i)) (fun u U => Wd D t z u U) (Az z)) 0 0 (Az z) := by
  refine Met.ofW (cc := b_M_own) (maxL := 4) (ret := (.none : Option Jvm.ClassFile.FieldType)) (by decide) rfl ?_
  intro p e s m args below meth c s₁ B hml hv
  obtain ⟨rfl, ⟨hP, hK, hD, hz⟩, hM⟩ := hv
  have hx := B.exec
  have hb := B.bytes
  have hr := B.returns
  have hts : ∀ w ∈ WS, w.before [.ref (a 34), .int x9].toArray s = true := fun w h => atoms_spec B.pre w (List.mem_cons_of_mem _ h)
  have hown : s.vm.findClass R_M = some m.cls := findClass_of_methodNamed B.named
  have hlocks := B.notSynchronized
  have hA : ∀ q, s.heap.size ≤ q → Az z q := fun q h => Nat.le_trans hz h
  have hS : va_S (Az z) s.heap s.heap [] := va_S.rf
  have hC : Mk ws ws := Mk.rf
  have hl := lv_entry ([.ref (a 34), .int x9]) (n := 4) (Nat.le_of_ble_eq_true rfl)
  rw [lg_entry_eq]
  generalize (lg_sl ([.ref (a 34), .int x9]) ++ List.replicate (4 - (lg_sl ([.ref (a 34), .int x9])).length) Slot.unset).toArray = ls at hl ⊢
  have hl : lv_has ls 4 [(0, .ref (a 34)), (1, .int x9)] := hl
  obtain ⟨n0, hn0, en0⟩ := hI.2.1.1
  refine lv_aload_n hx hb d_M_own_0 rfl (lv_at hl 0 rfl) ?_
  refine va_get (D := D) (ci := 6) (v := .ref (a 37)) (C := R_M) (T := F_M) (N := 17) hx hb hts ws_M hown hK hP 34 hI.1 rfl 4 (by decide) (hts _ fl_M_25) (fun _ h9 => h9) rfl d_M_own_1 ?_
  refine lv_iload_n hx hb d_M_own_4 rfl (lv_at hl 1 rfl) ?_
  obtain ⟨fA1, eA1, lA1⟩ := hI.a37
  refine va_iald (D := D) hx hb hK hP 37 4 eA1 rfl (i := x9) (by rw [hxp]; exact vp_in_nI (by omega) (by decide)) d_M_own_5 ?_
  obtain ⟨VA1, hVA1, eVA1⟩ := lA1 (x9 : Int32).toNatClampNeg
  refine W.eq (g2 := F0 m 6 ls [.int (nI VA1)]) (by rw [eVA1]) ?_
  refine lv_istore_n (lv' := [(2, .int (nI VA1)), (0, .ref (a 34)), (1, .int x9)]) hx hb d_M_own_6 rfl hl (by decide) rfl (fun ls hl => ?_)
  refine lv_iload_n hx hb d_M_own_7 rfl (lv_at hl 0 rfl) ?_
  refine lv_if_le (tgt := 25) hx hb d_M_own_8 rfl (fun q2 => ?_) (fun q2 => ?_)
  · skip
    refine lv_iconst (v := 0) hx hb d_M_own_25 (by decide) ?_
    refine lv_istore_n (lv' := [(3, .int 0), (2, .int (nI VA1)), (0, .ref (a 34)), (1, .int x9)]) hx hb d_M_own_26 rfl hl (by decide) rfl (fun ls hl => ?_)
    have key : ∀ (n9 i : Nat) (w9 : va_W) (H : Heap) (locs : List Loc) (ls : Array Slot), i + n9 = 256 → va_P D Cl w9 H → va_D (Az z) w9 → va_S (Az z) s.heap H locs → Mi a t NV v w9 → Mk ws w9 → lv_has ls 4 [(3, .int (nI i)), (2, .int (nI VA1)), (0, .ref (a 34)), (1, .int x9)] → W p l e (headSpec (Cond.code y_M_own b_M_own 4 (.none : Option Jvm.ClassFile.FieldType) :: WS) ({ frames := 0, cells := 0, slots := 0, locals := 0 })).room s m [.ref (a 34), .int x9].toArray below meth c H locs 0 0 (MQ below (va_Qv (fun u : va_W => ∃ v1, Mi a t (NV + 1) v1 u ∧ Mk ws u ∧ (∀ i, i ≠ 0 → v1 i = v i)) (fun u U => Wd D t z u U) (Az z)) [.ref (a 34), .int x9].toArray s 0 0 (Az z)) (F0 m 27 ls []) := by
      intro n9
      induction n9 with
      | zero =>
        intro i w9 H locs ls hi9 hP hD hS hI hC hl
        refine lv_iload_n hx hb d_M_own_27 rfl (lv_at hl 0 rfl) ?_
        refine lv_sipush (v := 256) hx hb d_M_own_28 (by decide) ?_
        have hB9 : (256 : Int32) = nI 256 := rfl
        refine lv_icmp_ge (tgt := 67) hx hb d_M_own_31 rfl (fun _ => ?_) (fun h => absurd (by rw [hB9]; exact nI_le (by omega) (by omega)) h)
        have hI := hI.mono (Nat.le_succ NV)
        refine lv_aload_n hx hb d_M_own_67 rfl (lv_at hl 2 rfl) ?_
        refine va_get (D := D) (ci := 6) (v := .ref (a 36)) (C := R_M) (T := F_M) (N := 17) hx hb hts ws_M hown hK hP 34 hI.1 rfl 1 (by decide) (hts _ fl_M_14) (fun _ h9 => h9) rfl d_M_own_68 ?_
        refine lv_aload_n hx hb d_M_own_71 rfl (lv_at hl 2 rfl) ?_
        refine va_get (D := D) (ci := 6) (v := .int (v 0)) (C := R_M) (T := F_M) (N := 17) hx hb hts ws_M hown hK hP 34 hI.1 rfl 2 (by decide) (hts _ fl_M_18) (fun _ h9 => h9) rfl d_M_own_72 ?_
        refine lv_aload_n hx hb d_M_own_75 rfl (lv_at hl 2 rfl) ?_
        refine va_get (D := D) (ci := 6) (v := .int (v 1)) (C := R_M) (T := F_M) (N := 17) hx hb hts ws_M hown hK hP 34 hI.1 rfl 3 (by decide) (hts _ fl_M_22) (fun _ h9 => h9) rfl d_M_own_76 ?_
        obtain ⟨fA3, eA3⟩ := hI.a36
        refine va_iast (D := D) hx hb hK hP hD hS 36 4 eA3 rfl (i := (v 0)) (x := (v 1)) (by rw [en0]; exact vp_in_nI (by omega) (by decide)) d_M_own_79 (fun H locs hP hD hS => ?_)
        obtain ⟨gA3, hgA3⟩ : ∃ q, q = upd fA3 ((v 0) : Int32).toNatClampNeg (v 1) := ⟨_, rfl⟩
        rw [← hgA3] at hP hD
        obtain ⟨w4, hw⟩ : ∃ q, q = w9.set 36 (cI a t 36 4097 gA3) := ⟨_, rfl⟩
        have hP : va_P D Cl (w9.set 36 (cI a t 36 4097 gA3)) H := hP
        have hD : va_D (Az z) (w9.set 36 (cI a t 36 4097 gA3)) := hD
        have hC := hC.set (p := 36) (c := (cI a t 36 4097 gA3)) (by decide) (by decide)
        have hI := hI.s36 (f9 := gA3)
        rw [← hw] at hP hD hC hI
        clear hw
        refine lv_aload_n hx hb d_M_own_80 rfl (lv_at hl 2 rfl) ?_
        refine va_get (D := D) (ci := 6) (v := .ref (a 37)) (C := R_M) (T := F_M) (N := 17) hx hb hts ws_M hown hK hP 34 hI.1 rfl 4 (by decide) (hts _ fl_M_25) (fun _ h9 => h9) rfl d_M_own_81 ?_
        refine lv_iload_n hx hb d_M_own_84 rfl (lv_at hl 3 rfl) ?_
        refine lv_aload_n hx hb d_M_own_85 rfl (lv_at hl 2 rfl) ?_
        refine va_get (D := D) (ci := 6) (v := .int (v 0)) (C := R_M) (T := F_M) (N := 17) hx hb hts ws_M hown hK hP 34 hI.1 rfl 2 (by decide) (hts _ fl_M_18) (fun _ h9 => h9) rfl d_M_own_86 ?_
        obtain ⟨Vz, hVz, -⟩ := hI.a37.choose_spec.2 0
        obtain ⟨fA6, eA6, lA6⟩ := hI.a37
        refine va_iast (D := D) hx hb hK hP hD hS 37 4 eA6 rfl (i := x9) (x := (v 0)) (by rw [hxp]; exact vp_in_nI (by omega) (by decide)) d_M_own_89 (fun H locs hP hD hS => ?_)
        obtain ⟨gA6, hgA6⟩ : ∃ q, q = upd fA6 (x9 : Int32).toNatClampNeg (v 0) := ⟨_, rfl⟩
        rw [← hgA6] at hP hD
        obtain ⟨w7, hw⟩ : ∃ q, q = w4.set 37 (cI a t 37 1024 gA6) := ⟨_, rfl⟩
        have hP : va_P D Cl (w4.set 37 (cI a t 37 1024 gA6)) H := hP
        have hD : va_D (Az z) (w4.set 37 (cI a t 37 1024 gA6)) := hD
        have hC := hC.set (p := 37) (c := (cI a t 37 1024 gA6)) (by decide) (by decide)
        have hI := hI.s37 (f9 := gA6) (by rw [hgA6, en0]; exact lA6.upd (V := n0) (by omega))
        rw [← hw] at hP hD hC hI
        clear hw
        refine lv_aload_n hx hb d_M_own_90 rfl (lv_at hl 2 rfl) ?_
        refine lv_dup hx hb d_M_own_91 rfl ?_
        refine va_get (D := D) (ci := 6) (v := .int (v 0)) (C := R_M) (T := F_M) (N := 17) hx hb hts ws_M hown hK hP 34 hI.1 rfl 2 (by decide) (hts _ fl_M_18) (fun _ h9 => h9) rfl d_M_own_92 ?_
        refine lv_iconst (v := 1) hx hb d_M_own_95 (by decide) ?_
        refine lv_iadd hx hb d_M_own_96 ?_
        refine lv_topi (fun y8 hy8 => ?_)
        have hy8 : y8 = nI (n0 + 1) := by rw [hy8, en0]; exact nI_add n0 1
        refine va_put (D := D) (ci := 6) (v := .int y8) (ty := .int) (C := R_M) (T := F_M) (N := 17) hx hb hts ws_M t_M ok_M n_M hown hK hP hD hS 34 hI.1 rfl 2 (by decide) (hts _ fl_M_18) (fun _ h9 => h9) rfl (by decide +kernel) rfl rfl (Nat.le_of_ble_eq_true rfl) d_M_own_97 (fun H locs hP hD hS => ?_)
        obtain ⟨v10, hv10⟩ : ∃ q : Nat → Int32, q = upd v 0 y8 := ⟨_, rfl⟩
        have gv10 : v10 0 = y8 := by rw [hv10]; exact pk_us
        have nv10 : ∀ i, i ≠ 0 → v10 i = v i := fun i hi => by rw [hv10]; exact pk_un hi
        have hP : va_P D Cl (w7.set 34 (cMo a v10)) H := by rw [hv10]; exact hP
        have hD : va_D (Az z) (w7.set 34 (cMo a v10)) := by rw [hv10]; exact hD
        obtain ⟨w11, hw⟩ : ∃ q, q = w7.set 34 (cMo a v10) := ⟨_, rfl⟩
        have hP : va_P D Cl (w7.set 34 (cMo a v10)) H := hP
        have hD : va_D (Az z) (w7.set 34 (cMo a v10)) := hD
        have hC := hC.set (p := 34) (c := (cMo a v10)) (by decide) (by decide)
        have hI := hI.setO (v' := v10) ⟨⟨(n0 + 1), by omega, by rw [gv10, hy8]⟩, by rw [nv10 2 (by decide)]; exact hI.2.1.2.1, by rw [nv10 3 (by decide)]; exact hI.2.1.2.2.1, by rw [nv10 4 (by decide)]; exact hI.2.1.2.2.2⟩
        rw [← hw] at hP hD hC hI
        clear hw
        exact W.vret hx hb hr (fun t9 ht hW => ⟨⟨w11, rfl, ⟨_, hI, hC, nv10⟩, ⟨by rw [ht]; exact hP, va_K.moved hW.alike hK, hD, by rw [ht]; exact Nat.le_trans hz hS.1⟩⟩, hS.F ht⟩) hS.2.2 d_M_own_100
      | succ n9 ih =>
        intro i w9 H locs ls hi9 hP hD hS hI hC hl
        refine lv_iload_n hx hb d_M_own_27 rfl (lv_at hl 0 rfl) ?_
        refine lv_sipush (v := 256) hx hb d_M_own_28 (by decide) ?_
        have hB9 : (256 : Int32) = nI 256 := rfl
        refine lv_icmp_ge (tgt := 67) hx hb d_M_own_31 rfl (fun h => absurd h (by rw [hB9]; exact nI_ge (by omega) (by omega))) (fun _ => ?_)
        refine lv_aload_n hx hb d_M_own_34 rfl (lv_at hl 2 rfl) ?_
        refine va_get (D := D) (ci := 6) (v := .ref (a 35)) (C := R_M) (T := F_M) (N := 17) hx hb hts ws_M hown hK hP 34 hI.1 rfl 0 (by decide) (hts _ fl_M_8) (fun _ h9 => h9) rfl d_M_own_35 ?_
        refine lv_sipush (v := 256) hx hb d_M_own_38 (by decide) ?_
        refine lv_aload_n hx hb d_M_own_41 rfl (lv_at hl 2 rfl) ?_
        refine va_get (D := D) (ci := 6) (v := .int (v 0)) (C := R_M) (T := F_M) (N := 17) hx hb hts ws_M hown hK hP 34 hI.1 rfl 2 (by decide) (hts _ fl_M_18) (fun _ h9 => h9) rfl d_M_own_42 ?_
        refine lv_imul hx hb d_M_own_45 ?_
        refine lv_topi (fun y12 hy12 => ?_)
        have hy12 : y12 = nI (256 * n0) := by rw [hy12, en0]; exact pk_mul 256 n0
        refine lv_iload_n hx hb d_M_own_46 rfl (lv_at hl 0 rfl) ?_
        refine lv_iadd hx hb d_M_own_47 ?_
        refine lv_topi (fun y13 hy13 => ?_)
        have hy13 : y13 = nI ((256 * n0) + i) := by rw [hy13, hy12]; exact nI_add (256 * n0) i
        refine lv_aload_n hx hb d_M_own_48 rfl (lv_at hl 2 rfl) ?_
        refine va_get (D := D) (ci := 6) (v := .ref (a 35)) (C := R_M) (T := F_M) (N := 17) hx hb hts ws_M hown hK hP 34 hI.1 rfl 0 (by decide) (hts _ fl_M_8) (fun _ h9 => h9) rfl d_M_own_49 ?_
        refine lv_sipush (v := 256) hx hb d_M_own_52 (by decide) ?_
        refine lv_iload_n hx hb d_M_own_55 rfl (lv_at hl 1 rfl) ?_
        refine lv_imul hx hb d_M_own_56 ?_
        refine lv_topi (fun y14 hy14 => ?_)
        have hy14 : y14 = nI (256 * VA1) := by rw [hy14]; exact pk_mul 256 VA1
        refine lv_iload_n hx hb d_M_own_57 rfl (lv_at hl 0 rfl) ?_
        refine lv_iadd hx hb d_M_own_58 ?_
        refine lv_topi (fun y15 hy15 => ?_)
        have hy15 : y15 = nI ((256 * VA1) + i) := by rw [hy15, hy14]; exact nI_add (256 * VA1) i
        obtain ⟨fA16, eA16⟩ := hI.a35
        refine va_bald (D := D) hx hb hK hP 35 0 eA16 rfl (i := y15) (by rw [hy15]; exact vp_in_nI (by omega) (by decide)) d_M_own_59 ?_
        generalize fA16 (y15 : Int32).toNatClampNeg = y17
        obtain ⟨fA18, eA18⟩ := hI.a35
        refine va_bast (D := D) hx hb hK hP hD hS 35 0 eA18 rfl (i := y13) (x := y17) (by rw [hy13]; exact vp_in_nI (by omega) (by decide)) d_M_own_60 (fun H locs hP hD hS => ?_)
        generalize upd fA18 (y13 : Int32).toNatClampNeg (vp_nar .byte y17) = gA18 at hP hD
        obtain ⟨w19, hw⟩ : ∃ q, q = w9.set 35 (a 35, .inl (t 0, 1048832, .inl gA18)) := ⟨_, rfl⟩
        have hP : va_P D Cl (w9.set 35 (a 35, .inl (t 0, 1048832, .inl gA18))) H := hP
        have hD : va_D (Az z) (w9.set 35 (a 35, .inl (t 0, 1048832, .inl gA18))) := hD
        have hC := hC.set (p := 35) (c := (a 35, .inl (t 0, 1048832, .inl gA18))) (by decide) (by decide)
        have hI := hI.s35 (f9 := gA18)
        rw [← hw] at hP hD hC hI
        clear hw
        refine lv_iinc (k := 0) (v := nI (i + 1)) (lv' := [(3, .int (nI (i + 1))), (2, .int (nI VA1)), (0, .ref (a 34)), (1, .int x9)]) hx hb d_M_own_61 hl rfl (nI_1 i) (by decide) rfl (fun ls hl => ?_)
        refine lv_goto (tgt := 27) hx hb d_M_own_64 rfl ?_
        exact ih (i + 1) w19 H locs ls (by omega) hP hD hS hI hC (lv_sub hl [0, 1, 2, 3] rfl)
    exact key 256 0 ws _ _ _ rfl hP hD hS hI hC hl
  · skip
    refine lv_aload_n hx hb d_M_own_11 rfl (lv_at hl 1 rfl) ?_
    refine va_get (D := D) (ci := 6) (v := .ref (a 36)) (C := R_M) (T := F_M) (N := 17) hx hb hts ws_M hown hK hP 34 hI.1 rfl 1 (by decide) (hts _ fl_M_14) (fun _ h9 => h9) rfl d_M_own_12 ?_
    refine lv_iload_n hx hb d_M_own_15 rfl (lv_at hl 0 rfl) ?_
    obtain ⟨fA20, eA20⟩ := hI.a36
    refine va_iald (D := D) hx hb hK hP 36 4 eA20 rfl (i := (nI VA1)) (vp_in_nI (n := VA1) (by omega) (by decide)) d_M_own_16 ?_
    generalize fA20 ((nI VA1) : Int32).toNatClampNeg = y21
    refine lv_aload_n hx hb d_M_own_17 rfl (lv_at hl 1 rfl) ?_
    refine va_get (D := D) (ci := 6) (v := .int (v 1)) (C := R_M) (T := F_M) (N := 17) hx hb hts ws_M hown hK hP 34 hI.1 rfl 3 (by decide) (hts _ fl_M_22) (fun _ h9 => h9) rfl d_M_own_18 ?_
    refine lv_icmp_ne (tgt := 25) hx hb d_M_own_21 rfl (fun q22 => ?_) (fun q22 => ?_)
    · skip
      refine lv_iconst (v := 0) hx hb d_M_own_25 (by decide) ?_
      refine lv_istore_n (lv' := [(3, .int 0), (2, .int (nI VA1)), (0, .ref (a 34)), (1, .int x9)]) hx hb d_M_own_26 rfl hl (by decide) rfl (fun ls hl => ?_)
      have key : ∀ (n9 i : Nat) (w9 : va_W) (H : Heap) (locs : List Loc) (ls : Array Slot), i + n9 = 256 → va_P D Cl w9 H → va_D (Az z) w9 → va_S (Az z) s.heap H locs → Mi a t NV v w9 → Mk ws w9 → lv_has ls 4 [(3, .int (nI i)), (2, .int (nI VA1)), (0, .ref (a 34)), (1, .int x9)] → W p l e (headSpec (Cond.code y_M_own b_M_own 4 (.none : Option Jvm.ClassFile.FieldType) :: WS) ({ frames := 0, cells := 0, slots := 0, locals := 0 })).room s m [.ref (a 34), .int x9].toArray below meth c H locs 0 0 (MQ below (va_Qv (fun u : va_W => ∃ v1, Mi a t (NV + 1) v1 u ∧ Mk ws u ∧ (∀ i, i ≠ 0 → v1 i = v i)) (fun u U => Wd D t z u U) (Az z)) [.ref (a 34), .int x9].toArray s 0 0 (Az z)) (F0 m 27 ls []) := by
        intro n9
        induction n9 with
        | zero =>
          intro i w9 H locs ls hi9 hP hD hS hI hC hl
          refine lv_iload_n hx hb d_M_own_27 rfl (lv_at hl 0 rfl) ?_
          refine lv_sipush (v := 256) hx hb d_M_own_28 (by decide) ?_
          have hB9 : (256 : Int32) = nI 256 := rfl
          refine lv_icmp_ge (tgt := 67) hx hb d_M_own_31 rfl (fun _ => ?_) (fun h => absurd (by rw [hB9]; exact nI_le (by omega) (by omega)) h)
          have hI := hI.mono (Nat.le_succ NV)
          refine lv_aload_n hx hb d_M_own_67 rfl (lv_at hl 2 rfl) ?_
          refine va_get (D := D) (ci := 6) (v := .ref (a 36)) (C := R_M) (T := F_M) (N := 17) hx hb hts ws_M hown hK hP 34 hI.1 rfl 1 (by decide) (hts _ fl_M_14) (fun _ h9 => h9) rfl d_M_own_68 ?_
          refine lv_aload_n hx hb d_M_own_71 rfl (lv_at hl 2 rfl) ?_
          refine va_get (D := D) (ci := 6) (v := .int (v 0)) (C := R_M) (T := F_M) (N := 17) hx hb hts ws_M hown hK hP 34 hI.1 rfl 2 (by decide) (hts _ fl_M_18) (fun _ h9 => h9) rfl d_M_own_72 ?_
          refine lv_aload_n hx hb d_M_own_75 rfl (lv_at hl 2 rfl) ?_
          refine va_get (D := D) (ci := 6) (v := .int (v 1)) (C := R_M) (T := F_M) (N := 17) hx hb hts ws_M hown hK hP 34 hI.1 rfl 3 (by decide) (hts _ fl_M_22) (fun _ h9 => h9) rfl d_M_own_76 ?_
          obtain ⟨fA23, eA23⟩ := hI.a36
          refine va_iast (D := D) hx hb hK hP hD hS 36 4 eA23 rfl (i := (v 0)) (x := (v 1)) (by rw [en0]; exact vp_in_nI (by omega) (by decide)) d_M_own_79 (fun H locs hP hD hS => ?_)
          obtain ⟨gA23, hgA23⟩ : ∃ q, q = upd fA23 ((v 0) : Int32).toNatClampNeg (v 1) := ⟨_, rfl⟩
          rw [← hgA23] at hP hD
          obtain ⟨w24, hw⟩ : ∃ q, q = w9.set 36 (cI a t 36 4097 gA23) := ⟨_, rfl⟩
          have hP : va_P D Cl (w9.set 36 (cI a t 36 4097 gA23)) H := hP
          have hD : va_D (Az z) (w9.set 36 (cI a t 36 4097 gA23)) := hD
          have hC := hC.set (p := 36) (c := (cI a t 36 4097 gA23)) (by decide) (by decide)
          have hI := hI.s36 (f9 := gA23)
          rw [← hw] at hP hD hC hI
          clear hw
          refine lv_aload_n hx hb d_M_own_80 rfl (lv_at hl 2 rfl) ?_
          refine va_get (D := D) (ci := 6) (v := .ref (a 37)) (C := R_M) (T := F_M) (N := 17) hx hb hts ws_M hown hK hP 34 hI.1 rfl 4 (by decide) (hts _ fl_M_25) (fun _ h9 => h9) rfl d_M_own_81 ?_
          refine lv_iload_n hx hb d_M_own_84 rfl (lv_at hl 3 rfl) ?_
          refine lv_aload_n hx hb d_M_own_85 rfl (lv_at hl 2 rfl) ?_
          refine va_get (D := D) (ci := 6) (v := .int (v 0)) (C := R_M) (T := F_M) (N := 17) hx hb hts ws_M hown hK hP 34 hI.1 rfl 2 (by decide) (hts _ fl_M_18) (fun _ h9 => h9) rfl d_M_own_86 ?_
          obtain ⟨Vz, hVz, -⟩ := hI.a37.choose_spec.2 0
          obtain ⟨fA26, eA26, lA26⟩ := hI.a37
          refine va_iast (D := D) hx hb hK hP hD hS 37 4 eA26 rfl (i := x9) (x := (v 0)) (by rw [hxp]; exact vp_in_nI (by omega) (by decide)) d_M_own_89 (fun H locs hP hD hS => ?_)
          obtain ⟨gA26, hgA26⟩ : ∃ q, q = upd fA26 (x9 : Int32).toNatClampNeg (v 0) := ⟨_, rfl⟩
          rw [← hgA26] at hP hD
          obtain ⟨w27, hw⟩ : ∃ q, q = w24.set 37 (cI a t 37 1024 gA26) := ⟨_, rfl⟩
          have hP : va_P D Cl (w24.set 37 (cI a t 37 1024 gA26)) H := hP
          have hD : va_D (Az z) (w24.set 37 (cI a t 37 1024 gA26)) := hD
          have hC := hC.set (p := 37) (c := (cI a t 37 1024 gA26)) (by decide) (by decide)
          have hI := hI.s37 (f9 := gA26) (by rw [hgA26, en0]; exact lA26.upd (V := n0) (by omega))
          rw [← hw] at hP hD hC hI
          clear hw
          refine lv_aload_n hx hb d_M_own_90 rfl (lv_at hl 2 rfl) ?_
          refine lv_dup hx hb d_M_own_91 rfl ?_
          refine va_get (D := D) (ci := 6) (v := .int (v 0)) (C := R_M) (T := F_M) (N := 17) hx hb hts ws_M hown hK hP 34 hI.1 rfl 2 (by decide) (hts _ fl_M_18) (fun _ h9 => h9) rfl d_M_own_92 ?_
          refine lv_iconst (v := 1) hx hb d_M_own_95 (by decide) ?_
          refine lv_iadd hx hb d_M_own_96 ?_
          refine lv_topi (fun y28 hy28 => ?_)
          have hy28 : y28 = nI (n0 + 1) := by rw [hy28, en0]; exact nI_add n0 1
          refine va_put (D := D) (ci := 6) (v := .int y28) (ty := .int) (C := R_M) (T := F_M) (N := 17) hx hb hts ws_M t_M ok_M n_M hown hK hP hD hS 34 hI.1 rfl 2 (by decide) (hts _ fl_M_18) (fun _ h9 => h9) rfl (by decide +kernel) rfl rfl (Nat.le_of_ble_eq_true rfl) d_M_own_97 (fun H locs hP hD hS => ?_)
          obtain ⟨v29, hv29⟩ : ∃ q : Nat → Int32, q = upd v 0 y28 := ⟨_, rfl⟩
          have gv29 : v29 0 = y28 := by rw [hv29]; exact pk_us
          have nv29 : ∀ i, i ≠ 0 → v29 i = v i := fun i hi => by rw [hv29]; exact pk_un hi
          have hP : va_P D Cl (w27.set 34 (cMo a v29)) H := by rw [hv29]; exact hP
          have hD : va_D (Az z) (w27.set 34 (cMo a v29)) := by rw [hv29]; exact hD
          obtain ⟨w30, hw⟩ : ∃ q, q = w27.set 34 (cMo a v29) := ⟨_, rfl⟩
          have hP : va_P D Cl (w27.set 34 (cMo a v29)) H := hP
          have hD : va_D (Az z) (w27.set 34 (cMo a v29)) := hD
          have hC := hC.set (p := 34) (c := (cMo a v29)) (by decide) (by decide)
          have hI := hI.setO (v' := v29) ⟨⟨(n0 + 1), by omega, by rw [gv29, hy28]⟩, by rw [nv29 2 (by decide)]; exact hI.2.1.2.1, by rw [nv29 3 (by decide)]; exact hI.2.1.2.2.1, by rw [nv29 4 (by decide)]; exact hI.2.1.2.2.2⟩
          rw [← hw] at hP hD hC hI
          clear hw
          exact W.vret hx hb hr (fun t9 ht hW => ⟨⟨w30, rfl, ⟨_, hI, hC, nv29⟩, ⟨by rw [ht]; exact hP, va_K.moved hW.alike hK, hD, by rw [ht]; exact Nat.le_trans hz hS.1⟩⟩, hS.F ht⟩) hS.2.2 d_M_own_100
        | succ n9 ih =>
          intro i w9 H locs ls hi9 hP hD hS hI hC hl
          refine lv_iload_n hx hb d_M_own_27 rfl (lv_at hl 0 rfl) ?_
          refine lv_sipush (v := 256) hx hb d_M_own_28 (by decide) ?_
          have hB9 : (256 : Int32) = nI 256 := rfl
          refine lv_icmp_ge (tgt := 67) hx hb d_M_own_31 rfl (fun h => absurd h (by rw [hB9]; exact nI_ge (by omega) (by omega))) (fun _ => ?_)
          refine lv_aload_n hx hb d_M_own_34 rfl (lv_at hl 2 rfl) ?_
          refine va_get (D := D) (ci := 6) (v := .ref (a 35)) (C := R_M) (T := F_M) (N := 17) hx hb hts ws_M hown hK hP 34 hI.1 rfl 0 (by decide) (hts _ fl_M_8) (fun _ h9 => h9) rfl d_M_own_35 ?_
          refine lv_sipush (v := 256) hx hb d_M_own_38 (by decide) ?_
          refine lv_aload_n hx hb d_M_own_41 rfl (lv_at hl 2 rfl) ?_
          refine va_get (D := D) (ci := 6) (v := .int (v 0)) (C := R_M) (T := F_M) (N := 17) hx hb hts ws_M hown hK hP 34 hI.1 rfl 2 (by decide) (hts _ fl_M_18) (fun _ h9 => h9) rfl d_M_own_42 ?_
          refine lv_imul hx hb d_M_own_45 ?_
          refine lv_topi (fun y31 hy31 => ?_)
          have hy31 : y31 = nI (256 * n0) := by rw [hy31, en0]; exact pk_mul 256 n0
          refine lv_iload_n hx hb d_M_own_46 rfl (lv_at hl 0 rfl) ?_
          refine lv_iadd hx hb d_M_own_47 ?_
          refine lv_topi (fun y32 hy32 => ?_)
          have hy32 : y32 = nI ((256 * n0) + i) := by rw [hy32, hy31]; exact nI_add (256 * n0) i
          refine lv_aload_n hx hb d_M_own_48 rfl (lv_at hl 2 rfl) ?_
          refine va_get (D := D) (ci := 6) (v := .ref (a 35)) (C := R_M) (T := F_M) (N := 17) hx hb hts ws_M hown hK hP 34 hI.1 rfl 0 (by decide) (hts _ fl_M_8) (fun _ h9 => h9) rfl d_M_own_49 ?_
          refine lv_sipush (v := 256) hx hb d_M_own_52 (by decide) ?_
          refine lv_iload_n hx hb d_M_own_55 rfl (lv_at hl 1 rfl) ?_
          refine lv_imul hx hb d_M_own_56 ?_
          refine lv_topi (fun y33 hy33 => ?_)
          have hy33 : y33 = nI (256 * VA1) := by rw [hy33]; exact pk_mul 256 VA1
          refine lv_iload_n hx hb d_M_own_57 rfl (lv_at hl 0 rfl) ?_
          refine lv_iadd hx hb d_M_own_58 ?_
          refine lv_topi (fun y34 hy34 => ?_)
          have hy34 : y34 = nI ((256 * VA1) + i) := by rw [hy34, hy33]; exact nI_add (256 * VA1) i
          obtain ⟨fA35, eA35⟩ := hI.a35
          refine va_bald (D := D) hx hb hK hP 35 0 eA35 rfl (i := y34) (by rw [hy34]; exact vp_in_nI (by omega) (by decide)) d_M_own_59 ?_
          generalize fA35 (y34 : Int32).toNatClampNeg = y36
          obtain ⟨fA37, eA37⟩ := hI.a35
          refine va_bast (D := D) hx hb hK hP hD hS 35 0 eA37 rfl (i := y32) (x := y36) (by rw [hy32]; exact vp_in_nI (by omega) (by decide)) d_M_own_60 (fun H locs hP hD hS => ?_)
          generalize upd fA37 (y32 : Int32).toNatClampNeg (vp_nar .byte y36) = gA37 at hP hD
          obtain ⟨w38, hw⟩ : ∃ q, q = w9.set 35 (a 35, .inl (t 0, 1048832, .inl gA37)) := ⟨_, rfl⟩
          have hP : va_P D Cl (w9.set 35 (a 35, .inl (t 0, 1048832, .inl gA37))) H := hP
          have hD : va_D (Az z) (w9.set 35 (a 35, .inl (t 0, 1048832, .inl gA37))) := hD
          have hC := hC.set (p := 35) (c := (a 35, .inl (t 0, 1048832, .inl gA37))) (by decide) (by decide)
          have hI := hI.s35 (f9 := gA37)
          rw [← hw] at hP hD hC hI
          clear hw
          refine lv_iinc (k := 0) (v := nI (i + 1)) (lv' := [(3, .int (nI (i + 1))), (2, .int (nI VA1)), (0, .ref (a 34)), (1, .int x9)]) hx hb d_M_own_61 hl rfl (nI_1 i) (by decide) rfl (fun ls hl => ?_)
          refine lv_goto (tgt := 27) hx hb d_M_own_64 rfl ?_
          exact ih (i + 1) w38 H locs ls (by omega) hP hD hS hI hC (lv_sub hl [0, 1, 2, 3] rfl)
      exact key 256 0 ws _ _ _ rfl hP hD hS hI hC hl
    · skip
      exact W.vret hx hb hr (fun t9 ht hW => ⟨⟨ws, rfl, ⟨_, hI.mono (by omega), hC, fun _ _ => rfl⟩, ⟨by rw [ht]; exact hP, va_K.moved hW.alike hK, hD, by rw [ht]; exact Nat.le_trans hz hS.1⟩⟩, hS.F ht⟩) hS.2.2 d_M_own_24
set_option maxHeartbeats 4000000 in
set_option maxRecDepth 100000 in
theorem c_M_pages {l : Launch} {D : va_G} {t : Nat → ClassId} {z : Nat} {sa : Nat → Nat} {ws : va_W} {a : Nat → Nat} {NV : Nat} {v : Nat → Int32}  (hI : Mi a t NV v ws)  : Met l y_M_pages (Cond.code y_M_pages b_M_pages 1 (some .int) :: WS) ({ frames := 1, cells := 0, slots := 0, locals := 22 }) (Pz D t z sa ws [.ref (a 34)]) (va_Qi (fun (r : Int32) (u : va_W) => ∃ v1, Mi a t NV v1 u ∧ Mk ws u) (fun u U => Wd D t z u U) (Az z)) 0 0 (Az z) := by
  refine Met.ofW (cc := b_M_pages) (maxL := 1) (ret := (some .int)) (by decide) rfl ?_
  intro p e s m args below meth c s₁ B hml hv
  obtain ⟨rfl, ⟨hP, hK, hD, hz⟩, hM⟩ := hv
  have hx := B.exec
  have hb := B.bytes
  have hr := B.returns
  have hts : ∀ w ∈ WS, w.before [.ref (a 34)].toArray s = true := fun w h => atoms_spec B.pre w (List.mem_cons_of_mem _ h)
  have hown : s.vm.findClass R_M = some m.cls := findClass_of_methodNamed B.named
  have hlocks := B.notSynchronized
  have hA : ∀ q, s.heap.size ≤ q → Az z q := fun q h => Nat.le_trans hz h
  have hS : va_S (Az z) s.heap s.heap [] := va_S.rf
  have hC : Mk ws ws := Mk.rf
  have hl := lv_entry ([.ref (a 34)]) (n := 1) (Nat.le_of_ble_eq_true rfl)
  rw [lg_entry_eq]
  generalize (lg_sl ([.ref (a 34)]) ++ List.replicate (1 - (lg_sl ([.ref (a 34)])).length) Slot.unset).toArray = ls at hl ⊢
  have hl : lv_has ls 1 [(0, .ref (a 34))] := hl
  refine lv_aload_n hx hb d_M_pages_0 rfl (lv_at hl 0 rfl) ?_
  refine lv_aload_n hx hb d_M_pages_1 rfl (lv_at hl 0 rfl) ?_
  refine va_get (D := D) (ci := 6) (v := .int (v 6)) (C := R_M) (T := F_M) (N := 17) hx hb hts ws_M hown hK hP 34 hI.1 rfl 12 (by decide) (hts _ fl_M_46) (fun _ h9 => h9) rfl d_M_pages_2 ?_
  refine lv_iconst (v := 0) hx hb d_M_pages_5 (by decide) ?_
  refine va_calli (va_runV (As := [.int (v 6), .int 0]) (rest := []) ⟨hx, hb, hml, hown, hts⟩ (c_M_fails (D := D) (t := t) (z := z) (sa := sa) (ws := ws) (x9 := (v 6)) (y9 := 0) hI ) (cwV 2 hts (gd_V ml_M_50 im_M_fails se_M_fails in_M cd_M_fails) rfl rfl rfl (by decide +kernel) ⟨Nat.le_of_ble_eq_true rfl, Nat.le_of_ble_eq_true rfl⟩) ⟨Pz_blind, va_recv hK hP (ci := 6) rfl hI.1, Pz_at hP hK hD hz hM hS⟩ rfl rfl hl.1 rfl (lv_room (Nat.le_of_ble_eq_true rfl)) d_M_pages_6 ⟨Nat.le_of_ble_eq_true rfl, Nat.le_of_ble_eq_true rfl⟩) hS (fun q _ h => h) (fun q h => h) (fun r2 u1 t9 H locs ht hvm hp hB hz1 hk1 hS => ?_)
  obtain ⟨hP, hK9, hD, -⟩ := hB
  rw [ht] at hP
  clear hK9
  obtain ⟨v3, hI, hC9, nv3, hr9⟩ := hp
  have hC := hC.trans hC9
  rcases hr9 with hr9 | ⟨hr9, hx0, hy0⟩
  · skip
    subst hr9
    refine lv_if_eq (tgt := 14) hx hb d_M_pages_9 rfl (fun h => absurd h (by decide)) (fun _ => ?_)
    refine lv_iconst (v := 0) hx hb d_M_pages_12 (by decide) ?_
    exact W.iret (v := 0) hx hb hr (fun t9 ht hW => ⟨⟨0, u1, rfl, ⟨_, hI, hC⟩, ⟨by rw [ht]; exact hP, va_K.moved hW.alike hK, hD, by rw [ht]; exact Nat.le_trans hz hS.1⟩⟩, hS.F ht⟩) hS.2.2 d_M_pages_13
  · skip
    subst hr9
    refine lv_if_eq (tgt := 14) hx hb d_M_pages_9 rfl (fun _ => ?_) (fun h => absurd h (by decide))
    refine lv_aload_n hx hb d_M_pages_14 rfl (lv_at hl 0 rfl) ?_
    refine va_get (D := D) (ci := 6) (v := .int (v3 2)) (C := R_M) (T := F_M) (N := 17) hx hb hts ws_M hown hK hP 34 hI.1 rfl 8 (by decide) (hts _ fl_M_43) (fun _ h9 => h9) rfl d_M_pages_15 ?_
    exact W.iret (v := (v3 2)) hx hb hr (fun t9 ht hW => ⟨⟨(v3 2), u1, rfl, ⟨_, hI, hC⟩, ⟨by rw [ht]; exact hP, va_K.moved hW.alike hK, hD, by rw [ht]; exact Nat.le_trans hz hS.1⟩⟩, hS.F ht⟩) hS.2.2 d_M_pages_18
set_option maxHeartbeats 4000000 in
set_option maxRecDepth 100000 in
theorem c_M_add {l : Launch} {D : va_G} {t : Nat → ClassId} {z : Nat} {sa : Nat → Nat} {ws : va_W} {a : Nat → Nat} {NV : Nat} {v : Nat → Int32}  (hI : Mi a t NV v ws)  : Met l y_M_add (Cond.code y_M_add b_M_add 1 (some .int) :: WS) ({ frames := 1, cells := 0, slots := 0, locals := 22 }) (Pz D t z sa ws [.ref (a 34)]) (va_Qi (fun (r : Int32) (u : va_W) => ∃ v1, Mi a t NV v1 u ∧ Mk ws u) (fun u U => Wd D t z u U) (Az z)) 0 0 (Az z) := by
  refine Met.ofW (cc := b_M_add) (maxL := 1) (ret := (some .int)) (by decide) rfl ?_
  intro p e s m args below meth c s₁ B hml hv
  obtain ⟨rfl, ⟨hP, hK, hD, hz⟩, hM⟩ := hv
  have hx := B.exec
  have hb := B.bytes
  have hr := B.returns
  have hts : ∀ w ∈ WS, w.before [.ref (a 34)].toArray s = true := fun w h => atoms_spec B.pre w (List.mem_cons_of_mem _ h)
  have hown : s.vm.findClass R_M = some m.cls := findClass_of_methodNamed B.named
  have hlocks := B.notSynchronized
  have hA : ∀ q, s.heap.size ≤ q → Az z q := fun q h => Nat.le_trans hz h
  have hS : va_S (Az z) s.heap s.heap [] := va_S.rf
  have hC : Mk ws ws := Mk.rf
  have hl := lv_entry ([.ref (a 34)]) (n := 1) (Nat.le_of_ble_eq_true rfl)
  rw [lg_entry_eq]
  generalize (lg_sl ([.ref (a 34)]) ++ List.replicate (1 - (lg_sl ([.ref (a 34)])).length) Slot.unset).toArray = ls at hl ⊢
  have hl : lv_has ls 1 [(0, .ref (a 34))] := hl
  obtain ⟨n2, hn2, en2⟩ := hI.2.1.2.1
  refine lv_aload_n hx hb d_M_add_0 rfl (lv_at hl 0 rfl) ?_
  refine lv_aload_n hx hb d_M_add_1 rfl (lv_at hl 0 rfl) ?_
  refine va_get (D := D) (ci := 6) (v := .int (v 6)) (C := R_M) (T := F_M) (N := 17) hx hb hts ws_M hown hK hP 34 hI.1 rfl 12 (by decide) (hts _ fl_M_46) (fun _ h9 => h9) rfl d_M_add_2 ?_
  refine lv_if_ne (tgt := 25) hx hb d_M_add_5 rfl (fun q1 => ?_) (fun q1 => ?_)
  · skip
    refine lv_iconst (v := 1) hx hb d_M_add_25 (by decide) ?_
    refine lv_goto (tgt := 30) hx hb d_M_add_26 rfl ?_
    refine lv_iconst (v := 0) hx hb d_M_add_30 (by decide) ?_
    refine va_calli (va_runV (As := [.int 1, .int 0]) (rest := []) ⟨hx, hb, hml, hown, hts⟩ (c_M_fails (D := D) (t := t) (z := z) (sa := sa) (ws := ws) (x9 := 1) (y9 := 0) hI ) (cwV 2 hts (gd_V ml_M_50 im_M_fails se_M_fails in_M cd_M_fails) rfl rfl rfl (by decide +kernel) ⟨Nat.le_of_ble_eq_true rfl, Nat.le_of_ble_eq_true rfl⟩) ⟨Pz_blind, va_recv hK hP (ci := 6) rfl hI.1, Pz_at hP hK hD hz hM hS⟩ rfl rfl hl.1 rfl (lv_room (Nat.le_of_ble_eq_true rfl)) d_M_add_31 ⟨Nat.le_of_ble_eq_true rfl, Nat.le_of_ble_eq_true rfl⟩) hS (fun q _ h => h) (fun q h => h) (fun r3 u2 t9 H locs ht hvm hp hB hz1 hk1 hS => ?_)
    obtain ⟨hP, hK9, hD, -⟩ := hB
    rw [ht] at hP
    clear hK9
    obtain ⟨v4, hI, hC9, nv4, hr9⟩ := hp
    have hC := hC.trans hC9
    rcases hr9 with hr9 | ⟨hr9, hx0, hy0⟩
    · skip
      subst hr9
      refine lv_if_eq (tgt := 39) hx hb d_M_add_34 rfl (fun h => absurd h (by decide)) (fun _ => ?_)
      refine lv_iconst (v := 0) hx hb d_M_add_37 (by decide) ?_
      exact W.iret (v := 0) hx hb hr (fun t9 ht hW => ⟨⟨0, u2, rfl, ⟨_, hI, hC⟩, ⟨by rw [ht]; exact hP, va_K.moved hW.alike hK, hD, by rw [ht]; exact Nat.le_trans hz hS.1⟩⟩, hS.F ht⟩) hS.2.2 d_M_add_38
    · skip
      exact absurd hx0 (by decide)
  · skip
    refine lv_aload_n hx hb d_M_add_8 rfl (lv_at hl 0 rfl) ?_
    refine va_get (D := D) (ci := 6) (v := .int (v 7)) (C := R_M) (T := F_M) (N := 17) hx hb hts ws_M hown hK hP 34 hI.1 rfl 13 (by decide) (hts _ fl_M_54) (fun _ h9 => h9) rfl d_M_add_9 ?_
    refine lv_if_eq (tgt := 25) hx hb d_M_add_12 rfl (fun q5 => ?_) (fun q5 => ?_)
    · skip
      refine lv_iconst (v := 1) hx hb d_M_add_25 (by decide) ?_
      refine lv_goto (tgt := 30) hx hb d_M_add_26 rfl ?_
      refine lv_iconst (v := 0) hx hb d_M_add_30 (by decide) ?_
      refine va_calli (va_runV (As := [.int 1, .int 0]) (rest := []) ⟨hx, hb, hml, hown, hts⟩ (c_M_fails (D := D) (t := t) (z := z) (sa := sa) (ws := ws) (x9 := 1) (y9 := 0) hI ) (cwV 2 hts (gd_V ml_M_50 im_M_fails se_M_fails in_M cd_M_fails) rfl rfl rfl (by decide +kernel) ⟨Nat.le_of_ble_eq_true rfl, Nat.le_of_ble_eq_true rfl⟩) ⟨Pz_blind, va_recv hK hP (ci := 6) rfl hI.1, Pz_at hP hK hD hz hM hS⟩ rfl rfl hl.1 rfl (lv_room (Nat.le_of_ble_eq_true rfl)) d_M_add_31 ⟨Nat.le_of_ble_eq_true rfl, Nat.le_of_ble_eq_true rfl⟩) hS (fun q _ h => h) (fun q h => h) (fun r7 u6 t9 H locs ht hvm hp hB hz1 hk1 hS => ?_)
      obtain ⟨hP, hK9, hD, -⟩ := hB
      rw [ht] at hP
      clear hK9
      obtain ⟨v8, hI, hC9, nv8, hr9⟩ := hp
      have hC := hC.trans hC9
      rcases hr9 with hr9 | ⟨hr9, hx0, hy0⟩
      · skip
        subst hr9
        refine lv_if_eq (tgt := 39) hx hb d_M_add_34 rfl (fun h => absurd h (by decide)) (fun _ => ?_)
        refine lv_iconst (v := 0) hx hb d_M_add_37 (by decide) ?_
        exact W.iret (v := 0) hx hb hr (fun t9 ht hW => ⟨⟨0, u6, rfl, ⟨_, hI, hC⟩, ⟨by rw [ht]; exact hP, va_K.moved hW.alike hK, hD, by rw [ht]; exact Nat.le_trans hz hS.1⟩⟩, hS.F ht⟩) hS.2.2 d_M_add_38
      · skip
        exact absurd hx0 (by decide)
    · skip
      refine lv_aload_n hx hb d_M_add_15 rfl (lv_at hl 0 rfl) ?_
      refine va_get (D := D) (ci := 6) (v := .int (v 2)) (C := R_M) (T := F_M) (N := 17) hx hb hts ws_M hown hK hP 34 hI.1 rfl 8 (by decide) (hts _ fl_M_43) (fun _ h9 => h9) rfl d_M_add_16 ?_
      refine lv_sipush (v := 768) hx hb d_M_add_19 (by decide) ?_
      refine lv_icmp_ne (tgt := 29) hx hb d_M_add_22 rfl (fun q10 => ?_) (fun q10 => ?_)
      · skip
        refine lv_iconst (v := 0) hx hb d_M_add_29 (by decide) ?_
        refine lv_iconst (v := 0) hx hb d_M_add_30 (by decide) ?_
        refine va_calli (va_runV (As := [.int 0, .int 0]) (rest := []) ⟨hx, hb, hml, hown, hts⟩ (c_M_fails (D := D) (t := t) (z := z) (sa := sa) (ws := ws) (x9 := 0) (y9 := 0) hI ) (cwV 2 hts (gd_V ml_M_50 im_M_fails se_M_fails in_M cd_M_fails) rfl rfl rfl (by decide +kernel) ⟨Nat.le_of_ble_eq_true rfl, Nat.le_of_ble_eq_true rfl⟩) ⟨Pz_blind, va_recv hK hP (ci := 6) rfl hI.1, Pz_at hP hK hD hz hM hS⟩ rfl rfl hl.1 rfl (lv_room (Nat.le_of_ble_eq_true rfl)) d_M_add_31 ⟨Nat.le_of_ble_eq_true rfl, Nat.le_of_ble_eq_true rfl⟩) hS (fun q _ h => h) (fun q h => h) (fun r12 u11 t9 H locs ht hvm hp hB hz1 hk1 hS => ?_)
        obtain ⟨hP, hK9, hD, -⟩ := hB
        rw [ht] at hP
        clear hK9
        obtain ⟨v13, hI, hC9, nv13, hr9⟩ := hp
        have hC := hC.trans hC9
        rcases hr9 with hr9 | ⟨hr9, hx0, hy0⟩
        · skip
          subst hr9
          refine lv_if_eq (tgt := 39) hx hb d_M_add_34 rfl (fun h => absurd h (by decide)) (fun _ => ?_)
          refine lv_iconst (v := 0) hx hb d_M_add_37 (by decide) ?_
          exact W.iret (v := 0) hx hb hr (fun t9 ht hW => ⟨⟨0, u11, rfl, ⟨_, hI, hC⟩, ⟨by rw [ht]; exact hP, va_K.moved hW.alike hK, hD, by rw [ht]; exact Nat.le_trans hz hS.1⟩⟩, hS.F ht⟩) hS.2.2 d_M_add_38
        · skip
          subst hr9
          refine lv_if_eq (tgt := 39) hx hb d_M_add_34 rfl (fun _ => ?_) (fun h => absurd h (by decide))
          have hn2l : n2 < 768 := Nat.lt_of_le_of_ne hn2 (fun h => (by assumption : ¬ v 2 = 768) (by rw [en2, h]; rfl))
          refine lv_aload_n hx hb d_M_add_39 rfl (lv_at hl 0 rfl) ?_
          refine va_get (D := D) (ci := 6) (v := .ref (a 37)) (C := R_M) (T := F_M) (N := 17) hx hb hts ws_M hown hK hP 34 hI.1 rfl 4 (by decide) (hts _ fl_M_25) (fun _ h9 => h9) rfl d_M_add_40 ?_
          refine lv_aload_n hx hb d_M_add_43 rfl (lv_at hl 0 rfl) ?_
          refine va_get (D := D) (ci := 6) (v := .int (v13 2)) (C := R_M) (T := F_M) (N := 17) hx hb hts ws_M hown hK hP 34 hI.1 rfl 8 (by decide) (hts _ fl_M_43) (fun _ h9 => h9) rfl d_M_add_44 ?_
          refine lv_iconst (v := 0) hx hb d_M_add_47 (by decide) ?_
          obtain ⟨Vz, hVz, -⟩ := hI.a37.choose_spec.2 0
          obtain ⟨fA15, eA15, lA15⟩ := hI.a37
          refine va_iast (D := D) hx hb hK hP hD hS 37 4 eA15 rfl (i := (v13 2)) (x := 0) (by rw [nv13 2 (by decide), en2]; exact vp_in_nI (by omega) (by decide)) d_M_add_48 (fun H locs hP hD hS => ?_)
          obtain ⟨gA15, hgA15⟩ : ∃ q, q = upd fA15 ((v13 2) : Int32).toNatClampNeg 0 := ⟨_, rfl⟩
          rw [← hgA15] at hP hD
          obtain ⟨w16, hw⟩ : ∃ q, q = u11.set 37 (cI a t 37 1024 gA15) := ⟨_, rfl⟩
          have hP : va_P D Cl (u11.set 37 (cI a t 37 1024 gA15)) H := hP
          have hD : va_D (Az z) (u11.set 37 (cI a t 37 1024 gA15)) := hD
          have hC := hC.set (p := 37) (c := (cI a t 37 1024 gA15)) (by decide) (by decide)
          have hI := hI.s37 (f9 := gA15) (by rw [hgA15]; exact lA15.upd (V := 0) (by omega))
          rw [← hw] at hP hD hC hI
          clear hw
          refine lv_aload_n hx hb d_M_add_49 rfl (lv_at hl 0 rfl) ?_
          refine lv_dup hx hb d_M_add_50 rfl ?_
          refine va_get (D := D) (ci := 6) (v := .int (v13 2)) (C := R_M) (T := F_M) (N := 17) hx hb hts ws_M hown hK hP 34 hI.1 rfl 8 (by decide) (hts _ fl_M_43) (fun _ h9 => h9) rfl d_M_add_51 ?_
          refine lv_iconst (v := 1) hx hb d_M_add_54 (by decide) ?_
          refine lv_iadd hx hb d_M_add_55 ?_
          refine lv_topi (fun y17 hy17 => ?_)
          have hy17 : y17 = nI (n2 + 1) := by rw [hy17, nv13 2 (by decide), en2]; exact nI_add n2 1
          refine va_put (D := D) (ci := 6) (v := .int y17) (ty := .int) (C := R_M) (T := F_M) (N := 17) hx hb hts ws_M t_M ok_M n_M hown hK hP hD hS 34 hI.1 rfl 8 (by decide) (hts _ fl_M_43) (fun _ h9 => h9) rfl (by decide +kernel) rfl rfl (Nat.le_of_ble_eq_true rfl) d_M_add_56 (fun H locs hP hD hS => ?_)
          obtain ⟨v18, hv18⟩ : ∃ q : Nat → Int32, q = upd v13 2 y17 := ⟨_, rfl⟩
          have gv18 : v18 2 = y17 := by rw [hv18]; exact pk_us
          have nv18 : ∀ i, i ≠ 2 → v18 i = v13 i := fun i hi => by rw [hv18]; exact pk_un hi
          have hP : va_P D Cl (w16.set 34 (cMo a v18)) H := by rw [hv18]; exact hP
          have hD : va_D (Az z) (w16.set 34 (cMo a v18)) := by rw [hv18]; exact hD
          obtain ⟨w19, hw⟩ : ∃ q, q = w16.set 34 (cMo a v18) := ⟨_, rfl⟩
          have hP : va_P D Cl (w16.set 34 (cMo a v18)) H := hP
          have hD : va_D (Az z) (w16.set 34 (cMo a v18)) := hD
          have hC := hC.set (p := 34) (c := (cMo a v18)) (by decide) (by decide)
          have hI := hI.setO (v' := v18) ⟨by rw [nv18 0 (by decide)]; exact hI.2.1.1, ⟨(n2 + 1), by omega, by rw [gv18, hy17]⟩, by rw [nv18 3 (by decide)]; exact hI.2.1.2.2.1, by rw [nv18 4 (by decide)]; exact hI.2.1.2.2.2⟩
          rw [← hw] at hP hD hC hI
          clear hw
          refine lv_aload_n hx hb d_M_add_59 rfl (lv_at hl 0 rfl) ?_
          refine va_get (D := D) (ci := 6) (v := .int (v18 2)) (C := R_M) (T := F_M) (N := 17) hx hb hts ws_M hown hK hP 34 hI.1 rfl 8 (by decide) (hts _ fl_M_43) (fun _ h9 => h9) rfl d_M_add_60 ?_
          refine lv_iconst (v := 1) hx hb d_M_add_63 (by decide) ?_
          refine lv_isub hx hb d_M_add_64 ?_
          refine lv_topi (fun v20 hv20 => ?_)
          exact W.iret (v := v20) hx hb hr (fun t9 ht hW => ⟨⟨v20, w19, rfl, ⟨_, hI, hC⟩, ⟨by rw [ht]; exact hP, va_K.moved hW.alike hK, hD, by rw [ht]; exact Nat.le_trans hz hS.1⟩⟩, hS.F ht⟩) hS.2.2 d_M_add_65
      · skip
        refine lv_iconst (v := 1) hx hb d_M_add_25 (by decide) ?_
        refine lv_goto (tgt := 30) hx hb d_M_add_26 rfl ?_
        refine lv_iconst (v := 0) hx hb d_M_add_30 (by decide) ?_
        refine va_calli (va_runV (As := [.int 1, .int 0]) (rest := []) ⟨hx, hb, hml, hown, hts⟩ (c_M_fails (D := D) (t := t) (z := z) (sa := sa) (ws := ws) (x9 := 1) (y9 := 0) hI ) (cwV 2 hts (gd_V ml_M_50 im_M_fails se_M_fails in_M cd_M_fails) rfl rfl rfl (by decide +kernel) ⟨Nat.le_of_ble_eq_true rfl, Nat.le_of_ble_eq_true rfl⟩) ⟨Pz_blind, va_recv hK hP (ci := 6) rfl hI.1, Pz_at hP hK hD hz hM hS⟩ rfl rfl hl.1 rfl (lv_room (Nat.le_of_ble_eq_true rfl)) d_M_add_31 ⟨Nat.le_of_ble_eq_true rfl, Nat.le_of_ble_eq_true rfl⟩) hS (fun q _ h => h) (fun q h => h) (fun r22 u21 t9 H locs ht hvm hp hB hz1 hk1 hS => ?_)
        obtain ⟨hP, hK9, hD, -⟩ := hB
        rw [ht] at hP
        clear hK9
        obtain ⟨v23, hI, hC9, nv23, hr9⟩ := hp
        have hC := hC.trans hC9
        rcases hr9 with hr9 | ⟨hr9, hx0, hy0⟩
        · skip
          subst hr9
          refine lv_if_eq (tgt := 39) hx hb d_M_add_34 rfl (fun h => absurd h (by decide)) (fun _ => ?_)
          refine lv_iconst (v := 0) hx hb d_M_add_37 (by decide) ?_
          exact W.iret (v := 0) hx hb hr (fun t9 ht hW => ⟨⟨0, u21, rfl, ⟨_, hI, hC⟩, ⟨by rw [ht]; exact hP, va_K.moved hW.alike hK, hD, by rw [ht]; exact Nat.le_trans hz hS.1⟩⟩, hS.F ht⟩) hS.2.2 d_M_add_38
        · skip
          exact absurd hx0 (by decide)
set_option maxHeartbeats 4000000 in
set_option maxRecDepth 100000 in
theorem c_M_get {l : Launch} {D : va_G} {t : Nat → ClassId} {z : Nat} {sa : Nat → Nat} {ws : va_W} {a : Nat → Nat} {NV : Nat} {v : Nat → Int32} {x9 y9 : Int32} (hI : Mi a t NV v ws) (hNV : NV ≤ 4000) : Met l y_M_get (Cond.code y_M_get b_M_get 3 (some .int) :: WS) ({ frames := 1, cells := 0, slots := 0, locals := 22 }) (Pz D t z sa ws [.ref (a 34), .int x9, .int y9]) (va_Qi (fun (r : Int32) (u : va_W) => ∃ v1, Mi a t NV v1 u ∧ Mk ws u) (fun u U => Wd D t z u U) (Az z)) 0 0 (Az z) := by
  refine Met.ofW (cc := b_M_get) (maxL := 3) (ret := (some .int)) (by decide) rfl ?_
  intro p e s m args below meth c s₁ B hml hv
  obtain ⟨rfl, ⟨hP, hK, hD, hz⟩, hM⟩ := hv
  have hx := B.exec
  have hb := B.bytes
  have hr := B.returns
  have hts : ∀ w ∈ WS, w.before [.ref (a 34), .int x9, .int y9].toArray s = true := fun w h => atoms_spec B.pre w (List.mem_cons_of_mem _ h)
  have hown : s.vm.findClass R_M = some m.cls := findClass_of_methodNamed B.named
  have hlocks := B.notSynchronized
  have hA : ∀ q, s.heap.size ≤ q → Az z q := fun q h => Nat.le_trans hz h
  have hS : va_S (Az z) s.heap s.heap [] := va_S.rf
  have hC : Mk ws ws := Mk.rf
  have hl := lv_entry ([.ref (a 34), .int x9, .int y9]) (n := 3) (Nat.le_of_ble_eq_true rfl)
  rw [lg_entry_eq]
  generalize (lg_sl ([.ref (a 34), .int x9, .int y9]) ++ List.replicate (3 - (lg_sl ([.ref (a 34), .int x9, .int y9])).length) Slot.unset).toArray = ls at hl ⊢
  have hl : lv_has ls 3 [(0, .ref (a 34)), (1, .int x9), (2, .int y9)] := hl
  refine lv_aload_n hx hb d_M_get_0 rfl (lv_at hl 0 rfl) ?_
  refine lv_aload_n hx hb d_M_get_1 rfl (lv_at hl 0 rfl) ?_
  refine va_get (D := D) (ci := 6) (v := .int (v 6)) (C := R_M) (T := F_M) (N := 17) hx hb hts ws_M hown hK hP 34 hI.1 rfl 12 (by decide) (hts _ fl_M_46) (fun _ h9 => h9) rfl d_M_get_2 ?_
  refine lv_aload_n hx hb d_M_get_5 rfl (lv_at hl 0 rfl) ?_
  refine lv_iload_n hx hb d_M_get_6 rfl (lv_at hl 1 rfl) ?_
  refine va_calli (va_runV (As := [.int x9]) (rest := [.int (v 6), .ref (a 34)]) ⟨hx, hb, hml, hown, hts⟩ (c_M_isPage (D := D) (t := t) (z := z) (sa := sa) (ws := ws) (x9 := x9) hI ) (cwV 1 hts (gd_V ml_M_57 im_M_isPage se_M_isPage in_M cd_M_isPage) rfl rfl rfl (by decide +kernel) ⟨Nat.le_of_ble_eq_true rfl, Nat.le_of_ble_eq_true rfl⟩) ⟨Pz_blind, va_recv hK hP (ci := 6) rfl hI.1, Pz_at hP hK hD hz hM hS⟩ rfl rfl hl.1 rfl (lv_room (Nat.le_of_ble_eq_true rfl)) d_M_get_7 ⟨Nat.le_of_ble_eq_true rfl, Nat.le_of_ble_eq_true rfl⟩) hS (fun q _ h => h) (fun q h => h) (fun r2 u1 t9 H locs ht hvm hp hB hz1 hk1 hS => ?_)
  obtain ⟨hP, hK9, hD, -⟩ := hB
  rw [ht] at hP
  clear hK9
  obtain ⟨hw9, hr9⟩ := hp
  rw [hw9] at hP hD
  clear hw9
  rcases hr9 with hr9 | ⟨hr9, ip, hip, hxip⟩
  · skip
    subst hr9
    refine lv_if_eq (tgt := 24) hx hb d_M_get_10 rfl (fun _ => ?_) (fun h => absurd h (by decide))
    refine lv_iconst (v := 1) hx hb d_M_get_24 (by decide) ?_
    refine lv_goto (tgt := 29) hx hb d_M_get_25 rfl ?_
    refine va_calli (va_runV (As := [.int (v 6), .int 1]) (rest := []) ⟨hx, hb, hml, hown, hts⟩ (c_M_fails (D := D) (t := t) (z := z) (sa := sa) (ws := ws) (x9 := (v 6)) (y9 := 1) hI ) (cwV 2 hts (gd_V ml_M_50 im_M_fails se_M_fails in_M cd_M_fails) rfl rfl rfl (by decide +kernel) ⟨Nat.le_of_ble_eq_true rfl, Nat.le_of_ble_eq_true rfl⟩) ⟨Pz_blind, va_recv hK hP (ci := 6) rfl hI.1, Pz_at hP hK hD hz hM hS⟩ rfl rfl hl.1 rfl (lv_room (Nat.le_of_ble_eq_true rfl)) d_M_get_29 ⟨Nat.le_of_ble_eq_true rfl, Nat.le_of_ble_eq_true rfl⟩) hS (fun q _ h => h) (fun q h => h) (fun r4 u3 t9 H locs ht hvm hp hB hz1 hk1 hS => ?_)
    obtain ⟨hP, hK9, hD, -⟩ := hB
    rw [ht] at hP
    clear hK9
    obtain ⟨v5, hI, hC9, nv5, hr9⟩ := hp
    have hC := hC.trans hC9
    rcases hr9 with hr9 | ⟨hr9, hx0, hy0⟩
    · skip
      subst hr9
      refine lv_if_eq (tgt := 37) hx hb d_M_get_32 rfl (fun h => absurd h (by decide)) (fun _ => ?_)
      refine lv_iconst (v := 0) hx hb d_M_get_35 (by decide) ?_
      exact W.iret (v := 0) hx hb hr (fun t9 ht hW => ⟨⟨0, u3, rfl, ⟨_, hI, hC⟩, ⟨by rw [ht]; exact hP, va_K.moved hW.alike hK, hD, by rw [ht]; exact Nat.le_trans hz hS.1⟩⟩, hS.F ht⟩) hS.2.2 d_M_get_36
    · skip
      exact absurd hy0 (by decide)
  · skip
    subst hr9
    refine lv_if_eq (tgt := 24) hx hb d_M_get_10 rfl (fun h => absurd h (by decide)) (fun _ => ?_)
    refine lv_iload_n hx hb d_M_get_13 rfl (lv_at hl 2 rfl) ?_
    refine lv_if_lt (tgt := 24) hx hb d_M_get_14 rfl (fun q6 => ?_) (fun q6 => ?_)
    · skip
      refine lv_iconst (v := 1) hx hb d_M_get_24 (by decide) ?_
      refine lv_goto (tgt := 29) hx hb d_M_get_25 rfl ?_
      refine va_calli (va_runV (As := [.int (v 6), .int 1]) (rest := []) ⟨hx, hb, hml, hown, hts⟩ (c_M_fails (D := D) (t := t) (z := z) (sa := sa) (ws := ws) (x9 := (v 6)) (y9 := 1) hI ) (cwV 2 hts (gd_V ml_M_50 im_M_fails se_M_fails in_M cd_M_fails) rfl rfl rfl (by decide +kernel) ⟨Nat.le_of_ble_eq_true rfl, Nat.le_of_ble_eq_true rfl⟩) ⟨Pz_blind, va_recv hK hP (ci := 6) rfl hI.1, Pz_at hP hK hD hz hM hS⟩ rfl rfl hl.1 rfl (lv_room (Nat.le_of_ble_eq_true rfl)) d_M_get_29 ⟨Nat.le_of_ble_eq_true rfl, Nat.le_of_ble_eq_true rfl⟩) hS (fun q _ h => h) (fun q h => h) (fun r8 u7 t9 H locs ht hvm hp hB hz1 hk1 hS => ?_)
      obtain ⟨hP, hK9, hD, -⟩ := hB
      rw [ht] at hP
      clear hK9
      obtain ⟨v10, hI, hC9, nv10, hr9⟩ := hp
      have hC := hC.trans hC9
      rcases hr9 with hr9 | ⟨hr9, hx0, hy0⟩
      · skip
        subst hr9
        refine lv_if_eq (tgt := 37) hx hb d_M_get_32 rfl (fun h => absurd h (by decide)) (fun _ => ?_)
        refine lv_iconst (v := 0) hx hb d_M_get_35 (by decide) ?_
        exact W.iret (v := 0) hx hb hr (fun t9 ht hW => ⟨⟨0, u7, rfl, ⟨_, hI, hC⟩, ⟨by rw [ht]; exact hP, va_K.moved hW.alike hK, hD, by rw [ht]; exact Nat.le_trans hz hS.1⟩⟩, hS.F ht⟩) hS.2.2 d_M_get_36
      · skip
        exact absurd hy0 (by decide)
    · skip
      refine lv_iload_n hx hb d_M_get_17 rfl (lv_at hl 2 rfl) ?_
      refine lv_sipush (v := 256) hx hb d_M_get_18 (by decide) ?_
      refine lv_icmp_lt (tgt := 28) hx hb d_M_get_21 rfl (fun q11 => ?_) (fun q11 => ?_)
      · skip
        refine lv_iconst (v := 0) hx hb d_M_get_28 (by decide) ?_
        refine va_calli (va_runV (As := [.int (v 6), .int 0]) (rest := []) ⟨hx, hb, hml, hown, hts⟩ (c_M_fails (D := D) (t := t) (z := z) (sa := sa) (ws := ws) (x9 := (v 6)) (y9 := 0) hI ) (cwV 2 hts (gd_V ml_M_50 im_M_fails se_M_fails in_M cd_M_fails) rfl rfl rfl (by decide +kernel) ⟨Nat.le_of_ble_eq_true rfl, Nat.le_of_ble_eq_true rfl⟩) ⟨Pz_blind, va_recv hK hP (ci := 6) rfl hI.1, Pz_at hP hK hD hz hM hS⟩ rfl rfl hl.1 rfl (lv_room (Nat.le_of_ble_eq_true rfl)) d_M_get_29 ⟨Nat.le_of_ble_eq_true rfl, Nat.le_of_ble_eq_true rfl⟩) hS (fun q _ h => h) (fun q h => h) (fun r13 u12 t9 H locs ht hvm hp hB hz1 hk1 hS => ?_)
        obtain ⟨hP, hK9, hD, -⟩ := hB
        rw [ht] at hP
        clear hK9
        obtain ⟨v14, hI, hC9, nv14, hr9⟩ := hp
        have hC := hC.trans hC9
        rcases hr9 with hr9 | ⟨hr9, hx0, hy0⟩
        · skip
          subst hr9
          refine lv_if_eq (tgt := 37) hx hb d_M_get_32 rfl (fun h => absurd h (by decide)) (fun _ => ?_)
          refine lv_iconst (v := 0) hx hb d_M_get_35 (by decide) ?_
          exact W.iret (v := 0) hx hb hr (fun t9 ht hW => ⟨⟨0, u12, rfl, ⟨_, hI, hC⟩, ⟨by rw [ht]; exact hP, va_K.moved hW.alike hK, hD, by rw [ht]; exact Nat.le_trans hz hS.1⟩⟩, hS.F ht⟩) hS.2.2 d_M_get_36
        · skip
          subst hr9
          refine lv_if_eq (tgt := 37) hx hb d_M_get_32 rfl (fun _ => ?_) (fun h => absurd h (by decide))
          refine lv_aload_n hx hb d_M_get_37 rfl (lv_at hl 0 rfl) ?_
          refine lv_iload_n hx hb d_M_get_38 rfl (lv_at hl 1 rfl) ?_
          refine lv_iload_n hx hb d_M_get_39 rfl (lv_at hl 2 rfl) ?_
          obtain ⟨iy, hiy, hyy⟩ := at_nat (y := y9) (by assumption) (by assumption)
          refine va_calli (va_runV (As := [.int x9, .int y9]) (rest := []) ⟨hx, hb, hml, hown, hts⟩ (c_M_at (D := D) (t := t) (z := z) (sa := sa) (ws := u12) (ip := ip) (iy := iy) hI hip hxip hiy hyy hNV) (cwV 2 hts (gd_V ml_M_61 im_M_at se_M_at in_M cd_M_at) rfl rfl rfl (by decide +kernel) ⟨Nat.le_of_ble_eq_true rfl, Nat.le_of_ble_eq_true rfl⟩) ⟨Pz_blind, va_recv hK hP (ci := 6) rfl hI.1, Pz_at hP hK hD hz hM hS⟩ rfl rfl hl.1 rfl (lv_room (Nat.le_of_ble_eq_true rfl)) d_M_get_40 ⟨Nat.le_of_ble_eq_true rfl, Nat.le_of_ble_eq_true rfl⟩) hS (fun q _ h => h) (fun q h => h) (fun r16 u15 t9 H locs ht hvm hp hB hz1 hk1 hS => ?_)
          obtain ⟨hP, hK9, hD, -⟩ := hB
          rw [ht] at hP
          clear hK9
          have hw9 := hp
          rw [hw9] at hP hD
          clear hw9
          exact W.iret (v := r16) hx hb hr (fun t9 ht hW => ⟨⟨r16, u12, rfl, ⟨_, hI, hC⟩, ⟨by rw [ht]; exact hP, va_K.moved hW.alike hK, hD, by rw [ht]; exact Nat.le_trans hz hS.1⟩⟩, hS.F ht⟩) hS.2.2 d_M_get_43
      · skip
        refine lv_iconst (v := 1) hx hb d_M_get_24 (by decide) ?_
        refine lv_goto (tgt := 29) hx hb d_M_get_25 rfl ?_
        refine va_calli (va_runV (As := [.int (v 6), .int 1]) (rest := []) ⟨hx, hb, hml, hown, hts⟩ (c_M_fails (D := D) (t := t) (z := z) (sa := sa) (ws := ws) (x9 := (v 6)) (y9 := 1) hI ) (cwV 2 hts (gd_V ml_M_50 im_M_fails se_M_fails in_M cd_M_fails) rfl rfl rfl (by decide +kernel) ⟨Nat.le_of_ble_eq_true rfl, Nat.le_of_ble_eq_true rfl⟩) ⟨Pz_blind, va_recv hK hP (ci := 6) rfl hI.1, Pz_at hP hK hD hz hM hS⟩ rfl rfl hl.1 rfl (lv_room (Nat.le_of_ble_eq_true rfl)) d_M_get_29 ⟨Nat.le_of_ble_eq_true rfl, Nat.le_of_ble_eq_true rfl⟩) hS (fun q _ h => h) (fun q h => h) (fun r18 u17 t9 H locs ht hvm hp hB hz1 hk1 hS => ?_)
        obtain ⟨hP, hK9, hD, -⟩ := hB
        rw [ht] at hP
        clear hK9
        obtain ⟨v19, hI, hC9, nv19, hr9⟩ := hp
        have hC := hC.trans hC9
        rcases hr9 with hr9 | ⟨hr9, hx0, hy0⟩
        · skip
          subst hr9
          refine lv_if_eq (tgt := 37) hx hb d_M_get_32 rfl (fun h => absurd h (by decide)) (fun _ => ?_)
          refine lv_iconst (v := 0) hx hb d_M_get_35 (by decide) ?_
          exact W.iret (v := 0) hx hb hr (fun t9 ht hW => ⟨⟨0, u17, rfl, ⟨_, hI, hC⟩, ⟨by rw [ht]; exact hP, va_K.moved hW.alike hK, hD, by rw [ht]; exact Nat.le_trans hz hS.1⟩⟩, hS.F ht⟩) hS.2.2 d_M_get_36
        · skip
          exact absurd hy0 (by decide)
set_option maxHeartbeats 4000000 in
set_option maxRecDepth 100000 in
theorem c_M_put {l : Launch} {D : va_G} {t : Nat → ClassId} {z : Nat} {sa : Nat → Nat} {ws : va_W} {a : Nat → Nat} {NV : Nat} {v : Nat → Int32} {x9 y9 w9 : Int32} (hI : Mi a t NV v ws) (hNV : NV ≤ 4000) : Met l y_M_put (Cond.code y_M_put b_M_put 5 (some .int) :: WS) ({ frames := 1, cells := 0, slots := 0, locals := 23 }) (Pz D t z sa ws [.ref (a 34), .int x9, .int y9, .int w9]) (va_Qi (fun (r : Int32) (u : va_W) => ∃ v1, Mi a t (NV + 1) v1 u ∧ Mk ws u) (fun u U => Wd D t z u U) (Az z)) 0 0 (Az z) := by
  refine Met.ofW (cc := b_M_put) (maxL := 5) (ret := (some .int)) (by decide) rfl ?_
  intro p e s m args below meth c s₁ B hml hv
  obtain ⟨rfl, ⟨hP, hK, hD, hz⟩, hM⟩ := hv
  have hx := B.exec
  have hb := B.bytes
  have hr := B.returns
  have hts : ∀ w ∈ WS, w.before [.ref (a 34), .int x9, .int y9, .int w9].toArray s = true := fun w h => atoms_spec B.pre w (List.mem_cons_of_mem _ h)
  have hown : s.vm.findClass R_M = some m.cls := findClass_of_methodNamed B.named
  have hlocks := B.notSynchronized
  have hA : ∀ q, s.heap.size ≤ q → Az z q := fun q h => Nat.le_trans hz h
  have hS : va_S (Az z) s.heap s.heap [] := va_S.rf
  have hC : Mk ws ws := Mk.rf
  have hl := lv_entry ([.ref (a 34), .int x9, .int y9, .int w9]) (n := 5) (Nat.le_of_ble_eq_true rfl)
  rw [lg_entry_eq]
  generalize (lg_sl ([.ref (a 34), .int x9, .int y9, .int w9]) ++ List.replicate (5 - (lg_sl ([.ref (a 34), .int x9, .int y9, .int w9])).length) Slot.unset).toArray = ls at hl ⊢
  have hl : lv_has ls 5 [(0, .ref (a 34)), (1, .int x9), (2, .int y9), (3, .int w9)] := hl
  refine lv_aload_n hx hb d_M_put_0 rfl (lv_at hl 0 rfl) ?_
  refine lv_aload_n hx hb d_M_put_1 rfl (lv_at hl 0 rfl) ?_
  refine va_get (D := D) (ci := 6) (v := .int (v 6)) (C := R_M) (T := F_M) (N := 17) hx hb hts ws_M hown hK hP 34 hI.1 rfl 12 (by decide) (hts _ fl_M_46) (fun _ h9 => h9) rfl d_M_put_2 ?_
  refine lv_if_ne (tgt := 15) hx hb d_M_put_5 rfl (fun q1 => ?_) (fun q1 => ?_)
  · skip
    refine lv_iconst (v := 1) hx hb d_M_put_15 (by decide) ?_
    refine lv_goto (tgt := 20) hx hb d_M_put_16 rfl ?_
    refine lv_aload_n hx hb d_M_put_20 rfl (lv_at hl 0 rfl) ?_
    refine lv_iload_n hx hb d_M_put_21 rfl (lv_at hl 1 rfl) ?_
    refine va_calli (va_runV (As := [.int x9]) (rest := [.int 1, .ref (a 34)]) ⟨hx, hb, hml, hown, hts⟩ (c_M_isPage (D := D) (t := t) (z := z) (sa := sa) (ws := ws) (x9 := x9) hI ) (cwV 1 hts (gd_V ml_M_57 im_M_isPage se_M_isPage in_M cd_M_isPage) rfl rfl rfl (by decide +kernel) ⟨Nat.le_of_ble_eq_true rfl, Nat.le_of_ble_eq_true rfl⟩) ⟨Pz_blind, va_recv hK hP (ci := 6) rfl hI.1, Pz_at hP hK hD hz hM hS⟩ rfl rfl hl.1 rfl (lv_room (Nat.le_of_ble_eq_true rfl)) d_M_put_22 ⟨Nat.le_of_ble_eq_true rfl, Nat.le_of_ble_eq_true rfl⟩) hS (fun q _ h => h) (fun q h => h) (fun r3 u2 t9 H locs ht hvm hp hB hz1 hk1 hS => ?_)
    obtain ⟨hP, hK9, hD, -⟩ := hB
    rw [ht] at hP
    clear hK9
    obtain ⟨hw9, hr9⟩ := hp
    rw [hw9] at hP hD
    clear hw9
    rcases hr9 with hr9 | ⟨hr9, ip, hip, hxip⟩
    · skip
      subst hr9
      refine lv_if_eq (tgt := 39) hx hb d_M_put_25 rfl (fun _ => ?_) (fun h => absurd h (by decide))
      refine lv_iconst (v := 1) hx hb d_M_put_39 (by decide) ?_
      refine lv_goto (tgt := 44) hx hb d_M_put_40 rfl ?_
      refine va_calli (va_runV (As := [.int 1, .int 1]) (rest := []) ⟨hx, hb, hml, hown, hts⟩ (c_M_fails (D := D) (t := t) (z := z) (sa := sa) (ws := ws) (x9 := 1) (y9 := 1) hI ) (cwV 2 hts (gd_V ml_M_50 im_M_fails se_M_fails in_M cd_M_fails) rfl rfl rfl (by decide +kernel) ⟨Nat.le_of_ble_eq_true rfl, Nat.le_of_ble_eq_true rfl⟩) ⟨Pz_blind, va_recv hK hP (ci := 6) rfl hI.1, Pz_at hP hK hD hz hM hS⟩ rfl rfl hl.1 rfl (lv_room (Nat.le_of_ble_eq_true rfl)) d_M_put_44 ⟨Nat.le_of_ble_eq_true rfl, Nat.le_of_ble_eq_true rfl⟩) hS (fun q _ h => h) (fun q h => h) (fun r5 u4 t9 H locs ht hvm hp hB hz1 hk1 hS => ?_)
      obtain ⟨hP, hK9, hD, -⟩ := hB
      rw [ht] at hP
      clear hK9
      obtain ⟨v6, hI, hC9, nv6, hr9⟩ := hp
      have hC := hC.trans hC9
      rcases hr9 with hr9 | ⟨hr9, hx0, hy0⟩
      · skip
        subst hr9
        refine lv_if_eq (tgt := 52) hx hb d_M_put_47 rfl (fun h => absurd h (by decide)) (fun _ => ?_)
        refine lv_iconst (v := 0) hx hb d_M_put_50 (by decide) ?_
        exact W.iret (v := 0) hx hb hr (fun t9 ht hW => ⟨⟨0, u4, rfl, ⟨_, hI.mono (by omega), hC⟩, ⟨by rw [ht]; exact hP, va_K.moved hW.alike hK, hD, by rw [ht]; exact Nat.le_trans hz hS.1⟩⟩, hS.F ht⟩) hS.2.2 d_M_put_51
      · skip
        exact absurd hx0 (by decide)
    · skip
      subst hr9
      refine lv_if_eq (tgt := 39) hx hb d_M_put_25 rfl (fun h => absurd h (by decide)) (fun _ => ?_)
      refine lv_iload_n hx hb d_M_put_28 rfl (lv_at hl 2 rfl) ?_
      refine lv_if_lt (tgt := 39) hx hb d_M_put_29 rfl (fun q7 => ?_) (fun q7 => ?_)
      · skip
        refine lv_iconst (v := 1) hx hb d_M_put_39 (by decide) ?_
        refine lv_goto (tgt := 44) hx hb d_M_put_40 rfl ?_
        refine va_calli (va_runV (As := [.int 1, .int 1]) (rest := []) ⟨hx, hb, hml, hown, hts⟩ (c_M_fails (D := D) (t := t) (z := z) (sa := sa) (ws := ws) (x9 := 1) (y9 := 1) hI ) (cwV 2 hts (gd_V ml_M_50 im_M_fails se_M_fails in_M cd_M_fails) rfl rfl rfl (by decide +kernel) ⟨Nat.le_of_ble_eq_true rfl, Nat.le_of_ble_eq_true rfl⟩) ⟨Pz_blind, va_recv hK hP (ci := 6) rfl hI.1, Pz_at hP hK hD hz hM hS⟩ rfl rfl hl.1 rfl (lv_room (Nat.le_of_ble_eq_true rfl)) d_M_put_44 ⟨Nat.le_of_ble_eq_true rfl, Nat.le_of_ble_eq_true rfl⟩) hS (fun q _ h => h) (fun q h => h) (fun r10 u8 t9 H locs ht hvm hp hB hz1 hk1 hS => ?_)
        obtain ⟨hP, hK9, hD, -⟩ := hB
        rw [ht] at hP
        clear hK9
        obtain ⟨v11, hI, hC9, nv11, hr9⟩ := hp
        have hC := hC.trans hC9
        rcases hr9 with hr9 | ⟨hr9, hx0, hy0⟩
        · skip
          subst hr9
          refine lv_if_eq (tgt := 52) hx hb d_M_put_47 rfl (fun h => absurd h (by decide)) (fun _ => ?_)
          refine lv_iconst (v := 0) hx hb d_M_put_50 (by decide) ?_
          exact W.iret (v := 0) hx hb hr (fun t9 ht hW => ⟨⟨0, u8, rfl, ⟨_, hI.mono (by omega), hC⟩, ⟨by rw [ht]; exact hP, va_K.moved hW.alike hK, hD, by rw [ht]; exact Nat.le_trans hz hS.1⟩⟩, hS.F ht⟩) hS.2.2 d_M_put_51
        · skip
          exact absurd hx0 (by decide)
      · skip
        refine lv_iload_n hx hb d_M_put_32 rfl (lv_at hl 2 rfl) ?_
        refine lv_sipush (v := 256) hx hb d_M_put_33 (by decide) ?_
        refine lv_icmp_lt (tgt := 43) hx hb d_M_put_36 rfl (fun q12 => ?_) (fun q12 => ?_)
        · skip
          refine lv_iconst (v := 0) hx hb d_M_put_43 (by decide) ?_
          refine va_calli (va_runV (As := [.int 1, .int 0]) (rest := []) ⟨hx, hb, hml, hown, hts⟩ (c_M_fails (D := D) (t := t) (z := z) (sa := sa) (ws := ws) (x9 := 1) (y9 := 0) hI ) (cwV 2 hts (gd_V ml_M_50 im_M_fails se_M_fails in_M cd_M_fails) rfl rfl rfl (by decide +kernel) ⟨Nat.le_of_ble_eq_true rfl, Nat.le_of_ble_eq_true rfl⟩) ⟨Pz_blind, va_recv hK hP (ci := 6) rfl hI.1, Pz_at hP hK hD hz hM hS⟩ rfl rfl hl.1 rfl (lv_room (Nat.le_of_ble_eq_true rfl)) d_M_put_44 ⟨Nat.le_of_ble_eq_true rfl, Nat.le_of_ble_eq_true rfl⟩) hS (fun q _ h => h) (fun q h => h) (fun r14 u13 t9 H locs ht hvm hp hB hz1 hk1 hS => ?_)
          obtain ⟨hP, hK9, hD, -⟩ := hB
          rw [ht] at hP
          clear hK9
          obtain ⟨v15, hI, hC9, nv15, hr9⟩ := hp
          have hC := hC.trans hC9
          rcases hr9 with hr9 | ⟨hr9, hx0, hy0⟩
          · skip
            subst hr9
            refine lv_if_eq (tgt := 52) hx hb d_M_put_47 rfl (fun h => absurd h (by decide)) (fun _ => ?_)
            refine lv_iconst (v := 0) hx hb d_M_put_50 (by decide) ?_
            exact W.iret (v := 0) hx hb hr (fun t9 ht hW => ⟨⟨0, u13, rfl, ⟨_, hI.mono (by omega), hC⟩, ⟨by rw [ht]; exact hP, va_K.moved hW.alike hK, hD, by rw [ht]; exact Nat.le_trans hz hS.1⟩⟩, hS.F ht⟩) hS.2.2 d_M_put_51
          · skip
            exact absurd hx0 (by decide)
        · skip
          refine lv_iconst (v := 1) hx hb d_M_put_39 (by decide) ?_
          refine lv_goto (tgt := 44) hx hb d_M_put_40 rfl ?_
          refine va_calli (va_runV (As := [.int 1, .int 1]) (rest := []) ⟨hx, hb, hml, hown, hts⟩ (c_M_fails (D := D) (t := t) (z := z) (sa := sa) (ws := ws) (x9 := 1) (y9 := 1) hI ) (cwV 2 hts (gd_V ml_M_50 im_M_fails se_M_fails in_M cd_M_fails) rfl rfl rfl (by decide +kernel) ⟨Nat.le_of_ble_eq_true rfl, Nat.le_of_ble_eq_true rfl⟩) ⟨Pz_blind, va_recv hK hP (ci := 6) rfl hI.1, Pz_at hP hK hD hz hM hS⟩ rfl rfl hl.1 rfl (lv_room (Nat.le_of_ble_eq_true rfl)) d_M_put_44 ⟨Nat.le_of_ble_eq_true rfl, Nat.le_of_ble_eq_true rfl⟩) hS (fun q _ h => h) (fun q h => h) (fun r17 u16 t9 H locs ht hvm hp hB hz1 hk1 hS => ?_)
          obtain ⟨hP, hK9, hD, -⟩ := hB
          rw [ht] at hP
          clear hK9
          obtain ⟨v18, hI, hC9, nv18, hr9⟩ := hp
          have hC := hC.trans hC9
          rcases hr9 with hr9 | ⟨hr9, hx0, hy0⟩
          · skip
            subst hr9
            refine lv_if_eq (tgt := 52) hx hb d_M_put_47 rfl (fun h => absurd h (by decide)) (fun _ => ?_)
            refine lv_iconst (v := 0) hx hb d_M_put_50 (by decide) ?_
            exact W.iret (v := 0) hx hb hr (fun t9 ht hW => ⟨⟨0, u16, rfl, ⟨_, hI.mono (by omega), hC⟩, ⟨by rw [ht]; exact hP, va_K.moved hW.alike hK, hD, by rw [ht]; exact Nat.le_trans hz hS.1⟩⟩, hS.F ht⟩) hS.2.2 d_M_put_51
          · skip
            exact absurd hx0 (by decide)
  · skip
    refine lv_aload_n hx hb d_M_put_8 rfl (lv_at hl 0 rfl) ?_
    refine va_get (D := D) (ci := 6) (v := .int (v 7)) (C := R_M) (T := F_M) (N := 17) hx hb hts ws_M hown hK hP 34 hI.1 rfl 13 (by decide) (hts _ fl_M_54) (fun _ h9 => h9) rfl d_M_put_9 ?_
    refine lv_if_ne (tgt := 19) hx hb d_M_put_12 rfl (fun q19 => ?_) (fun q19 => ?_)
    · skip
      refine lv_iconst (v := 0) hx hb d_M_put_19 (by decide) ?_
      refine lv_aload_n hx hb d_M_put_20 rfl (lv_at hl 0 rfl) ?_
      refine lv_iload_n hx hb d_M_put_21 rfl (lv_at hl 1 rfl) ?_
      refine va_calli (va_runV (As := [.int x9]) (rest := [.int 0, .ref (a 34)]) ⟨hx, hb, hml, hown, hts⟩ (c_M_isPage (D := D) (t := t) (z := z) (sa := sa) (ws := ws) (x9 := x9) hI ) (cwV 1 hts (gd_V ml_M_57 im_M_isPage se_M_isPage in_M cd_M_isPage) rfl rfl rfl (by decide +kernel) ⟨Nat.le_of_ble_eq_true rfl, Nat.le_of_ble_eq_true rfl⟩) ⟨Pz_blind, va_recv hK hP (ci := 6) rfl hI.1, Pz_at hP hK hD hz hM hS⟩ rfl rfl hl.1 rfl (lv_room (Nat.le_of_ble_eq_true rfl)) d_M_put_22 ⟨Nat.le_of_ble_eq_true rfl, Nat.le_of_ble_eq_true rfl⟩) hS (fun q _ h => h) (fun q h => h) (fun r21 u20 t9 H locs ht hvm hp hB hz1 hk1 hS => ?_)
      obtain ⟨hP, hK9, hD, -⟩ := hB
      rw [ht] at hP
      clear hK9
      obtain ⟨hw9, hr9⟩ := hp
      rw [hw9] at hP hD
      clear hw9
      rcases hr9 with hr9 | ⟨hr9, ip, hip, hxip⟩
      · skip
        subst hr9
        refine lv_if_eq (tgt := 39) hx hb d_M_put_25 rfl (fun _ => ?_) (fun h => absurd h (by decide))
        refine lv_iconst (v := 1) hx hb d_M_put_39 (by decide) ?_
        refine lv_goto (tgt := 44) hx hb d_M_put_40 rfl ?_
        refine va_calli (va_runV (As := [.int 0, .int 1]) (rest := []) ⟨hx, hb, hml, hown, hts⟩ (c_M_fails (D := D) (t := t) (z := z) (sa := sa) (ws := ws) (x9 := 0) (y9 := 1) hI ) (cwV 2 hts (gd_V ml_M_50 im_M_fails se_M_fails in_M cd_M_fails) rfl rfl rfl (by decide +kernel) ⟨Nat.le_of_ble_eq_true rfl, Nat.le_of_ble_eq_true rfl⟩) ⟨Pz_blind, va_recv hK hP (ci := 6) rfl hI.1, Pz_at hP hK hD hz hM hS⟩ rfl rfl hl.1 rfl (lv_room (Nat.le_of_ble_eq_true rfl)) d_M_put_44 ⟨Nat.le_of_ble_eq_true rfl, Nat.le_of_ble_eq_true rfl⟩) hS (fun q _ h => h) (fun q h => h) (fun r23 u22 t9 H locs ht hvm hp hB hz1 hk1 hS => ?_)
        obtain ⟨hP, hK9, hD, -⟩ := hB
        rw [ht] at hP
        clear hK9
        obtain ⟨v24, hI, hC9, nv24, hr9⟩ := hp
        have hC := hC.trans hC9
        rcases hr9 with hr9 | ⟨hr9, hx0, hy0⟩
        · skip
          subst hr9
          refine lv_if_eq (tgt := 52) hx hb d_M_put_47 rfl (fun h => absurd h (by decide)) (fun _ => ?_)
          refine lv_iconst (v := 0) hx hb d_M_put_50 (by decide) ?_
          exact W.iret (v := 0) hx hb hr (fun t9 ht hW => ⟨⟨0, u22, rfl, ⟨_, hI.mono (by omega), hC⟩, ⟨by rw [ht]; exact hP, va_K.moved hW.alike hK, hD, by rw [ht]; exact Nat.le_trans hz hS.1⟩⟩, hS.F ht⟩) hS.2.2 d_M_put_51
        · skip
          exact absurd hy0 (by decide)
      · skip
        subst hr9
        refine lv_if_eq (tgt := 39) hx hb d_M_put_25 rfl (fun h => absurd h (by decide)) (fun _ => ?_)
        refine lv_iload_n hx hb d_M_put_28 rfl (lv_at hl 2 rfl) ?_
        refine lv_if_lt (tgt := 39) hx hb d_M_put_29 rfl (fun q25 => ?_) (fun q25 => ?_)
        · skip
          refine lv_iconst (v := 1) hx hb d_M_put_39 (by decide) ?_
          refine lv_goto (tgt := 44) hx hb d_M_put_40 rfl ?_
          refine va_calli (va_runV (As := [.int 0, .int 1]) (rest := []) ⟨hx, hb, hml, hown, hts⟩ (c_M_fails (D := D) (t := t) (z := z) (sa := sa) (ws := ws) (x9 := 0) (y9 := 1) hI ) (cwV 2 hts (gd_V ml_M_50 im_M_fails se_M_fails in_M cd_M_fails) rfl rfl rfl (by decide +kernel) ⟨Nat.le_of_ble_eq_true rfl, Nat.le_of_ble_eq_true rfl⟩) ⟨Pz_blind, va_recv hK hP (ci := 6) rfl hI.1, Pz_at hP hK hD hz hM hS⟩ rfl rfl hl.1 rfl (lv_room (Nat.le_of_ble_eq_true rfl)) d_M_put_44 ⟨Nat.le_of_ble_eq_true rfl, Nat.le_of_ble_eq_true rfl⟩) hS (fun q _ h => h) (fun q h => h) (fun r27 u26 t9 H locs ht hvm hp hB hz1 hk1 hS => ?_)
          obtain ⟨hP, hK9, hD, -⟩ := hB
          rw [ht] at hP
          clear hK9
          obtain ⟨v28, hI, hC9, nv28, hr9⟩ := hp
          have hC := hC.trans hC9
          rcases hr9 with hr9 | ⟨hr9, hx0, hy0⟩
          · skip
            subst hr9
            refine lv_if_eq (tgt := 52) hx hb d_M_put_47 rfl (fun h => absurd h (by decide)) (fun _ => ?_)
            refine lv_iconst (v := 0) hx hb d_M_put_50 (by decide) ?_
            exact W.iret (v := 0) hx hb hr (fun t9 ht hW => ⟨⟨0, u26, rfl, ⟨_, hI.mono (by omega), hC⟩, ⟨by rw [ht]; exact hP, va_K.moved hW.alike hK, hD, by rw [ht]; exact Nat.le_trans hz hS.1⟩⟩, hS.F ht⟩) hS.2.2 d_M_put_51
          · skip
            exact absurd hy0 (by decide)
        · skip
          refine lv_iload_n hx hb d_M_put_32 rfl (lv_at hl 2 rfl) ?_
          refine lv_sipush (v := 256) hx hb d_M_put_33 (by decide) ?_
          refine lv_icmp_lt (tgt := 43) hx hb d_M_put_36 rfl (fun q29 => ?_) (fun q29 => ?_)
          · skip
            refine lv_iconst (v := 0) hx hb d_M_put_43 (by decide) ?_
            refine va_calli (va_runV (As := [.int 0, .int 0]) (rest := []) ⟨hx, hb, hml, hown, hts⟩ (c_M_fails (D := D) (t := t) (z := z) (sa := sa) (ws := ws) (x9 := 0) (y9 := 0) hI ) (cwV 2 hts (gd_V ml_M_50 im_M_fails se_M_fails in_M cd_M_fails) rfl rfl rfl (by decide +kernel) ⟨Nat.le_of_ble_eq_true rfl, Nat.le_of_ble_eq_true rfl⟩) ⟨Pz_blind, va_recv hK hP (ci := 6) rfl hI.1, Pz_at hP hK hD hz hM hS⟩ rfl rfl hl.1 rfl (lv_room (Nat.le_of_ble_eq_true rfl)) d_M_put_44 ⟨Nat.le_of_ble_eq_true rfl, Nat.le_of_ble_eq_true rfl⟩) hS (fun q _ h => h) (fun q h => h) (fun r31 u30 t9 H locs ht hvm hp hB hz1 hk1 hS => ?_)
            obtain ⟨hP, hK9, hD, -⟩ := hB
            rw [ht] at hP
            clear hK9
            obtain ⟨v32, hI, hC9, nv32, hr9⟩ := hp
            have hC := hC.trans hC9
            rcases hr9 with hr9 | ⟨hr9, hx0, hy0⟩
            · skip
              subst hr9
              refine lv_if_eq (tgt := 52) hx hb d_M_put_47 rfl (fun h => absurd h (by decide)) (fun _ => ?_)
              refine lv_iconst (v := 0) hx hb d_M_put_50 (by decide) ?_
              exact W.iret (v := 0) hx hb hr (fun t9 ht hW => ⟨⟨0, u30, rfl, ⟨_, hI.mono (by omega), hC⟩, ⟨by rw [ht]; exact hP, va_K.moved hW.alike hK, hD, by rw [ht]; exact Nat.le_trans hz hS.1⟩⟩, hS.F ht⟩) hS.2.2 d_M_put_51
            · skip
              subst hr9
              refine lv_if_eq (tgt := 52) hx hb d_M_put_47 rfl (fun _ => ?_) (fun h => absurd h (by decide))
              refine lv_aload_n hx hb d_M_put_52 rfl (lv_at hl 0 rfl) ?_
              refine lv_iload_n hx hb d_M_put_53 rfl (lv_at hl 1 rfl) ?_
              refine lv_iload_n hx hb d_M_put_54 rfl (lv_at hl 2 rfl) ?_
              obtain ⟨iy, hiy, hyy⟩ := at_nat (y := y9) (by assumption) (by assumption)
              refine va_calli (va_runV (As := [.int x9, .int y9]) (rest := []) ⟨hx, hb, hml, hown, hts⟩ (c_M_at (D := D) (t := t) (z := z) (sa := sa) (ws := u30) (ip := ip) (iy := iy) hI hip hxip hiy hyy hNV) (cwV 2 hts (gd_V ml_M_61 im_M_at se_M_at in_M cd_M_at) rfl rfl rfl (by decide +kernel) ⟨Nat.le_of_ble_eq_true rfl, Nat.le_of_ble_eq_true rfl⟩) ⟨Pz_blind, va_recv hK hP (ci := 6) rfl hI.1, Pz_at hP hK hD hz hM hS⟩ rfl rfl hl.1 rfl (lv_room (Nat.le_of_ble_eq_true rfl)) d_M_put_55 ⟨Nat.le_of_ble_eq_true rfl, Nat.le_of_ble_eq_true rfl⟩) hS (fun q _ h => h) (fun q h => h) (fun r34 u33 t9 H locs ht hvm hp hB hz1 hk1 hS => ?_)
              obtain ⟨hP, hK9, hD, -⟩ := hB
              rw [ht] at hP
              clear hK9
              have hw9 := hp
              rw [hw9] at hP hD
              clear hw9
              refine lv_istore (lv' := [(4, .int r34), (0, .ref (a 34)), (1, .int x9), (2, .int y9), (3, .int w9)]) hx hb d_M_put_58 hl (by decide) rfl (fun ls hl => ?_)
              refine lv_aload_n hx hb d_M_put_60 rfl (lv_at hl 1 rfl) ?_
              refine lv_iload_n hx hb d_M_put_61 rfl (lv_at hl 2 rfl) ?_
              refine va_callv (va_runV (As := [.int x9]) (rest := []) ⟨hx, hb, hml, hown, hts⟩ (c_M_own (D := D) (t := t) (z := z) (sa := sa) (ws := u30) (x9 := x9) (ip := ip) hI hip hxip hNV) (cwV 1 hts (gd_V ml_M_65 im_M_own se_M_own in_M cd_M_own) rfl rfl rfl (by decide +kernel) ⟨Nat.le_of_ble_eq_true rfl, Nat.le_of_ble_eq_true rfl⟩) ⟨Pz_blind, va_recv hK hP (ci := 6) rfl hI.1, Pz_at hP hK hD hz hM hS⟩ rfl rfl hl.1 rfl (lv_room (Nat.le_of_ble_eq_true rfl)) d_M_put_62 ⟨Nat.le_of_ble_eq_true rfl, Nat.le_of_ble_eq_true rfl⟩) hS (fun q _ h => h) (fun q h => h) (fun u35 t9 H locs ht hvm hp hB hz1 hk1 hS => ?_)
              obtain ⟨hP, hK9, hD, -⟩ := hB
              rw [ht] at hP
              clear hK9
              obtain ⟨v37, hI, hC9, nv37⟩ := hp
              have hC := hC.trans hC9
              refine lv_aload_n hx hb d_M_put_65 rfl (lv_at hl 1 rfl) ?_
              refine va_get (D := D) (ci := 6) (v := .ref (a 35)) (C := R_M) (T := F_M) (N := 17) hx hb hts ws_M hown hK hP 34 hI.1 rfl 0 (by decide) (hts _ fl_M_8) (fun _ h9 => h9) rfl d_M_put_66 ?_
              refine lv_sipush (v := 256) hx hb d_M_put_69 (by decide) ?_
              refine lv_aload_n hx hb d_M_put_72 rfl (lv_at hl 1 rfl) ?_
              refine va_get (D := D) (ci := 6) (v := .ref (a 37)) (C := R_M) (T := F_M) (N := 17) hx hb hts ws_M hown hK hP 34 hI.1 rfl 4 (by decide) (hts _ fl_M_25) (fun _ h9 => h9) rfl d_M_put_73 ?_
              refine lv_iload_n hx hb d_M_put_76 rfl (lv_at hl 2 rfl) ?_
              obtain ⟨fA38, eA38, lA38⟩ := hI.a37
              refine va_iald (D := D) hx hb hK hP 37 4 eA38 rfl (i := x9) (by rw [hxip]; exact vp_in_nI (by omega) (by decide)) d_M_put_77 ?_
              obtain ⟨VA38, hVA38, eVA38⟩ := lA38 (x9 : Int32).toNatClampNeg
              refine W.eq (g2 := F0 m 78 ls [.int (nI VA38), .int 256, .ref (a 35)]) (by rw [eVA38]) ?_
              refine lv_imul hx hb d_M_put_78 ?_
              refine lv_topi (fun y39 hy39 => ?_)
              have hy39 : y39 = nI (256 * VA38) := by rw [hy39]; exact pk_mul 256 VA38
              refine lv_iload_n hx hb d_M_put_79 rfl (lv_at hl 3 rfl) ?_
              refine lv_iadd hx hb d_M_put_80 ?_
              refine lv_topi (fun y40 hy40 => ?_)
              have hy40 : y40 = nI ((256 * VA38) + iy) := by rw [hy40, hy39, hyy]; exact nI_add (256 * VA38) iy
              refine lv_iload_n hx hb d_M_put_81 rfl (lv_at hl 4 rfl) ?_
              refine lv_i2b hx hb d_M_put_82 rfl ?_
              refine lv_topi (fun y41 hy41 => ?_)
              obtain ⟨fA42, eA42⟩ := hI.a35
              refine va_bast (D := D) hx hb hK hP hD hS 35 0 eA42 rfl (i := y40) (x := y41) (by rw [hy40]; exact vp_in_nI (by omega) (by decide)) d_M_put_83 (fun H locs hP hD hS => ?_)
              generalize upd fA42 (y40 : Int32).toNatClampNeg (vp_nar .byte y41) = gA42 at hP hD
              obtain ⟨w43, hw⟩ : ∃ q, q = u35.set 35 (a 35, .inl (t 0, 1048832, .inl gA42)) := ⟨_, rfl⟩
              have hP : va_P D Cl (u35.set 35 (a 35, .inl (t 0, 1048832, .inl gA42))) H := hP
              have hD : va_D (Az z) (u35.set 35 (a 35, .inl (t 0, 1048832, .inl gA42))) := hD
              have hC := hC.set (p := 35) (c := (a 35, .inl (t 0, 1048832, .inl gA42))) (by decide) (by decide)
              have hI := hI.s35 (f9 := gA42)
              rw [← hw] at hP hD hC hI
              clear hw
              refine lv_iload hx hb d_M_put_84 (lv_at hl 0 rfl) ?_
              exact W.iret (v := r34) hx hb hr (fun t9 ht hW => ⟨⟨r34, w43, rfl, ⟨_, hI, hC⟩, ⟨by rw [ht]; exact hP, va_K.moved hW.alike hK, hD, by rw [ht]; exact Nat.le_trans hz hS.1⟩⟩, hS.F ht⟩) hS.2.2 d_M_put_86
          · skip
            refine lv_iconst (v := 1) hx hb d_M_put_39 (by decide) ?_
            refine lv_goto (tgt := 44) hx hb d_M_put_40 rfl ?_
            refine va_calli (va_runV (As := [.int 0, .int 1]) (rest := []) ⟨hx, hb, hml, hown, hts⟩ (c_M_fails (D := D) (t := t) (z := z) (sa := sa) (ws := ws) (x9 := 0) (y9 := 1) hI ) (cwV 2 hts (gd_V ml_M_50 im_M_fails se_M_fails in_M cd_M_fails) rfl rfl rfl (by decide +kernel) ⟨Nat.le_of_ble_eq_true rfl, Nat.le_of_ble_eq_true rfl⟩) ⟨Pz_blind, va_recv hK hP (ci := 6) rfl hI.1, Pz_at hP hK hD hz hM hS⟩ rfl rfl hl.1 rfl (lv_room (Nat.le_of_ble_eq_true rfl)) d_M_put_44 ⟨Nat.le_of_ble_eq_true rfl, Nat.le_of_ble_eq_true rfl⟩) hS (fun q _ h => h) (fun q h => h) (fun r45 u44 t9 H locs ht hvm hp hB hz1 hk1 hS => ?_)
            obtain ⟨hP, hK9, hD, -⟩ := hB
            rw [ht] at hP
            clear hK9
            obtain ⟨v46, hI, hC9, nv46, hr9⟩ := hp
            have hC := hC.trans hC9
            rcases hr9 with hr9 | ⟨hr9, hx0, hy0⟩
            · skip
              subst hr9
              refine lv_if_eq (tgt := 52) hx hb d_M_put_47 rfl (fun h => absurd h (by decide)) (fun _ => ?_)
              refine lv_iconst (v := 0) hx hb d_M_put_50 (by decide) ?_
              exact W.iret (v := 0) hx hb hr (fun t9 ht hW => ⟨⟨0, u44, rfl, ⟨_, hI.mono (by omega), hC⟩, ⟨by rw [ht]; exact hP, va_K.moved hW.alike hK, hD, by rw [ht]; exact Nat.le_trans hz hS.1⟩⟩, hS.F ht⟩) hS.2.2 d_M_put_51
            · skip
              exact absurd hy0 (by decide)
    · skip
      refine lv_iconst (v := 1) hx hb d_M_put_15 (by decide) ?_
      refine lv_goto (tgt := 20) hx hb d_M_put_16 rfl ?_
      refine lv_aload_n hx hb d_M_put_20 rfl (lv_at hl 0 rfl) ?_
      refine lv_iload_n hx hb d_M_put_21 rfl (lv_at hl 1 rfl) ?_
      refine va_calli (va_runV (As := [.int x9]) (rest := [.int 1, .ref (a 34)]) ⟨hx, hb, hml, hown, hts⟩ (c_M_isPage (D := D) (t := t) (z := z) (sa := sa) (ws := ws) (x9 := x9) hI ) (cwV 1 hts (gd_V ml_M_57 im_M_isPage se_M_isPage in_M cd_M_isPage) rfl rfl rfl (by decide +kernel) ⟨Nat.le_of_ble_eq_true rfl, Nat.le_of_ble_eq_true rfl⟩) ⟨Pz_blind, va_recv hK hP (ci := 6) rfl hI.1, Pz_at hP hK hD hz hM hS⟩ rfl rfl hl.1 rfl (lv_room (Nat.le_of_ble_eq_true rfl)) d_M_put_22 ⟨Nat.le_of_ble_eq_true rfl, Nat.le_of_ble_eq_true rfl⟩) hS (fun q _ h => h) (fun q h => h) (fun r48 u47 t9 H locs ht hvm hp hB hz1 hk1 hS => ?_)
      obtain ⟨hP, hK9, hD, -⟩ := hB
      rw [ht] at hP
      clear hK9
      obtain ⟨hw9, hr9⟩ := hp
      rw [hw9] at hP hD
      clear hw9
      rcases hr9 with hr9 | ⟨hr9, ip, hip, hxip⟩
      · skip
        subst hr9
        refine lv_if_eq (tgt := 39) hx hb d_M_put_25 rfl (fun _ => ?_) (fun h => absurd h (by decide))
        refine lv_iconst (v := 1) hx hb d_M_put_39 (by decide) ?_
        refine lv_goto (tgt := 44) hx hb d_M_put_40 rfl ?_
        refine va_calli (va_runV (As := [.int 1, .int 1]) (rest := []) ⟨hx, hb, hml, hown, hts⟩ (c_M_fails (D := D) (t := t) (z := z) (sa := sa) (ws := ws) (x9 := 1) (y9 := 1) hI ) (cwV 2 hts (gd_V ml_M_50 im_M_fails se_M_fails in_M cd_M_fails) rfl rfl rfl (by decide +kernel) ⟨Nat.le_of_ble_eq_true rfl, Nat.le_of_ble_eq_true rfl⟩) ⟨Pz_blind, va_recv hK hP (ci := 6) rfl hI.1, Pz_at hP hK hD hz hM hS⟩ rfl rfl hl.1 rfl (lv_room (Nat.le_of_ble_eq_true rfl)) d_M_put_44 ⟨Nat.le_of_ble_eq_true rfl, Nat.le_of_ble_eq_true rfl⟩) hS (fun q _ h => h) (fun q h => h) (fun r50 u49 t9 H locs ht hvm hp hB hz1 hk1 hS => ?_)
        obtain ⟨hP, hK9, hD, -⟩ := hB
        rw [ht] at hP
        clear hK9
        obtain ⟨v51, hI, hC9, nv51, hr9⟩ := hp
        have hC := hC.trans hC9
        rcases hr9 with hr9 | ⟨hr9, hx0, hy0⟩
        · skip
          subst hr9
          refine lv_if_eq (tgt := 52) hx hb d_M_put_47 rfl (fun h => absurd h (by decide)) (fun _ => ?_)
          refine lv_iconst (v := 0) hx hb d_M_put_50 (by decide) ?_
          exact W.iret (v := 0) hx hb hr (fun t9 ht hW => ⟨⟨0, u49, rfl, ⟨_, hI.mono (by omega), hC⟩, ⟨by rw [ht]; exact hP, va_K.moved hW.alike hK, hD, by rw [ht]; exact Nat.le_trans hz hS.1⟩⟩, hS.F ht⟩) hS.2.2 d_M_put_51
        · skip
          exact absurd hx0 (by decide)
      · skip
        subst hr9
        refine lv_if_eq (tgt := 39) hx hb d_M_put_25 rfl (fun h => absurd h (by decide)) (fun _ => ?_)
        refine lv_iload_n hx hb d_M_put_28 rfl (lv_at hl 2 rfl) ?_
        refine lv_if_lt (tgt := 39) hx hb d_M_put_29 rfl (fun q52 => ?_) (fun q52 => ?_)
        · skip
          refine lv_iconst (v := 1) hx hb d_M_put_39 (by decide) ?_
          refine lv_goto (tgt := 44) hx hb d_M_put_40 rfl ?_
          refine va_calli (va_runV (As := [.int 1, .int 1]) (rest := []) ⟨hx, hb, hml, hown, hts⟩ (c_M_fails (D := D) (t := t) (z := z) (sa := sa) (ws := ws) (x9 := 1) (y9 := 1) hI ) (cwV 2 hts (gd_V ml_M_50 im_M_fails se_M_fails in_M cd_M_fails) rfl rfl rfl (by decide +kernel) ⟨Nat.le_of_ble_eq_true rfl, Nat.le_of_ble_eq_true rfl⟩) ⟨Pz_blind, va_recv hK hP (ci := 6) rfl hI.1, Pz_at hP hK hD hz hM hS⟩ rfl rfl hl.1 rfl (lv_room (Nat.le_of_ble_eq_true rfl)) d_M_put_44 ⟨Nat.le_of_ble_eq_true rfl, Nat.le_of_ble_eq_true rfl⟩) hS (fun q _ h => h) (fun q h => h) (fun r54 u53 t9 H locs ht hvm hp hB hz1 hk1 hS => ?_)
          obtain ⟨hP, hK9, hD, -⟩ := hB
          rw [ht] at hP
          clear hK9
          obtain ⟨v55, hI, hC9, nv55, hr9⟩ := hp
          have hC := hC.trans hC9
          rcases hr9 with hr9 | ⟨hr9, hx0, hy0⟩
          · skip
            subst hr9
            refine lv_if_eq (tgt := 52) hx hb d_M_put_47 rfl (fun h => absurd h (by decide)) (fun _ => ?_)
            refine lv_iconst (v := 0) hx hb d_M_put_50 (by decide) ?_
            exact W.iret (v := 0) hx hb hr (fun t9 ht hW => ⟨⟨0, u53, rfl, ⟨_, hI.mono (by omega), hC⟩, ⟨by rw [ht]; exact hP, va_K.moved hW.alike hK, hD, by rw [ht]; exact Nat.le_trans hz hS.1⟩⟩, hS.F ht⟩) hS.2.2 d_M_put_51
          · skip
            exact absurd hx0 (by decide)
        · skip
          refine lv_iload_n hx hb d_M_put_32 rfl (lv_at hl 2 rfl) ?_
          refine lv_sipush (v := 256) hx hb d_M_put_33 (by decide) ?_
          refine lv_icmp_lt (tgt := 43) hx hb d_M_put_36 rfl (fun q56 => ?_) (fun q56 => ?_)
          · skip
            refine lv_iconst (v := 0) hx hb d_M_put_43 (by decide) ?_
            refine va_calli (va_runV (As := [.int 1, .int 0]) (rest := []) ⟨hx, hb, hml, hown, hts⟩ (c_M_fails (D := D) (t := t) (z := z) (sa := sa) (ws := ws) (x9 := 1) (y9 := 0) hI ) (cwV 2 hts (gd_V ml_M_50 im_M_fails se_M_fails in_M cd_M_fails) rfl rfl rfl (by decide +kernel) ⟨Nat.le_of_ble_eq_true rfl, Nat.le_of_ble_eq_true rfl⟩) ⟨Pz_blind, va_recv hK hP (ci := 6) rfl hI.1, Pz_at hP hK hD hz hM hS⟩ rfl rfl hl.1 rfl (lv_room (Nat.le_of_ble_eq_true rfl)) d_M_put_44 ⟨Nat.le_of_ble_eq_true rfl, Nat.le_of_ble_eq_true rfl⟩) hS (fun q _ h => h) (fun q h => h) (fun r58 u57 t9 H locs ht hvm hp hB hz1 hk1 hS => ?_)
            obtain ⟨hP, hK9, hD, -⟩ := hB
            rw [ht] at hP
            clear hK9
            obtain ⟨v59, hI, hC9, nv59, hr9⟩ := hp
            have hC := hC.trans hC9
            rcases hr9 with hr9 | ⟨hr9, hx0, hy0⟩
            · skip
              subst hr9
              refine lv_if_eq (tgt := 52) hx hb d_M_put_47 rfl (fun h => absurd h (by decide)) (fun _ => ?_)
              refine lv_iconst (v := 0) hx hb d_M_put_50 (by decide) ?_
              exact W.iret (v := 0) hx hb hr (fun t9 ht hW => ⟨⟨0, u57, rfl, ⟨_, hI.mono (by omega), hC⟩, ⟨by rw [ht]; exact hP, va_K.moved hW.alike hK, hD, by rw [ht]; exact Nat.le_trans hz hS.1⟩⟩, hS.F ht⟩) hS.2.2 d_M_put_51
            · skip
              exact absurd hx0 (by decide)
          · skip
            refine lv_iconst (v := 1) hx hb d_M_put_39 (by decide) ?_
            refine lv_goto (tgt := 44) hx hb d_M_put_40 rfl ?_
            refine va_calli (va_runV (As := [.int 1, .int 1]) (rest := []) ⟨hx, hb, hml, hown, hts⟩ (c_M_fails (D := D) (t := t) (z := z) (sa := sa) (ws := ws) (x9 := 1) (y9 := 1) hI ) (cwV 2 hts (gd_V ml_M_50 im_M_fails se_M_fails in_M cd_M_fails) rfl rfl rfl (by decide +kernel) ⟨Nat.le_of_ble_eq_true rfl, Nat.le_of_ble_eq_true rfl⟩) ⟨Pz_blind, va_recv hK hP (ci := 6) rfl hI.1, Pz_at hP hK hD hz hM hS⟩ rfl rfl hl.1 rfl (lv_room (Nat.le_of_ble_eq_true rfl)) d_M_put_44 ⟨Nat.le_of_ble_eq_true rfl, Nat.le_of_ble_eq_true rfl⟩) hS (fun q _ h => h) (fun q h => h) (fun r61 u60 t9 H locs ht hvm hp hB hz1 hk1 hS => ?_)
            obtain ⟨hP, hK9, hD, -⟩ := hB
            rw [ht] at hP
            clear hK9
            obtain ⟨v62, hI, hC9, nv62, hr9⟩ := hp
            have hC := hC.trans hC9
            rcases hr9 with hr9 | ⟨hr9, hx0, hy0⟩
            · skip
              subst hr9
              refine lv_if_eq (tgt := 52) hx hb d_M_put_47 rfl (fun h => absurd h (by decide)) (fun _ => ?_)
              refine lv_iconst (v := 0) hx hb d_M_put_50 (by decide) ?_
              exact W.iret (v := 0) hx hb hr (fun t9 ht hW => ⟨⟨0, u60, rfl, ⟨_, hI.mono (by omega), hC⟩, ⟨by rw [ht]; exact hP, va_K.moved hW.alike hK, hD, by rw [ht]; exact Nat.le_trans hz hS.1⟩⟩, hS.F ht⟩) hS.2.2 d_M_put_51
            · skip
              exact absurd hx0 (by decide)
