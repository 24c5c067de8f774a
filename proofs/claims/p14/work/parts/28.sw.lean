theorem Iv.swp {a : Nat → Nat} {t : Nat → ClassId} {k0 j1 j2 i : Nat} {v : Nat → Int32} {ws : va_W} {g1 g2 : Nat → Option Nat} (h : Iv a t k0 v ws) (h1 : j1 < 6) (h2 : j2 < 6) (hne : j1 ≠ j2) (e1 : ws[12 + 4 * j1]? = some (cM a t (12 + 4 * j1) g1)) (e2 : ws[12 + 4 * j2]? = some (cM a t (12 + 4 * j2) g2)) (hi : i < 768) :
    Iv a t k0 v ((ws.set (12 + 4 * j1) (cM a t (12 + 4 * j1) (va_up g1 i (g2 i)))).set (12 + 4 * j2) (cM a t (12 + 4 * j2) (va_up g2 i (g1 i)))) := by
  obtain ⟨⟨h0, h1', h2', h4, h5, ⟨gl, h7, hg⟩, h8, ⟨r, h10⟩, hz, hk, hh⟩, hb, hB, hN, hl, hk0⟩ := h
  have up : ∀ {p : Nat} {e : Nat × va_E}, ws[p]? = some e → 12 + 4 * j1 ≠ p → 12 + 4 * j2 ≠ p → ((ws.set (12 + 4 * j1) (cM a t (12 + 4 * j1) (va_up g1 i (g2 i)))).set (12 + 4 * j2) (cM a t (12 + 4 * j2) (va_up g2 i (g1 i))))[p]? = some e := fun q n1 n2 => lk_ne (lk_ne q n1) n2
  have bk : ∀ {b : Nat} {sp sp' : Prop}, (sp ↔ sp') → Bk t k0 ws b sp → Bk t k0 ((ws.set (12 + 4 * j1) (cM a t (12 + 4 * j1) (va_up g1 i (g2 i)))).set (12 + 4 * j2) (cM a t (12 + 4 * j2) (va_up g2 i (g1 i)))) b sp' := by
    intro b sp sp' hs q
    obtain ⟨k, c9, k', f, q1, q2, q3, q4, q5⟩ := q
    exact ⟨k, c9, k', f, q1, q2, up q3 (by omega) (by omega), up q4 (by omega) (by omega), q5.trans hs⟩
  obtain ⟨g1', f1, f2⟩ := hB _ (mds_j h1)
  cases e1.symm.trans f1
  obtain ⟨g2', f3, f4⟩ := hB _ (mds_j h2)
  cases e2.symm.trans f3
  rw [Nn_j] at f2 f4
  refine ⟨⟨up h0 (by omega) (by omega), up h1' (by omega) (by omega), up h2' (by omega) (by omega), up h4 (by omega) (by omega), up h5 (by omega) (by omega), ⟨gl, up h7 (by omega) (by omega), hg⟩, up h8 (by omega) (by omega), ⟨r, up h10 (by omega) (by omega)⟩, fun j hj => up (hz j hj) (by omega) (by omega), fun j hj => up (hk j hj) (by omega) (by omega), fun j hj => ?_⟩, hb, fun pm hpm => ?_, fun q => ?_, by rw [List.length_set, List.length_set]; exact hl, hk0.1, by rw [List.length_set, List.length_set]; exact hk0.2.1, fun k c9 L f g9 q => ?_⟩
  · obtain ⟨h11, e9, e8⟩ := hh j hj
    exact ⟨h11, up e9 (by omega) (by omega), e8⟩
  · by_cases p1 : pm = 12 + 4 * j1
    · subst p1
      refine ⟨_, lk_ne (lk_set e1) (by omega), fun i9 hi9 b hb9 => ?_⟩
      rw [Nn_j] at hi9
      by_cases ei : i9 = i
      · subst ei
        rw [va_up_self] at hb9
        exact bk ⟨fun q => by have := q.1; omega, fun q => by have := q.1; omega⟩ (f4 i9 hi9 b hb9)
      · rw [va_up_ne _ _ ei] at hb9
        exact bk Iff.rfl (f2 i9 hi9 b hb9)
    · by_cases p2 : pm = 12 + 4 * j2
      · subst p2
        refine ⟨_, lk_set (lk_ne e2 (by omega)), fun i9 hi9 b hb9 => ?_⟩
        rw [Nn_j] at hi9
        by_cases ei : i9 = i
        · subst ei
          rw [va_up_self] at hb9
          exact bk ⟨fun q => by have := q.1; omega, fun q => by have := q.1; omega⟩ (f2 i9 hi9 b hb9)
        · rw [va_up_ne _ _ ei] at hb9
          exact bk Iff.rfl (f4 i9 hi9 b hb9)
      · obtain ⟨g9, q1, q2⟩ := hB pm hpm
        exact ⟨g9, up q1 (fun z => p1 z.symm) (fun z => p2 z.symm), fun i9 hi9 b hb9 => bk Iff.rfl (q2 i9 hi9 b hb9)⟩
  · obtain ⟨q1, ⟨g9, b9, q2, q3⟩, c9, f, n, q4, q5⟩ := hN q
    exact ⟨q1, ⟨g9, b9, up q2 (by omega) (by omega), q3⟩, c9, f, n, up q4 (by omega) (by omega), q5⟩
  · rw [List.getElem?_set_ne (by omega), List.getElem?_set_ne (by omega)] at q
    exact hk0.2.2 k c9 L f g9 q
theorem nul_swp {a : Nat → Nat} {t : Nat → ClassId} {j1 j2 i : Nat} {ws : va_W} {g1 g2 : Nat → Option Nat} (h1 : j1 < 6) (h2 : j2 < 6) (hne : j1 ≠ j2) (e1 : ws[12 + 4 * j1]? = some (cM a t (12 + 4 * j1) g1)) (e2 : ws[12 + 4 * j2]? = some (cM a t (12 + 4 * j2) g2)) (hi : i < 768) :
    nul ((ws.set (12 + 4 * j1) (cM a t (12 + 4 * j1) (va_up g1 i (g2 i)))).set (12 + 4 * j2) (cM a t (12 + 4 * j2) (va_up g2 i (g1 i)))) = nul ws := by
  have q1 := nul_ch (ws := ws) (u := ws.set (12 + 4 * j1) (cM a t (12 + 4 * j1) (va_up g1 i (g2 i)))) (d := (cnt g1 768 : Int) - cnt (va_up g1 i (g2 i)) 768) (mds_j h1) (fun q _ hq => List.getElem?_set_ne (Ne.symm hq)) (by
    rw [lk_set e1, e1]
    show ((cnt _ (Nn (12 + 4 * j1)) : Nat) : Int) + _ = ((cnt _ (Nn (12 + 4 * j1)) : Nat) : Int)
    rw [Nn_j]; omega)
  have e2' : (ws.set (12 + 4 * j1) (cM a t (12 + 4 * j1) (va_up g1 i (g2 i))))[12 + 4 * j2]? = some (cM a t (12 + 4 * j2) g2) := lk_ne e2 (by omega)
  have q2 := nul_ch (ws := ws.set (12 + 4 * j1) (cM a t (12 + 4 * j1) (va_up g1 i (g2 i)))) (u := (ws.set (12 + 4 * j1) (cM a t (12 + 4 * j1) (va_up g1 i (g2 i)))).set (12 + 4 * j2) (cM a t (12 + 4 * j2) (va_up g2 i (g1 i)))) (d := (cnt g2 768 : Int) - cnt (va_up g2 i (g1 i)) 768) (mds_j h2) (fun q _ hq => List.getElem?_set_ne (Ne.symm hq)) (by
    rw [lk_set e2', e2']
    show ((cnt _ (Nn (12 + 4 * j2)) : Nat) : Int) + _ = ((cnt _ (Nn (12 + 4 * j2)) : Nat) : Int)
    rw [Nn_j]; omega)
  have q3 := cnt_swap (g := g1) (h := g2) (i := i) (n := 768) hi
  omega
set_option maxHeartbeats 4000000 in
set_option maxRecDepth 100000 in
theorem c_K_swap {l : Launch} {D : va_G} {t : Nat → ClassId} {z : Nat} {sa : Nat → Nat} {ws : va_W} {a : Nat → Nat} {k0 : Nat} {v : Nat → Int32} {j1 j2 i : Nat} {x9 : Int32} (hI : Iv a t k0 v ws) (hj1 : j1 < 6) (hj2 : j2 < 6) (hne : j1 ≠ j2) (hi : i < 768) (hxi : x9 = nI i) : Mu l y_K_swap (Cond.code y_K_swap b_K_swap 4 (.none : Option Jvm.ClassFile.FieldType) :: WS) ({ frames := 0, cells := 2 * nul ws + 1, slots := 257 * nul ws + 6, locals := 0 }) D t z sa ws [.ref (a (11 + 4 * j1)), .int x9, .ref (a (11 + 4 * j2))] (fun r u => Iv a t k0 v u ∧ Fr t ws u ∧ nul u ≤ nul ws ∧ r = none) Xno (Kc ws) (Ks ws) := by
  refine mu_ofW (cc := b_K_swap) (maxL := 4) (ret := (.none : Option Jvm.ClassFile.FieldType)) (by decide) rfl ?_
  intro p e s m args below meth c s₁ B hml hno hv
  obtain ⟨rfl, ⟨hP, hK, hD, hz⟩, hM⟩ := hv
  have hx := B.exec
  have hb := B.bytes
  have hr := B.returns
  have hts : ∀ w ∈ WS, w.before [.ref (a (11 + 4 * j1)), .int x9, .ref (a (11 + 4 * j2))].toArray s = true := fun w h => atoms_spec B.pre w (List.mem_cons_of_mem _ h)
  have hown : s.vm.findClass R_K = some m.cls := findClass_of_methodNamed B.named
  have hlocks := B.notSynchronized
  have hA : ∀ q, s.heap.size ≤ q → Az z q := fun q h => Nat.le_trans hz h
  have hS : va_S (Az z) s.heap s.heap [] := va_S.rf
  have hF : Fr t ws ws := Fr.rf
  have hn : nul ws ≤ nul ws := Nat.le_refl _
  have hl := lv_entry ([.ref (a (11 + 4 * j1)), .int x9, .ref (a (11 + 4 * j2))]) (n := 4) (Nat.le_of_ble_eq_true rfl)
  rw [lg_entry_eq]
  generalize (lg_sl ([.ref (a (11 + 4 * j1)), .int x9, .ref (a (11 + 4 * j2))]) ++ List.replicate (4 - (lg_sl ([.ref (a (11 + 4 * j1)), .int x9, .ref (a (11 + 4 * j2))])).length) Slot.unset).toArray = ls at hl ⊢
  have hl : lv_has ls 4 [(0, .ref (a (11 + 4 * j1))), (1, .int x9), (2, .ref (a (11 + 4 * j2)))] := hl
  refine W.widen (k := Kc ws ws) (n := Ks ws ws) (Nat.zero_le _) (Nat.zero_le _) ?_
  have hcl : (x9 : Int32).toNatClampNeg = i := by rw [hxi]; exact nI_clamp (by omega)
  have hin9 : vp_in x9 (Nn (12 + 4 * j1)) := by rw [Nn_j, hxi]; exact vp_in_nI hi (by decide)
  have hin8 : vp_in x9 (Nn (12 + 4 * j2)) := by rw [Nn_j, hxi]; exact vp_in_nI hi (by decide)
  obtain ⟨g1, em1, hg1⟩ := hI.blk (mds_j hj1)
  obtain ⟨g2, em2, hg2⟩ := hI.blk (mds_j hj2)
  refine lv_aload_n hx hb d_K_swap_0 rfl (lv_at hl 0 rfl) ?_
  refine va_get (D := D) (ci := 1) (v := .ref (a (12 + 4 * j1))) (C := R_K) (T := F_K) (N := 1) hx hb hts ws_K hown hK hP (11 + 4 * j1) (hI.zk hj1) rfl 0 (by decide) (hts _ fl_K_9) (fun _ h9 => h9) rfl d_K_swap_1 ?_
  refine lv_iload_n hx hb d_K_swap_4 rfl (lv_at hl 1 rfl) ?_
  refine va_aldq (D := D) hx hb hK hP (12 + 4 * j1) 2 em1 rfl (i := x9) hin9 d_K_swap_5 ?_
  rw [hcl]
  have hz1 := hI.zk hj1
  have hz2 := hI.zk hj2
  have hfin : ∀ {H : Heap} {locs : List Loc} {ls : Array Slot}, va_P D Cl ((ws.set (12 + 4 * j1) (cM a t (12 + 4 * j1) (va_up g1 i (g2 i)))).set (12 + 4 * j2) (cM a t (12 + 4 * j2) (va_up g2 i (g1 i)))) H → va_D (Az z) ((ws.set (12 + 4 * j1) (cM a t (12 + 4 * j1) (va_up g1 i (g2 i)))).set (12 + 4 * j2) (cM a t (12 + 4 * j2) (va_up g2 i (g1 i)))) → va_S (Az z) s.heap H locs → W p l e (headSpec (Cond.code y_K_swap b_K_swap 4 (.none : Option Jvm.ClassFile.FieldType) :: WS) ({ frames := 0, cells := 2 * nul ws + 1, slots := 257 * nul ws + 6, locals := 0 })).room s m [.ref (a (11 + 4 * j1)), .int x9, .ref (a (11 + 4 * j2))].toArray below meth c H locs (Kc ws ws) (Ks ws ws) (mu_MQ below D t z (fun r u => Iv a t k0 v u ∧ Fr t ws u ∧ nul u ≤ nul ws ∧ r = none) Xno (Kc ws) (Ks ws) [.ref (a (11 + 4 * j1)), .int x9, .ref (a (11 + 4 * j2))].toArray s) (F0 m 26 ls []) := by
    intro H locs ls hP hD hS
    have hq9 := nul_swp (a := a) (t := t) hj1 hj2 hne em1 em2 hi
    have hI := hI.swp hj1 hj2 hne em1 em2 hi
    have hF := (hF.set (p := 12 + 4 * j1) (c := cM a t (12 + 4 * j1) (va_up g1 i (g2 i))) (by omega) (by omega)).set (p := 12 + 4 * j2) (c := cM a t (12 + 4 * j2) (va_up g2 i (g1 i))) (by omega) (by omega)
    generalize (ws.set (12 + 4 * j1) (cM a t (12 + 4 * j1) (va_up g1 i (g2 i)))).set (12 + 4 * j2) (cM a t (12 + 4 * j2) (va_up g2 i (g1 i))) = u at hP hD hI hF hq9
    have hn : nul u ≤ nul ws := by omega
    refine mu_end (u := u) (v := none) ⟨hI, hF, hn, rfl⟩ (by show 2 * (nul ws - nul ws) ≤ 2 * (nul ws - nul u); omega) (by show 257 * (nul ws - nul ws) ≤ 257 * (nul ws - nul u); omega) ?_
    exact W.vret hx hb hr (fun t9 ht hW => ⟨rfl, ⟨by rw [ht]; exact hP, va_K.moved hW.alike hK, hD, by rw [ht]; exact Nat.le_trans hz hS.1⟩, hS.F ht⟩) hS.2.2 d_K_swap_26
  cases hc1g : g1 i with
  | none =>
    refine lv_astore_nN (lv' := [(3, .null), (0, .ref (a (11 + 4 * j1))), (1, .int x9), (2, .ref (a (11 + 4 * j2)))]) hx hb d_K_swap_6 rfl hl (by decide) rfl (fun ls hl => ?_)
    refine lv_aload_n hx hb d_K_swap_7 rfl (lv_at hl 1 rfl) ?_
    refine va_get (D := D) (ci := 1) (v := .ref (a (12 + 4 * j1))) (C := R_K) (T := F_K) (N := 1) hx hb hts ws_K hown hK hP (11 + 4 * j1) hz1 rfl 0 (by decide) (hts _ fl_K_9) (fun _ h9 => h9) rfl d_K_swap_8 ?_
    refine lv_iload_n hx hb d_K_swap_11 rfl (lv_at hl 2 rfl) ?_
    refine lv_aload_n hx hb d_K_swap_12 rfl (lv_at hl 3 rfl) ?_
    refine va_get (D := D) (ci := 1) (v := .ref (a (12 + 4 * j2))) (C := R_K) (T := F_K) (N := 1) hx hb hts ws_K hown hK hP (11 + 4 * j2) hz2 rfl 0 (by decide) (hts _ fl_K_9) (fun _ h9 => h9) rfl d_K_swap_13 ?_
    refine lv_iload_n hx hb d_K_swap_16 rfl (lv_at hl 2 rfl) ?_
    refine va_aldq (D := D) hx hb hK hP (12 + 4 * j2) 2 em2 rfl (i := x9) hin8 d_K_swap_17 ?_
    rw [hcl]
    cases hc2g : g2 i with
    | none =>
      refine va_astqN (D := D) hx hb hK hP hD hS (12 + 4 * j1) 2 em1 rfl (i := x9) hin9 d_K_swap_18 (fun H locs hP hD hS => ?_)
      rw [hcl] at hP hD
      refine lv_aload_n hx hb d_K_swap_19 rfl (lv_at hl 3 rfl) ?_
      refine va_get (D := D) (ci := 1) (v := .ref (a (12 + 4 * j2))) (C := R_K) (T := F_K) (N := 1) hx hb hts ws_K hown hK hP (11 + 4 * j2) (lk_ne hz2 (by omega)) rfl 0 (by decide) (hts _ fl_K_9) (fun _ h9 => h9) rfl d_K_swap_20 ?_
      refine lv_iload_n hx hb d_K_swap_23 rfl (lv_at hl 2 rfl) ?_
      refine lv_aload_nN hx hb d_K_swap_24 rfl (lv_at hl 0 rfl) ?_
      refine va_astqN (D := D) hx hb hK hP hD hS (12 + 4 * j2) 2 (lk_ne em2 (by omega)) rfl (i := x9) hin8 d_K_swap_25 (fun H locs hP hD hS => ?_)
      rw [hcl] at hP hD
      exact hfin (by rw [hc1g, hc2g]; exact hP) (by rw [hc1g, hc2g]; exact hD) hS
    | some b2 =>
      obtain ⟨k2, c2, l2, f2, q21, q22, q23, q24, q25⟩ := hg2 i (by rw [Nn_j]; exact hi) b2 hc2g
      refine va_astq (D := D) hx hb hK hP hD hS (12 + 4 * j1) 2 k2 0 (r := (R_B, F_B, 1)) em1 rfl q23 rfl (i := x9) hin9 d_K_swap_18 (fun H locs hP hD hS => ?_)
      rw [hcl] at hP hD
      refine lv_aload_n hx hb d_K_swap_19 rfl (lv_at hl 3 rfl) ?_
      refine va_get (D := D) (ci := 1) (v := .ref (a (12 + 4 * j2))) (C := R_K) (T := F_K) (N := 1) hx hb hts ws_K hown hK hP (11 + 4 * j2) (lk_ne hz2 (by omega)) rfl 0 (by decide) (hts _ fl_K_9) (fun _ h9 => h9) rfl d_K_swap_20 ?_
      refine lv_iload_n hx hb d_K_swap_23 rfl (lv_at hl 2 rfl) ?_
      refine lv_aload_nN hx hb d_K_swap_24 rfl (lv_at hl 0 rfl) ?_
      refine va_astqN (D := D) hx hb hK hP hD hS (12 + 4 * j2) 2 (lk_ne em2 (by omega)) rfl (i := x9) hin8 d_K_swap_25 (fun H locs hP hD hS => ?_)
      rw [hcl] at hP hD
      exact hfin (by rw [hc1g, hc2g]; exact hP) (by rw [hc1g, hc2g]; exact hD) hS
  | some b1 =>
    obtain ⟨k1, c1, l1, f1, q11, q12, q13, q14, q15⟩ := hg1 i (by rw [Nn_j]; exact hi) b1 hc1g
    refine lv_astore_n (lv' := [(3, .ref b1), (0, .ref (a (11 + 4 * j1))), (1, .int x9), (2, .ref (a (11 + 4 * j2)))]) hx hb d_K_swap_6 rfl hl (by decide) rfl (fun ls hl => ?_)
    refine lv_aload_n hx hb d_K_swap_7 rfl (lv_at hl 1 rfl) ?_
    refine va_get (D := D) (ci := 1) (v := .ref (a (12 + 4 * j1))) (C := R_K) (T := F_K) (N := 1) hx hb hts ws_K hown hK hP (11 + 4 * j1) hz1 rfl 0 (by decide) (hts _ fl_K_9) (fun _ h9 => h9) rfl d_K_swap_8 ?_
    refine lv_iload_n hx hb d_K_swap_11 rfl (lv_at hl 2 rfl) ?_
    refine lv_aload_n hx hb d_K_swap_12 rfl (lv_at hl 3 rfl) ?_
    refine va_get (D := D) (ci := 1) (v := .ref (a (12 + 4 * j2))) (C := R_K) (T := F_K) (N := 1) hx hb hts ws_K hown hK hP (11 + 4 * j2) hz2 rfl 0 (by decide) (hts _ fl_K_9) (fun _ h9 => h9) rfl d_K_swap_13 ?_
    refine lv_iload_n hx hb d_K_swap_16 rfl (lv_at hl 2 rfl) ?_
    refine va_aldq (D := D) hx hb hK hP (12 + 4 * j2) 2 em2 rfl (i := x9) hin8 d_K_swap_17 ?_
    rw [hcl]
    cases hc2g : g2 i with
    | none =>
      refine va_astqN (D := D) hx hb hK hP hD hS (12 + 4 * j1) 2 em1 rfl (i := x9) hin9 d_K_swap_18 (fun H locs hP hD hS => ?_)
      rw [hcl] at hP hD
      refine lv_aload_n hx hb d_K_swap_19 rfl (lv_at hl 3 rfl) ?_
      refine va_get (D := D) (ci := 1) (v := .ref (a (12 + 4 * j2))) (C := R_K) (T := F_K) (N := 1) hx hb hts ws_K hown hK hP (11 + 4 * j2) (lk_ne hz2 (by omega)) rfl 0 (by decide) (hts _ fl_K_9) (fun _ h9 => h9) rfl d_K_swap_20 ?_
      refine lv_iload_n hx hb d_K_swap_23 rfl (lv_at hl 2 rfl) ?_
      refine lv_aload_n hx hb d_K_swap_24 rfl (lv_at hl 0 rfl) ?_
      refine va_astq (D := D) hx hb hK hP hD hS (12 + 4 * j2) 2 k1 0 (r := (R_B, F_B, 1)) (lk_ne em2 (by omega)) rfl (lk_ne q13 (by omega)) rfl (i := x9) hin8 d_K_swap_25 (fun H locs hP hD hS => ?_)
      rw [hcl] at hP hD
      exact hfin (by rw [hc1g, hc2g]; exact hP) (by rw [hc1g, hc2g]; exact hD) hS
    | some b2 =>
      obtain ⟨k2, c2, l2, f2, q21, q22, q23, q24, q25⟩ := hg2 i (by rw [Nn_j]; exact hi) b2 hc2g
      refine va_astq (D := D) hx hb hK hP hD hS (12 + 4 * j1) 2 k2 0 (r := (R_B, F_B, 1)) em1 rfl q23 rfl (i := x9) hin9 d_K_swap_18 (fun H locs hP hD hS => ?_)
      rw [hcl] at hP hD
      refine lv_aload_n hx hb d_K_swap_19 rfl (lv_at hl 3 rfl) ?_
      refine va_get (D := D) (ci := 1) (v := .ref (a (12 + 4 * j2))) (C := R_K) (T := F_K) (N := 1) hx hb hts ws_K hown hK hP (11 + 4 * j2) (lk_ne hz2 (by omega)) rfl 0 (by decide) (hts _ fl_K_9) (fun _ h9 => h9) rfl d_K_swap_20 ?_
      refine lv_iload_n hx hb d_K_swap_23 rfl (lv_at hl 2 rfl) ?_
      refine lv_aload_n hx hb d_K_swap_24 rfl (lv_at hl 0 rfl) ?_
      refine va_astq (D := D) hx hb hK hP hD hS (12 + 4 * j2) 2 k1 0 (r := (R_B, F_B, 1)) (lk_ne em2 (by omega)) rfl (lk_ne q13 (by omega)) rfl (i := x9) hin8 d_K_swap_25 (fun H locs hP hD hS => ?_)
      rw [hcl] at hP hD
      exact hfin (by rw [hc1g, hc2g]; exact hP) (by rw [hc1g, hc2g]; exact hD) hS
