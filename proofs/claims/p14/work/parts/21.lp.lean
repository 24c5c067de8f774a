section LP
variable {p : Program} {l : Launch} {e : Env} {R : Room} {s : State} {m : MethodId} {args : Array Value} {below : List Frame} {meth : Method} {c : Code} {cells slots : Nat} {Q : State → Prop} {D : va_G} {t : Nat → ClassId} {z : Nat} {ws : va_W} {a : Nat → Nat} {k0 j : Nat} {v : Nat → Int32} {bl : Int32}
theorem lp_Z_lay (hx : p.tables.exec = Jvm.exec) (hb : c.code = b_Z_lay) (hts : ∀ w ∈ WS, w.before args s = true) (hown : s.vm.findClass R_Z = some m.cls) (hK : va_K D Cl (Ty t) s) (hj : j < 6)
  (kx : ∀ (w : va_W) (H : Heap) (locs : List Loc) (ls : Array Slot), va_P D Cl w H → va_D (Az z) w → va_S (Az z) s.heap H locs → Iv a t k0 v w → Fr t ws w → nul w = nul ws → lv_has ls 3 [(2, .int (nI 768)), (0, .ref (a (10 + 4 * j))), (1, .int bl)] → W p l e R s m args below meth c H locs cells slots Q (F0 m 22 ls [])) :
  ∀ (n i : Nat) (w : va_W) (H : Heap) (locs : List Loc) (ls : Array Slot), i + n = 768 → va_P D Cl w H → va_D (Az z) w → va_S (Az z) s.heap H locs → Iv a t k0 v w → Fr t ws w → nul w = nul ws → lv_has ls 3 [(2, .int (nI i)), (0, .ref (a (10 + 4 * j))), (1, .int bl)] → W p l e R s m args below meth c H locs cells slots Q (F0 m 2 ls []) := by
  intro n
  induction n with
  | zero =>
    intro i w H locs ls hi hP hD hS hI hF hq hl
    have hi : i = 768 := by omega
    subst hi
    refine lv_iload_n hx hb d_Z_lay_2 rfl (lv_at hl 0 rfl) ?_
    refine lv_sipush (v := 768) hx hb d_Z_lay_3 (by decide) ?_
    refine lv_icmp_ge (tgt := 22) hx hb d_Z_lay_6 rfl (fun _ => ?_) (fun h => absurd (show (768 : Int32) ≤ nI 768 by decide) h)
    exact kx w H locs ls hP hD hS hI hF hq hl
  | succ n ih =>
    intro i w H locs ls hi hP hD hS hI hF hq hl
    refine lv_iload_n hx hb d_Z_lay_2 rfl (lv_at hl 0 rfl) ?_
    refine lv_sipush (v := 768) hx hb d_Z_lay_3 (by decide) ?_
    refine lv_icmp_ge (tgt := 22) hx hb d_Z_lay_6 rfl (fun h => absurd h (nI_ge (a := i) (b := 768) (by omega) (by decide))) (fun _ => ?_)
    refine lv_aload_n hx hb d_Z_lay_9 rfl (lv_at hl 1 rfl) ?_
    refine va_get (D := D) (ci := 4) (v := .ref (a (13 + 4 * j))) (C := R_Z) (T := F_Z) (N := 3) hx hb hts ws_Z hown hK hP (10 + 4 * j) (hI.z hj) rfl 1 (by decide) (hts _ fl_Z_20) (fun _ h9 => h9) rfl d_Z_lay_10 ?_
    refine lv_iload_n hx hb d_Z_lay_13 rfl (lv_at hl 0 rfl) ?_
    refine lv_iconst (v := 0) hx hb d_Z_lay_14 (by decide) ?_
    obtain ⟨f, e13, e14⟩ := hI.zh hj
    refine va_zast (D := D) hx hb hK hP hD hS (13 + 4 * j) 1 e13 rfl (x := 0) (i := nI i) (vp_in_nI (by omega) (by decide)) d_Z_lay_15 (fun H locs hP hD hS => ?_)
    obtain ⟨f1, hf1⟩ : ∃ q, q = upd f (nI i).toNatClampNeg (vp_nar .boolean 0) := ⟨_, rfl⟩
    have e15 : ∀ i, f1 i = 0 ∨ f1 i = 1 := by rw [hf1]; exact up01 e14 (by decide)
    rw [← hf1] at hP hD
    refine lv_iinc (k := 0) (v := nI (i + 1)) (lv' := [(2, .int (nI (i + 1))), (0, .ref (a (10 + 4 * j))), (1, .int bl)]) hx hb d_Z_lay_16 hl rfl (nI_1 i) (by decide) rfl (fun ls hl => ?_)
    refine lv_goto (tgt := 2) hx hb d_Z_lay_19 rfl ?_
    exact ih (i + 1) (w.set (13 + 4 * j) (a (13 + 4 * j), .inl (t 1, 768, .inl f1))) H locs ls (by omega) hP hD hS (hI.setH hj e15) (hF.set (by omega) (by omega)) ((nul_set nm13).trans hq) hl
theorem lp_Z_any {N : Nat} {H : Heap} {locs : List Loc} {w : va_W} (hN : N ≤ 768) (hbl : bl = nI N) (hx : p.tables.exec = Jvm.exec) (hb : c.code = b_Z_holdsAny) (hts : ∀ w ∈ WS, w.before args s = true) (hown : s.vm.findClass R_Z = some m.cls) (hK : va_K D Cl (Ty t) s) (hj : j < 6) (hP : va_P D Cl w H) (hI : Iv a t k0 v w)
  (k1 : ∀ (ls : Array Slot) (i : Nat), lv_has ls 3 [(2, .int (nI i)), (0, .ref (a (10 + 4 * j))), (1, .int bl)] → W p l e R s m args below meth c H locs cells slots Q (F0 m 16 ls []))
  (k2 : ∀ (ls : Array Slot) (i : Nat), lv_has ls 3 [(2, .int (nI i)), (0, .ref (a (10 + 4 * j))), (1, .int bl)] → W p l e R s m args below meth c H locs cells slots Q (F0 m 24 ls [])) :
  ∀ (n i : Nat) (ls : Array Slot), i + n = N → lv_has ls 3 [(2, .int (nI i)), (0, .ref (a (10 + 4 * j))), (1, .int bl)] → W p l e R s m args below meth c H locs cells slots Q (F0 m 2 ls []) := by
  intro n
  induction n with
  | zero =>
    intro i ls hi hl
    refine lv_iload_n hx hb d_Z_holdsAny_2 rfl (lv_at hl 0 rfl) ?_
    refine lv_iload_n hx hb d_Z_holdsAny_3 rfl (lv_at hl 2 rfl) ?_
    refine lv_icmp_ge (tgt := 24) hx hb d_Z_holdsAny_4 rfl (fun _ => ?_) (fun h => absurd (by rw [hbl]; exact nI_le (by omega) (by omega)) h)
    exact k2 ls i hl
  | succ n ih =>
    intro i ls hi hl
    refine lv_iload_n hx hb d_Z_holdsAny_2 rfl (lv_at hl 0 rfl) ?_
    refine lv_iload_n hx hb d_Z_holdsAny_3 rfl (lv_at hl 2 rfl) ?_
    refine lv_icmp_ge (tgt := 24) hx hb d_Z_holdsAny_4 rfl (fun h => absurd h (by rw [hbl]; exact nI_ge (by omega) (by omega))) (fun _ => ?_)
    refine lv_aload_n hx hb d_Z_holdsAny_7 rfl (lv_at hl 1 rfl) ?_
    refine va_get (D := D) (ci := 4) (v := .ref (a (13 + 4 * j))) (C := R_Z) (T := F_Z) (N := 3) hx hb hts ws_Z hown hK hP (10 + 4 * j) (hI.z hj) rfl 1 (by decide) (hts _ fl_Z_20) (fun _ h9 => h9) rfl d_Z_holdsAny_8 ?_
    refine lv_iload_n hx hb d_Z_holdsAny_11 rfl (lv_at hl 0 rfl) ?_
    obtain ⟨f, e13, e14⟩ := hI.zh hj
    refine va_zald (D := D) hx hb hK hP (13 + 4 * j) 1 e13 rfl (i := nI i) (vp_in_nI (by omega) (by decide)) d_Z_holdsAny_12 ?_
    refine lv_if_eq (tgt := 18) hx hb d_Z_holdsAny_13 rfl (fun _ => ?_) (fun _ => k1 ls i hl)
    refine lv_iinc (k := 0) (v := nI (i + 1)) (lv' := [(2, .int (nI (i + 1))), (0, .ref (a (10 + 4 * j))), (1, .int bl)]) hx hb d_Z_holdsAny_18 hl rfl (nI_1 i) (by decide) rfl (fun ls hl => ?_)
    refine lv_goto (tgt := 2) hx hb d_Z_holdsAny_21 rfl ?_
    exact ih (i + 1) ls (by omega) hl
end LP
set_option maxHeartbeats 4000000 in
set_option maxRecDepth 100000 in
theorem c_Z_lay {l : Launch} {D : va_G} {t : Nat → ClassId} {z : Nat} {sa : Nat → Nat} {ws : va_W} {a : Nat → Nat} {k0 : Nat} {v : Nat → Int32} {j : Nat} {bl : Int32} {P9 : Nat} (hI : Iv a t k0 v ws) (hj : j < 6) (hP9 : P9 ≤ 768) (hbl : bl = nI P9) : Mu l y_Z_lay (Cond.code y_Z_lay b_Z_lay 3 (.none : Option Jvm.ClassFile.FieldType) :: WS) ({ frames := 0, cells := 2 * nul ws + 1, slots := 257 * nul ws + 6, locals := 0 }) D t z sa ws [.ref (a (10 + 4 * j)), .int bl] (fun r u => ∃ v1, Iv a t k0 v1 u ∧ Fr t ws u ∧ nul u ≤ nul ws ∧ r = none ∧ (∀ i, i ≠ 11 + j → v1 i = v i) ∧ v1 (11 + j) = bl) Xno (Kc ws) (Ks ws) := by
  refine mu_ofW (cc := b_Z_lay) (maxL := 3) (ret := (.none : Option Jvm.ClassFile.FieldType)) (by decide) rfl ?_
  intro p e s m args below meth c s₁ B hml hno hv
  obtain ⟨rfl, ⟨hP, hK, hD, hz⟩, hM⟩ := hv
  have hx := B.exec
  have hb := B.bytes
  have hr := B.returns
  have hts : ∀ w ∈ WS, w.before [.ref (a (10 + 4 * j)), .int bl].toArray s = true := fun w h => atoms_spec B.pre w (List.mem_cons_of_mem _ h)
  have hown : s.vm.findClass R_Z = some m.cls := findClass_of_methodNamed B.named
  have hlocks := B.notSynchronized
  have hA : ∀ q, s.heap.size ≤ q → Az z q := fun q h => Nat.le_trans hz h
  have hS : va_S (Az z) s.heap s.heap [] := va_S.rf
  have hF : Fr t ws ws := Fr.rf
  have hn : nul ws ≤ nul ws := Nat.le_refl _
  have hl := lv_entry ([.ref (a (10 + 4 * j)), .int bl]) (n := 3) (Nat.le_of_ble_eq_true rfl)
  rw [lg_entry_eq]
  generalize (lg_sl ([.ref (a (10 + 4 * j)), .int bl]) ++ List.replicate (3 - (lg_sl ([.ref (a (10 + 4 * j)), .int bl])).length) Slot.unset).toArray = ls at hl ⊢
  have hl : lv_has ls 3 [(0, .ref (a (10 + 4 * j))), (1, .int bl)] := hl
  refine W.widen (k := Kc ws ws) (n := Ks ws ws) (Nat.zero_le _) (Nat.zero_le _) ?_
  refine lv_iconst (v := 0) hx hb d_Z_lay_0 (by decide) ?_
  refine lv_istore_n (lv' := [(2, .int 0), (0, .ref (a (10 + 4 * j))), (1, .int bl)]) hx hb d_Z_lay_1 rfl hl (by decide) rfl (fun ls hl => ?_)
  refine lp_Z_lay (ws := ws) (k0 := k0) (v := v) (bl := bl) hx hb hts hown hK hj (fun w1 H locs ls hP hD hS hI hF hq9 hl => ?_) 768 0 ws _ _ _ rfl hP hD hS hI hF rfl hl
  have hn : nul w1 ≤ nul ws := by omega
  refine W.widen (k := Kc ws w1) (n := Ks ws w1) (by show 2 * (nul ws - nul ws) ≤ 2 * (nul ws - nul w1); omega) (by show 257 * (nul ws - nul ws) ≤ 257 * (nul ws - nul w1); omega) ?_
  refine lv_aload_n hx hb d_Z_lay_22 rfl (lv_at hl 1 rfl) ?_
  refine lv_iload_n hx hb d_Z_lay_23 rfl (lv_at hl 2 rfl) ?_
  refine va_put (D := D) (ci := 4) (v := .int bl) (ty := .int) (C := R_Z) (T := F_Z) (N := 3) hx hb hts ws_Z t_Z ok_Z n_Z hown hK hP hD hS (10 + 4 * j) (hI.z hj) rfl 2 (by decide) (hts _ fl_Z_24) (fun _ h9 => h9) rfl (by decide +kernel) rfl rfl (Nat.le_of_ble_eq_true rfl) d_Z_lay_24 (fun H locs hP hD hS => ?_)
  obtain ⟨v6, hv6⟩ : ∃ q : Nat → Int32, q = upd v (11 + j) bl := ⟨_, rfl⟩
  have gv6 : v6 (11 + j) = bl := by rw [hv6]; exact pk_us
  have nv6 : ∀ i, i ≠ (11 + j) → v6 i = v i := fun i hi => by rw [hv6]; exact pk_un hi
  have hce : (a (10 + 4 * j), Sum.inr (4, [Value.ref (a (11 + 4 * j)), .ref (a (13 + 4 * j)), .int bl])) = cZ a v6 j := by simp only [cZ, gv6]
  have hP : va_P D Cl (w1.set (10 + 4 * j) (cZ a v6 j)) H := hce ▸ hP
  have hD : va_D (Az z) (w1.set (10 + 4 * j) (cZ a v6 j)) := hce ▸ hD
  obtain ⟨w7, hw⟩ : ∃ q, q = w1.set (10 + 4 * j) (cZ a v6 j) := ⟨_, rfl⟩
  have hP : va_P D Cl (w1.set (10 + 4 * j) (cZ a v6 j)) H := hP
  have hD : va_D (Az z) (w1.set (10 + 4 * j) (cZ a v6 j)) := hD
  have hF : Fr t ws (w1.set (10 + 4 * j) (cZ a v6 j)) := hF.set (by omega) (by omega)
  have hI := (by have h9 := hI.setZ (P := P9) hj hP9; rw [← hbl, ← hv6] at h9; exact h9)
  have hq9 : nul (w1.set (10 + 4 * j) (cZ a v6 j)) = nul w1 := nul_set nm10
  rw [← hw] at hP hD hF hI hq9
  clear hw
  have hn : nul w7 ≤ nul ws := by omega
  refine W.widen (k := Kc ws w7) (n := Ks ws w7) (by show 2 * (nul ws - nul w1) ≤ 2 * (nul ws - nul w7); omega) (by show 257 * (nul ws - nul w1) ≤ 257 * (nul ws - nul w7); omega) ?_
  refine mu_end (u := w7) (v := (none)) ⟨_, hI, hF, hn, rfl, nv6, gv6⟩ (Nat.le_refl _) (Nat.le_refl _) ?_
  exact W.vret hx hb hr (fun t9 ht hW => ⟨rfl, ⟨by rw [ht]; exact hP, va_K.moved hW.alike hK, hD, by rw [ht]; exact Nat.le_trans hz hS.1⟩, hS.F ht⟩) hS.2.2 d_Z_lay_27
set_option maxHeartbeats 4000000 in
set_option maxRecDepth 100000 in
theorem c_Z_holdsAny {l : Launch} {D : va_G} {t : Nat → ClassId} {z : Nat} {sa : Nat → Nat} {ws : va_W} {a : Nat → Nat} {k0 : Nat} {v : Nat → Int32} {j : Nat} {bl : Int32} {P9 : Nat} (hI : Iv a t k0 v ws) (hj : j < 6) (hP9 : P9 ≤ 768) (hbl : bl = nI P9) : Mu l y_Z_holdsAny (Cond.code y_Z_holdsAny b_Z_holdsAny 3 (some .boolean) :: WS) ({ frames := 0, cells := 2 * nul ws + 1, slots := 257 * nul ws + 6, locals := 0 }) D t z sa ws [.ref (a (10 + 4 * j)), .int bl] (fun r u => ∃ y, r = some (.int y) ∧ u = ws ∧ (y = 0 ∨ y = 1)) Xno (Kc ws) (Ks ws) := by
  refine mu_ofW (cc := b_Z_holdsAny) (maxL := 3) (ret := (some .boolean)) (by decide) rfl ?_
  intro p e s m args below meth c s₁ B hml hno hv
  obtain ⟨rfl, ⟨hP, hK, hD, hz⟩, hM⟩ := hv
  have hx := B.exec
  have hb := B.bytes
  have hr := B.returns
  have hts : ∀ w ∈ WS, w.before [.ref (a (10 + 4 * j)), .int bl].toArray s = true := fun w h => atoms_spec B.pre w (List.mem_cons_of_mem _ h)
  have hown : s.vm.findClass R_Z = some m.cls := findClass_of_methodNamed B.named
  have hlocks := B.notSynchronized
  have hA : ∀ q, s.heap.size ≤ q → Az z q := fun q h => Nat.le_trans hz h
  have hS : va_S (Az z) s.heap s.heap [] := va_S.rf
  have hF : Fr t ws ws := Fr.rf
  have hn : nul ws ≤ nul ws := Nat.le_refl _
  have hl := lv_entry ([.ref (a (10 + 4 * j)), .int bl]) (n := 3) (Nat.le_of_ble_eq_true rfl)
  rw [lg_entry_eq]
  generalize (lg_sl ([.ref (a (10 + 4 * j)), .int bl]) ++ List.replicate (3 - (lg_sl ([.ref (a (10 + 4 * j)), .int bl])).length) Slot.unset).toArray = ls at hl ⊢
  have hl : lv_has ls 3 [(0, .ref (a (10 + 4 * j))), (1, .int bl)] := hl
  refine W.widen (k := Kc ws ws) (n := Ks ws ws) (Nat.zero_le _) (Nat.zero_le _) ?_
  refine lv_iconst (v := 0) hx hb d_Z_holdsAny_0 (by decide) ?_
  refine lv_istore_n (lv' := [(2, .int 0), (0, .ref (a (10 + 4 * j))), (1, .int bl)]) hx hb d_Z_holdsAny_1 rfl hl (by decide) rfl (fun ls hl => ?_)
  refine lp_Z_any (k0 := k0) (v := v) (w := ws) hP9 hbl hx hb hts hown hK hj hP hI (fun ls i hl => ?_) (fun ls i hl => ?_) P9 0 _ (Nat.zero_add _) hl
  · skip
    refine lv_iconst (v := 1) hx hb d_Z_holdsAny_16 (by decide) ?_
    refine mu_end (u := ws) (v := (some (.int 1))) ⟨_, rfl, rfl, by decide⟩ (Nat.le_refl _) (Nat.le_refl _) ?_
    exact W.zret (v := 1) (ty := .boolean) hx hb hr rfl (fun t9 ht hW => ⟨rfl, ⟨by rw [ht]; exact hP, va_K.moved hW.alike hK, hD, by rw [ht]; exact Nat.le_trans hz hS.1⟩, hS.F ht⟩) hS.2.2 d_Z_holdsAny_17
  · skip
    refine lv_iconst (v := 0) hx hb d_Z_holdsAny_24 (by decide) ?_
    refine mu_end (u := ws) (v := (some (.int 0))) ⟨_, rfl, rfl, by decide⟩ (Nat.le_refl _) (Nat.le_refl _) ?_
    exact W.zret (v := 0) (ty := .boolean) hx hb hr rfl (fun t9 ht hW => ⟨rfl, ⟨by rw [ht]; exact hP, va_K.moved hW.alike hK, hD, by rw [ht]; exact Nat.le_trans hz hS.1⟩, hS.F ht⟩) hS.2.2 d_Z_holdsAny_25
