theorem ls_two {ws : va_W} {x x' y : Nat × va_E} : ((ws ++ [x]) ++ [y]).set ws.length x' = (ws ++ [x']) ++ [y] := by
  rw [List.append_assoc, List.set_append_right _ _ (Nat.le_refl _), Nat.sub_self, List.append_assoc]
  rfl
abbrev Kc (ws : va_W) : va_W → Nat := fun u => 2 * (nul ws - nul u)
abbrev Ks (ws : va_W) : va_W → Nat := fun u => 257 * (nul ws - nul u)
abbrev Xno : String → va_W → Prop := fun _ _ => False
set_option maxHeartbeats 4000000 in
set_option maxRecDepth 100000 in
/-- Block(): its bytes, behind all -/
theorem c_B_init {l : Launch} {D : va_G} {t : Nat → ClassId} {z : Nat} {sa : Nat → Nat} {ws : va_W} {b n : Nat} (e0 : ws[n]? = some (b, .inr (0, [.null]))) : Met l y_B_init (Cond.code y_B_init b_B_init 1 none :: WS) ({ frames := 1, cells := 1, slots := 256, locals := 13 }) (Pz D t z sa ws [.ref b]) (va_Qv (fun u : va_W => ∃ c, u = (ws ++ [cA t c (fun _ => 0)]).set n (cB b c)) (fun u U => Wd D t z u U) (Az z)) 1 256 (Az z) := by
  refine Met.ofW (cc := b_B_init) (maxL := 1) (ret := none) (by decide) rfl ?_
  intro p e s m args below meth c s₁ B hml hv
  obtain ⟨rfl, ⟨hP, hK, hD, hz⟩, hM⟩ := hv
  have hx := B.exec
  have hb := B.bytes
  have hr := B.returns
  have hts : ∀ w ∈ WS, w.before [.ref b].toArray s = true := fun w h => atoms_spec B.pre w (List.mem_cons_of_mem _ h)
  have hown : s.vm.findClass R_B = some m.cls := findClass_of_methodNamed B.named
  have hlocks := B.notSynchronized
  have hin : meth.name = "<init>" := (name_of_methodNamed B.named B.method).1
  have hA : ∀ q, s.heap.size ≤ q → Az z q := fun q h => Nat.le_trans hz h
  have hS : va_S (Az z) s.heap s.heap [] := va_S.rf
  have hl := lv_entry ([.ref b]) (n := 1) (Nat.le_of_ble_eq_true rfl)
  rw [lg_entry_eq]
  generalize (lg_sl ([.ref b]) ++ List.replicate (1 - (lg_sl ([.ref b])).length) Slot.unset).toArray = ls at hl ⊢
  have hl : lv_has ls 1 [(0, .ref b)] := hl
  refine lv_aload_n hx hb d_B_init_0 rfl (lv_at hl 0 rfl) ?_
  refine W.objInit hx hb hown (hts _ ml_B_3) (hts _ oi_im) (hts _ oi_cd) rfl (by rw [hml]; exact hl.1) rfl d_B_init_1 (Nat.le_of_ble_eq_true rfl) (Nat.le_of_ble_eq_true rfl) ?_
  refine W.eq (g2 := F0 m 4 ls []) rfl ?_
  refine lv_aload_n hx hb d_B_init_4 rfl (lv_at hl 0 rfl) ?_
  refine lv_sipush (v := 256) hx hb d_B_init_5 (by decide) ?_
  refine va_newa (D := D) (atype := .byte) hx hb (hts _ ac_byte) (ty := .byte) rfl hK hP hD hS hA (N' := 256) (a0 := (256, .inl (fun _ => 0))) (fun cA => rfl) (by decide) (by decide) (by decide) (Nat.le_of_ble_eq_true rfl) (Nat.le_of_ble_eq_true rfl) d_B_init_8 (fun c9 cA9 H hK2 hP hD hS => ?_)
  have hcA : cA9 = t 0 := Option.some.inj ((hK2.2 6 (cA9, .byte) rfl).2.symm.trans (hK.2 0 (t 0, .byte) rfl).2)
  rw [hcA] at hP hD
  refine va_putF (D := D) (ci := 0) (v := .ref c9) (ty := .array .byte) (C := R_B) (T := F_B) (N := 1) hx hb hts ws_B t_B ok_B n_B hown hK hP hD hS n (lk_push e0) rfl 0 (by decide) (hts _ fl_B_9) (fun _ h9 => h9) rfl hin rfl (by decide +kernel) rfl rfl (Nat.le_of_ble_eq_true rfl) d_B_init_10 (fun H locs hP hD hS => ?_)
  exact W.vret hx hb hr (fun t9 ht hW => ⟨⟨(ws ++ [cA t c9 (fun _ => 0)]).set n (cB b c9), rfl, ⟨c9, rfl⟩, by rw [ht]; exact hP, va_K.moved hW.alike hK, hD, by rw [ht]; exact Nat.le_trans hz hS.1⟩, hS.F ht⟩) hS.2.2 d_B_init_13
/-- what bytesOf(i) of the table at pm gives -/
def Bp (a : Nat → Nat) (t : Nat → ClassId) (k0 pm i : Nat) (v : Nat → Int32) (ws : va_W) : Option Value → va_W → Prop := fun r u =>
  ∃ (c k' k1 : Nat) (f : Nat → Int32), r = some (.ref c) ∧ 42 ≤ k' ∧ u[k']? = some (cA t c f) ∧ (k' = k1 ↔ pm = 6 ∧ i = 0) ∧ Iv a t k1 v u ∧ Fr t ws u ∧ nul u ≤ nul ws ∧ (4 ≤ v 6 ∨ ¬ (pm = 6 ∧ i = 0) → k1 = k0) ∧ (∀ p, p < 42 → p ∉ Mds → u[p]? = ws[p]?)
set_option maxHeartbeats 4000000 in
set_option maxRecDepth 100000 in
theorem c_K_bytesOf {l : Launch} {D : va_G} {t : Nat → ClassId} {z : Nat} {sa : Nat → Nat} {ws : va_W} {a : Nat → Nat} {k0 pk pm i kk : Nat} {v : Nat → Int32} (hI : Iv a t k0 v ws) (ek : ws[pk]? = some (kk, .inr (1, [.ref (a pm)]))) (hp : pm ∈ Mds) (hi : i < Nn pm) :
    Mu l y_K_bytesOf (Cond.code y_K_bytesOf b_K_bytesOf 2 (some (.array .byte)) :: WS) ({ frames := 2, cells := 2 * nul ws + 1, slots := 257 * nul ws + 6, locals := 33 }) D t z sa ws [.ref kk, .int (nI i)] (Bp a t k0 pm i v ws) Xno (Kc ws) (Ks ws) := by
  refine mu_ofW (cc := b_K_bytesOf) (maxL := 2) (ret := (some (.array .byte))) (by decide) rfl ?_
  intro p e s m args below meth c s₁ B hml hno hv
  obtain ⟨rfl, ⟨hP, hK, hD, hz⟩, hM⟩ := hv
  have hx := B.exec
  have hb := B.bytes
  have hr := B.returns
  have hts : ∀ w ∈ WS, w.before [.ref kk, .int (nI i)].toArray s = true := fun w h => atoms_spec B.pre w (List.mem_cons_of_mem _ h)
  have hown : s.vm.findClass R_K = some m.cls := findClass_of_methodNamed B.named
  have hlocks := B.notSynchronized
  have hA : ∀ q, s.heap.size ≤ q → Az z q := fun q h => Nat.le_trans hz h
  have hS : va_S (Az z) s.heap s.heap [] := va_S.rf
  have hl := lv_entry ([.ref kk, .int (nI i)]) (n := 2) (Nat.le_of_ble_eq_true rfl)
  rw [lg_entry_eq]
  generalize (lg_sl ([.ref kk, .int (nI i)]) ++ List.replicate (2 - (lg_sl ([.ref kk, .int (nI i)])).length) Slot.unset).toArray = ls at hl ⊢
  have hl : lv_has ls 2 [(0, .ref kk), (1, .int (nI i))] := hl
  have hN : Nn pm ≤ 781 := by unfold Nn; split <;> omega
  have hcl : (nI i).toNatClampNeg = i := nI_clamp (by omega)
  have hin9 : vp_in (nI i) (Nn pm) := vp_in_nI hi (by omega)
  have h42 := hI.2.2.2.2.1
  have hpl := mds_lt hp
  obtain ⟨g, em, hg⟩ := hI.blk hp
  -- what comes behind place 22, in a world where the block is there
  have fin : ∀ (w : va_W) (H : Heap) (locs : List Loc) (g2 : Nat → Option Nat) (b9 c9 k k' k1 cells slots : Nat) (f : Nat → Int32), va_P D Cl w H → va_D (Az z) w → va_S (Az z) s.heap H locs → w[pk]? = some (kk, .inr (1, [.ref (a pm)])) → w[pm]? = some (cM a t pm g2) → g2 i = some b9 → 42 ≤ k' → w[k]? = some (cB b9 c9) → w[k']? = some (cA t c9 f) → (k' = k1 ↔ pm = 6 ∧ i = 0) → Iv a t k1 v w → Fr t ws w → nul w ≤ nul ws → (4 ≤ v 6 ∨ ¬ (pm = 6 ∧ i = 0) → k1 = k0) → (∀ p, p < 42 → p ∉ Mds → w[p]? = ws[p]?) → cells ≤ Kc ws w → slots ≤ Ks ws w →
      W p l e (headSpec (Cond.code y_K_bytesOf b_K_bytesOf 2 (some (.array .byte)) :: WS) ({ frames := 2, cells := 2 * nul ws + 1, slots := 257 * nul ws + 6, locals := 33 })).room s m [.ref kk, .int (nI i)].toArray below meth c H locs cells slots (mu_MQ below D t z (Bp a t k0 pm i v ws) Xno (Kc ws) (Ks ws) [.ref kk, .int (nI i)].toArray s) (F0 m 22 ls []) := by
    intro w H locs g2 b9 c9 k k' k1 cells slots f hP hD hS ek em2 hg2 hk' ekb ekc hsp hI2 hF hn hj hq hc hs
    refine lv_aload_n hx hb d_K_bytesOf_22 rfl (lv_at hl 0 rfl) ?_
    refine va_get (D := D) (ci := 1) (v := .ref (a pm)) (C := R_K) (T := F_K) (N := 1) hx hb hts ws_K hown hK hP pk ek rfl 0 (by decide) (hts _ fl_K_9) (fun _ h9 => h9) rfl d_K_bytesOf_23 ?_
    refine lv_iload_n hx hb d_K_bytesOf_26 rfl (lv_at hl 1 rfl) ?_
    refine va_aldq (D := D) hx hb hK hP pm 2 em2 rfl (i := nI i) hin9 d_K_bytesOf_27 ?_
    refine W.eq (g2 := F0 m 28 ls [.ref b9]) (by rw [hcl, hg2]; rfl) ?_
    refine va_getN (D := D) (ci := 0) (v := .ref c9) (C := R_B) (T := F_B) (N := 1) hx hb hts ws_B hown hK hP k ekb rfl 0 (by decide) hM.2.2.2.1 (fun _ h9 => h9) rfl d_K_bytesOf_28 ?_
    refine mu_end (u := w) (v := some (.ref c9)) ⟨c9, k', k1, f, rfl, hk', ekc, hsp, hI2, hF, hn, hj, hq⟩ hc hs ?_
    exact W.aret (v := .ref c9) (rt := .array .byte) hx hb hr (Or.inr ⟨_, rfl⟩) (Or.inr ⟨_, rfl⟩) (fun t9 ht hW => ⟨rfl, ⟨by rw [ht]; exact hP, va_K.moved hW.alike hK, hD, by rw [ht]; exact Nat.le_trans hz hS.1⟩, hS.F ht⟩) hS.2.2 d_K_bytesOf_31
  refine lv_aload_n hx hb d_K_bytesOf_0 rfl (lv_at hl 0 rfl) ?_
  refine va_get (D := D) (ci := 1) (v := .ref (a pm)) (C := R_K) (T := F_K) (N := 1) hx hb hts ws_K hown hK hP pk ek rfl 0 (by decide) (hts _ fl_K_9) (fun _ h9 => h9) rfl d_K_bytesOf_1 ?_
  refine lv_iload_n hx hb d_K_bytesOf_4 rfl (lv_at hl 1 rfl) ?_
  refine va_aldq (D := D) hx hb hK hP pm 2 em rfl (i := nI i) hin9 d_K_bytesOf_5 ?_
  cases hgi : g i with
  | some b9 =>
    refine W.eq (g2 := F0 m 6 ls [.ref b9]) (by rw [hcl, hgi]; rfl) ?_
    refine lv_ifnonnull (tgt := 22) hx hb d_K_bytesOf_6 rfl ?_
    obtain ⟨k, c9, k', f, q1, q2, q3, q4, q5⟩ := hg i hi b9 hgi
    exact fin ws s.heap [] g b9 c9 k k' k0 0 0 f hP hD hS ek em hgi q2 q3 q4 q5 hI Fr.rf (Nat.le_refl _) (fun _ => rfl) (fun _ _ _ => rfl) (Nat.zero_le _) (Nat.zero_le _)
  | none =>
    refine W.eq (g2 := F0 m 6 ls [.null]) (by rw [hcl, hgi]; rfl) ?_
    refine lv_ifnonnullN hx hb d_K_bytesOf_6 ?_
    refine lv_aload_n hx hb d_K_bytesOf_9 rfl (lv_at hl 0 rfl) ?_
    refine va_get (D := D) (ci := 1) (v := .ref (a pm)) (C := R_K) (T := F_K) (N := 1) hx hb hts ws_K hown hK hP pk ek rfl 0 (by decide) (hts _ fl_K_9) (fun _ h9 => h9) rfl d_K_bytesOf_10 ?_
    refine lv_iload_n hx hb d_K_bytesOf_13 rfl (lv_at hl 1 rfl) ?_
    have hn0 : 0 < nul ws := by
      have h9 := nul_ch (ws := ws) (u := ws.set pm (cM a t pm (va_up g i (some 0)))) (d := 1) hp (fun q _ hq => List.getElem?_set_ne (Ne.symm hq)) (by
        rw [lk_set em, em]
        have := cnt_fill (b := 0) hgi (n := Nn pm) hi
        show ((cnt _ _ : Nat) : Int) + 1 = ((cnt _ _ : Nat) : Int)
        omega)
      omega
    refine va_new (ci := 0) (fs := [.null]) (C := R_B) (T := F_B) (N := 1) hx hb hts ws_B t_B ok_B hown (hts _ cl_K_7) (hts _ ib_B) (hts _ in_B) hK hP hD hS hA rfl (fun j hj => by rcases (show j = 0 by omega) with rfl; rfl) (by show 0 + 1 ≤ 2 * nul ws + 1; omega) (by show 0 + 1 ≤ 257 * nul ws + 6; omega) d_K_bytesOf_14 (fun b9 H hP hD hS => ?_)
    refine lv_dup hx hb d_K_bytesOf_17 rfl ?_
    refine va_callv (va_runIN (As := []) (rest := [.ref b9, .int (nI i), .ref (a pm)]) ⟨hx, hb, hml, hown, hts⟩ (c_B_init (D := D) (t := t) (z := z) (sa := sa) (ws := ws ++ [(b9, .inr (0, [.null]))]) (n := ws.length) (lk_new rfl)) ⟨va_cnB 0 hts (gd_I cd_B_init) rfl rfl rfl hM.2.2.1 (hts _ in_B) (by decide +kernel) ⟨Nat.le_of_ble_eq_true rfl, Nat.le_of_ble_eq_true rfl⟩, rfl, hts _ im_B_init⟩ ⟨Pz_blind, Pz_at hP hK hD hz hM hS⟩ rfl rfl hl.1 rfl (lv_room (Nat.le_of_ble_eq_true rfl)) d_K_bytesOf_18 ⟨by show 0 + 1 + 1 ≤ 2 * nul ws + 1; omega, by show 0 + 1 + 256 ≤ 257 * nul ws + 6; omega⟩) hS (fun q _ h => h) (fun q h => h) (fun u t9 H locs ht hvm hp9 hB hz1 hk1 hS => ?_)
    obtain ⟨hP, hK9, hD, -⟩ := hB
    rw [ht] at hP
    obtain ⟨c9, hu⟩ := hp9
    have hu : u = (ws ++ [cB b9 c9]) ++ [cA t c9 (fun _ => 0)] := hu.trans ls_two
    subst hu
    have emu : ((ws ++ [cB b9 c9]) ++ [cA t c9 (fun _ => 0)])[pm]? = some (cM a t pm g) := lk_push (lk_push em)
    have ekb : ((ws ++ [cB b9 c9]) ++ [cA t c9 (fun _ => 0)])[ws.length]? = some (cB b9 c9) := lk_push (lk_new rfl)
    have ekc : ((ws ++ [cB b9 c9]) ++ [cA t c9 (fun _ => 0)])[ws.length + 1]? = some (cA t c9 (fun _ => 0)) := lk_new (by rw [List.length_append]; rfl)
    refine va_astq (D := D) hx hb hK hP hD hS pm 2 ws.length 0 (r := (R_B, F_B, 1)) emu rfl ekb rfl (i := nI i) hin9 d_K_bytesOf_21 (fun H locs hP hD hS => ?_)
    rw [hcl] at hP hD
    obtain ⟨k1, hI2, hsp, hj⟩ := hI.mk (b := b9) (c := c9) hp em hi hgi
    have hnu : nul (((ws ++ [cB b9 c9]) ++ [cA t c9 (fun _ => 0)]).set pm (cM a t pm (va_up g i (some b9)))) + 1 = nul ws := by
      have h9 := nul_ch (ws := ws) (u := ((ws ++ [cB b9 c9]) ++ [cA t c9 (fun _ => 0)]).set pm (cM a t pm (va_up g i (some b9)))) (d := 1) hp (fun q hq hne => by rw [List.getElem?_set_ne (Ne.symm hne), List.append_assoc, List.getElem?_append_left (by have := mds_lt hq; omega)]) (by
        rw [lk_set emu, em]
        have := cnt_fill (b := b9) hgi (n := Nn pm) hi
        show ((cnt _ _ : Nat) : Int) + 1 = ((cnt _ _ : Nat) : Int)
        omega)
      omega
    have hpk : pk ≠ pm := fun h => by rw [h] at ek; cases ek.symm.trans em
    have hpkl : pk < ws.length := (List.getElem?_eq_some_iff.mp ek).1
    refine fin (((ws ++ [cB b9 c9]) ++ [cA t c9 (fun _ => 0)]).set pm (cM a t pm (va_up g i (some b9)))) H locs (va_up g i (some b9)) b9 c9 ws.length (ws.length + 1) k1 _ _ (fun _ => 0) hP hD hS (lk_ne (lk_push (lk_push ek)) (Ne.symm hpk)) (lk_set emu) (va_up_self _ _ _) (by omega) (lk_ne ekb (by omega)) (lk_ne ekc (by omega)) hsp hI2 ?_ (by omega) hj (fun q h1 h2 => by rw [List.getElem?_set_ne (fun h => h2 (by rw [← h]; exact hp)), List.append_assoc, List.getElem?_append_left (by omega)]) (by show 0 + 1 + 1 ≤ 2 * (nul ws - nul (((ws ++ [cB b9 c9]) ++ [cA t c9 (fun _ => 0)]).set pm (cM a t pm (va_up g i (some b9))))); omega) (by show 0 + 1 + 256 ≤ 257 * (nul ws - nul (((ws ++ [cB b9 c9]) ++ [cA t c9 (fun _ => 0)]).set pm (cM a t pm (va_up g i (some b9))))); omega)
    refine ((Fr.rf.push h42).push h42).set hpl (fun h => by rw [h] at hp; exact absurd hp (by decide))
