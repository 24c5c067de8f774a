/-- as Bp: and the place is filled, the world as it was where it was filled before -/
def Bs (a : Nat → Nat) (t : Nat → ClassId) (k0 pm i : Nat) (v : Nat → Int32) (ws : va_W) : Option Value → va_W → Prop := fun r u =>
  ∃ (c k' k1 : Nat) (f : Nat → Int32), r = some (.ref c) ∧ 42 ≤ k' ∧ u[k']? = some (cA t c f) ∧ (k' = k1 ↔ pm = 6 ∧ i = 0) ∧ Iv a t k1 v u ∧ Fr t ws u ∧ nul u ≤ nul ws ∧ (4 ≤ v 6 ∨ ¬ (pm = 6 ∧ i = 0) → k1 = k0) ∧ (∀ p, p < 42 → p ∉ Mds → u[p]? = ws[p]?) ∧ (∃ (g : Nat → Option Nat) (b : Nat), u[pm]? = some (cM a t pm g) ∧ g i = some b) ∧ ((∃ (g : Nat → Option Nat) (b : Nat), ws[pm]? = some (cM a t pm g) ∧ g i = some b) → u = ws ∧ k1 = k0)
set_option maxHeartbeats 4000000 in
set_option maxRecDepth 100000 in
theorem c_K_bytesOfS {l : Launch} {D : va_G} {t : Nat → ClassId} {z : Nat} {sa : Nat → Nat} {ws : va_W} {a : Nat → Nat} {k0 pk pm i kk : Nat} {v : Nat → Int32} (hI : Iv a t k0 v ws) (ek : ws[pk]? = some (kk, .inr (1, [.ref (a pm)]))) (hp : pm ∈ Mds) (hi : i < Nn pm) :
    Mu l y_K_bytesOf (Cond.code y_K_bytesOf b_K_bytesOf 2 (some (.array .byte)) :: WS) ({ frames := 2, cells := 2 * nul ws + 1, slots := 257 * nul ws + 6, locals := 33 }) D t z sa ws [.ref kk, .int (nI i)] (Bs a t k0 pm i v ws) Xno (Kc ws) (Ks ws) := by
  refine mu_ofW (cc := b_K_bytesOf) (maxL := 2) (ret := (some (.array .byte))) (by decide) rfl ?_
  intro p e s m args below meth c s₁ B hml hno hv
  obtain ⟨rfl, ⟨hP, hK, hD, hz⟩, hM⟩ := hv
  have hx := B.exec
  have hb := B.bytes
  have hr := B.returns
  have hts : ∀ w ∈ WS, w.before [.ref kk, .int (nI i)].toArray s = true := fun w h => atoms_spec B.pre w (List.mem_cons_of_mem _ h)
  have hown : s.vm.findClass R_K = some m.cls := findClass_of_methodNamed B.named
  have hlocks := B.notSynchronized
  have hA : ∀ q, s.heap.size ≤ q → Az z q := fun q h => Nat.le_trans hz h
  have hS : va_S (Az z) s.heap s.heap [] := va_S.rf
  have hl := lv_entry ([.ref kk, .int (nI i)]) (n := 2) (Nat.le_of_ble_eq_true rfl)
  rw [lg_entry_eq]
  generalize (lg_sl ([.ref kk, .int (nI i)]) ++ List.replicate (2 - (lg_sl ([.ref kk, .int (nI i)])).length) Slot.unset).toArray = ls at hl ⊢
  have hl : lv_has ls 2 [(0, .ref kk), (1, .int (nI i))] := hl
  have hN : Nn pm ≤ 781 := by unfold Nn; split <;> omega
  have hcl : (nI i).toNatClampNeg = i := nI_clamp (by omega)
  have hin9 : vp_in (nI i) (Nn pm) := vp_in_nI hi (by omega)
  have h42 := hI.2.2.2.2.1
  have hpl := mds_lt hp
  obtain ⟨g, em, hg⟩ := hI.blk hp
  -- what comes behind place 22, in a world where the block is there
  have fin : ∀ (w : va_W) (H : Heap) (locs : List Loc) (g2 : Nat → Option Nat) (b9 c9 k k' k1 cells slots : Nat) (f : Nat → Int32), va_P D Cl w H → va_D (Az z) w → va_S (Az z) s.heap H locs → w[pk]? = some (kk, .inr (1, [.ref (a pm)])) → w[pm]? = some (cM a t pm g2) → g2 i = some b9 → 42 ≤ k' → w[k]? = some (cB b9 c9) → w[k']? = some (cA t c9 f) → (k' = k1 ↔ pm = 6 ∧ i = 0) → Iv a t k1 v w → Fr t ws w → nul w ≤ nul ws → (4 ≤ v 6 ∨ ¬ (pm = 6 ∧ i = 0) → k1 = k0) → (∀ p, p < 42 → p ∉ Mds → w[p]? = ws[p]?) → ((∃ (g : Nat → Option Nat) (b : Nat), ws[pm]? = some (cM a t pm g) ∧ g i = some b) → w = ws ∧ k1 = k0) → cells ≤ Kc ws w → slots ≤ Ks ws w →
      W p l e (headSpec (Cond.code y_K_bytesOf b_K_bytesOf 2 (some (.array .byte)) :: WS) ({ frames := 2, cells := 2 * nul ws + 1, slots := 257 * nul ws + 6, locals := 33 })).room s m [.ref kk, .int (nI i)].toArray below meth c H locs cells slots (mu_MQ below D t z (Bs a t k0 pm i v ws) Xno (Kc ws) (Ks ws) [.ref kk, .int (nI i)].toArray s) (F0 m 22 ls []) := by
    intro w H locs g2 b9 c9 k k' k1 cells slots f hP hD hS ek em2 hg2 hk' ekb ekc hsp hI2 hF hn hj hq hfl hc hs
    refine lv_aload_n hx hb d_K_bytesOf_22 rfl (lv_at hl 0 rfl) ?_
    refine va_get (D := D) (ci := 1) (v := .ref (a pm)) (C := R_K) (T := F_K) (N := 1) hx hb hts ws_K hown hK hP pk ek rfl 0 (by decide) (hts _ fl_K_9) (fun _ h9 => h9) rfl d_K_bytesOf_23 ?_
    refine lv_iload_n hx hb d_K_bytesOf_26 rfl (lv_at hl 1 rfl) ?_
    refine va_aldq (D := D) hx hb hK hP pm 2 em2 rfl (i := nI i) hin9 d_K_bytesOf_27 ?_
    refine W.eq (g2 := F0 m 28 ls [.ref b9]) (by rw [hcl, hg2]; rfl) ?_
    refine va_getN (D := D) (ci := 0) (v := .ref c9) (C := R_B) (T := F_B) (N := 1) hx hb hts ws_B hown hK hP k ekb rfl 0 (by decide) hM.2.2.2.1 (fun _ h9 => h9) rfl d_K_bytesOf_28 ?_
    refine mu_end (u := w) (v := some (.ref c9)) ⟨c9, k', k1, f, rfl, hk', ekc, hsp, hI2, hF, hn, hj, hq, ⟨_, _, em2, hg2⟩, hfl⟩ hc hs ?_
    exact W.aret (v := .ref c9) (rt := .array .byte) hx hb hr (Or.inr ⟨_, rfl⟩) (Or.inr ⟨_, rfl⟩) (fun t9 ht hW => ⟨rfl, ⟨by rw [ht]; exact hP, va_K.moved hW.alike hK, hD, by rw [ht]; exact Nat.le_trans hz hS.1⟩, hS.F ht⟩) hS.2.2 d_K_bytesOf_31
  refine lv_aload_n hx hb d_K_bytesOf_0 rfl (lv_at hl 0 rfl) ?_
  refine va_get (D := D) (ci := 1) (v := .ref (a pm)) (C := R_K) (T := F_K) (N := 1) hx hb hts ws_K hown hK hP pk ek rfl 0 (by decide) (hts _ fl_K_9) (fun _ h9 => h9) rfl d_K_bytesOf_1 ?_
  refine lv_iload_n hx hb d_K_bytesOf_4 rfl (lv_at hl 1 rfl) ?_
  refine va_aldq (D := D) hx hb hK hP pm 2 em rfl (i := nI i) hin9 d_K_bytesOf_5 ?_
  cases hgi : g i with
  | some b9 =>
    refine W.eq (g2 := F0 m 6 ls [.ref b9]) (by rw [hcl, hgi]; rfl) ?_
    refine lv_ifnonnull (tgt := 22) hx hb d_K_bytesOf_6 rfl ?_
    obtain ⟨k, c9, k', f, q1, q2, q3, q4, q5⟩ := hg i hi b9 hgi
    exact fin ws s.heap [] g b9 c9 k k' k0 0 0 f hP hD hS ek em hgi q2 q3 q4 q5 hI Fr.rf (Nat.le_refl _) (fun _ => rfl) (fun _ _ _ => rfl) (fun _ => ⟨rfl, rfl⟩) (Nat.zero_le _) (Nat.zero_le _)
  | none =>
    refine W.eq (g2 := F0 m 6 ls [.null]) (by rw [hcl, hgi]; rfl) ?_
    refine lv_ifnonnullN hx hb d_K_bytesOf_6 ?_
    refine lv_aload_n hx hb d_K_bytesOf_9 rfl (lv_at hl 0 rfl) ?_
    refine va_get (D := D) (ci := 1) (v := .ref (a pm)) (C := R_K) (T := F_K) (N := 1) hx hb hts ws_K hown hK hP pk ek rfl 0 (by decide) (hts _ fl_K_9) (fun _ h9 => h9) rfl d_K_bytesOf_10 ?_
    refine lv_iload_n hx hb d_K_bytesOf_13 rfl (lv_at hl 1 rfl) ?_
    have hn0 : 0 < nul ws := by
      have h9 := nul_ch (ws := ws) (u := ws.set pm (cM a t pm (va_up g i (some 0)))) (d := 1) hp (fun q _ hq => List.getElem?_set_ne (Ne.symm hq)) (by
        rw [lk_set em, em]
        have := cnt_fill (b := 0) hgi (n := Nn pm) hi
        show ((cnt _ _ : Nat) : Int) + 1 = ((cnt _ _ : Nat) : Int)
        omega)
      omega
    refine va_new (ci := 0) (fs := [.null]) (C := R_B) (T := F_B) (N := 1) hx hb hts ws_B t_B ok_B hown (hts _ cl_K_7) (hts _ ib_B) (hts _ in_B) hK hP hD hS hA rfl (fun j hj => by rcases (show j = 0 by omega) with rfl; rfl) (by show 0 + 1 ≤ 2 * nul ws + 1; omega) (by show 0 + 1 ≤ 257 * nul ws + 6; omega) d_K_bytesOf_14 (fun b9 H hP hD hS => ?_)
    refine lv_dup hx hb d_K_bytesOf_17 rfl ?_
    refine va_callv (va_runIN (As := []) (rest := [.ref b9, .int (nI i), .ref (a pm)]) ⟨hx, hb, hml, hown, hts⟩ (c_B_init (D := D) (t := t) (z := z) (sa := sa) (ws := ws ++ [(b9, .inr (0, [.null]))]) (n := ws.length) (lk_new rfl)) ⟨va_cnB 0 hts (gd_I cd_B_init) rfl rfl rfl hM.2.2.1 (hts _ in_B) (by decide +kernel) ⟨Nat.le_of_ble_eq_true rfl, Nat.le_of_ble_eq_true rfl⟩, rfl, hts _ im_B_init⟩ ⟨Pz_blind, Pz_at hP hK hD hz hM hS⟩ rfl rfl hl.1 rfl (lv_room (Nat.le_of_ble_eq_true rfl)) d_K_bytesOf_18 ⟨by show 0 + 1 + 1 ≤ 2 * nul ws + 1; omega, by show 0 + 1 + 256 ≤ 257 * nul ws + 6; omega⟩) hS (fun q _ h => h) (fun q h => h) (fun u t9 H locs ht hvm hp9 hB hz1 hk1 hS => ?_)
    obtain ⟨hP, hK9, hD, -⟩ := hB
    rw [ht] at hP
    obtain ⟨c9, hu⟩ := hp9
    have hu : u = (ws ++ [cB b9 c9]) ++ [cA t c9 (fun _ => 0)] := hu.trans ls_two
    subst hu
    have emu : ((ws ++ [cB b9 c9]) ++ [cA t c9 (fun _ => 0)])[pm]? = some (cM a t pm g) := lk_push (lk_push em)
    have ekb : ((ws ++ [cB b9 c9]) ++ [cA t c9 (fun _ => 0)])[ws.length]? = some (cB b9 c9) := lk_push (lk_new rfl)
    have ekc : ((ws ++ [cB b9 c9]) ++ [cA t c9 (fun _ => 0)])[ws.length + 1]? = some (cA t c9 (fun _ => 0)) := lk_new (by rw [List.length_append]; rfl)
    refine va_astq (D := D) hx hb hK hP hD hS pm 2 ws.length 0 (r := (R_B, F_B, 1)) emu rfl ekb rfl (i := nI i) hin9 d_K_bytesOf_21 (fun H locs hP hD hS => ?_)
    rw [hcl] at hP hD
    obtain ⟨k1, hI2, hsp, hj⟩ := hI.mk (b := b9) (c := c9) hp em hi hgi
    have hnu : nul (((ws ++ [cB b9 c9]) ++ [cA t c9 (fun _ => 0)]).set pm (cM a t pm (va_up g i (some b9)))) + 1 = nul ws := by
      have h9 := nul_ch (ws := ws) (u := ((ws ++ [cB b9 c9]) ++ [cA t c9 (fun _ => 0)]).set pm (cM a t pm (va_up g i (some b9)))) (d := 1) hp (fun q hq hne => by rw [List.getElem?_set_ne (Ne.symm hne), List.append_assoc, List.getElem?_append_left (by have := mds_lt hq; omega)]) (by
        rw [lk_set emu, em]
        have := cnt_fill (b := b9) hgi (n := Nn pm) hi
        show ((cnt _ _ : Nat) : Int) + 1 = ((cnt _ _ : Nat) : Int)
        omega)
      omega
    have hpk : pk ≠ pm := fun h => by rw [h] at ek; cases ek.symm.trans em
    have hpkl : pk < ws.length := (List.getElem?_eq_some_iff.mp ek).1
    refine fin (((ws ++ [cB b9 c9]) ++ [cA t c9 (fun _ => 0)]).set pm (cM a t pm (va_up g i (some b9)))) H locs (va_up g i (some b9)) b9 c9 ws.length (ws.length + 1) k1 _ _ (fun _ => 0) hP hD hS (lk_ne (lk_push (lk_push ek)) (Ne.symm hpk)) (lk_set emu) (va_up_self _ _ _) (by omega) (lk_ne ekb (by omega)) (lk_ne ekc (by omega)) hsp hI2 ?_ (by omega) hj (fun q h1 h2 => by rw [List.getElem?_set_ne (fun h => h2 (by rw [← h]; exact hp)), List.append_assoc, List.getElem?_append_left (by omega)]) (fun ⟨g9, b8, z1, z2⟩ => by cases em.symm.trans z1; rw [hgi] at z2; cases z2) (by show 0 + 1 + 1 ≤ 2 * (nul ws - nul (((ws ++ [cB b9 c9]) ++ [cA t c9 (fun _ => 0)]).set pm (cM a t pm (va_up g i (some b9))))); omega) (by show 0 + 1 + 256 ≤ 257 * (nul ws - nul (((ws ++ [cB b9 c9]) ++ [cA t c9 (fun _ => 0)]).set pm (cM a t pm (va_up g i (some b9))))); omega)
    refine ((Fr.rf.push h42).push h42).set hpl (fun h => by rw [h] at hp; exact absurd hp (by decide))

theorem c_K_bytesOfS' {l : Launch} {D : va_G} {t : Nat → ClassId} {z : Nat} {sa : Nat → Nat} {ws : va_W} {a : Nat → Nat} {k0 : Nat} {v : Nat → Int32} {pk pm i kk : Nat} {x9 : Int32} (hI : Iv a t k0 v ws) (ek : ws[pk]? = some (kk, .inr (1, [.ref (a pm)]))) (hp : pm ∈ Mds) (hi : i < Nn pm) (hxi : x9 = nI i) :
    Mu l y_K_bytesOf (Cond.code y_K_bytesOf b_K_bytesOf 2 (some (.array .byte)) :: WS) ({ frames := 2, cells := 2 * nul ws + 1, slots := 257 * nul ws + 6, locals := 33 }) D t z sa ws [.ref kk, .int x9] (Bs a t k0 pm i v ws) Xno (Kc ws) (Ks ws) := by
  subst hxi
  exact c_K_bytesOfS hI ek hp hi
/-- the journal's number, its first i bytes laid -/
def JP (a : Nat → Nat) (t : Nat → ClassId) (k0 n i : Nat) (ws : va_W) : Prop := 0 < i → 42 ≤ k0 ∧ (∃ (g : Nat → Option Nat) (b : Nat), ws[6]? = some (a 6, .inl (t 2, Nn 6, qA g)) ∧ g 0 = some b) ∧ ∃ (c : Nat) (f : Nat → Int32), ws[k0]? = some (c, .inl (t 0, 256, .inl f)) ∧ ∀ j, j < i → f j = byt n j
theorem nar_byt {n i : Nat} : vp_nar .byte (byt n i) = byt n i := by
  rw [vp_nar_byte]
  unfold byt
  simp
theorem wr_div0 {i : Nat} (h : i < 256) : (nI 0 + nI i) / 256 = nI 0 := by
  have h9 := wr_div (A := 0) (i := i) (by omega)
  rwa [Nat.zero_add, Nat.div_eq_of_lt h] at h9
theorem wr_rem0 {i : Nat} (h : i < 256) : (nI 0 + nI i) - (nI 0 + nI i) / 256 * 256 = nI i := by
  have h9 := wr_rem (A := 0) (i := i) (by omega)
  rwa [Nat.zero_add, Nat.mod_eq_of_lt h] at h9
theorem jn_num : ∀ n, n < 769 → (((0 ||| (byt n 0 &&& 255) <<< ((0 : Int32) &&& 31)) ||| (byt n 1 &&& 255) <<< ((8 : Int32) &&& 31)) ||| (byt n 2 &&& 255) <<< ((16 : Int32) &&& 31)) ||| (byt n 3 &&& 255) <<< ((24 : Int32) &&& 31) = nI n := by decide +kernel
set_option maxHeartbeats 4000000 in
set_option maxRecDepth 100000 in
theorem c_U_through {l : Launch} {D : va_G} {t : Nat → ClassId} {z : Nat} {sa : Nat → Nat} {ws : va_W} {a : Nat → Nat} {k0 : Nat} {v : Nat → Int32} {x9 y9 : Int32} {n : Nat} (hI : Iv a t k0 v ws) (hn9 : y9 = nI n) (hn31 : n < 2 ^ 31) : Mu l y_U_bytesThrough (Cond.code y_U_bytesThrough b_U_bytesThrough 3 (some .int) :: WS) ({ frames := 1, cells := 2 * nul ws + 1, slots := 257 * nul ws + 6, locals := 13 }) D t z sa ws [.ref (a 8), .int x9, .int y9] (fun r u => ∃ v1, Iv a t k0 v1 u ∧ Fr t ws u ∧ nul u ≤ nul ws ∧ (∃ m : Nat, m ≤ n ∧ r = some (.int (nI m)) ∧ (m = n ∨ v1 10 = 1)) ∧ (∀ i, i ≠ 8 → i ≠ 10 → v1 i = v i) ∧ (∀ p, p ≠ 8 → u[p]? = ws[p]?)) Xno (Kc ws) (Ks ws) := by
  refine mu_ofW (cc := b_U_bytesThrough) (maxL := 3) (ret := (some .int)) (by decide) rfl ?_
  intro p e s m args below meth c s₁ B hml hno hv
  obtain ⟨rfl, ⟨hP, hK, hD, hz⟩, hM⟩ := hv
  have hx := B.exec
  have hb := B.bytes
  have hr := B.returns
  have hts : ∀ w ∈ WS, w.before [.ref (a 8), .int x9, .int y9].toArray s = true := fun w h => atoms_spec B.pre w (List.mem_cons_of_mem _ h)
  have hown : s.vm.findClass R_U = some m.cls := findClass_of_methodNamed B.named
  have hlocks := B.notSynchronized
  have hA : ∀ q, s.heap.size ≤ q → Az z q := fun q h => Nat.le_trans hz h
  have hS : va_S (Az z) s.heap s.heap [] := va_S.rf
  have hF : Fr t ws ws := Fr.rf
  have hn : nul ws ≤ nul ws := Nat.le_refl _
  have hl := lv_entry ([.ref (a 8), .int x9, .int y9]) (n := 3) (Nat.le_of_ble_eq_true rfl)
  rw [lg_entry_eq]
  generalize (lg_sl ([.ref (a 8), .int x9, .int y9]) ++ List.replicate (3 - (lg_sl ([.ref (a 8), .int x9, .int y9])).length) Slot.unset).toArray = ls at hl ⊢
  have hl : lv_has ls 3 [(0, .ref (a 8)), (1, .int x9), (2, .int y9)] := hl
  refine W.widen (k := Kc ws ws) (n := Ks ws ws) (Nat.zero_le _) (Nat.zero_le _) ?_
  refine lv_aload_n hx hb d_U_bytesThrough_0 rfl (lv_at hl 0 rfl) ?_
  refine va_get (D := D) (ci := 2) (v := .int (v 7)) (C := R_U) (T := F_U) (N := 4) hx hb hts ws_U hown hK hP 8 hI.u8 rfl 0 (by decide) (hts _ fl_U_9) (fun _ h9 => h9) rfl d_U_bytesThrough_1 ?_
  refine lv_iload_n hx hb d_U_bytesThrough_4 rfl (lv_at hl 1 rfl) ?_
  refine lv_icmp_eq (tgt := 10) hx hb d_U_bytesThrough_5 rfl (fun q1 => ?_) (fun q1 => ?_)
  · skip
    refine lv_aload_n hx hb d_U_bytesThrough_10 rfl (lv_at hl 0 rfl) ?_
    refine va_get (D := D) (ci := 2) (v := .int (v 8)) (C := R_U) (T := F_U) (N := 4) hx hb hts ws_U hown hK hP 8 hI.u8 rfl 1 (by decide) (hts _ fl_U_15) (fun _ h9 => h9) rfl d_U_bytesThrough_11 ?_
    refine lv_if_le (tgt := 29) hx hb d_U_bytesThrough_14 rfl (fun q2 => ?_) (fun q2 => ?_)
    · skip
      refine lv_aload_n hx hb d_U_bytesThrough_29 rfl (lv_at hl 0 rfl) ?_
      refine lv_iconst (v := 1) hx hb d_U_bytesThrough_30 (by decide) ?_
      refine va_put (D := D) (ci := 2) (v := .int 1) (ty := .boolean) (C := R_U) (T := F_U) (N := 4) hx hb hts ws_U t_U ok_U n_U hown hK hP hD hS 8 hI.u8 rfl 3 (by decide) (hts _ fl_U_21) (fun _ h9 => h9) rfl (by decide +kernel) rfl rfl (Nat.le_of_ble_eq_true rfl) d_U_bytesThrough_31 (fun H locs hP hD hS => ?_)
      obtain ⟨v3, hv3⟩ : ∃ q : Nat → Int32, q = upd v 10 1 := ⟨_, rfl⟩
      have gv3 : v3 10 = 1 := by rw [hv3]; exact pk_us
      have nv3 : ∀ i, i ≠ 10 → v3 i = v i := fun i hi => by rw [hv3]; exact pk_un hi
      have hP : va_P D Cl (ws.set 8 (cU a v3)) H := by rw [hv3]; exact hP
      have hD : va_D (Az z) (ws.set 8 (cU a v3)) := by rw [hv3]; exact hD
      obtain ⟨w4, hw⟩ : ∃ q, q = ws.set 8 (cU a v3) := ⟨_, rfl⟩
      have hP : va_P D Cl (ws.set 8 (cU a v3)) H := hP
      have hD : va_D (Az z) (ws.set 8 (cU a v3)) := hD
      have hF : Fr t ws (ws.set 8 (cU a v3)) := hF.set (by decide) (by decide)
      have hI := hI.setU (v' := v3) (fun i hi => nv3 i (by omega)) (by rw [nv3 9 (by decide)]; exact hI.bd.2.2.2.2.1) (by rw [gv3]; decide)
      have hq9 : nul (ws.set 8 (cU a v3)) = nul ws := nul_set (by decide)
      rw [← hw] at hP hD hF hI hq9
      have hoth9 : ∀ p, p ≠ 8 → w4[p]? = ws[p]? := fun p hp => by rw [hw]; exact List.getElem?_set_ne (Ne.symm hp)
      clear hw
      have hn : nul w4 ≤ nul ws := by omega
      refine W.widen (k := Kc ws w4) (n := Ks ws w4) (by show 2 * (nul ws - nul ws) ≤ 2 * (nul ws - nul w4); omega) (by show 257 * (nul ws - nul ws) ≤ 257 * (nul ws - nul w4); omega) ?_
      refine lv_aload_n hx hb d_U_bytesThrough_34 rfl (lv_at hl 0 rfl) ?_
      refine va_get (D := D) (ci := 2) (v := .int (v3 9)) (C := R_U) (T := F_U) (N := 4) hx hb hts ws_U hown hK hP 8 hI.u8 rfl 2 (by decide) (hts _ fl_U_18) (fun _ h9 => h9) rfl d_U_bytesThrough_35 ?_
      refine lv_iload_n hx hb d_U_bytesThrough_38 rfl (lv_at hl 2 rfl) ?_
      refine va_mmin hx hb (hml.trans hl.1.symm) hown (hts _ ml_U_29) (hts _ mm_st) (hts _ in_Math) (hts _ mm_cd) (Nat.le_of_ble_eq_true rfl) (Nat.le_of_ble_eq_true rfl) (by show 2 * (nul ws - nul w4) ≤ 2 * nul ws + 1; omega) (by show 257 * (nul ws - nul w4) ≤ 257 * nul ws + 6; omega) d_U_bytesThrough_39 ?_
      refine lv_topi (fun y5 hy5 => ?_)
      obtain ⟨B9, hB1, hB2⟩ := hI.bd.2.2.2.2.1
      have hy59 : y5 = nI (min B9 n) := by rw [hy5, hB2, hn9]; exact mn_nat (by omega) hn31
      refine mu_end (u := w4) (v := (some (.int y5))) ⟨_, hI, hF, hn, ⟨min B9 n, Nat.min_le_right _ _, by rw [hy59], Or.inr gv3⟩, (fun i h8 h10 => by rw [nv3 i (by omega)]), hoth9⟩ (Nat.le_refl _) (Nat.le_refl _) ?_
      exact W.iret (v := y5) hx hb hr (fun t9 ht hW => ⟨rfl, ⟨by rw [ht]; exact hP, va_K.moved hW.alike hK, hD, by rw [ht]; exact Nat.le_trans hz hS.1⟩, hS.F ht⟩) hS.2.2 d_U_bytesThrough_42
    · skip
      refine lv_aload_n hx hb d_U_bytesThrough_17 rfl (lv_at hl 0 rfl) ?_
      refine lv_dup hx hb d_U_bytesThrough_18 rfl ?_
      refine va_get (D := D) (ci := 2) (v := .int (v 8)) (C := R_U) (T := F_U) (N := 4) hx hb hts ws_U hown hK hP 8 hI.u8 rfl 1 (by decide) (hts _ fl_U_15) (fun _ h9 => h9) rfl d_U_bytesThrough_19 ?_
      refine lv_iconst (v := 1) hx hb d_U_bytesThrough_22 (by decide) ?_
      refine lv_isub hx hb d_U_bytesThrough_23 ?_
      refine lv_topi (fun v6 hv6 => ?_)
      refine va_put (D := D) (ci := 2) (v := .int v6) (ty := .int) (C := R_U) (T := F_U) (N := 4) hx hb hts ws_U t_U ok_U n_U hown hK hP hD hS 8 hI.u8 rfl 1 (by decide) (hts _ fl_U_15) (fun _ h9 => h9) rfl (by decide +kernel) rfl rfl (Nat.le_of_ble_eq_true rfl) d_U_bytesThrough_24 (fun H locs hP hD hS => ?_)
      obtain ⟨v7, hv7⟩ : ∃ q : Nat → Int32, q = upd v 8 v6 := ⟨_, rfl⟩
      have gv7 : v7 8 = v6 := by rw [hv7]; exact pk_us
      have nv7 : ∀ i, i ≠ 8 → v7 i = v i := fun i hi => by rw [hv7]; exact pk_un hi
      have hP : va_P D Cl (ws.set 8 (cU a v7)) H := by rw [hv7]; exact hP
      have hD : va_D (Az z) (ws.set 8 (cU a v7)) := by rw [hv7]; exact hD
      obtain ⟨w8, hw⟩ : ∃ q, q = ws.set 8 (cU a v7) := ⟨_, rfl⟩
      have hP : va_P D Cl (ws.set 8 (cU a v7)) H := hP
      have hD : va_D (Az z) (ws.set 8 (cU a v7)) := hD
      have hF : Fr t ws (ws.set 8 (cU a v7)) := hF.set (by decide) (by decide)
      have hI := hI.setU (v' := v7) (fun i hi => nv7 i (by omega)) (by rw [nv7 9 (by decide)]; exact hI.bd.2.2.2.2.1) (by rw [nv7 10 (by decide)]; exact hI.bd.2.2.2.2.2.2)
      have hq9 : nul (ws.set 8 (cU a v7)) = nul ws := nul_set (by decide)
      rw [← hw] at hP hD hF hI hq9
      have hoth9 : ∀ p, p ≠ 8 → w8[p]? = ws[p]? := fun p hp => by rw [hw]; exact List.getElem?_set_ne (Ne.symm hp)
      clear hw
      have hn : nul w8 ≤ nul ws := by omega
      refine W.widen (k := Kc ws w8) (n := Ks ws w8) (by show 2 * (nul ws - nul ws) ≤ 2 * (nul ws - nul w8); omega) (by show 257 * (nul ws - nul ws) ≤ 257 * (nul ws - nul w8); omega) ?_
      refine lv_iload_n hx hb d_U_bytesThrough_27 rfl (lv_at hl 2 rfl) ?_
      refine mu_end (u := w8) (v := (some (.int y9))) ⟨_, hI, hF, hn, ⟨n, Nat.le_refl _, by rw [hn9], Or.inl rfl⟩, (fun i h8 h10 => by rw [nv7 i (by omega)]), hoth9⟩ (Nat.le_refl _) (Nat.le_refl _) ?_
      exact W.iret (v := y9) hx hb hr (fun t9 ht hW => ⟨rfl, ⟨by rw [ht]; exact hP, va_K.moved hW.alike hK, hD, by rw [ht]; exact Nat.le_trans hz hS.1⟩, hS.F ht⟩) hS.2.2 d_U_bytesThrough_28
  · skip
    refine lv_iload_n hx hb d_U_bytesThrough_8 rfl (lv_at hl 2 rfl) ?_
    refine mu_end (u := ws) (v := (some (.int y9))) ⟨_, hI, hF, hn, ⟨n, Nat.le_refl _, by rw [hn9], Or.inl rfl⟩, (fun i _ _ => rfl), fun _ _ => rfl⟩ (Nat.le_refl _) (Nat.le_refl _) ?_
    exact W.iret (v := y9) hx hb hr (fun t9 ht hW => ⟨rfl, ⟨by rw [ht]; exact hP, va_K.moved hW.alike hK, hD, by rw [ht]; exact Nat.le_trans hz hS.1⟩, hS.F ht⟩) hS.2.2 d_U_bytesThrough_9
set_option maxHeartbeats 4000000 in
set_option maxRecDepth 100000 in
theorem c_Y_write_n {l : Launch} {D : va_G} {t : Nat → ClassId} {z : Nat} {sa : Nat → Nat} {ws : va_W} {a : Nat → Nat} {k0 : Nat} {v : Nat → Int32} {x9 y9 : Int32} {N nn : Nat} {r0 : Nat → Int32} (hI : Iv a t k0 v ws) (hxA : x9 = nI 0) (hyN : y9 = nI N) (hN4 : N ≤ 4) (hv6 : v 6 = 0) (hr0 : ws[9]? = some (a 9, .inl (t 0, 260, .inl r0))) (hrb : ∀ i, i < 4 → r0 i = byt nn i) (hnn : nn ≤ 768) : Mu l y_Y_write (Cond.code y_Y_write b_Y_write 5 (.none : Option Jvm.ClassFile.FieldType) :: WS) ({ frames := 3, cells := 2 * nul ws + 1, slots := 257 * nul ws + 6, locals := 54 }) D t z sa ws [.ref (a 4), .int x9, .ref (a 9), .int y9] (fun r u => ∃ k1 v1, Iv a t k1 v1 u ∧ Fr t ws u ∧ nul u ≤ nul ws ∧ r = none ∧ (∀ i, i ≠ 6 → v1 i = v i) ∧ v1 6 = nI N) Xno (Kc ws) (Ks ws) := by
  refine mu_ofW (cc := b_Y_write) (maxL := 5) (ret := (.none : Option Jvm.ClassFile.FieldType)) (by decide) rfl ?_
  intro p e s m args below meth c s₁ B hml hno hv
  obtain ⟨rfl, ⟨hP, hK, hD, hz⟩, hM⟩ := hv
  have hx := B.exec
  have hb := B.bytes
  have hr := B.returns
  have hts : ∀ w ∈ WS, w.before [.ref (a 4), .int x9, .ref (a 9), .int y9].toArray s = true := fun w h => atoms_spec B.pre w (List.mem_cons_of_mem _ h)
  have hown : s.vm.findClass R_Y = some m.cls := findClass_of_methodNamed B.named
  have hlocks := B.notSynchronized
  have hA : ∀ q, s.heap.size ≤ q → Az z q := fun q h => Nat.le_trans hz h
  have hS : va_S (Az z) s.heap s.heap [] := va_S.rf
  have hF : Fr t ws ws := Fr.rf
  have hn : nul ws ≤ nul ws := Nat.le_refl _
  have hl := lv_entry ([.ref (a 4), .int x9, .ref (a 9), .int y9]) (n := 5) (Nat.le_of_ble_eq_true rfl)
  rw [lg_entry_eq]
  generalize (lg_sl ([.ref (a 4), .int x9, .ref (a 9), .int y9]) ++ List.replicate (5 - (lg_sl ([.ref (a 4), .int x9, .ref (a 9), .int y9])).length) Slot.unset).toArray = ls at hl ⊢
  have hl : lv_has ls 5 [(0, .ref (a 4)), (1, .int x9), (2, .ref (a 9)), (3, .int y9)] := hl
  refine W.widen (k := Kc ws ws) (n := Ks ws ws) (Nat.zero_le _) (Nat.zero_le _) ?_
  refine lv_iconst (v := 0) hx hb d_Y_write_0 (by decide) ?_
  refine lv_istore (lv' := [(4, .int 0), (0, .ref (a 4)), (1, .int x9), (2, .ref (a 9)), (3, .int y9)]) hx hb d_Y_write_1 hl (by decide) rfl (fun ls hl => ?_)
  have key : ∀ (n9 i k9 : Nat) (w9 : va_W) (H : Heap) (locs : List Loc) (ls : Array Slot), i + n9 = N → va_P D Cl w9 H → va_D (Az z) w9 → va_S (Az z) s.heap H locs → Iv a t k9 v w9 → Fr t ws w9 → nul w9 ≤ nul ws → JP a t k9 nn i w9 → w9[9]? = some (a 9, .inl (t 0, 260, .inl r0)) → lv_has ls 5 [(4, .int (nI i)), (0, .ref (a 4)), (1, .int x9), (2, .ref (a 9)), (3, .int y9)] → W p l e (headSpec (Cond.code y_Y_write b_Y_write 5 (.none : Option Jvm.ClassFile.FieldType) :: WS) ({ frames := 3, cells := 2 * nul ws + 1, slots := 257 * nul ws + 6, locals := 54 })).room s m [.ref (a 4), .int x9, .ref (a 9), .int y9].toArray below meth c H locs (Kc ws w9) (Ks ws w9) (mu_MQ below D t z (fun r u => ∃ k1 v1, Iv a t k1 v1 u ∧ Fr t ws u ∧ nul u ≤ nul ws ∧ r = none ∧ (∀ i, i ≠ 6 → v1 i = v i) ∧ v1 6 = nI N) Xno (Kc ws) (Ks ws) [.ref (a 4), .int x9, .ref (a 9), .int y9].toArray s) (F0 m 3 ls []) := by
    intro n9
    induction n9 with
    | zero =>
      intro i k9 w9 H locs ls hi9 hP hD hS hI hF hn hJP hr9w hl
      refine lv_iload hx hb d_Y_write_3 (lv_at hl 0 rfl) ?_
      refine lv_iload_n hx hb d_Y_write_5 rfl (lv_at hl 4 rfl) ?_
      refine lv_icmp_ge (tgt := 43) hx hb d_Y_write_6 rfl (fun _ => ?_) (fun h => absurd (by rw [hyN]; exact nI_le (by omega) (by omega)) h)
      refine lv_aload_n hx hb d_Y_write_43 rfl (lv_at hl 1 rfl) ?_
      refine lv_aload_n hx hb d_Y_write_44 rfl (lv_at hl 1 rfl) ?_
      refine va_get (D := D) (ci := 3) (v := .int (v 6)) (C := R_Y) (T := F_Y) (N := 2) hx hb hts ws_Y hown hK hP 4 hI.y4 rfl 1 (by decide) (hts _ fl_Y_9) (fun _ h9 => h9) rfl d_Y_write_45 ?_
      refine lv_iload_n hx hb d_Y_write_48 rfl (lv_at hl 2 rfl) ?_
      refine lv_iload_n hx hb d_Y_write_49 rfl (lv_at hl 4 rfl) ?_
      refine lv_iadd hx hb d_Y_write_50 ?_
      refine va_mmax hx hb (hml.trans hl.1.symm) hown (hts _ ml_Y_28) (hts _ mx_st) (hts _ in_Math) (hts _ mx_cd) (Nat.le_of_ble_eq_true rfl) (Nat.le_of_ble_eq_true rfl) (by show 2 * (nul ws - nul w9) ≤ 2 * nul ws + 1; omega) (by show 257 * (nul ws - nul w9) ≤ 257 * nul ws + 6; omega) d_Y_write_51 ?_
      refine lv_topi (fun ym hym => ?_)
      have hym : ym = nI N := by rw [hym, hv6, hxA, hyN, nI_add, Nat.zero_add]; exact (mx_nat (m := 0) (by omega) (by omega)).trans (by rw [Nat.zero_max])
      refine va_put (D := D) (ci := 3) (v := .int ym) (ty := .int) (C := R_Y) (T := F_Y) (N := 2) hx hb hts ws_Y t_Y ok_Y n_Y hown hK hP hD hS 4 hI.y4 rfl 1 (by decide) (hts _ fl_Y_9) (fun _ h9 => h9) rfl (by decide +kernel) rfl rfl (Nat.le_of_ble_eq_true rfl) d_Y_write_54 (fun H locs hP hD hS => ?_)
      obtain ⟨v1, hv1⟩ : ∃ q : Nat → Int32, q = upd v 6 ym := ⟨_, rfl⟩
      have gv1 : v1 6 = ym := by rw [hv1]; exact pk_us
      have nv1 : ∀ i, i ≠ 6 → v1 i = v i := fun i hi => by rw [hv1]; exact pk_un hi
      have hP : va_P D Cl (w9.set 4 (cY4 a v1)) H := by rw [hv1]; exact hP
      have hD : va_D (Az z) (w9.set 4 (cY4 a v1)) := by rw [hv1]; exact hD
      obtain ⟨w2, hw⟩ : ∃ q, q = w9.set 4 (cY4 a v1) := ⟨_, rfl⟩
      have hP : va_P D Cl (w9.set 4 (cY4 a v1)) H := hP
      have hD : va_D (Az z) (w9.set 4 (cY4 a v1)) := hD
      have hF : Fr t ws (w9.set 4 (cY4 a v1)) := hF.set (by decide) (by decide)
      have hI := (by have h9 := hI.setJ (J := N) (by omega) (fun h4 => by obtain ⟨z1, z2, c7, f7, z3, z4⟩ := hJP (by omega); exact ⟨z1, z2, c7, f7, nn, z3, hnn, fun j hj => z4 j (by omega)⟩); rw [show upd v 6 (nI N) = v1 from by rw [hv1, hym]] at h9; exact h9)
      have hq9 : nul (w9.set 4 (cY4 a v1)) = nul w9 := nul_set (by decide)
      rw [← hw] at hP hD hF hI hq9
      clear hw
      have hn : nul w2 ≤ nul ws := by omega
      refine W.widen (k := Kc ws w2) (n := Ks ws w2) (by show 2 * (nul ws - nul w9) ≤ 2 * (nul ws - nul w2); omega) (by show 257 * (nul ws - nul w9) ≤ 257 * (nul ws - nul w2); omega) ?_
      refine mu_end (u := w2) (v := (none)) ⟨_, _, hI, hF, hn, rfl, nv1, by rw [gv1]; exact hym⟩ (Nat.le_refl _) (Nat.le_refl _) ?_
      exact W.vret hx hb hr (fun t9 ht hW => ⟨rfl, ⟨by rw [ht]; exact hP, va_K.moved hW.alike hK, hD, by rw [ht]; exact Nat.le_trans hz hS.1⟩, hS.F ht⟩) hS.2.2 d_Y_write_57
    | succ n9 ih =>
      intro i k9 w9 H locs ls hi9 hP hD hS hI hF hn hJP hr9w hl
      refine lv_iload hx hb d_Y_write_3 (lv_at hl 0 rfl) ?_
      refine lv_iload_n hx hb d_Y_write_5 rfl (lv_at hl 4 rfl) ?_
      refine lv_icmp_ge (tgt := 43) hx hb d_Y_write_6 rfl (fun h => absurd h (by rw [hyN]; exact nI_ge (by omega) (by omega))) (fun _ => ?_)
      refine lv_aload_n hx hb d_Y_write_9 rfl (lv_at hl 1 rfl) ?_
      refine va_get (D := D) (ci := 3) (v := .ref (a 5)) (C := R_Y) (T := F_Y) (N := 2) hx hb hts ws_Y hown hK hP 4 hI.y4 rfl 0 (by decide) (hts _ fl_Y_20) (fun _ h9 => h9) rfl d_Y_write_10 ?_
      refine lv_iload_n hx hb d_Y_write_13 rfl (lv_at hl 2 rfl) ?_
      refine lv_iload hx hb d_Y_write_14 (lv_at hl 0 rfl) ?_
      refine lv_iadd hx hb d_Y_write_16 ?_
      refine lv_sipush (v := 256) hx hb d_Y_write_17 (by decide) ?_
      refine lv_idiv hx hb d_Y_write_20 (by decide) ?_
      refine lv_topi (fun y3 hy3 => ?_)
      have hy3 : y3 = nI 0 := by rw [hy3, hxA]; exact wr_div0 (by omega)
      refine mu_V (n := 1) (As := [.int y3]) (rest := []) ⟨hx, hb, hml, hown, hts⟩ (c_K_bytesOfS' (D := D) (t := t) (z := z) (sa := sa) (ws := w9) (pm := 6) (i := 0) hI hI.k5 (by decide) (show 0 < Nn 6 from by decide) hy3) ml_Y_24 im_K_bytesOf se_K_bytesOf in_K cd_K_bytesOf (by decide +kernel) ⟨Nat.le_of_ble_eq_true rfl, Nat.le_of_ble_eq_true rfl⟩ (va_recv hK hP (ci := 1) rfl hI.k5) (Pz_at hP hK hD hz hM hS) rfl hl.1 rfl (Nat.le_of_ble_eq_true rfl) d_Y_write_21 ⟨by show 2 * (nul ws - nul w9) + (2 * nul w9 + 1) ≤ 2 * nul ws + 1; omega, by show 257 * (nul ws - nul w9) + (257 * nul w9 + 6) ≤ 257 * nul ws + 6; omega⟩ hS (fun _ _ _ _ _ _ h => h.elim) (fun r9 u4 H locs hp hP hD hS => ?_)
      obtain ⟨c8, k8, k1, f8, hr9, h42, hcc, hsp, hI, hF9, hn9, hj9, hq9, hfl, hsame⟩ := hp
      subst hr9
      have hF := hF.trans hF9
      have hk8 : k8 = k1 := hsp.mpr ⟨rfl, rfl⟩
      subst hk8
      have hr9w := (hq9 9 (by decide) (by decide)).trans hr9w
      have hf8 : ∀ j, j < i → f8 j = byt nn j := fun j hj => by
        obtain ⟨z1, z2, c7, f7, z3, z4⟩ := hJP (by omega)
        obtain ⟨z5, z6⟩ := hsame z2
        rw [z5, z6] at hcc
        cases hcc.symm.trans z3
        exact z4 j hj
      have hn : nul u4 ≤ nul ws := by omega
      refine W.widen (k := Kc ws u4) (n := Ks ws u4) (by show 2 * (nul ws - nul w9) + 2 * (nul w9 - nul u4) ≤ 2 * (nul ws - nul u4); omega) (by show 257 * (nul ws - nul w9) + 257 * (nul w9 - nul u4) ≤ 257 * (nul ws - nul u4); omega) ?_
      refine W.eq (g2 := F0 m 24 ls [.ref c8]) rfl ?_
      refine lv_iload_n hx hb d_Y_write_24 rfl (lv_at hl 2 rfl) ?_
      refine lv_iload hx hb d_Y_write_25 (lv_at hl 0 rfl) ?_
      refine lv_iadd hx hb d_Y_write_27 ?_
      refine lv_sipush (v := 256) hx hb d_Y_write_28 (by decide) ?_
      refine lv_irem hx hb d_Y_write_31 (by decide) ?_
      refine lv_topi (fun r8 hr8 => ?_)
      have hr8 : r8 = nI i := by rw [hr8, hxA]; exact wr_rem0 (by omega)
      refine lv_aload_n hx hb d_Y_write_32 rfl (lv_at hl 3 rfl) ?_
      refine lv_iload hx hb d_Y_write_33 (lv_at hl 0 rfl) ?_
      refine va_bald (D := D) hx hb hK hP 9 0 hr9w rfl (i := nI i) (vp_in_nI (by omega) (by omega)) d_Y_write_35 ?_
      refine lv_topi (fun y5 hy5 => ?_)
      have hy5 : y5 = byt nn i := by rw [hy5, nI_clamp (by omega)]; exact hrb i (by omega)
      refine va_bast (D := D) hx hb hK hP hD hS k8 0 hcc rfl (i := r8) (x := y5) (by rw [hr8]; exact vp_in_nI (by omega) (by decide)) d_Y_write_36 (fun H locs hP hD hS => ?_)
      rw [hr8, nI_clamp (by omega), hy5, nar_byt] at hP hD
      have hfn := sb_fitU (k := i) (hI.bf k8 _ _ _ (Or.inr h42) hcc) (by have h9 := bfit (byt nn i); rw [nar_byt] at h9; exact h9)
      obtain ⟨fn, hfn9⟩ : ∃ q, q = upd f8 i (byt nn i) := ⟨_, rfl⟩
      rw [← hfn9] at hP hD hfn
      have hJP2 : JP a t k8 nn (i + 1) (u4.set k8 (cA t c8 fn)) := fun _ => by
        obtain ⟨g9, b9, z1, z2⟩ := hfl
        refine ⟨h42, ⟨g9, b9, lk_ne z1 (by omega), z2⟩, c8, fn, lk_set hcc, fun j hj => ?_⟩
        rw [hfn9]
        by_cases h : j = i
        · subst h; exact pk_us
        · rw [pk_un h]; exact hf8 j (by omega)
      have hr9w : (u4.set k8 (cA t c8 fn))[9]? = some (a 9, .inl (t 0, 260, .inl r0)) := lk_ne hr9w (by omega)
      obtain ⟨w6, hw⟩ : ∃ q, q = u4.set k8 (cA t c8 fn) := ⟨_, rfl⟩
      have hP : va_P D Cl (u4.set k8 (cA t c8 fn)) H := hP
      have hD : va_D (Az z) (u4.set k8 (cA t c8 fn)) := hD
      have hF : Fr t ws (u4.set k8 (cA t c8 fn)) := hF.setA hcc (Or.inr h42)
      have hI := hI.setB (f1 := fn) h42 hcc (fun _ h => absurd h (by rw [hv6]; decide)) hfn
      have hq9 : nul (u4.set k8 (cA t c8 fn)) = nul u4 := nul_set (fun h => by have := mds_lt h; omega)
      rw [← hw] at hP hD hF hI hq9
      rw [← hw] at hJP2 hr9w
      clear hw
      have hn : nul w6 ≤ nul ws := by omega
      refine W.widen (k := Kc ws w6) (n := Ks ws w6) (by show 2 * (nul ws - nul u4) ≤ 2 * (nul ws - nul w6); omega) (by show 257 * (nul ws - nul u4) ≤ 257 * (nul ws - nul w6); omega) ?_
      refine lv_iinc (k := 0) (v := nI (i + 1)) (lv' := [(4, .int (nI (i + 1))), (0, .ref (a 4)), (1, .int x9), (2, .ref (a 9)), (3, .int y9)]) hx hb d_Y_write_37 hl rfl (nI_1 i) (by decide) rfl (fun ls hl => ?_)
      refine lv_goto (tgt := 3) hx hb d_Y_write_40 rfl ?_
      exact ih (i + 1) _ w6 H locs ls (by omega) hP hD hS hI hF hn hJP2 hr9w hl
  exact key N 0 k0 ws _ _ _ (Nat.zero_add _) hP hD hS hI hF hn (fun h => absurd h (by decide)) hr0 hl
