/-- what a made-table says of one place: its bytes lie at k', the journal's first block apart -/
theorem Iv.blk {a : Nat → Nat} {t : Nat → ClassId} {k0 : Nat} {v : Nat → Int32} {ws : va_W} (h : Iv a t k0 v ws) {pm : Nat} (hp : pm ∈ Mds) : ∃ g, ws[pm]? = some (a pm, .inl (t 2, Nn pm, qA g)) ∧ ∀ i, i < Nn pm → ∀ b, g i = some b → Bk t k0 ws b (pm = 6 ∧ i = 0) := h.2.2.1 pm hp
/-- a new block: b, its bytes c, laid into place i of the table at pm -/
theorem Iv.mk {a : Nat → Nat} {t : Nat → ClassId} {k0 pm i b c : Nat} {v : Nat → Int32} {ws : va_W} {g : Nat → Option Nat} (h : Iv a t k0 v ws) (hp : pm ∈ Mds) (he : ws[pm]? = some (a pm, .inl (t 2, Nn pm, qA g))) (hi : i < Nn pm) (hg : g i = none) :
    ∃ k1, Iv a t k1 v (((ws ++ [cB b c]) ++ [cA t c (fun _ => 0)]).set pm (cM a t pm (va_up g i (some b)))) ∧ (ws.length + 1 = k1 ↔ pm = 6 ∧ i = 0) ∧ (4 ≤ v 6 ∨ ¬ (pm = 6 ∧ i = 0) → k1 = k0) := by
  obtain ⟨⟨h0, h1, h2, h4, h5, ⟨gl, h7, hg7⟩, h8, ⟨r, h10⟩, hz, hk, hh⟩, hb, hB, hN, hl, hk0⟩ := h
  have hpl := mds_lt hp
  have up : ∀ {j : Nat} {e : Nat × va_E}, ws[j]? = some e → ((ws ++ [cB b c]) ++ [cA t c (fun _ => 0)])[j]? = some e := fun q => lk_push (lk_push q)
  have nw : ((ws ++ [cB b c]) ++ [cA t c (fun _ => 0)])[ws.length]? = some (cB b c) := lk_push (lk_new rfl)
  have nc : ((ws ++ [cB b c]) ++ [cA t c (fun _ => 0)])[ws.length + 1]? = some (cA t c (fun _ => 0)) := lk_new (by rw [List.length_append]; rfl)
  have ne : ∀ {j : Nat}, j < 42 → j ∉ Mds → pm ≠ j := fun _ q e => q (by rw [← e]; exact hp)
  have nz : ∀ {j : Nat}, j < 6 → 10 + 4 * j ∉ Mds := fun _ q => by rcases mds_cases q with q | q | ⟨_, _, q⟩ <;> omega
  have nk : ∀ {j : Nat}, j < 6 → 11 + 4 * j ∉ Mds := fun _ q => by rcases mds_cases q with q | q | ⟨_, _, q⟩ <;> omega
  have nh : ∀ {j : Nat}, j < 6 → 13 + 4 * j ∉ Mds := fun _ q => by rcases mds_cases q with q | q | ⟨_, _, q⟩ <;> omega
  have key : ∀ k1, (ws.length + 1 = k1 ↔ pm = 6 ∧ i = 0) → (∀ k', 42 ≤ k' → k' < ws.length → (k' = k1 ↔ k' = k0 ∧ ¬ (pm = 6 ∧ i = 0))) → (k1 = 0 ∨ 42 ≤ k1) → k1 < ws.length + 2 → (4 ≤ v 6 → k1 = k0) →
      Iv a t k1 v (((ws ++ [cB b c]) ++ [cA t c (fun _ => 0)]).set pm (cM a t pm (va_up g i (some b)))) := by
    intro k1 e1 e2 e3 e5 e4
    refine ⟨⟨lk_ne (up h0) (ne (by decide) (by decide)), lk_ne (up h1) (ne (by decide) (by decide)), lk_ne (up h2) (ne (by decide) (by decide)), lk_ne (up h4) (ne (by decide) (by decide)), lk_ne (up h5) (ne (by decide) (by decide)), ⟨gl, lk_ne (up h7) (ne (by decide) (by decide)), hg7⟩, lk_ne (up h8) (ne (by decide) (by decide)), ⟨r, lk_ne (up h10) (ne (by decide) (by decide))⟩,
      fun j hj => lk_ne (up (hz j hj)) (ne (by omega) (nz hj)), fun j hj => lk_ne (up (hk j hj)) (ne (by omega) (nk hj)), fun j hj => ?_⟩, hb, fun pm' hp' => ?_, fun q => ?_, by rw [List.length_set, List.length_append, List.length_append]; omega, e3, by rw [List.length_set, List.length_append, List.length_append]; exact e5, fun k c9 L f g9 q => ?_⟩
    · obtain ⟨h11, e9, e8⟩ := hh j hj
      exact ⟨h11, lk_ne (up e9) (ne (by omega) (nh hj)), e8⟩
    · have keep : ∀ (j b' : Nat), ¬ (pm' = pm ∧ j = i) → Bk t k0 ws b' (pm' = 6 ∧ j = 0) → Bk t k1 (((ws ++ [cB b c]) ++ [cA t c (fun _ => 0)]).set pm (cM a t pm (va_up g i (some b)))) b' (pm' = 6 ∧ j = 0) := by
        intro j b' hne hbk
        obtain ⟨k, c9, k', f, q1, q2, q3, q4, q5⟩ := hbk
        have hlt : k' < ws.length := (List.getElem?_eq_some_iff.mp q4).1
        refine ⟨k, c9, k', f, q1, q2, lk_ne (up q3) (by omega), lk_ne (up q4) (by omega), ?_⟩
        rw [e2 k' q2 hlt]
        constructor
        · rintro ⟨z1, z2⟩
          exact q5.mp z1
        · intro z1
          refine ⟨q5.mpr z1, fun z2 => hne ⟨z1.1.trans z2.1.symm, z1.2.trans z2.2.symm⟩⟩
      by_cases e : pm' = pm
      · subst e
        refine ⟨_, lk_set (up he), fun j hj b' hb' => ?_⟩
        by_cases ej : j = i
        · subst ej
          rw [va_up_self] at hb'
          cases hb'
          exact ⟨ws.length, c, ws.length + 1, _, hl, by omega, lk_ne nw (by omega), lk_ne nc (by omega), e1⟩
        · rw [va_up_ne _ _ ej] at hb'
          obtain ⟨g', he', hg'⟩ := hB pm' hp'
          cases he.symm.trans he'
          exact keep j b' (fun z => ej z.2) (hg' j hj b' hb')
      · obtain ⟨g', he', hg'⟩ := hB pm' hp'
        exact ⟨g', lk_ne (up he') (fun z => e z.symm), fun j hj b' hb' => keep j b' (fun z => e z.1) (hg' j hj b' hb')⟩
    · obtain ⟨g1, ⟨g9, b9, g2, g3⟩, c9, f, n, q1, q2, q3⟩ := hN q
      rw [e4 q]
      refine ⟨g1, ?_, c9, f, n, lk_ne (up q1) (by omega), q2, q3⟩
      by_cases e6 : pm = 6
      · subst e6
        cases he.symm.trans g2
        refine ⟨_, b9, lk_set (up he), ?_⟩
        rw [va_up_ne _ _ (fun e => by rw [← e, g3] at hg; cases hg)]
        exact g3
      · exact ⟨g9, b9, lk_ne (up g2) e6, g3⟩
    · have hp9 : pm ≠ 9 := fun h => by rw [h] at hp; exact absurd hp (by decide)
      rw [List.getElem?_set_ne (by omega)] at q
      by_cases h1 : k < ws.length
      · rw [List.append_assoc, List.getElem?_append_left h1] at q
        exact hk0.2.2 k c9 L f g9 q
      · have h2 : k < ws.length + 2 := by have h3 := (List.getElem?_eq_some_iff.mp q).1; rw [List.length_append, List.length_append] at h3; exact h3
        rcases (show k = ws.length ∨ k = ws.length + 1 by omega) with rfl | rfl
        · rw [nw] at q; cases q
        · rw [nc] at q; cases q; exact sb_fit0
  by_cases sp : pm = 6 ∧ i = 0
  · have hno : 4 ≤ v 6 → False := fun q => by
      obtain ⟨g1, ⟨g9, b9, g2, g3⟩, -⟩ := hN q
      obtain ⟨rfl, rfl⟩ := sp
      cases he.symm.trans g2
      rw [g3] at hg
      cases hg
    refine ⟨ws.length + 1, key _ (iff_of_true rfl sp) (fun k' h1 h2 => ?_) (Or.inr (by omega)) (by omega) (fun q => (hno q).elim), iff_of_true rfl sp, fun q => q.elim (fun q => (hno q).elim) (fun q => (q sp).elim)⟩
    constructor
    · intro z; omega
    · rintro ⟨-, z⟩
      exact (z sp).elim
  · have hk0' := hk0.2.1
    refine ⟨k0, key _ ⟨fun z => by omega, fun z => (sp z).elim⟩ (fun k' h1 h2 => ⟨fun z => ⟨z, sp⟩, fun z => z.1⟩) hk0.1 (by omega) (fun _ => rfl), ⟨fun z => by omega, fun z => (sp z).elim⟩, fun _ => rfl⟩
