/-! the class's shape: cells at fixed places, blocks behind place 42 -/
abbrev qA (g : Nat → Option Nat) : (Nat → Int32) ⊕ (Nat → Int64) ⊕ (Nat → UInt32) ⊕ (Nat → UInt64) ⊕ (Nat → Option Nat) := .inr (.inr (.inr (.inr g)))
abbrev cX (a : Nat → Nat) (v : Nat → Int32) : Nat × va_E := (a 0, .inr (5, [.ref (a 1), .ref (a 4), .ref (a 7), .ref (a 8), .ref (a 9), .int (v 0), .int (v 1), .int (v 2), .int (v 3), .int (v 4)]))
abbrev cY1 (a : Nat → Nat) (v : Nat → Int32) : Nat × va_E := (a 1, .inr (3, [.ref (a 2), .int (v 5)]))
abbrev cY4 (a : Nat → Nat) (v : Nat → Int32) : Nat × va_E := (a 4, .inr (3, [.ref (a 5), .int (v 6)]))
abbrev cU (a : Nat → Nat) (v : Nat → Int32) : Nat × va_E := (a 8, .inr (2, [.int (v 7), .int (v 8), .int (v 9), .int (v 10)]))
abbrev cZ (a : Nat → Nat) (v : Nat → Int32) (j : Nat) : Nat × va_E := (a (10 + 4 * j), .inr (4, [.ref (a (11 + 4 * j)), .ref (a (13 + 4 * j)), .int (v (11 + j))]))
def Nn (pm : Nat) : Nat := if pm = 6 then 781 else 768
abbrev cB (b c : Nat) : Nat × va_E := (b, .inr (0, [.ref c]))
abbrev cA (t : Nat → ClassId) (c : Nat) (f : Nat → Int32) : Nat × va_E := (c, .inl (t 0, 256, .inl f))
abbrev cM (a : Nat → Nat) (t : Nat → ClassId) (pm : Nat) (g : Nat → Option Nat) : Nat × va_E := (a pm, .inl (t 2, Nn pm, qA g))
def SV (a : Nat → Nat) (t : Nat → ClassId) (v : Nat → Int32) (ws : va_W) : Prop :=
  ws[0]? = some (cX a v) ∧ ws[1]? = some (cY1 a v) ∧ ws[2]? = some (a 2, .inr (1, [.ref (a 3)])) ∧ ws[4]? = some (cY4 a v) ∧ ws[5]? = some (a 5, .inr (1, [.ref (a 6)])) ∧
  (∃ gl, ws[7]? = some (a 7, .inl (t 3, 6, qA gl)) ∧ ∀ j, j < 6 → gl j = some (a (10 + 4 * j))) ∧ ws[8]? = some (cU a v) ∧ (∃ r, ws[9]? = some (a 9, .inl (t 0, 260, .inl r))) ∧
  (∀ j, j < 6 → ws[10 + 4 * j]? = some (cZ a v j)) ∧ (∀ j, j < 6 → ws[11 + 4 * j]? = some (a (11 + 4 * j), .inr (1, [.ref (a (12 + 4 * j))]))) ∧ (∀ j, j < 6 → ∃ h, ws[13 + 4 * j]? = some (a (13 + 4 * j), .inl (t 1, 768, .inl h)) ∧ ∀ i, h i = 0 ∨ h i = 1)
def Bk (t : Nat → ClassId) (k0 : Nat) (ws : va_W) (b : Nat) (sp : Prop) : Prop := ∃ (k c k' : Nat) (f : Nat → Int32), 42 ≤ k ∧ 42 ≤ k' ∧ ws[k]? = some (b, .inr (0, [.ref c])) ∧ ws[k']? = some (c, .inl (t 0, 256, .inl f)) ∧ (k' = k0 ↔ sp)
def BI (a : Nat → Nat) (t : Nat → ClassId) (k0 : Nat) (ws : va_W) : Prop := ∀ pm, pm ∈ Mds → ∃ g, ws[pm]? = some (a pm, .inl (t 2, Nn pm, qA g)) ∧ ∀ i, i < Nn pm → ∀ b, g i = some b → Bk t k0 ws b (pm = 6 ∧ i = 0)
def Bd (v : Nat → Int32) : Prop := (∃ M : Nat, M ≤ 5 ∧ v 2 = nI M) ∧ (∃ C : Nat, C ≤ 768 ∧ v 3 = nI C) ∧ (∃ F : Nat, F ≤ 196608 ∧ v 5 = nI F) ∧ (∃ J : Nat, J ≤ 199684 ∧ v 6 = nI J) ∧ (∃ B : Nat, B ≤ 300 ∧ v 9 = nI B) ∧ (∀ j, j < 6 → ∃ P : Nat, P ≤ 768 ∧ v (11 + j) = nI P) ∧ (v 10 = 0 ∨ v 10 = 1)
/-- the bytes of a number, as the class lays them -/
def byt (n i : Nat) : Int32 := (nI n >>> (nI (8 * i) &&& 31)).toInt8.toInt32
/-- the journal's first block is there, its first four bytes are a number -/
def JB (a : Nat → Nat) (t : Nat → ClassId) (k0 : Nat) (ws : va_W) : Prop := 42 ≤ k0 ∧ (∃ (g : Nat → Option Nat) (b : Nat), ws[6]? = some (a 6, .inl (t 2, Nn 6, qA g)) ∧ g 0 = some b) ∧ ∃ (c : Nat) (f : Nat → Int32) (n : Nat), ws[k0]? = some (c, .inl (t 0, 256, .inl f)) ∧ n ≤ 768 ∧ ∀ i, i < 4 → f i = byt n i
def JN (a : Nat → Nat) (t : Nat → ClassId) (k0 : Nat) (v : Nat → Int32) (ws : va_W) : Prop := 4 ≤ v 6 → JB a t k0 ws
/-- what byte arrays hold are bytes -/
def BF (t : Nat → ClassId) (ws : va_W) : Prop := ∀ (k c L : Nat) (f : Nat → Int32), k = 9 ∨ 42 ≤ k → ws[k]? = some (c, .inl (t 0, L, .inl f)) → sb_Fit f
theorem BF.fix {t : Nat → ClassId} {ws : va_W} {p : Nat} {c : Nat × va_E} (h : BF t ws) (hp : p < 34) (h9 : p ≠ 9) : BF t (ws.set p c) := fun k c9 L f g q => by
  rw [List.getElem?_set_ne (by omega)] at q
  exact h k c9 L f g q
theorem BF.put {t : Nat → ClassId} {ws : va_W} {p c0 L0 : Nat} {f0 f1 : Nat → Int32} (h : BF t ws) (he : ws[p]? = some (c0, .inl (t 0, L0, .inl f0))) (hf : sb_Fit f1) : BF t (ws.set p (c0, .inl (t 0, L0, .inl f1))) := fun k c9 L f g q => by
  by_cases e : p = k
  · subst e
    rw [lk_set he] at q
    cases q
    exact hf
  · rw [List.getElem?_set_ne e] at q
    exact h k c9 L f g q
def Iv (a : Nat → Nat) (t : Nat → ClassId) (k0 : Nat) (v : Nat → Int32) (ws : va_W) : Prop := SV a t v ws ∧ Bd v ∧ BI a t k0 ws ∧ JN a t k0 v ws ∧ 42 ≤ ws.length ∧ (k0 = 0 ∨ 42 ≤ k0) ∧ k0 < ws.length ∧ BF t ws
/-- the model's cells stay, byte arrays (the record, blocks) stay byte arrays -/
def Fr (t : Nat → ClassId) (ws u : va_W) : Prop := ws.length ≤ u.length ∧ (∀ p, 34 ≤ p → p < 42 → u[p]? = ws[p]?) ∧ ∀ (k c L : Nat) (f : Nat → Int32), k = 9 ∨ 42 ≤ k → ws[k]? = some (c, .inl (t 0, L, .inl f)) → ∃ f', u[k]? = some (c, .inl (t 0, L, .inl f'))
theorem Fr.rf {t : Nat → ClassId} {ws : va_W} : Fr t ws ws := ⟨Nat.le_refl _, fun _ _ _ => rfl, fun k c L f _ h => ⟨f, h⟩⟩
theorem Fr.trans {t : Nat → ClassId} {ws u w : va_W} (h : Fr t ws u) (h2 : Fr t u w) : Fr t ws w := ⟨Nat.le_trans h.1 h2.1, fun p h1 h3 => (h2.2.1 p h1 h3).trans (h.2.1 p h1 h3), fun k c L f g q => by
  obtain ⟨f1, q1⟩ := h.2.2 k c L f g q
  exact h2.2.2 k c L f1 g q1⟩
theorem Fr.set {t : Nat → ClassId} {ws u : va_W} {p : Nat} {c : Nat × va_E} (h : Fr t ws u) (hp : p < 34) (h9 : p ≠ 9) : Fr t ws (u.set p c) := ⟨by rw [List.length_set]; exact h.1, fun q h1 h2 => by rw [List.getElem?_set_ne (by omega)]; exact h.2.1 q h1 h2, fun k c9 L f g q => by
  obtain ⟨f1, q1⟩ := h.2.2 k c9 L f g q
  exact ⟨f1, lk_ne q1 (by omega)⟩⟩
theorem Fr.setA {t : Nat → ClassId} {ws u : va_W} {p c0 L0 : Nat} {f0 f1 : Nat → Int32} (h : Fr t ws u) (he : u[p]? = some (c0, .inl (t 0, L0, .inl f0))) (hp : p < 34 ∨ 42 ≤ p) : Fr t ws (u.set p (c0, .inl (t 0, L0, .inl f1))) := ⟨by rw [List.length_set]; exact h.1, fun q h1 h2 => by rw [List.getElem?_set_ne (by omega)]; exact h.2.1 q h1 h2, fun k c9 L f g q => by
  obtain ⟨f9, q1⟩ := h.2.2 k c9 L f g q
  by_cases e : p = k
  · subst e
    cases he.symm.trans q1
    exact ⟨f1, lk_set he⟩
  · exact ⟨f9, lk_ne q1 e⟩⟩
theorem Fr.push {t : Nat → ClassId} {ws u c : va_W} (h : Fr t ws u) (hl : 42 ≤ ws.length) : Fr t ws (u ++ c) := ⟨by rw [List.length_append]; exact Nat.le_trans h.1 (Nat.le_add_right _ _), fun q h1 h2 => by rw [List.getElem?_append_left (by have := h.1; omega)]; exact h.2.1 q h1 h2, fun k c9 L f g q => by
  obtain ⟨f1, q1⟩ := h.2.2 k c9 L f g q
  exact ⟨f1, lk_push q1⟩⟩
theorem mds_lt {p : Nat} (h : p ∈ Mds) : p < 34 := by
  have hp : p = 3 ∨ p = 6 ∨ p = 12 ∨ p = 16 ∨ p = 20 ∨ p = 24 ∨ p = 28 ∨ p = 32 := by simpa [Mds] using h
  omega
theorem mds_cases {p : Nat} (h : p ∈ Mds) : p = 3 ∨ p = 6 ∨ ∃ j, j < 6 ∧ p = 12 + 4 * j := by
  have hp : p = 3 ∨ p = 6 ∨ p = 12 ∨ p = 16 ∨ p = 20 ∨ p = 24 ∨ p = 28 ∨ p = 32 := by simpa [Mds] using h
  rcases hp with h | h | h | h | h | h | h | h
  · exact Or.inl h
  · exact Or.inr (Or.inl h)
  · exact Or.inr (Or.inr ⟨0, by omega, by omega⟩)
  · exact Or.inr (Or.inr ⟨1, by omega, by omega⟩)
  · exact Or.inr (Or.inr ⟨2, by omega, by omega⟩)
  · exact Or.inr (Or.inr ⟨3, by omega, by omega⟩)
  · exact Or.inr (Or.inr ⟨4, by omega, by omega⟩)
  · exact Or.inr (Or.inr ⟨5, by omega, by omega⟩)
theorem mds_j {j : Nat} (h : j < 6) : 12 + 4 * j ∈ Mds := by
  rcases (show j = 0 ∨ j = 1 ∨ j = 2 ∨ j = 3 ∨ j = 4 ∨ j = 5 by omega) with rfl | rfl | rfl | rfl | rfl | rfl <;> decide
theorem nul_set {ws : va_W} {p : Nat} {c : Nat × va_E} (h : p ∉ Mds) : nul (ws.set p c) = nul ws := nul_eq (fun q hq => List.getElem?_set_ne (fun e => h (by rw [e]; exact hq)))
theorem nul_push {ws c : va_W} (h : 34 ≤ ws.length) : nul (ws ++ c) = nul ws := nul_eq (fun q hq => List.getElem?_append_left (by have := mds_lt hq; omega))
theorem Bk.fix {t : Nat → ClassId} {k0 b p : Nat} {ws : va_W} {sp : Prop} {c : Nat × va_E} (h : Bk t k0 ws b sp) (hp : p < 34) : Bk t k0 (ws.set p c) b sp := by
  obtain ⟨k, c9, k', f, h1, h2, h3, h4, h5⟩ := h
  exact ⟨k, c9, k', f, h1, h2, lk_ne h3 (by omega), lk_ne h4 (by omega), h5⟩
theorem Bk.push {t : Nat → ClassId} {k0 b : Nat} {ws c : va_W} {sp : Prop} (h : Bk t k0 ws b sp) : Bk t k0 (ws ++ c) b sp := by
  obtain ⟨k, c9, k', f, h1, h2, h3, h4, h5⟩ := h
  exact ⟨k, c9, k', f, h1, h2, lk_push h3, lk_push h4, h5⟩
/-- another byte array is written: all blocks are still such -/
theorem Bk.put {t : Nat → ClassId} {k0 b p c0 : Nat} {ws : va_W} {sp : Prop} {f0 f1 : Nat → Int32} (h : Bk t k0 ws b sp) (he : ws[p]? = some (c0, .inl (t 0, 256, .inl f0))) : Bk t k0 (ws.set p (c0, .inl (t 0, 256, .inl f1))) b sp := by
  obtain ⟨k, c9, k', f, h1, h2, h3, h4, h5⟩ := h
  have hk : p ≠ k := fun e => by rw [e] at he; cases he.symm.trans h3
  by_cases e : p = k'
  · subst e
    cases he.symm.trans h4
    exact ⟨k, _, p, f1, h1, h2, lk_ne h3 hk, lk_set h4, h5⟩
  · exact ⟨k, c9, k', f, h1, h2, lk_ne h3 hk, lk_ne h4 e, h5⟩
theorem BI.fix {a : Nat → Nat} {t : Nat → ClassId} {k0 p : Nat} {ws : va_W} {c : Nat × va_E} (h : BI a t k0 ws) (hp : p < 34) (hm : p ∉ Mds) : BI a t k0 (ws.set p c) := fun pm hpm => by
  obtain ⟨g, h1, h2⟩ := h pm hpm
  exact ⟨g, lk_ne h1 (fun e => hm (by rw [e]; exact hpm)), fun i hi b hb => (h2 i hi b hb).fix hp⟩
theorem BI.put {a : Nat → Nat} {t : Nat → ClassId} {k0 p c0 : Nat} {ws : va_W} {f0 f1 : Nat → Int32} (h : BI a t k0 ws) (he : ws[p]? = some (c0, .inl (t 0, 256, .inl f0))) (hp : 42 ≤ p) : BI a t k0 (ws.set p (c0, .inl (t 0, 256, .inl f1))) := fun pm hpm => by
  obtain ⟨g, h1, h2⟩ := h pm hpm
  exact ⟨g, lk_ne h1 (by have := mds_lt hpm; omega), fun i hi b hb => (h2 i hi b hb).put he⟩
theorem JB.fix {a : Nat → Nat} {t : Nat → ClassId} {k0 p : Nat} {ws : va_W} {c : Nat × va_E} (h : JB a t k0 ws) (hp : p < 34) (h6 : p ≠ 6) : JB a t k0 (ws.set p c) := by
  obtain ⟨hk, ⟨g, b, g1, g2⟩, c9, f, n, q1, q2⟩ := h
  exact ⟨hk, ⟨g, b, lk_ne g1 h6, g2⟩, c9, f, n, lk_ne q1 (by omega), q2⟩
theorem Iv.bf {a : Nat → Nat} {t : Nat → ClassId} {k0 : Nat} {v : Nat → Int32} {ws : va_W} (h : Iv a t k0 v ws) : BF t ws := h.2.2.2.2.2.2.2
theorem Iv.fix {a : Nat → Nat} {t : Nat → ClassId} {k0 p : Nat} {v v' : Nat → Int32} {ws : va_W} {c : Nat × va_E} (h : Iv a t k0 v ws) (hp : p < 34) (hm : p ∉ Mds) (hs : SV a t v' (ws.set p c)) (hb : Bd v') (h6 : 4 ≤ v' 6 → 4 ≤ v 6) (hbf : BF t (ws.set p c)) : Iv a t k0 v' (ws.set p c) := by
  obtain ⟨-, -, h3, h4, h5, h7⟩ := h
  refine ⟨hs, hb, h3.fix hp hm, fun q => ?_, by rw [List.length_set]; exact h5, h7.1, by rw [List.length_set]; exact h7.2.1, hbf⟩
  exact (h4 (h6 q)).fix hp (fun e => hm (by rw [e]; decide))
/-- a field of x -/
theorem Iv.setX {a : Nat → Nat} {t : Nat → ClassId} {k0 : Nat} {v v' : Nat → Int32} {ws : va_W} (h : Iv a t k0 v ws) (hv : ∀ i, 5 ≤ i → v' i = v i) (hM : ∃ M : Nat, M ≤ 5 ∧ v' 2 = nI M) (hC : ∃ C : Nat, C ≤ 768 ∧ v' 3 = nI C) : Iv a t k0 v' (ws.set 0 (cX a v')) := by
  refine h.fix (by decide) (by decide) ?_ ?_ (fun q => by rw [hv 6 (by decide)] at q; exact q) (h.bf.fix (by decide) (by decide))
  · obtain ⟨⟨h0, h1, h2, h4, h5, ⟨gl, h7, hg⟩, h8, ⟨r, h9⟩, hz, hk, hh⟩, -⟩ := h
    refine ⟨lk_set h0, ?_, lk_ne h2 (by decide), ?_, lk_ne h5 (by decide), ⟨gl, lk_ne h7 (by decide), hg⟩, ?_, ⟨r, lk_ne h9 (by decide)⟩, fun j hj => ?_, fun j hj => lk_ne (hk j hj) (by omega), fun j hj => ?_⟩
    · rw [lk_ne h1 (by decide)]; simp only [cY1, hv 5 (by decide)]
    · rw [lk_ne h4 (by decide)]; simp only [cY4, hv 6 (by decide)]
    · rw [lk_ne h8 (by decide)]; simp only [cU, hv 7 (by decide), hv 8 (by decide), hv 9 (by decide), hv 10 (by decide)]
    · rw [lk_ne (hz j hj) (by omega)]; simp only [cZ, hv (11 + j) (by omega)]
    · obtain ⟨h9, e9, e8⟩ := hh j hj
      exact ⟨h9, lk_ne e9 (by omega), e8⟩
  · obtain ⟨-, ⟨-, -, b3, b4, b5, b6⟩, -⟩ := h
    exact ⟨hM, hC, by rw [hv 5 (by decide)]; exact b3, by rw [hv 6 (by decide)]; exact b4, by rw [hv 9 (by decide)]; exact b5, ⟨fun j hj => by rw [hv (11 + j) (by omega)]; exact b6.1 j hj, by rw [hv 10 (by decide)]; exact b6.2⟩⟩
/-- the fuse -/
theorem Iv.setU {a : Nat → Nat} {t : Nat → ClassId} {k0 : Nat} {v v' : Nat → Int32} {ws : va_W} (h : Iv a t k0 v ws) (hv : ∀ i, i < 7 ∨ 11 ≤ i → v' i = v i) (hB : ∃ B : Nat, B ≤ 300 ∧ v' 9 = nI B) (h10 : v' 10 = 0 ∨ v' 10 = 1) : Iv a t k0 v' (ws.set 8 (cU a v')) := by
  refine h.fix (by decide) (by decide) ?_ ?_ (fun q => by rw [hv 6 (by decide)] at q; exact q) (h.bf.fix (by decide) (by decide))
  · obtain ⟨⟨h0, h1, h2, h4, h5, ⟨gl, h7, hg⟩, h8, ⟨r, h9⟩, hz, hk, hh⟩, -⟩ := h
    refine ⟨?_, ?_, lk_ne h2 (by decide), ?_, lk_ne h5 (by decide), ⟨gl, lk_ne h7 (by decide), hg⟩, lk_set h8, ⟨r, lk_ne h9 (by decide)⟩, fun j hj => ?_, fun j hj => lk_ne (hk j hj) (by omega), fun j hj => ?_⟩
    · rw [lk_ne h0 (by decide)]; simp only [cX, hv 0 (by decide), hv 1 (by decide), hv 2 (by decide), hv 3 (by decide), hv 4 (by decide)]
    · rw [lk_ne h1 (by decide)]; simp only [cY1, hv 5 (by decide)]
    · rw [lk_ne h4 (by decide)]; simp only [cY4, hv 6 (by decide)]
    · rw [lk_ne (hz j hj) (by omega)]; simp only [cZ, hv (11 + j) (by omega)]
    · obtain ⟨h9, e9, e8⟩ := hh j hj
      exact ⟨h9, lk_ne e9 (by omega), e8⟩
  · obtain ⟨-, ⟨b1, b2, b3, b4, -, b6⟩, -⟩ := h
    exact ⟨by rw [hv 2 (by decide)]; exact b1, by rw [hv 3 (by decide)]; exact b2, by rw [hv 5 (by decide)]; exact b3, by rw [hv 6 (by decide)]; exact b4, hB, ⟨fun j hj => by rw [hv (11 + j) (by omega)]; exact b6.1 j hj, h10⟩⟩
/-- the file's length -/
theorem Iv.setF {a : Nat → Nat} {t : Nat → ClassId} {k0 F : Nat} {v : Nat → Int32} {ws : va_W} (h : Iv a t k0 v ws) (hF : F ≤ 196608) : Iv a t k0 (upd v 5 (nI F)) (ws.set 1 (cY1 a (upd v 5 (nI F)))) := by
  have hv : ∀ i, i ≠ 5 → upd v 5 (nI F) i = v i := fun i hi => pk_un hi
  refine h.fix (by decide) (by decide) ?_ ?_ (fun q => by rw [hv 6 (by decide)] at q; exact q) (h.bf.fix (by decide) (by decide))
  · obtain ⟨⟨h0, h1, h2, h4, h5, ⟨gl, h7, hg⟩, h8, ⟨r, h9⟩, hz, hk, hh⟩, -⟩ := h
    refine ⟨?_, lk_set h1, lk_ne h2 (by decide), ?_, lk_ne h5 (by decide), ⟨gl, lk_ne h7 (by decide), hg⟩, ?_, ⟨r, lk_ne h9 (by decide)⟩, fun j hj => ?_, fun j hj => lk_ne (hk j hj) (by omega), fun j hj => ?_⟩
    · rw [lk_ne h0 (by decide)]; simp only [cX, hv 0 (by decide), hv 1 (by decide), hv 2 (by decide), hv 3 (by decide), hv 4 (by decide)]
    · rw [lk_ne h4 (by decide)]; simp only [cY4, hv 6 (by decide)]
    · rw [lk_ne h8 (by decide)]; simp only [cU, hv 7 (by decide), hv 8 (by decide), hv 9 (by decide), hv 10 (by decide)]
    · rw [lk_ne (hz j hj) (by omega)]; simp only [cZ, hv (11 + j) (by omega)]
    · obtain ⟨h9, e9, e8⟩ := hh j hj
      exact ⟨h9, lk_ne e9 (by omega), e8⟩
  · obtain ⟨-, ⟨b1, b2, -, b4, b5, b6⟩, -⟩ := h
    exact ⟨by rw [hv 2 (by decide)]; exact b1, by rw [hv 3 (by decide)]; exact b2, ⟨F, hF, pk_us⟩, by rw [hv 6 (by decide)]; exact b4, by rw [hv 9 (by decide)]; exact b5, ⟨fun j hj => by rw [hv (11 + j) (by omega)]; exact b6.1 j hj, by rw [hv 10 (by decide)]; exact b6.2⟩⟩
/-- the journal's length -/
theorem Iv.setJ {a : Nat → Nat} {t : Nat → ClassId} {k0 J : Nat} {v : Nat → Int32} {ws : va_W} (h : Iv a t k0 v ws) (hJ : J ≤ 199684) (hN : 4 ≤ J → JB a t k0 ws) : Iv a t k0 (upd v 6 (nI J)) (ws.set 4 (cY4 a (upd v 6 (nI J)))) := by
  have hv : ∀ i, i ≠ 6 → upd v 6 (nI J) i = v i := fun i hi => pk_un hi
  obtain ⟨⟨h0, h1, h2, h4, h5, ⟨gl, h7, hg⟩, h8, ⟨r, h9⟩, hz, hk, hh⟩, ⟨b1, b2, b3, -, b5, b6⟩, hB, -, hl, hk0⟩ := h
  refine ⟨?_, ?_, hB.fix (by decide) (by decide), fun q => ?_, by rw [List.length_set]; exact hl, hk0.1, by rw [List.length_set]; exact hk0.2.1, hk0.2.2.fix (by decide) (by decide)⟩
  · refine ⟨?_, ?_, lk_ne h2 (by decide), lk_set h4, lk_ne h5 (by decide), ⟨gl, lk_ne h7 (by decide), hg⟩, ?_, ⟨r, lk_ne h9 (by decide)⟩, fun j hj => ?_, fun j hj => lk_ne (hk j hj) (by omega), fun j hj => ?_⟩
    · rw [lk_ne h0 (by decide)]; simp only [cX, hv 0 (by decide), hv 1 (by decide), hv 2 (by decide), hv 3 (by decide), hv 4 (by decide)]
    · rw [lk_ne h1 (by decide)]; simp only [cY1, hv 5 (by decide)]
    · rw [lk_ne h8 (by decide)]; simp only [cU, hv 7 (by decide), hv 8 (by decide), hv 9 (by decide), hv 10 (by decide)]
    · rw [lk_ne (hz j hj) (by omega)]; simp only [cZ, hv (11 + j) (by omega)]
    · obtain ⟨h9, e9, e8⟩ := hh j hj
      exact ⟨h9, lk_ne e9 (by omega), e8⟩
  · exact ⟨by rw [hv 2 (by decide)]; exact b1, by rw [hv 3 (by decide)]; exact b2, by rw [hv 5 (by decide)]; exact b3, ⟨J, hJ, pk_us⟩, by rw [hv 9 (by decide)]; exact b5, ⟨fun j hj => by rw [hv (11 + j) (by omega)]; exact b6.1 j hj, by rw [hv 10 (by decide)]; exact b6.2⟩⟩
  · have q : (4 : Int32) ≤ nI J := by rw [← pk_us (f := v) (k := 6) (x := nI J)]; exact q
    exact (hN ((nI_leI (a := 4) (by decide) (by omega)).mp q)).fix (by decide) (by decide)
/-- a layer's number of pages -/
theorem Iv.setZ {a : Nat → Nat} {t : Nat → ClassId} {k0 P j : Nat} {v : Nat → Int32} {ws : va_W} (h : Iv a t k0 v ws) (hj : j < 6) (hP : P ≤ 768) : Iv a t k0 (upd v (11 + j) (nI P)) (ws.set (10 + 4 * j) (cZ a (upd v (11 + j) (nI P)) j)) := by
  have hv : ∀ i, i ≠ 11 + j → upd v (11 + j) (nI P) i = v i := fun i hi => pk_un hi
  have hm : 10 + 4 * j ∉ Mds := fun q => by rcases mds_cases q with q | q | ⟨_, _, q⟩ <;> omega
  refine h.fix (by omega) hm ?_ ?_ (fun q => by rw [hv 6 (by omega)] at q; exact q) (h.bf.fix (by omega) (by omega))
  · obtain ⟨⟨h0, h1, h2, h4, h5, ⟨gl, h7, hg⟩, h8, ⟨r, h9⟩, hz, hk, hh⟩, -⟩ := h
    refine ⟨?_, ?_, lk_ne h2 (by omega), ?_, lk_ne h5 (by omega), ⟨gl, lk_ne h7 (by omega), hg⟩, ?_, ⟨r, lk_ne h9 (by omega)⟩, fun i hi => ?_, fun i hi => lk_ne (hk i hi) (by omega), fun i hi => ?_⟩
    · rw [lk_ne h0 (by omega)]; simp only [cX, hv 0 (by omega), hv 1 (by omega), hv 2 (by omega), hv 3 (by omega), hv 4 (by omega)]
    · rw [lk_ne h1 (by omega)]; simp only [cY1, hv 5 (by omega)]
    · rw [lk_ne h4 (by omega)]; simp only [cY4, hv 6 (by omega)]
    · rw [lk_ne h8 (by omega)]; simp only [cU, hv 7 (by omega), hv 8 (by omega), hv 9 (by omega), hv 10 (by omega)]
    · by_cases e : i = j
      · subst e
        exact lk_set (hz i hi)
      · rw [lk_ne (hz i hi) (by omega)]; simp only [cZ, hv (11 + i) (by omega)]
    · obtain ⟨h9, e9, e8⟩ := hh i hi
      exact ⟨h9, lk_ne e9 (by omega), e8⟩
  · obtain ⟨-, ⟨b1, b2, b3, b4, b5, b6⟩, -⟩ := h
    refine ⟨by rw [hv 2 (by omega)]; exact b1, by rw [hv 3 (by omega)]; exact b2, by rw [hv 5 (by omega)]; exact b3, by rw [hv 6 (by omega)]; exact b4, by rw [hv 9 (by omega)]; exact b5, fun i hi => ?_, by rw [hv 10 (by omega)]; exact b6.2⟩
    by_cases e : i = j
    · subst e
      exact ⟨P, hP, pk_us⟩
    · rw [hv (11 + i) (by omega)]; exact b6.1 i hi
/-- a layer's held, the record -/
theorem Iv.setH {a : Nat → Nat} {t : Nat → ClassId} {k0 j : Nat} {v : Nat → Int32} {ws : va_W} {h9 : Nat → Int32} (h : Iv a t k0 v ws) (hj : j < 6) (h01 : ∀ i, h9 i = 0 ∨ h9 i = 1) : Iv a t k0 v (ws.set (13 + 4 * j) (a (13 + 4 * j), .inl (t 1, 768, .inl h9))) := by
  have hm : 13 + 4 * j ∉ Mds := fun q => by rcases mds_cases q with q | q | ⟨_, _, q⟩ <;> omega
  refine h.fix (by omega) hm ?_ h.2.1 (fun q => q) (h.bf.fix (by omega) (by omega))
  obtain ⟨⟨h0, h1, h2, h4, h5, ⟨gl, h7, hg⟩, h8, ⟨r, h10⟩, hz, hk, hh⟩, -⟩ := h
  refine ⟨lk_ne h0 (by omega), lk_ne h1 (by omega), lk_ne h2 (by omega), lk_ne h4 (by omega), lk_ne h5 (by omega), ⟨gl, lk_ne h7 (by omega), hg⟩, lk_ne h8 (by omega), ⟨r, lk_ne h10 (by omega)⟩, fun i hi => lk_ne (hz i hi) (by omega), fun i hi => lk_ne (hk i hi) (by omega), fun i hi => ?_⟩
  obtain ⟨h11, e9, e8⟩ := hh i hi
  by_cases e : i = j
  · subst e
    exact ⟨h9, lk_set e9, h01⟩
  · exact ⟨h11, lk_ne e9 (by omega), e8⟩
theorem Iv.setR {a : Nat → Nat} {t : Nat → ClassId} {k0 : Nat} {v : Nat → Int32} {ws : va_W} {r9 : Nat → Int32} (h : Iv a t k0 v ws) (hr9 : sb_Fit r9) : Iv a t k0 v (ws.set 9 (a 9, .inl (t 0, 260, .inl r9))) := by
  refine h.fix (by decide) (by decide) ?_ h.2.1 (fun q => q) (by obtain ⟨r8, e8⟩ := h.1.2.2.2.2.2.2.2.1; exact h.bf.put e8 hr9)
  obtain ⟨⟨h0, h1, h2, h4, h5, ⟨gl, h7, hg⟩, h8, ⟨r, h10⟩, hz, hk, hh⟩, -⟩ := h
  refine ⟨lk_ne h0 (by omega), lk_ne h1 (by omega), lk_ne h2 (by omega), lk_ne h4 (by omega), lk_ne h5 (by omega), ⟨gl, lk_ne h7 (by omega), hg⟩, lk_ne h8 (by omega), ⟨r9, lk_set h10⟩, fun i hi => lk_ne (hz i hi) (by omega), fun i hi => lk_ne (hk i hi) (by omega), fun i hi => ?_⟩
  obtain ⟨h11, e9, e8⟩ := hh i hi
  exact ⟨h11, lk_ne e9 (by omega), e8⟩
/-- a block's bytes -/
theorem Iv.setB {a : Nat → Nat} {t : Nat → ClassId} {k0 p c0 : Nat} {v : Nat → Int32} {ws : va_W} {f0 f1 : Nat → Int32} (h : Iv a t k0 v ws) (hp : 42 ≤ p) (he : ws[p]? = some (c0, .inl (t 0, 256, .inl f0))) (hf : p = k0 → 4 ≤ v 6 → ∀ i, i < 4 → f1 i = f0 i) (hfit : sb_Fit f1) : Iv a t k0 v (ws.set p (c0, .inl (t 0, 256, .inl f1))) := by
  obtain ⟨⟨h0, h1, h2, h4, h5, ⟨gl, h7, hg⟩, h8, ⟨r, h10⟩, hz, hk, hh⟩, hb, hB, hN, hl, hk0⟩ := h
  refine ⟨⟨lk_ne h0 (by omega), lk_ne h1 (by omega), lk_ne h2 (by omega), lk_ne h4 (by omega), lk_ne h5 (by omega), ⟨gl, lk_ne h7 (by omega), hg⟩, lk_ne h8 (by omega), ⟨r, lk_ne h10 (by omega)⟩, fun i hi => lk_ne (hz i hi) (by omega), fun i hi => lk_ne (hk i hi) (by omega), fun i hi => ?_⟩, hb, hB.put he hp, fun q => ?_, by rw [List.length_set]; exact hl, hk0.1, by rw [List.length_set]; exact hk0.2.1, hk0.2.2.put he hfit⟩
  · obtain ⟨h11, e9, e8⟩ := hh i hi
    exact ⟨h11, lk_ne e9 (by omega), e8⟩
  · obtain ⟨g1, ⟨g, b, g2, g3⟩, c9, f, n, q1, q2, q3⟩ := hN q
    refine ⟨g1, ⟨g, b, lk_ne g2 (by omega), g3⟩, ?_⟩
    by_cases e : p = k0
    · subst e
      cases he.symm.trans q1
      exact ⟨_, f1, n, lk_set q1, q2, fun i hi => (hf rfl q i hi).trans (q3 i hi)⟩
    · exact ⟨c9, f, n, lk_ne q1 e, q2, q3⟩
