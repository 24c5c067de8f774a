/-! how many places for blocks are not yet filled: what making them may still cost -/
def cnt (g : Nat → Option Nat) : Nat → Nat
  | 0 => 0
  | n + 1 => cnt g n + (if g n = none then 1 else 0)
theorem cnt_congr {g h : Nat → Option Nat} : ∀ {n : Nat}, (∀ i, i < n → g i = h i) → cnt g n = cnt h n
  | 0, _ => rfl
  | n + 1, e => by
    show cnt g n + _ = cnt h n + _
    rw [cnt_congr (fun i hi => e i (Nat.lt_succ_of_lt hi)), e n (Nat.lt_succ_self n)]
theorem cnt_out {g : Nat → Option Nat} {i n : Nat} {v : Option Nat} (h : n ≤ i) : cnt (va_up g i v) n = cnt g n := cnt_congr (fun j hj => va_up_ne _ _ (by omega))
theorem cnt_fill {g : Nat → Option Nat} {i b : Nat} (hg : g i = none) : ∀ {n : Nat}, i < n → cnt (va_up g i (some b)) n + 1 = cnt g n
  | 0, h => absurd h (Nat.not_lt_zero i)
  | n + 1, h => by
    show cnt (va_up g i (some b)) n + _ + 1 = cnt g n + _
    by_cases e : i = n
    · subst e
      rw [cnt_out (Nat.le_refl i), va_up_self, hg]
      simp
    · have := cnt_fill (b := b) hg (n := n) (by omega)
      rw [va_up_ne _ _ (by omega : n ≠ i)]
      omega
theorem cnt_same {g : Nat → Option Nat} {i : Nat} {v : Option Nat} (hg : g i = none ↔ v = none) : ∀ {n : Nat}, cnt (va_up g i v) n = cnt g n
  | 0 => rfl
  | n + 1 => by
    show cnt (va_up g i v) n + _ = cnt g n + _
    rw [cnt_same hg]
    by_cases e : n = i
    · subst e
      rw [va_up_self]
      by_cases h : g n = none
      · rw [if_pos h, if_pos (hg.mp h)]
      · rw [if_neg h, if_neg (fun q => h (hg.mpr q))]
    · rw [va_up_ne _ _ e]
theorem cnt_swap {g h : Nat → Option Nat} {i : Nat} : ∀ {n : Nat}, i < n → cnt (va_up g i (h i)) n + cnt (va_up h i (g i)) n = cnt g n + cnt h n
  | 0, q => absurd q (Nat.not_lt_zero i)
  | n + 1, q => by
    show (cnt (va_up g i (h i)) n + _) + (cnt (va_up h i (g i)) n + _) = (cnt g n + _) + (cnt h n + _)
    by_cases e : i = n
    · subst e
      rw [cnt_out (Nat.le_refl i), cnt_out (Nat.le_refl i), va_up_self, va_up_self]
      omega
    · have := cnt_swap (g := g) (h := h) (n := n) (i := i) (by omega)
      rw [va_up_ne _ _ (by omega : n ≠ i), va_up_ne _ _ (by omega : n ≠ i)]
      omega
theorem cnt_le {g : Nat → Option Nat} : ∀ {n : Nat}, cnt g n ≤ n
  | 0 => Nat.le_refl 0
  | n + 1 => by
    show cnt g n + _ ≤ n + 1
    have := cnt_le (g := g) (n := n)
    by_cases h : g n = none
    · rw [if_pos h]; omega
    · rw [if_neg h]; omega
def nulA : Option (Nat × va_E) → Nat
  | some (_, .inl (_, n, .inr (.inr (.inr (.inr g))))) => cnt g n
  | _ => 0
/-- the places of the tables of blocks -/
def Mds : List Nat := [3, 6, 12, 16, 20, 24, 28, 32]
def nul (ws : va_W) : Nat := nulA ws[3]? + nulA ws[6]? + nulA ws[12]? + nulA ws[16]? + nulA ws[20]? + nulA ws[24]? + nulA ws[28]? + nulA ws[32]?
theorem nul_eq {ws u : va_W} (h : ∀ p ∈ Mds, u[p]? = ws[p]?) : nul u = nul ws := by
  unfold nul
  rw [h 3 (by decide), h 6 (by decide), h 12 (by decide), h 16 (by decide), h 20 (by decide), h 24 (by decide), h 28 (by decide), h 32 (by decide)]
theorem nul_ch {ws u : va_W} {d : Int} {p : Nat} (hp : p ∈ Mds) (h : ∀ q ∈ Mds, q ≠ p → u[q]? = ws[q]?) (hd : (nulA u[p]? : Int) + d = nulA ws[p]?) : (nul u : Int) + d = nul ws := by
  unfold nul
  have e : ∀ q ∈ Mds, q ≠ p → nulA u[q]? = nulA ws[q]? := fun q hq hn => by rw [h q hq hn]
  have hp' : p = 3 ∨ p = 6 ∨ p = 12 ∨ p = 16 ∨ p = 20 ∨ p = 24 ∨ p = 28 ∨ p = 32 := by simpa [Mds] using hp
  rcases hp' with rfl | rfl | rfl | rfl | rfl | rfl | rfl | rfl
  · have h1 := e 6 (by decide) (by decide); have h2 := e 12 (by decide) (by decide); have h3 := e 16 (by decide) (by decide); have h4 := e 20 (by decide) (by decide); have h5 := e 24 (by decide) (by decide); have h6 := e 28 (by decide) (by decide); have h7 := e 32 (by decide) (by decide); omega
  · have h1 := e 3 (by decide) (by decide); have h2 := e 12 (by decide) (by decide); have h3 := e 16 (by decide) (by decide); have h4 := e 20 (by decide) (by decide); have h5 := e 24 (by decide) (by decide); have h6 := e 28 (by decide) (by decide); have h7 := e 32 (by decide) (by decide); omega
  · have h1 := e 3 (by decide) (by decide); have h2 := e 6 (by decide) (by decide); have h3 := e 16 (by decide) (by decide); have h4 := e 20 (by decide) (by decide); have h5 := e 24 (by decide) (by decide); have h6 := e 28 (by decide) (by decide); have h7 := e 32 (by decide) (by decide); omega
  · have h1 := e 3 (by decide) (by decide); have h2 := e 6 (by decide) (by decide); have h3 := e 12 (by decide) (by decide); have h4 := e 20 (by decide) (by decide); have h5 := e 24 (by decide) (by decide); have h6 := e 28 (by decide) (by decide); have h7 := e 32 (by decide) (by decide); omega
  · have h1 := e 3 (by decide) (by decide); have h2 := e 6 (by decide) (by decide); have h3 := e 12 (by decide) (by decide); have h4 := e 16 (by decide) (by decide); have h5 := e 24 (by decide) (by decide); have h6 := e 28 (by decide) (by decide); have h7 := e 32 (by decide) (by decide); omega
  · have h1 := e 3 (by decide) (by decide); have h2 := e 6 (by decide) (by decide); have h3 := e 12 (by decide) (by decide); have h4 := e 16 (by decide) (by decide); have h5 := e 20 (by decide) (by decide); have h6 := e 28 (by decide) (by decide); have h7 := e 32 (by decide) (by decide); omega
  · have h1 := e 3 (by decide) (by decide); have h2 := e 6 (by decide) (by decide); have h3 := e 12 (by decide) (by decide); have h4 := e 16 (by decide) (by decide); have h5 := e 20 (by decide) (by decide); have h6 := e 24 (by decide) (by decide); have h7 := e 32 (by decide) (by decide); omega
  · have h1 := e 3 (by decide) (by decide); have h2 := e 6 (by decide) (by decide); have h3 := e 12 (by decide) (by decide); have h4 := e 16 (by decide) (by decide); have h5 := e 20 (by decide) (by decide); have h6 := e 24 (by decide) (by decide); have h7 := e 28 (by decide) (by decide); omega
