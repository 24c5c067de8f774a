def Ch (ws u : va_W) (is : List Nat) : Prop := ws.length ≤ u.length ∧ ∀ j, j < ws.length → j ∉ is → u[j]? = ws[j]?
theorem Ch.rf {ws : va_W} : Ch ws ws [] := ⟨Nat.le_refl _, fun _ _ _ => rfl⟩
theorem Ch.put {ws u : va_W} {is : List Nat} {p : Nat} {c : Nat × va_E} (h : Ch ws u is) : Ch ws (u.set p c) (is ++ [p]) := by
  refine ⟨by rw [List.length_set]; exact h.1, fun j hj hn => ?_⟩
  have h1 : j ∉ is := fun q => hn (List.mem_append_left _ q)
  have h2 : p ≠ j := fun q => hn (List.mem_append_right _ (by rw [q]; exact List.mem_singleton_self _))
  rw [List.getElem?_set_ne h2]
  exact h.2 j hj h1
theorem Ch.trans {ws u v : va_W} {is js : List Nat} (h : Ch ws u is) (h2 : Ch u v js) : Ch ws v (is ++ js) := by
  refine ⟨Nat.le_trans h.1 h2.1, fun j hj hn => ?_⟩
  rw [h2.2 j (Nat.lt_of_lt_of_le hj h.1) (fun q => hn (List.mem_append_right _ q)), h.2 j hj (fun q => hn (List.mem_append_left _ q))]
theorem Ch.sub {ws u : va_W} {is js : List Nat} (h : Ch ws u is) (hs : ∀ i ∈ is, i ∈ js) : Ch ws u js := ⟨h.1, fun j hj hn => h.2 j hj (fun q => hn (hs j q))⟩
theorem Ch.keep {ws u : va_W} {is : List Nat} {j : Nat} {c : Nat × va_E} (h : Ch ws u is) (e : ws[j]? = some c) (hj : j ∉ is) : u[j]? = some c := by
  rw [h.2 j (List.getElem?_eq_some_iff.mp e).1 hj]; exact e
theorem Ch.push {ws u : va_W} {is : List Nat} {c : va_W} (h : Ch ws u is) : Ch ws (u ++ c) is := by
  refine ⟨by rw [List.length_append]; exact Nat.le_trans h.1 (Nat.le_add_right _ _), fun j hj hn => ?_⟩
  rw [List.getElem?_append_left (Nat.lt_of_lt_of_le hj h.1)]
  exact h.2 j hj hn
theorem lk_set {ws : va_W} {p : Nat} {c0 c : Nat × va_E} (e : ws[p]? = some c0) : (ws.set p c)[p]? = some c := List.getElem?_set_self (List.getElem?_eq_some_iff.mp e).1
theorem lk_ne {ws : va_W} {p j : Nat} {c0 c : Nat × va_E} (e : ws[j]? = some c0) (h : p ≠ j) : (ws.set p c)[j]? = some c0 := by rw [List.getElem?_set_ne h]; exact e
theorem lk_push {ws c : va_W} {j : Nat} {c0 : Nat × va_E} (e : ws[j]? = some c0) : (ws ++ c)[j]? = some c0 := by rw [List.getElem?_append_left (List.getElem?_eq_some_iff.mp e).1]; exact e
theorem lk_new {ws : va_W} {c : Nat × va_E} {n : Nat} (h : ws.length = n) : (ws ++ [c])[n]? = some c := by subst h; rw [List.getElem?_append_right (Nat.le_refl _), Nat.sub_self]; rfl
theorem oi_im : Cond.instanceMethod Lib.objectInit ∈ WS := by decide +kernel
theorem oi_cd : Cond.code Lib.objectInit ⟨#[0xb1]⟩ 1 none ∈ WS := by decide +kernel
theorem site_64_66_68 : Site xISE "there are as many pages as there may be" 64 66 68 := ⟨by decide +kernel, by decide +kernel, by decide +kernel, by decide +kernel, by decide +kernel, by decide +kernel, by decide +kernel⟩
theorem site_64_107_68 : Site xISE "a transaction is open" 64 107 68 := ⟨by decide +kernel, by decide +kernel, by decide +kernel, by decide +kernel, by decide +kernel, by decide +kernel, by decide +kernel⟩
theorem site_64_135_68 : Site xISE "there are as many marks as there may be" 64 135 68 := ⟨by decide +kernel, by decide +kernel, by decide +kernel, by decide +kernel, by decide +kernel, by decide +kernel, by decide +kernel⟩
theorem site_147_149_151 : Site xIAE "when is not 0 to 4" 147 149 151 := ⟨by decide +kernel, by decide +kernel, by decide +kernel, by decide +kernel, by decide +kernel, by decide +kernel, by decide +kernel⟩
theorem site_147_152_151 : Site xIAE "k is not 0 to 1000" 147 152 151 := ⟨by decide +kernel, by decide +kernel, by decide +kernel, by decide +kernel, by decide +kernel, by decide +kernel, by decide +kernel⟩
theorem site_147_154_151 : Site xIAE "b is not 0 to 300" 147 154 151 := ⟨by decide +kernel, by decide +kernel, by decide +kernel, by decide +kernel, by decide +kernel, by decide +kernel, by decide +kernel⟩
theorem site_147_166_151 : Site xIAE "what is not 0 to 3" 147 166 151 := ⟨by decide +kernel, by decide +kernel, by decide +kernel, by decide +kernel, by decide +kernel, by decide +kernel, by decide +kernel⟩
theorem site_64_168_68 : Site xISE "it is off" 64 168 68 := ⟨by decide +kernel, by decide +kernel, by decide +kernel, by decide +kernel, by decide +kernel, by decide +kernel, by decide +kernel⟩
theorem site_64_170_68 : Site xISE "no transaction is open" 64 170 68 := ⟨by decide +kernel, by decide +kernel, by decide +kernel, by decide +kernel, by decide +kernel, by decide +kernel, by decide +kernel⟩
theorem site_172_174_176 : Site xIOB "no such page" 172 174 176 := ⟨by decide +kernel, by decide +kernel, by decide +kernel, by decide +kernel, by decide +kernel, by decide +kernel, by decide +kernel⟩
theorem site_172_177_176 : Site xIOB "no such byte" 172 177 176 := ⟨by decide +kernel, by decide +kernel, by decide +kernel, by decide +kernel, by decide +kernel, by decide +kernel, by decide +kernel⟩
theorem site_172_179_176 : Site xIOB "no such bytes" 172 179 176 := ⟨by decide +kernel, by decide +kernel, by decide +kernel, by decide +kernel, by decide +kernel, by decide +kernel, by decide +kernel⟩
theorem site_172_181_176 : Site xIOB "no such mark" 172 181 176 := ⟨by decide +kernel, by decide +kernel, by decide +kernel, by decide +kernel, by decide +kernel, by decide +kernel, by decide +kernel⟩
theorem site_201_203_205 : Site xAE "power failed" 201 203 205 := ⟨by decide +kernel, by decide +kernel, by decide +kernel, by decide +kernel, by decide +kernel, by decide +kernel, by decide +kernel⟩
