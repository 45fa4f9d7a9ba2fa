/-! ===== the cells as they came, and the world ===== -/
section Hand
def WS (cn : Nat → ClassId) (q8 : Nat) (u : S8) (q9 : Nat) (a9 : Nat → Nat) : va_W := Wf8 cn q8 u ++ Wf9 cn q9 a9
def adF (q8 : Nat) (u : S8) (q9 : Nat) (a9 t : Nat → Nat) : Nat → Nat := fun k => if k < 161 then [q8, u.2.2.2.2.2.2.1, u.2.2.2.2.2.1, u.2.2.1.1, u.2.2.1.2.2.2, u.2.2.2.1.1, u.2.2.2.1.2.2.2.1, u.2.2.2.1.2.2.2.2.1, u.2.2.2.1.2.2.2.2.2.2, u.2.2.2.2.1.1, u.2.2.2.2.1.2.1, u.2.2.2.2.1.2.2.2.2, u.1.1, u.2.1.1, u.2.2.1.2.1, u.2.2.2.1.2.1, u.2.2.2.2.1.2.2.1, u.1.2.1, u.2.1.2.1, u.2.2.1.2.2.1.1, u.2.2.2.1.2.2.1.1, u.2.2.2.2.1.2.2.2.1.1, u.1.2.2.1, u.2.1.2.2.1, u.2.2.1.2.2.1.2.1, u.2.2.2.1.2.2.1.2.1, u.2.2.2.2.1.2.2.2.1.2.1, u.2.2.2.2.2.2.2.1 0, u.2.2.2.2.2.2.2.1 1, u.2.2.2.2.2.2.2.1 2, u.2.2.2.2.2.2.2.1 3, u.2.2.2.2.2.2.2.1 4, u.2.2.2.2.2.2.2.1 5, u.2.2.2.2.2.2.2.1 6, u.2.2.2.2.2.2.2.1 7, (u.2.2.2.2.2.2.2.2 0).1, (u.2.2.2.2.2.2.2.2 1).1, (u.2.2.2.2.2.2.2.2 2).1, (u.2.2.2.2.2.2.2.2 3).1, (u.2.2.2.2.2.2.2.2 4).1, (u.2.2.2.2.2.2.2.2 5).1, (u.2.2.2.2.2.2.2.2 6).1, (u.2.2.2.2.2.2.2.2 7).1, (u.2.2.2.2.2.2.2.2 0).2, (u.2.2.2.2.2.2.2.2 1).2, (u.2.2.2.2.2.2.2.2 2).2, (u.2.2.2.2.2.2.2.2 3).2, (u.2.2.2.2.2.2.2.2 4).2, (u.2.2.2.2.2.2.2.2 5).2, (u.2.2.2.2.2.2.2.2 6).2, (u.2.2.2.2.2.2.2.2 7).2, u.2.2.2.1.2.2.2.2.2.1 0, u.2.2.2.1.2.2.2.2.2.1 1, u.2.2.2.1.2.2.2.2.2.1 2, u.2.2.2.1.2.2.2.2.2.1 3, u.2.2.2.1.2.2.2.2.2.1 4, u.2.2.2.1.2.2.2.2.2.1 5, u.2.2.2.1.2.2.2.2.2.1 6, u.2.2.2.1.2.2.2.2.2.1 7, u.2.2.2.1.2.2.2.2.2.1 8, u.1.2.2.2.1 0, u.1.2.2.2.1 1, u.1.2.2.2.1 2, u.1.2.2.2.1 3, u.1.2.2.2.1 4, u.1.2.2.2.1 5, u.1.2.2.2.1 6, u.1.2.2.2.1 7, u.2.1.2.2.2.1 0, u.2.1.2.2.2.1 1, u.2.1.2.2.2.1 2, u.2.1.2.2.2.1 3, u.2.1.2.2.2.1 4, u.2.1.2.2.2.1 5, u.2.1.2.2.2.1 6, u.2.1.2.2.2.1 7, u.2.2.1.2.2.1.2.2.1 0, u.2.2.1.2.2.1.2.2.1 1, u.2.2.1.2.2.1.2.2.1 2, u.2.2.1.2.2.1.2.2.1 3, u.2.2.1.2.2.1.2.2.1 4, u.2.2.1.2.2.1.2.2.1 5, u.2.2.1.2.2.1.2.2.1 6, u.2.2.1.2.2.1.2.2.1 7, u.2.2.2.1.2.2.1.2.2.1 0, u.2.2.2.1.2.2.1.2.2.1 1, u.2.2.2.1.2.2.1.2.2.1 2, u.2.2.2.1.2.2.1.2.2.1 3, u.2.2.2.1.2.2.1.2.2.1 4, u.2.2.2.1.2.2.1.2.2.1 5, u.2.2.2.1.2.2.1.2.2.1 6, u.2.2.2.1.2.2.1.2.2.1 7, u.2.2.2.2.1.2.2.2.1.2.2.1 0, u.2.2.2.2.1.2.2.2.1.2.2.1 1, u.2.2.2.2.1.2.2.2.1.2.2.1 2, u.2.2.2.2.1.2.2.2.1.2.2.1 3, u.2.2.2.2.1.2.2.2.1.2.2.1 4, u.2.2.2.2.1.2.2.2.1.2.2.1 5, u.2.2.2.2.1.2.2.2.1.2.2.1 6, u.2.2.2.2.1.2.2.2.1.2.2.1 7, u.1.2.2.2.2 0, u.1.2.2.2.2 1, u.1.2.2.2.2 2, u.1.2.2.2.2 3, u.1.2.2.2.2 4, u.1.2.2.2.2 5, u.1.2.2.2.2 6, u.1.2.2.2.2 7, u.2.1.2.2.2.2 0, u.2.1.2.2.2.2 1, u.2.1.2.2.2.2 2, u.2.1.2.2.2.2 3, u.2.1.2.2.2.2 4, u.2.1.2.2.2.2 5, u.2.1.2.2.2.2 6, u.2.1.2.2.2.2 7, u.2.2.1.2.2.1.2.2.2 0, u.2.2.1.2.2.1.2.2.2 1, u.2.2.1.2.2.1.2.2.2 2, u.2.2.1.2.2.1.2.2.2 3, u.2.2.1.2.2.1.2.2.2 4, u.2.2.1.2.2.1.2.2.2 5, u.2.2.1.2.2.1.2.2.2 6, u.2.2.1.2.2.1.2.2.2 7, u.2.2.2.1.2.2.1.2.2.2 0, u.2.2.2.1.2.2.1.2.2.2 1, u.2.2.2.1.2.2.1.2.2.2 2, u.2.2.2.1.2.2.1.2.2.2 3, u.2.2.2.1.2.2.1.2.2.2 4, u.2.2.2.1.2.2.1.2.2.2 5, u.2.2.2.1.2.2.1.2.2.2 6, u.2.2.2.1.2.2.1.2.2.2 7, u.2.2.2.2.1.2.2.2.1.2.2.2 0, u.2.2.2.2.1.2.2.2.1.2.2.2 1, u.2.2.2.2.1.2.2.2.1.2.2.2 2, u.2.2.2.2.1.2.2.2.1.2.2.2 3, u.2.2.2.2.1.2.2.2.1.2.2.2 4, u.2.2.2.2.1.2.2.2.1.2.2.2 5, u.2.2.2.2.1.2.2.2.1.2.2.2 6, u.2.2.2.2.1.2.2.2.1.2.2.2 7, q9, a9 0, a9 1, a9 2, a9 3, a9 4, a9 5, a9 6, a9 7, a9 8, a9 9, a9 10, a9 11, a9 12, a9 13, a9 14, a9 15, a9 16, a9 17, a9 18, a9 19].getD k 0 else t (k - 200)
def KK (D : va_G) (cn : Nat → ClassId) (q8 : Nat) (u : S8) (q9 : Nat) (a9 t sv : Nat → Nat) : KT := (D, cn, adF q8 u q9 a9 t, sv)
def posL : List Nat := [0, 115, 1, 40, 60, 61, 81, 82, 92, 93, 94, 114, 2, 21, 41, 62, 95, 12, 31, 51, 72, 105, 3, 22, 42, 63, 96, 116, 119, 122, 125, 128, 131, 134, 137, 117, 120, 123, 126, 129, 132, 135, 138, 118, 121, 124, 127, 130, 133, 136, 139, 83, 84, 85, 86, 87, 88, 89, 90, 91, 4, 5, 6, 7, 8, 9, 10, 11, 23, 24, 25, 26, 27, 28, 29, 30, 43, 44, 45, 46, 47, 48, 49, 50, 64, 65, 66, 67, 68, 69, 70, 71, 97, 98, 99, 100, 101, 102, 103, 104, 13, 14, 15, 16, 17, 18, 19, 20, 32, 33, 34, 35, 36, 37, 38, 39, 52, 53, 54, 55, 56, 57, 58, 59, 73, 74, 75, 76, 77, 78, 79, 80, 106, 107, 108, 109, 110, 111, 112, 113, 140, 141, 142, 143, 144, 145, 146, 147, 148, 149, 150, 151, 152, 153, 154, 155, 156, 157, 158, 159, 160]
def ordL : List Nat := [0, 2, 12, 22, 60, 61, 62, 63, 64, 65, 66, 67, 17, 100, 101, 102, 103, 104, 105, 106, 107, 13, 23, 68, 69, 70, 71, 72, 73, 74, 75, 18, 108, 109, 110, 111, 112, 113, 114, 115, 3, 14, 24, 76, 77, 78, 79, 80, 81, 82, 83, 19, 116, 117, 118, 119, 120, 121, 122, 123, 4, 5, 15, 25, 84, 85, 86, 87, 88, 89, 90, 91, 20, 124, 125, 126, 127, 128, 129, 130, 131, 6, 7, 51, 52, 53, 54, 55, 56, 57, 58, 59, 8, 9, 10, 16, 26, 92, 93, 94, 95, 96, 97, 98, 99, 21, 132, 133, 134, 135, 136, 137, 138, 139, 11, 1, 27, 35, 43, 28, 36, 44, 29, 37, 45, 30, 38, 46, 31, 39, 47, 32, 40, 48, 33, 41, 49, 34, 42, 50, 140, 141, 142, 143, 144, 145, 146, 147, 148, 149, 150, 151, 152, 153, 154, 155, 156, 157, 158, 159, 160]
theorem pos_ord : ∀ i, i < 161 → ordL.getD (posL.getD i 0) 0 = i := by decide +kernel
theorem arrV_ext {cA : ClassId} {n : Nat} {f g : Nat → Value} (h : ∀ j, j < n → f j = g j) : arrV cA n f = arrV cA n g := by
  unfold arrV
  congr 1
  apply Array.ext
  · simp
  · intro i h1 h2
    simp only [Array.getElem_ofFn]
    exact h i (by simpa using h1)
theorem at_refs {D : va_G} {a : Nat} {cA : ClassId} {n : Nat} {f g : Nat → Option Nat} {H : Heap} (h : va_at D vwCl (a, .inl (cA, n, .inr (.inr (.inr (.inr f))))) H) (e : ∀ j, j < n → f j = g j) : va_at D vwCl (a, .inl (cA, n, .inr (.inr (.inr (.inr g))))) H := by
  have h2 : H[a]? = some (vp_cell cA (n, .inr (.inr (.inr (.inr f))))) := h
  show H[a]? = some (vp_cell cA (n, .inr (.inr (.inr (.inr g)))))
  rw [h2, vp_cell_q, vp_cell_q, arrV_ext (fun j hj => by rw [e j hj])]
theorem at_ints {D : va_G} {a : Nat} {cA : ClassId} {n : Nat} {f g : Nat → Int32} {H : Heap} (h : va_at D vwCl (a, .inl (cA, n, .inl f)) H) (e : ∀ j, j < n → f j = g j) : va_at D vwCl (a, .inl (cA, n, .inl g)) H := by
  have h2 : H[a]? = some (vp_cell cA (n, .inl f)) := h
  show H[a]? = some (vp_cell cA (n, .inl g))
  rw [h2, vp_cell_i, vp_cell_i, arrV_ext (fun j hj => by rw [e j hj])]
theorem rr_at {n : Nat} {r g : Nat → Nat} (h : ∀ j, j < n → r j = g j) : ∀ j, j < n → rr n r j = some (g j) := fun j hj => by
  unfold rr
  rw [if_pos hj, h j hj]
variable {D : va_G} {cn : Nat → ClassId} {q8 : Nat} {u : S8} {q9 : Nat} {a9 t sv : Nat → Nat}
def CK (D : va_G) (cn : Nat → ClassId) (q8 : Nat) (u : S8) (q9 : Nat) (a9 t sv : Nat → Nat) (k : Nat) : Prop := ∃ e, (WS cn q8 u q9 a9)[posL.getD k 0]? = some (adF q8 u q9 a9 t k, e) ∧ ∀ H : Heap, va_at D vwCl (adF q8 u q9 a9 t k, e) H → va_at D vwCl (adF q8 u q9 a9 t k, mem (KK D cn q8 u q9 a9 t sv) M0 k) H
theorem ck_0 : CK D cn q8 u q9 a9 t sv 0 := ⟨_, rfl, fun _ h => h⟩
theorem ck_1 : CK D cn q8 u q9 a9 t sv 1 := ⟨_, rfl, fun _ h => h⟩
theorem ck_2 : CK D cn q8 u q9 a9 t sv 2 := ⟨_, rfl, fun H h => by
  show va_at D vwCl (_, mem (KK D cn q8 u q9 a9 t sv) M0 (2)) H
  rw [at_Xsh _ _]
  exact at_refs h (rr_at (fun j hj => by rcases (show j = 0 ∨ j = 1 ∨ j = 2 ∨ j = 3 ∨ j = 4 ∨ j = 5 ∨ j = 6 ∨ j = 7 by omega) with rfl | rfl | rfl | rfl | rfl | rfl | rfl | rfl <;> rfl))⟩
theorem ck_3 : CK D cn q8 u q9 a9 t sv 3 := ⟨_, rfl, fun _ h => h⟩
theorem ck_4 : CK D cn q8 u q9 a9 t sv 4 := ⟨_, rfl, fun _ h => h⟩
theorem ck_5 : CK D cn q8 u q9 a9 t sv 5 := ⟨_, rfl, fun _ h => h⟩
theorem ck_6 : CK D cn q8 u q9 a9 t sv 6 := ⟨_, rfl, fun _ h => h⟩
theorem ck_7 : CK D cn q8 u q9 a9 t sv 7 := ⟨_, rfl, fun H h => by
  show va_at D vwCl (_, mem (KK D cn q8 u q9 a9 t sv) M0 (7)) H
  rw [at_Bst _ _]
  exact at_refs h (rr_at (fun j hj => by rcases (show j = 0 ∨ j = 1 ∨ j = 2 ∨ j = 3 ∨ j = 4 ∨ j = 5 ∨ j = 6 ∨ j = 7 ∨ j = 8 by omega) with rfl | rfl | rfl | rfl | rfl | rfl | rfl | rfl | rfl <;> rfl))⟩
theorem ck_8 : CK D cn q8 u q9 a9 t sv 8 := ⟨_, rfl, fun _ h => h⟩
theorem ck_9 : CK D cn q8 u q9 a9 t sv 9 := ⟨_, rfl, fun _ h => h⟩
theorem ck_10 : CK D cn q8 u q9 a9 t sv 10 := ⟨_, rfl, fun _ h => h⟩
theorem ck_11 : CK D cn q8 u q9 a9 t sv 11 := ⟨_, rfl, fun _ h => h⟩
theorem ck_12 : CK D cn q8 u q9 a9 t sv 12 := ⟨_, rfl, fun _ h => h⟩
theorem ck_13 : CK D cn q8 u q9 a9 t sv 13 := ⟨_, rfl, fun _ h => h⟩
theorem ck_14 : CK D cn q8 u q9 a9 t sv 14 := ⟨_, rfl, fun _ h => h⟩
theorem ck_15 : CK D cn q8 u q9 a9 t sv 15 := ⟨_, rfl, fun _ h => h⟩
theorem ck_16 : CK D cn q8 u q9 a9 t sv 16 := ⟨_, rfl, fun _ h => h⟩
theorem ck_17 : CK D cn q8 u q9 a9 t sv 17 := ⟨_, rfl, fun H h => by
  show va_at D vwCl (_, mem (KK D cn q8 u q9 a9 t sv) M0 (iWA 0)) H
  rw [at_WA _ _ 0 (by decide)]
  exact at_refs h (rr_at (fun j hj => by rcases (show j = 0 ∨ j = 1 ∨ j = 2 ∨ j = 3 ∨ j = 4 ∨ j = 5 ∨ j = 6 ∨ j = 7 by omega) with rfl | rfl | rfl | rfl | rfl | rfl | rfl | rfl <;> rfl))⟩
theorem ck_18 : CK D cn q8 u q9 a9 t sv 18 := ⟨_, rfl, fun H h => by
  show va_at D vwCl (_, mem (KK D cn q8 u q9 a9 t sv) M0 (iWA 1)) H
  rw [at_WA _ _ 1 (by decide)]
  exact at_refs h (rr_at (fun j hj => by rcases (show j = 0 ∨ j = 1 ∨ j = 2 ∨ j = 3 ∨ j = 4 ∨ j = 5 ∨ j = 6 ∨ j = 7 by omega) with rfl | rfl | rfl | rfl | rfl | rfl | rfl | rfl <;> rfl))⟩
theorem ck_19 : CK D cn q8 u q9 a9 t sv 19 := ⟨_, rfl, fun H h => by
  show va_at D vwCl (_, mem (KK D cn q8 u q9 a9 t sv) M0 (iWA 2)) H
  rw [at_WA _ _ 2 (by decide)]
  exact at_refs h (rr_at (fun j hj => by rcases (show j = 0 ∨ j = 1 ∨ j = 2 ∨ j = 3 ∨ j = 4 ∨ j = 5 ∨ j = 6 ∨ j = 7 by omega) with rfl | rfl | rfl | rfl | rfl | rfl | rfl | rfl <;> rfl))⟩
theorem ck_20 : CK D cn q8 u q9 a9 t sv 20 := ⟨_, rfl, fun H h => by
  show va_at D vwCl (_, mem (KK D cn q8 u q9 a9 t sv) M0 (iWA 3)) H
  rw [at_WA _ _ 3 (by decide)]
  exact at_refs h (rr_at (fun j hj => by rcases (show j = 0 ∨ j = 1 ∨ j = 2 ∨ j = 3 ∨ j = 4 ∨ j = 5 ∨ j = 6 ∨ j = 7 by omega) with rfl | rfl | rfl | rfl | rfl | rfl | rfl | rfl <;> rfl))⟩
theorem ck_21 : CK D cn q8 u q9 a9 t sv 21 := ⟨_, rfl, fun H h => by
  show va_at D vwCl (_, mem (KK D cn q8 u q9 a9 t sv) M0 (iWA 4)) H
  rw [at_WA _ _ 4 (by decide)]
  exact at_refs h (rr_at (fun j hj => by rcases (show j = 0 ∨ j = 1 ∨ j = 2 ∨ j = 3 ∨ j = 4 ∨ j = 5 ∨ j = 6 ∨ j = 7 by omega) with rfl | rfl | rfl | rfl | rfl | rfl | rfl | rfl <;> rfl))⟩
theorem ck_22 : CK D cn q8 u q9 a9 t sv 22 := ⟨_, rfl, fun H h => by
  show va_at D vwCl (_, mem (KK D cn q8 u q9 a9 t sv) M0 (iPA 0)) H
  rw [at_PA _ _ 0 (by decide)]
  exact at_refs h (rr_at (fun j hj => by rcases (show j = 0 ∨ j = 1 ∨ j = 2 ∨ j = 3 ∨ j = 4 ∨ j = 5 ∨ j = 6 ∨ j = 7 by omega) with rfl | rfl | rfl | rfl | rfl | rfl | rfl | rfl <;> rfl))⟩
theorem ck_23 : CK D cn q8 u q9 a9 t sv 23 := ⟨_, rfl, fun H h => by
  show va_at D vwCl (_, mem (KK D cn q8 u q9 a9 t sv) M0 (iPA 1)) H
  rw [at_PA _ _ 1 (by decide)]
  exact at_refs h (rr_at (fun j hj => by rcases (show j = 0 ∨ j = 1 ∨ j = 2 ∨ j = 3 ∨ j = 4 ∨ j = 5 ∨ j = 6 ∨ j = 7 by omega) with rfl | rfl | rfl | rfl | rfl | rfl | rfl | rfl <;> rfl))⟩
theorem ck_24 : CK D cn q8 u q9 a9 t sv 24 := ⟨_, rfl, fun H h => by
  show va_at D vwCl (_, mem (KK D cn q8 u q9 a9 t sv) M0 (iPA 2)) H
  rw [at_PA _ _ 2 (by decide)]
  exact at_refs h (rr_at (fun j hj => by rcases (show j = 0 ∨ j = 1 ∨ j = 2 ∨ j = 3 ∨ j = 4 ∨ j = 5 ∨ j = 6 ∨ j = 7 by omega) with rfl | rfl | rfl | rfl | rfl | rfl | rfl | rfl <;> rfl))⟩
theorem ck_25 : CK D cn q8 u q9 a9 t sv 25 := ⟨_, rfl, fun H h => by
  show va_at D vwCl (_, mem (KK D cn q8 u q9 a9 t sv) M0 (iPA 3)) H
  rw [at_PA _ _ 3 (by decide)]
  exact at_refs h (rr_at (fun j hj => by rcases (show j = 0 ∨ j = 1 ∨ j = 2 ∨ j = 3 ∨ j = 4 ∨ j = 5 ∨ j = 6 ∨ j = 7 by omega) with rfl | rfl | rfl | rfl | rfl | rfl | rfl | rfl <;> rfl))⟩
theorem ck_26 : CK D cn q8 u q9 a9 t sv 26 := ⟨_, rfl, fun H h => by
  show va_at D vwCl (_, mem (KK D cn q8 u q9 a9 t sv) M0 (iPA 4)) H
  rw [at_PA _ _ 4 (by decide)]
  exact at_refs h (rr_at (fun j hj => by rcases (show j = 0 ∨ j = 1 ∨ j = 2 ∨ j = 3 ∨ j = 4 ∨ j = 5 ∨ j = 6 ∨ j = 7 by omega) with rfl | rfl | rfl | rfl | rfl | rfl | rfl | rfl <;> rfl))⟩
theorem ck_27 : CK D cn q8 u q9 a9 t sv 27 := ⟨_, rfl, fun _ h => h⟩
theorem ck_28 : CK D cn q8 u q9 a9 t sv 28 := ⟨_, rfl, fun _ h => h⟩
theorem ck_29 : CK D cn q8 u q9 a9 t sv 29 := ⟨_, rfl, fun _ h => h⟩
theorem ck_30 : CK D cn q8 u q9 a9 t sv 30 := ⟨_, rfl, fun _ h => h⟩
theorem ck_31 : CK D cn q8 u q9 a9 t sv 31 := ⟨_, rfl, fun _ h => h⟩
theorem ck_32 : CK D cn q8 u q9 a9 t sv 32 := ⟨_, rfl, fun _ h => h⟩
theorem ck_33 : CK D cn q8 u q9 a9 t sv 33 := ⟨_, rfl, fun _ h => h⟩
theorem ck_34 : CK D cn q8 u q9 a9 t sv 34 := ⟨_, rfl, fun _ h => h⟩
theorem ck_35 : CK D cn q8 u q9 a9 t sv 35 := ⟨_, rfl, fun _ h => h⟩
theorem ck_36 : CK D cn q8 u q9 a9 t sv 36 := ⟨_, rfl, fun _ h => h⟩
theorem ck_37 : CK D cn q8 u q9 a9 t sv 37 := ⟨_, rfl, fun _ h => h⟩
theorem ck_38 : CK D cn q8 u q9 a9 t sv 38 := ⟨_, rfl, fun _ h => h⟩
theorem ck_39 : CK D cn q8 u q9 a9 t sv 39 := ⟨_, rfl, fun _ h => h⟩
theorem ck_40 : CK D cn q8 u q9 a9 t sv 40 := ⟨_, rfl, fun _ h => h⟩
theorem ck_41 : CK D cn q8 u q9 a9 t sv 41 := ⟨_, rfl, fun _ h => h⟩
theorem ck_42 : CK D cn q8 u q9 a9 t sv 42 := ⟨_, rfl, fun _ h => h⟩
theorem ck_43 : CK D cn q8 u q9 a9 t sv 43 := ⟨_, rfl, fun _ h => h⟩
theorem ck_44 : CK D cn q8 u q9 a9 t sv 44 := ⟨_, rfl, fun _ h => h⟩
theorem ck_45 : CK D cn q8 u q9 a9 t sv 45 := ⟨_, rfl, fun _ h => h⟩
theorem ck_46 : CK D cn q8 u q9 a9 t sv 46 := ⟨_, rfl, fun _ h => h⟩
theorem ck_47 : CK D cn q8 u q9 a9 t sv 47 := ⟨_, rfl, fun _ h => h⟩
theorem ck_48 : CK D cn q8 u q9 a9 t sv 48 := ⟨_, rfl, fun _ h => h⟩
theorem ck_49 : CK D cn q8 u q9 a9 t sv 49 := ⟨_, rfl, fun _ h => h⟩
theorem ck_50 : CK D cn q8 u q9 a9 t sv 50 := ⟨_, rfl, fun _ h => h⟩
theorem ck_51 : CK D cn q8 u q9 a9 t sv 51 := ⟨_, rfl, fun _ h => h⟩
theorem ck_52 : CK D cn q8 u q9 a9 t sv 52 := ⟨_, rfl, fun _ h => h⟩
theorem ck_53 : CK D cn q8 u q9 a9 t sv 53 := ⟨_, rfl, fun _ h => h⟩
theorem ck_54 : CK D cn q8 u q9 a9 t sv 54 := ⟨_, rfl, fun _ h => h⟩
theorem ck_55 : CK D cn q8 u q9 a9 t sv 55 := ⟨_, rfl, fun _ h => h⟩
theorem ck_56 : CK D cn q8 u q9 a9 t sv 56 := ⟨_, rfl, fun _ h => h⟩
theorem ck_57 : CK D cn q8 u q9 a9 t sv 57 := ⟨_, rfl, fun _ h => h⟩
theorem ck_58 : CK D cn q8 u q9 a9 t sv 58 := ⟨_, rfl, fun _ h => h⟩
theorem ck_59 : CK D cn q8 u q9 a9 t sv 59 := ⟨_, rfl, fun _ h => h⟩
theorem ck_60 : CK D cn q8 u q9 a9 t sv 60 := ⟨_, rfl, fun _ h => h⟩
theorem ck_61 : CK D cn q8 u q9 a9 t sv 61 := ⟨_, rfl, fun _ h => h⟩
theorem ck_62 : CK D cn q8 u q9 a9 t sv 62 := ⟨_, rfl, fun _ h => h⟩
theorem ck_63 : CK D cn q8 u q9 a9 t sv 63 := ⟨_, rfl, fun _ h => h⟩
theorem ck_64 : CK D cn q8 u q9 a9 t sv 64 := ⟨_, rfl, fun _ h => h⟩
theorem ck_65 : CK D cn q8 u q9 a9 t sv 65 := ⟨_, rfl, fun _ h => h⟩
theorem ck_66 : CK D cn q8 u q9 a9 t sv 66 := ⟨_, rfl, fun _ h => h⟩
theorem ck_67 : CK D cn q8 u q9 a9 t sv 67 := ⟨_, rfl, fun _ h => h⟩
theorem ck_68 : CK D cn q8 u q9 a9 t sv 68 := ⟨_, rfl, fun _ h => h⟩
theorem ck_69 : CK D cn q8 u q9 a9 t sv 69 := ⟨_, rfl, fun _ h => h⟩
theorem ck_70 : CK D cn q8 u q9 a9 t sv 70 := ⟨_, rfl, fun _ h => h⟩
theorem ck_71 : CK D cn q8 u q9 a9 t sv 71 := ⟨_, rfl, fun _ h => h⟩
theorem ck_72 : CK D cn q8 u q9 a9 t sv 72 := ⟨_, rfl, fun _ h => h⟩
theorem ck_73 : CK D cn q8 u q9 a9 t sv 73 := ⟨_, rfl, fun _ h => h⟩
theorem ck_74 : CK D cn q8 u q9 a9 t sv 74 := ⟨_, rfl, fun _ h => h⟩
theorem ck_75 : CK D cn q8 u q9 a9 t sv 75 := ⟨_, rfl, fun _ h => h⟩
theorem ck_76 : CK D cn q8 u q9 a9 t sv 76 := ⟨_, rfl, fun _ h => h⟩
theorem ck_77 : CK D cn q8 u q9 a9 t sv 77 := ⟨_, rfl, fun _ h => h⟩
theorem ck_78 : CK D cn q8 u q9 a9 t sv 78 := ⟨_, rfl, fun _ h => h⟩
theorem ck_79 : CK D cn q8 u q9 a9 t sv 79 := ⟨_, rfl, fun _ h => h⟩
theorem ck_80 : CK D cn q8 u q9 a9 t sv 80 := ⟨_, rfl, fun _ h => h⟩
theorem ck_81 : CK D cn q8 u q9 a9 t sv 81 := ⟨_, rfl, fun _ h => h⟩
theorem ck_82 : CK D cn q8 u q9 a9 t sv 82 := ⟨_, rfl, fun _ h => h⟩
theorem ck_83 : CK D cn q8 u q9 a9 t sv 83 := ⟨_, rfl, fun _ h => h⟩
theorem ck_84 : CK D cn q8 u q9 a9 t sv 84 := ⟨_, rfl, fun _ h => h⟩
theorem ck_85 : CK D cn q8 u q9 a9 t sv 85 := ⟨_, rfl, fun _ h => h⟩
theorem ck_86 : CK D cn q8 u q9 a9 t sv 86 := ⟨_, rfl, fun _ h => h⟩
theorem ck_87 : CK D cn q8 u q9 a9 t sv 87 := ⟨_, rfl, fun _ h => h⟩
theorem ck_88 : CK D cn q8 u q9 a9 t sv 88 := ⟨_, rfl, fun _ h => h⟩
theorem ck_89 : CK D cn q8 u q9 a9 t sv 89 := ⟨_, rfl, fun _ h => h⟩
theorem ck_90 : CK D cn q8 u q9 a9 t sv 90 := ⟨_, rfl, fun _ h => h⟩
theorem ck_91 : CK D cn q8 u q9 a9 t sv 91 := ⟨_, rfl, fun _ h => h⟩
theorem ck_92 : CK D cn q8 u q9 a9 t sv 92 := ⟨_, rfl, fun _ h => h⟩
theorem ck_93 : CK D cn q8 u q9 a9 t sv 93 := ⟨_, rfl, fun _ h => h⟩
theorem ck_94 : CK D cn q8 u q9 a9 t sv 94 := ⟨_, rfl, fun _ h => h⟩
theorem ck_95 : CK D cn q8 u q9 a9 t sv 95 := ⟨_, rfl, fun _ h => h⟩
theorem ck_96 : CK D cn q8 u q9 a9 t sv 96 := ⟨_, rfl, fun _ h => h⟩
theorem ck_97 : CK D cn q8 u q9 a9 t sv 97 := ⟨_, rfl, fun _ h => h⟩
theorem ck_98 : CK D cn q8 u q9 a9 t sv 98 := ⟨_, rfl, fun _ h => h⟩
theorem ck_99 : CK D cn q8 u q9 a9 t sv 99 := ⟨_, rfl, fun _ h => h⟩
theorem ck_100 : CK D cn q8 u q9 a9 t sv 100 := ⟨_, rfl, fun _ h => h⟩
theorem ck_101 : CK D cn q8 u q9 a9 t sv 101 := ⟨_, rfl, fun _ h => h⟩
theorem ck_102 : CK D cn q8 u q9 a9 t sv 102 := ⟨_, rfl, fun _ h => h⟩
theorem ck_103 : CK D cn q8 u q9 a9 t sv 103 := ⟨_, rfl, fun _ h => h⟩
theorem ck_104 : CK D cn q8 u q9 a9 t sv 104 := ⟨_, rfl, fun _ h => h⟩
theorem ck_105 : CK D cn q8 u q9 a9 t sv 105 := ⟨_, rfl, fun _ h => h⟩
theorem ck_106 : CK D cn q8 u q9 a9 t sv 106 := ⟨_, rfl, fun _ h => h⟩
theorem ck_107 : CK D cn q8 u q9 a9 t sv 107 := ⟨_, rfl, fun _ h => h⟩
theorem ck_108 : CK D cn q8 u q9 a9 t sv 108 := ⟨_, rfl, fun _ h => h⟩
theorem ck_109 : CK D cn q8 u q9 a9 t sv 109 := ⟨_, rfl, fun _ h => h⟩
theorem ck_110 : CK D cn q8 u q9 a9 t sv 110 := ⟨_, rfl, fun _ h => h⟩
theorem ck_111 : CK D cn q8 u q9 a9 t sv 111 := ⟨_, rfl, fun _ h => h⟩
theorem ck_112 : CK D cn q8 u q9 a9 t sv 112 := ⟨_, rfl, fun _ h => h⟩
theorem ck_113 : CK D cn q8 u q9 a9 t sv 113 := ⟨_, rfl, fun _ h => h⟩
theorem ck_114 : CK D cn q8 u q9 a9 t sv 114 := ⟨_, rfl, fun _ h => h⟩
theorem ck_115 : CK D cn q8 u q9 a9 t sv 115 := ⟨_, rfl, fun _ h => h⟩
theorem ck_116 : CK D cn q8 u q9 a9 t sv 116 := ⟨_, rfl, fun _ h => h⟩
theorem ck_117 : CK D cn q8 u q9 a9 t sv 117 := ⟨_, rfl, fun _ h => h⟩
theorem ck_118 : CK D cn q8 u q9 a9 t sv 118 := ⟨_, rfl, fun _ h => h⟩
theorem ck_119 : CK D cn q8 u q9 a9 t sv 119 := ⟨_, rfl, fun _ h => h⟩
theorem ck_120 : CK D cn q8 u q9 a9 t sv 120 := ⟨_, rfl, fun _ h => h⟩
theorem ck_121 : CK D cn q8 u q9 a9 t sv 121 := ⟨_, rfl, fun _ h => h⟩
theorem ck_122 : CK D cn q8 u q9 a9 t sv 122 := ⟨_, rfl, fun _ h => h⟩
theorem ck_123 : CK D cn q8 u q9 a9 t sv 123 := ⟨_, rfl, fun _ h => h⟩
theorem ck_124 : CK D cn q8 u q9 a9 t sv 124 := ⟨_, rfl, fun _ h => h⟩
theorem ck_125 : CK D cn q8 u q9 a9 t sv 125 := ⟨_, rfl, fun _ h => h⟩
theorem ck_126 : CK D cn q8 u q9 a9 t sv 126 := ⟨_, rfl, fun _ h => h⟩
theorem ck_127 : CK D cn q8 u q9 a9 t sv 127 := ⟨_, rfl, fun _ h => h⟩
theorem ck_128 : CK D cn q8 u q9 a9 t sv 128 := ⟨_, rfl, fun _ h => h⟩
theorem ck_129 : CK D cn q8 u q9 a9 t sv 129 := ⟨_, rfl, fun _ h => h⟩
theorem ck_130 : CK D cn q8 u q9 a9 t sv 130 := ⟨_, rfl, fun _ h => h⟩
theorem ck_131 : CK D cn q8 u q9 a9 t sv 131 := ⟨_, rfl, fun _ h => h⟩
theorem ck_132 : CK D cn q8 u q9 a9 t sv 132 := ⟨_, rfl, fun _ h => h⟩
theorem ck_133 : CK D cn q8 u q9 a9 t sv 133 := ⟨_, rfl, fun _ h => h⟩
theorem ck_134 : CK D cn q8 u q9 a9 t sv 134 := ⟨_, rfl, fun _ h => h⟩
theorem ck_135 : CK D cn q8 u q9 a9 t sv 135 := ⟨_, rfl, fun _ h => h⟩
theorem ck_136 : CK D cn q8 u q9 a9 t sv 136 := ⟨_, rfl, fun _ h => h⟩
theorem ck_137 : CK D cn q8 u q9 a9 t sv 137 := ⟨_, rfl, fun _ h => h⟩
theorem ck_138 : CK D cn q8 u q9 a9 t sv 138 := ⟨_, rfl, fun _ h => h⟩
theorem ck_139 : CK D cn q8 u q9 a9 t sv 139 := ⟨_, rfl, fun _ h => h⟩
theorem ck_140 : CK D cn q8 u q9 a9 t sv 140 := ⟨_, rfl, fun _ h => h⟩
theorem ck_141 : CK D cn q8 u q9 a9 t sv 141 := ⟨_, rfl, fun H h => by
  show va_at D vwCl (_, mem (KK D cn q8 u q9 a9 t sv) M0 141) H
  rw [at_Mways _ _]
  exact at_ints h (fun j hj => by rcases (show j = 0 ∨ j = 1 ∨ j = 2 by omega) with rfl | rfl | rfl <;> rfl)⟩
theorem ck_142 : CK D cn q8 u q9 a9 t sv 142 := ⟨_, rfl, fun _ h => h⟩
theorem ck_143 : CK D cn q8 u q9 a9 t sv 143 := ⟨_, rfl, fun _ h => h⟩
theorem ck_144 : CK D cn q8 u q9 a9 t sv 144 := ⟨_, rfl, fun _ h => h⟩
theorem ck_145 : CK D cn q8 u q9 a9 t sv 145 := ⟨_, rfl, fun _ h => h⟩
theorem ck_146 : CK D cn q8 u q9 a9 t sv 146 := ⟨_, rfl, fun _ h => h⟩
theorem ck_147 : CK D cn q8 u q9 a9 t sv 147 := ⟨_, rfl, fun _ h => h⟩
theorem ck_148 : CK D cn q8 u q9 a9 t sv 148 := ⟨_, rfl, fun _ h => h⟩
theorem ck_149 : CK D cn q8 u q9 a9 t sv 149 := ⟨_, rfl, fun _ h => h⟩
theorem ck_150 : CK D cn q8 u q9 a9 t sv 150 := ⟨_, rfl, fun _ h => h⟩
theorem ck_151 : CK D cn q8 u q9 a9 t sv 151 := ⟨_, rfl, fun H h => by
  show va_at D vwCl (_, mem (KK D cn q8 u q9 a9 t sv) M0 151) H
  rw [at_Mholding _ _]
  exact at_ints h (fun j hj => by rcases (show j = 0 ∨ j = 1 ∨ j = 2 ∨ j = 3 ∨ j = 4 ∨ j = 5 ∨ j = 6 ∨ j = 7 by omega) with rfl | rfl | rfl | rfl | rfl | rfl | rfl | rfl <;> rfl)⟩
theorem ck_152 : CK D cn q8 u q9 a9 t sv 152 := ⟨_, rfl, fun _ h => h⟩
theorem ck_153 : CK D cn q8 u q9 a9 t sv 153 := ⟨_, rfl, fun _ h => h⟩
theorem ck_154 : CK D cn q8 u q9 a9 t sv 154 := ⟨_, rfl, fun _ h => h⟩
theorem ck_155 : CK D cn q8 u q9 a9 t sv 155 := ⟨_, rfl, fun _ h => h⟩
theorem ck_156 : CK D cn q8 u q9 a9 t sv 156 := ⟨_, rfl, fun _ h => h⟩
theorem ck_157 : CK D cn q8 u q9 a9 t sv 157 := ⟨_, rfl, fun _ h => h⟩
theorem ck_158 : CK D cn q8 u q9 a9 t sv 158 := ⟨_, rfl, fun _ h => h⟩
theorem ck_159 : CK D cn q8 u q9 a9 t sv 159 := ⟨_, rfl, fun _ h => h⟩
theorem ck_160 : CK D cn q8 u q9 a9 t sv 160 := ⟨_, rfl, fun _ h => h⟩
def allk (P : Nat → Prop) : Nat → Prop
  | 0 => True
  | n + 1 => allk P n ∧ P n
theorem allk_lt {P : Nat → Prop} : ∀ n : Nat, allk P n → ∀ k, k < n → P k
  | 0, _, k, hk => absurd hk (Nat.not_lt_zero k)
  | n + 1, h, k, hk => by
    by_cases e : k = n
    · subst e; exact h.2
    · exact allk_lt n h.1 k (by omega)
theorem ck_all : ∀ k, k < 161 → CK D cn q8 u q9 a9 t sv k := allk_lt 161 (show allk _ 161 from ⟨⟨⟨⟨⟨⟨⟨⟨⟨⟨⟨⟨⟨⟨⟨⟨⟨⟨⟨⟨⟨⟨⟨⟨⟨⟨⟨⟨⟨⟨⟨⟨⟨⟨⟨⟨⟨⟨⟨⟨⟨⟨⟨⟨⟨⟨⟨⟨⟨⟨⟨⟨⟨⟨⟨⟨⟨⟨⟨⟨⟨⟨⟨⟨⟨⟨⟨⟨⟨⟨⟨⟨⟨⟨⟨⟨⟨⟨⟨⟨⟨⟨⟨⟨⟨⟨⟨⟨⟨⟨⟨⟨⟨⟨⟨⟨⟨⟨⟨⟨⟨⟨⟨⟨⟨⟨⟨⟨⟨⟨⟨⟨⟨⟨⟨⟨⟨⟨⟨⟨⟨⟨⟨⟨⟨⟨⟨⟨⟨⟨⟨⟨⟨⟨⟨⟨⟨⟨⟨⟨⟨⟨⟨⟨⟨⟨⟨⟨⟨⟨⟨⟨⟨⟨⟨⟨⟨⟨⟨⟨⟨trivial, ck_0⟩, ck_1⟩, ck_2⟩, ck_3⟩, ck_4⟩, ck_5⟩, ck_6⟩, ck_7⟩, ck_8⟩, ck_9⟩, ck_10⟩, ck_11⟩, ck_12⟩, ck_13⟩, ck_14⟩, ck_15⟩, ck_16⟩, ck_17⟩, ck_18⟩, ck_19⟩, ck_20⟩, ck_21⟩, ck_22⟩, ck_23⟩, ck_24⟩, ck_25⟩, ck_26⟩, ck_27⟩, ck_28⟩, ck_29⟩, ck_30⟩, ck_31⟩, ck_32⟩, ck_33⟩, ck_34⟩, ck_35⟩, ck_36⟩, ck_37⟩, ck_38⟩, ck_39⟩, ck_40⟩, ck_41⟩, ck_42⟩, ck_43⟩, ck_44⟩, ck_45⟩, ck_46⟩, ck_47⟩, ck_48⟩, ck_49⟩, ck_50⟩, ck_51⟩, ck_52⟩, ck_53⟩, ck_54⟩, ck_55⟩, ck_56⟩, ck_57⟩, ck_58⟩, ck_59⟩, ck_60⟩, ck_61⟩, ck_62⟩, ck_63⟩, ck_64⟩, ck_65⟩, ck_66⟩, ck_67⟩, ck_68⟩, ck_69⟩, ck_70⟩, ck_71⟩, ck_72⟩, ck_73⟩, ck_74⟩, ck_75⟩, ck_76⟩, ck_77⟩, ck_78⟩, ck_79⟩, ck_80⟩, ck_81⟩, ck_82⟩, ck_83⟩, ck_84⟩, ck_85⟩, ck_86⟩, ck_87⟩, ck_88⟩, ck_89⟩, ck_90⟩, ck_91⟩, ck_92⟩, ck_93⟩, ck_94⟩, ck_95⟩, ck_96⟩, ck_97⟩, ck_98⟩, ck_99⟩, ck_100⟩, ck_101⟩, ck_102⟩, ck_103⟩, ck_104⟩, ck_105⟩, ck_106⟩, ck_107⟩, ck_108⟩, ck_109⟩, ck_110⟩, ck_111⟩, ck_112⟩, ck_113⟩, ck_114⟩, ck_115⟩, ck_116⟩, ck_117⟩, ck_118⟩, ck_119⟩, ck_120⟩, ck_121⟩, ck_122⟩, ck_123⟩, ck_124⟩, ck_125⟩, ck_126⟩, ck_127⟩, ck_128⟩, ck_129⟩, ck_130⟩, ck_131⟩, ck_132⟩, ck_133⟩, ck_134⟩, ck_135⟩, ck_136⟩, ck_137⟩, ck_138⟩, ck_139⟩, ck_140⟩, ck_141⟩, ck_142⟩, ck_143⟩, ck_144⟩, ck_145⟩, ck_146⟩, ck_147⟩, ck_148⟩, ck_149⟩, ck_150⟩, ck_151⟩, ck_152⟩, ck_153⟩, ck_154⟩, ck_155⟩, ck_156⟩, ck_157⟩, ck_158⟩, ck_159⟩, ck_160⟩)
theorem hand {A : Nat → Prop} {H : Heap} (hP : va_P D vwCl (WS cn q8 u q9 a9) H) (hD : va_D A (WS cn q8 u q9 a9)) : va_P D vwCl (wd (KK D cn q8 u q9 a9 t sv) M0) H ∧ inj (KK D cn q8 u q9 a9 t sv) ∧ ∀ q, aK (KK D cn q8 u q9 a9 t sv) q → A q := by
  have ck := ck_all (D := D) (cn := cn) (q8 := q8) (u := u) (q9 := q9) (a9 := a9) (t := t) (sv := sv)
  refine ⟨fun k q hq => ?_, fun i j hi hj e => ?_, fun q hq => ?_⟩
  · have hk : k < 161 := by
      have := (List.getElem?_eq_some_iff.mp hq).1
      simpa [wd] using this
    rw [wd_at _ _ hk rfl] at hq
    obtain ⟨e, h1, h2⟩ := ck k hk
    rw [← Option.some.inj hq]
    exact h2 H (hP _ _ h1)
  · obtain ⟨e1, h1, -⟩ := ck i hi
    obtain ⟨e2, h2, -⟩ := ck j hj
    have h3 : posL.getD i 0 = posL.getD j 0 := hD.1 _ _ _ _ h1 h2 e
    rw [← pos_ord i hi, h3, pos_ord j hj]
  · obtain ⟨k, hk, rfl⟩ := hq
    obtain ⟨e, h1, -⟩ := ck k hk
    exact hD.2 _ _ h1
end Hand
