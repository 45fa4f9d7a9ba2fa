/-! ===== the cells as they came, and the world ===== -/
section Hand
def WSn (cn : Nat → ClassId) (q8 : Nat) (u : S8) (q9 : Nat) (a9 : Nat → Nat) : va_W := Wf8 cn q8 u ++ Wf9 cn q9 a9
def a5 (u : S8) (s : Nat) : Nat := match s with | 0 => u.1.1 | 1 => u.2.1.1 | 2 => u.2.2.1.2.1 | 3 => u.2.2.2.1.2.1 | _ => u.2.2.2.2.1.2.2.1
def u5 (u : S8) (s : Nat) : S5 := match s with | 0 => u.1.2 | 1 => u.2.1.2 | 2 => u.2.2.1.2.2.1 | 3 => u.2.2.2.1.2.2.1 | _ => u.2.2.2.2.1.2.2.2.1
def ad12 (q8 : Nat) (u : S8) (k : Nat) : Nat := match k with | 0 => q8 | 1 => u.2.2.2.2.2.2.1 | 2 => u.2.2.2.2.2.1 | 3 => u.2.2.1.1 | 4 => u.2.2.1.2.2.2 | 5 => u.2.2.2.1.1 | 6 => u.2.2.2.1.2.2.2.1 | 7 => u.2.2.2.1.2.2.2.2.1 | 8 => u.2.2.2.1.2.2.2.2.2.2 | 9 => u.2.2.2.2.1.1 | 10 => u.2.2.2.2.1.2.1 | _ => u.2.2.2.2.1.2.2.2.2
def adF (q8 : Nat) (u : S8) (q9 : Nat) (a9 t : Nat → Nat) : Nat → Nat := fun k => if k < 12 then ad12 q8 u k else if k < 17 then a5 u (k - 12) else if k < 22 then (u5 u (k - 17)).1 else if k < 27 then (u5 u (k - 22)).2.1 else if k < 35 then u.2.2.2.2.2.2.2.1 (k - 27) else if k < 43 then (u.2.2.2.2.2.2.2.2 (k - 35)).1 else if k < 51 then (u.2.2.2.2.2.2.2.2 (k - 43)).2 else if k < 60 then u.2.2.2.1.2.2.2.2.2.1 (k - 51) else if k < 100 then (u5 u ((k - 60) / 8)).2.2.1 ((k - 60) % 8) else if k < 140 then (u5 u ((k - 100) / 8)).2.2.2 ((k - 100) % 8) else if k < 141 then q9 else if k < 161 then a9 (k - 141) else t (k - 200)
def KK (D : va_G) (cn : Nat → ClassId) (q8 : Nat) (u : S8) (q9 : Nat) (a9 t sv : Nat → Nat) : KT := (D, cn, adF q8 u q9 a9 t, sv)
def posL : List Nat := [0, 115, 1, 40, 60, 61, 81, 82, 92, 93, 94, 114, 2, 21, 41, 62, 95, 12, 31, 51, 72, 105, 3, 22, 42, 63, 96, 116, 119, 122, 125, 128, 131, 134, 137, 117, 120, 123, 126, 129, 132, 135, 138, 118, 121, 124, 127, 130, 133, 136, 139, 83, 84, 85, 86, 87, 88, 89, 90, 91, 4, 5, 6, 7, 8, 9, 10, 11, 23, 24, 25, 26, 27, 28, 29, 30, 43, 44, 45, 46, 47, 48, 49, 50, 64, 65, 66, 67, 68, 69, 70, 71, 97, 98, 99, 100, 101, 102, 103, 104, 13, 14, 15, 16, 17, 18, 19, 20, 32, 33, 34, 35, 36, 37, 38, 39, 52, 53, 54, 55, 56, 57, 58, 59, 73, 74, 75, 76, 77, 78, 79, 80, 106, 107, 108, 109, 110, 111, 112, 113, 140, 141, 142, 143, 144, 145, 146, 147, 148, 149, 150, 151, 152, 153, 154, 155, 156, 157, 158, 159, 160]
def ordL : List Nat := [0, 2, 12, 22, 60, 61, 62, 63, 64, 65, 66, 67, 17, 100, 101, 102, 103, 104, 105, 106, 107, 13, 23, 68, 69, 70, 71, 72, 73, 74, 75, 18, 108, 109, 110, 111, 112, 113, 114, 115, 3, 14, 24, 76, 77, 78, 79, 80, 81, 82, 83, 19, 116, 117, 118, 119, 120, 121, 122, 123, 4, 5, 15, 25, 84, 85, 86, 87, 88, 89, 90, 91, 20, 124, 125, 126, 127, 128, 129, 130, 131, 6, 7, 51, 52, 53, 54, 55, 56, 57, 58, 59, 8, 9, 10, 16, 26, 92, 93, 94, 95, 96, 97, 98, 99, 21, 132, 133, 134, 135, 136, 137, 138, 139, 11, 1, 27, 35, 43, 28, 36, 44, 29, 37, 45, 30, 38, 46, 31, 39, 47, 32, 40, 48, 33, 41, 49, 34, 42, 50, 140, 141, 142, 143, 144, 145, 146, 147, 148, 149, 150, 151, 152, 153, 154, 155, 156, 157, 158, 159, 160]
theorem pos_ord : ∀ i, i < 161 → ordL[posL.getD i 0]? = some i := by decide +kernel
theorem arrV_ext {cA : ClassId} {n : Nat} {f g : Nat → Value} (h : ∀ j, j < n → f j = g j) : arrV cA n f = arrV cA n g := by
  unfold arrV
  congr 1
  apply Array.ext
  · simp
  · intro i h1 h2
    simp only [Array.getElem_ofFn]
    exact h i (by simpa using h1)
theorem at_refs {D : va_G} {a : Nat} {cA : ClassId} {n : Nat} {f g : Nat → Option Nat} {H : Heap} (h : va_at D vwCl (a, .inl (cA, n, .inr (.inr (.inr (.inr f))))) H) (e : ∀ j, j < n → f j = g j) : va_at D vwCl (a, .inl (cA, n, .inr (.inr (.inr (.inr g))))) H := by
  have h2 : H[a]? = some (vp_cell cA (n, .inr (.inr (.inr (.inr f))))) := h
  show H[a]? = some (vp_cell cA (n, .inr (.inr (.inr (.inr g)))))
  rw [h2, vp_cell_q, vp_cell_q, arrV_ext (fun j hj => by rw [e j hj])]
theorem at_ints {D : va_G} {a : Nat} {cA : ClassId} {n : Nat} {f g : Nat → Int32} {H : Heap} (h : va_at D vwCl (a, .inl (cA, n, .inl f)) H) (e : ∀ j, j < n → f j = g j) : va_at D vwCl (a, .inl (cA, n, .inl g)) H := by
  have h2 : H[a]? = some (vp_cell cA (n, .inl f)) := h
  show H[a]? = some (vp_cell cA (n, .inl g))
  rw [h2, vp_cell_i, vp_cell_i, arrV_ext (fun j hj => by rw [e j hj])]
theorem rr_at {n : Nat} {r g : Nat → Nat} (h : ∀ j, j < n → r j = g j) : ∀ j, j < n → rr n r j = some (g j) := fun j hj => by
  unfold rr
  rw [if_pos hj, h j hj]
theorem mem_mkW {f : Nat → va_W} {x : Nat × va_E} {t : Nat} : ∀ n : Nat, t < n → x ∈ f t → x ∈ mkW n f
  | 0, h, _ => absurd h (Nat.not_lt_zero t)
  | n + 1, h, hx => by
    show x ∈ mkW n f ++ f n
    by_cases e : t = n
    · subst e; exact List.mem_append_right _ hx
    · exact List.mem_append_left _ (mem_mkW n (by omega) hx)
variable {D : va_G} {cn : Nat → ClassId} {q8 : Nat} {u : S8} {q9 : Nat} {a9 t sv : Nat → Nat} {H : Heap}
theorem adF_S {j : Nat} (h : j < 5) : adF q8 u q9 a9 t (12 + j) = a5 u j := by
  unfold adF
  rw [if_neg (by omega), if_pos (by omega), show 12 + j - 12 = j by omega]
theorem adF_WA {j : Nat} (h : j < 5) : adF q8 u q9 a9 t (17 + j) = (u5 u j).1 := by
  unfold adF
  rw [if_neg (by omega), if_neg (by omega), if_pos (by omega), show 17 + j - 17 = j by omega]
theorem adF_PA {j : Nat} (h : j < 5) : adF q8 u q9 a9 t (22 + j) = (u5 u j).2.1 := by
  unfold adF
  rw [if_neg (by omega), if_neg (by omega), if_neg (by omega), if_pos (by omega), show 22 + j - 22 = j by omega]
theorem adF_H {j : Nat} (h : j < 8) : adF q8 u q9 a9 t (27 + j) = u.2.2.2.2.2.2.2.1 j := by
  unfold adF
  rw [if_neg (by omega), if_neg (by omega), if_neg (by omega), if_neg (by omega), if_pos (by omega), show 27 + j - 27 = j by omega]
theorem adF_R {j : Nat} (h : j < 8) : adF q8 u q9 a9 t (35 + j) = (u.2.2.2.2.2.2.2.2 j).1 := by
  unfold adF
  rw [if_neg (by omega), if_neg (by omega), if_neg (by omega), if_neg (by omega), if_neg (by omega), if_pos (by omega), show 35 + j - 35 = j by omega]
theorem adF_E {j : Nat} (h : j < 8) : adF q8 u q9 a9 t (43 + j) = (u.2.2.2.2.2.2.2.2 j).2 := by
  unfold adF
  rw [if_neg (by omega), if_neg (by omega), if_neg (by omega), if_neg (by omega), if_neg (by omega), if_neg (by omega), if_pos (by omega), show 43 + j - 43 = j by omega]
theorem adF_B {j : Nat} (h : j < 9) : adF q8 u q9 a9 t (51 + j) = u.2.2.2.1.2.2.2.2.2.1 j := by
  unfold adF
  rw [if_neg (by omega), if_neg (by omega), if_neg (by omega), if_neg (by omega), if_neg (by omega), if_neg (by omega), if_neg (by omega), if_pos (by omega), show 51 + j - 51 = j by omega]
theorem adF_M {j : Nat} (h : j < 20) : adF q8 u q9 a9 t (141 + j) = a9 j := by
  unfold adF
  rw [if_neg (by omega), if_neg (by omega), if_neg (by omega), if_neg (by omega), if_neg (by omega), if_neg (by omega), if_neg (by omega), if_neg (by omega), if_neg (by omega), if_neg (by omega), if_neg (by omega), if_pos (by omega), show 141 + j - 141 = j by omega]
theorem adF_W {s j : Nat} (hs : s < 5) (h : j < 8) : adF q8 u q9 a9 t (60 + 8 * s + j) = (u5 u s).2.2.1 j := by
  unfold adF
  rw [if_neg (by omega), if_neg (by omega), if_neg (by omega), if_neg (by omega), if_neg (by omega), if_neg (by omega), if_neg (by omega), if_neg (by omega), if_pos (by omega), show (60 + 8 * s + j - 60) / 8 = s by omega, show (60 + 8 * s + j - 60) % 8 = j by omega]
theorem adF_P {s j : Nat} (hs : s < 5) (h : j < 8) : adF q8 u q9 a9 t (100 + 8 * s + j) = (u5 u s).2.2.2 j := by
  unfold adF
  rw [if_neg (by omega), if_neg (by omega), if_neg (by omega), if_neg (by omega), if_neg (by omega), if_neg (by omega), if_neg (by omega), if_neg (by omega), if_neg (by omega), if_pos (by omega), show (100 + 8 * s + j - 100) / 8 = s by omega, show (100 + 8 * s + j - 100) % 8 = j by omega]
theorem adF_0 : adF q8 u q9 a9 t 0 = q8 := rfl
theorem adF_1 : adF q8 u q9 a9 t 1 = u.2.2.2.2.2.2.1 := rfl
theorem adF_2 : adF q8 u q9 a9 t 2 = u.2.2.2.2.2.1 := rfl
theorem adF_3 : adF q8 u q9 a9 t 3 = u.2.2.1.1 := rfl
theorem adF_4 : adF q8 u q9 a9 t 4 = u.2.2.1.2.2.2 := rfl
theorem adF_5 : adF q8 u q9 a9 t 5 = u.2.2.2.1.1 := rfl
theorem adF_6 : adF q8 u q9 a9 t 6 = u.2.2.2.1.2.2.2.1 := rfl
theorem adF_7 : adF q8 u q9 a9 t 7 = u.2.2.2.1.2.2.2.2.1 := rfl
theorem adF_8 : adF q8 u q9 a9 t 8 = u.2.2.2.1.2.2.2.2.2.2 := rfl
theorem adF_9 : adF q8 u q9 a9 t 9 = u.2.2.2.2.1.1 := rfl
theorem adF_10 : adF q8 u q9 a9 t 10 = u.2.2.2.2.1.2.1 := rfl
theorem adF_11 : adF q8 u q9 a9 t 11 = u.2.2.2.2.1.2.2.2.2 := rfl
theorem adF_140 : adF q8 u q9 a9 t 140 = q9 := rfl
theorem ad_ws : (WSn cn q8 u q9 a9).map (·.1) = ordL.map (adF q8 u q9 a9 t) := by
  have r9 : List.range 9 = [0, 1, 2, 3, 4, 5, 6, 7, 8] := rfl
  have h : (WSn cn q8 u q9 a9).map (·.1) = [q8, u.2.2.2.2.2.1, u.1.1, u.1.2.2.1, u.1.2.2.2.1 0, u.1.2.2.2.1 1, u.1.2.2.2.1 2, u.1.2.2.2.1 3, u.1.2.2.2.1 4, u.1.2.2.2.1 5, u.1.2.2.2.1 6, u.1.2.2.2.1 7, u.1.2.1, u.1.2.2.2.2 0, u.1.2.2.2.2 1, u.1.2.2.2.2 2, u.1.2.2.2.2 3, u.1.2.2.2.2 4, u.1.2.2.2.2 5, u.1.2.2.2.2 6, u.1.2.2.2.2 7, u.2.1.1, u.2.1.2.2.1, u.2.1.2.2.2.1 0, u.2.1.2.2.2.1 1, u.2.1.2.2.2.1 2, u.2.1.2.2.2.1 3, u.2.1.2.2.2.1 4, u.2.1.2.2.2.1 5, u.2.1.2.2.2.1 6, u.2.1.2.2.2.1 7, u.2.1.2.1, u.2.1.2.2.2.2 0, u.2.1.2.2.2.2 1, u.2.1.2.2.2.2 2, u.2.1.2.2.2.2 3, u.2.1.2.2.2.2 4, u.2.1.2.2.2.2 5, u.2.1.2.2.2.2 6, u.2.1.2.2.2.2 7, u.2.2.1.1, u.2.2.1.2.1, u.2.2.1.2.2.1.2.1, u.2.2.1.2.2.1.2.2.1 0, u.2.2.1.2.2.1.2.2.1 1, u.2.2.1.2.2.1.2.2.1 2, u.2.2.1.2.2.1.2.2.1 3, u.2.2.1.2.2.1.2.2.1 4, u.2.2.1.2.2.1.2.2.1 5, u.2.2.1.2.2.1.2.2.1 6, u.2.2.1.2.2.1.2.2.1 7, u.2.2.1.2.2.1.1, u.2.2.1.2.2.1.2.2.2 0, u.2.2.1.2.2.1.2.2.2 1, u.2.2.1.2.2.1.2.2.2 2, u.2.2.1.2.2.1.2.2.2 3, u.2.2.1.2.2.1.2.2.2 4, u.2.2.1.2.2.1.2.2.2 5, u.2.2.1.2.2.1.2.2.2 6, u.2.2.1.2.2.1.2.2.2 7, u.2.2.1.2.2.2, u.2.2.2.1.1, u.2.2.2.1.2.1, u.2.2.2.1.2.2.1.2.1, u.2.2.2.1.2.2.1.2.2.1 0, u.2.2.2.1.2.2.1.2.2.1 1, u.2.2.2.1.2.2.1.2.2.1 2, u.2.2.2.1.2.2.1.2.2.1 3, u.2.2.2.1.2.2.1.2.2.1 4, u.2.2.2.1.2.2.1.2.2.1 5, u.2.2.2.1.2.2.1.2.2.1 6, u.2.2.2.1.2.2.1.2.2.1 7, u.2.2.2.1.2.2.1.1, u.2.2.2.1.2.2.1.2.2.2 0, u.2.2.2.1.2.2.1.2.2.2 1, u.2.2.2.1.2.2.1.2.2.2 2, u.2.2.2.1.2.2.1.2.2.2 3, u.2.2.2.1.2.2.1.2.2.2 4, u.2.2.2.1.2.2.1.2.2.2 5, u.2.2.2.1.2.2.1.2.2.2 6, u.2.2.2.1.2.2.1.2.2.2 7, u.2.2.2.1.2.2.2.1, u.2.2.2.1.2.2.2.2.1, u.2.2.2.1.2.2.2.2.2.1 0, u.2.2.2.1.2.2.2.2.2.1 1, u.2.2.2.1.2.2.2.2.2.1 2, u.2.2.2.1.2.2.2.2.2.1 3, u.2.2.2.1.2.2.2.2.2.1 4, u.2.2.2.1.2.2.2.2.2.1 5, u.2.2.2.1.2.2.2.2.2.1 6, u.2.2.2.1.2.2.2.2.2.1 7, u.2.2.2.1.2.2.2.2.2.1 8, u.2.2.2.1.2.2.2.2.2.2, u.2.2.2.2.1.1, u.2.2.2.2.1.2.1, u.2.2.2.2.1.2.2.1, u.2.2.2.2.1.2.2.2.1.2.1, u.2.2.2.2.1.2.2.2.1.2.2.1 0, u.2.2.2.2.1.2.2.2.1.2.2.1 1, u.2.2.2.2.1.2.2.2.1.2.2.1 2, u.2.2.2.2.1.2.2.2.1.2.2.1 3, u.2.2.2.2.1.2.2.2.1.2.2.1 4, u.2.2.2.2.1.2.2.2.1.2.2.1 5, u.2.2.2.2.1.2.2.2.1.2.2.1 6, u.2.2.2.2.1.2.2.2.1.2.2.1 7, u.2.2.2.2.1.2.2.2.1.1, u.2.2.2.2.1.2.2.2.1.2.2.2 0, u.2.2.2.2.1.2.2.2.1.2.2.2 1, u.2.2.2.2.1.2.2.2.1.2.2.2 2, u.2.2.2.2.1.2.2.2.1.2.2.2 3, u.2.2.2.2.1.2.2.2.1.2.2.2 4, u.2.2.2.2.1.2.2.2.1.2.2.2 5, u.2.2.2.2.1.2.2.2.1.2.2.2 6, u.2.2.2.2.1.2.2.2.1.2.2.2 7, u.2.2.2.2.1.2.2.2.2, u.2.2.2.2.2.2.1, u.2.2.2.2.2.2.2.1 0, (u.2.2.2.2.2.2.2.2 0).1, (u.2.2.2.2.2.2.2.2 0).2, u.2.2.2.2.2.2.2.1 1, (u.2.2.2.2.2.2.2.2 1).1, (u.2.2.2.2.2.2.2.2 1).2, u.2.2.2.2.2.2.2.1 2, (u.2.2.2.2.2.2.2.2 2).1, (u.2.2.2.2.2.2.2.2 2).2, u.2.2.2.2.2.2.2.1 3, (u.2.2.2.2.2.2.2.2 3).1, (u.2.2.2.2.2.2.2.2 3).2, u.2.2.2.2.2.2.2.1 4, (u.2.2.2.2.2.2.2.2 4).1, (u.2.2.2.2.2.2.2.2 4).2, u.2.2.2.2.2.2.2.1 5, (u.2.2.2.2.2.2.2.2 5).1, (u.2.2.2.2.2.2.2.2 5).2, u.2.2.2.2.2.2.2.1 6, (u.2.2.2.2.2.2.2.2 6).1, (u.2.2.2.2.2.2.2.2 6).2, u.2.2.2.2.2.2.2.1 7, (u.2.2.2.2.2.2.2.2 7).1, (u.2.2.2.2.2.2.2.2 7).2, q9, a9 0, a9 1, a9 2, a9 3, a9 4, a9 5, a9 6, a9 7, a9 8, a9 9, a9 10, a9 11, a9 12, a9 13, a9 14, a9 15, a9 16, a9 17, a9 18, a9 19] := by
    simp only [WSn, Wf8, Wf0, Wf1, Wf6, Wf5, Wf4, Wf3, Wf2, Wf7, Wf9, mkW, r9, List.map_append, List.map_cons, List.map_nil, List.cons_append, List.nil_append, List.append_assoc, List.append_nil]
  rw [h]
  rfl
theorem ws_at {k : Nat} (hk : k < 161) : ∃ x, (WSn cn q8 u q9 a9)[posL.getD k 0]? = some x ∧ x.1 = adF q8 u q9 a9 t k := by
  have h : ((WSn cn q8 u q9 a9).map (·.1))[posL.getD k 0]? = some (adF q8 u q9 a9 t k) := by
    rw [ad_ws (t := t), List.getElem?_map, pos_ord k hk]
    rfl
  rw [List.getElem?_map] at h
  cases hx : (WSn cn q8 u q9 a9)[posL.getD k 0]? with
  | none => rw [hx] at h; cases h
  | some x => rw [hx] at h; exact ⟨x, rfl, Option.some.inj h⟩
theorem hand_inj {A : Nat → Prop} (hD : va_D A (WSn cn q8 u q9 a9)) : inj (KK D cn q8 u q9 a9 t sv) ∧ ∀ q, aK (KK D cn q8 u q9 a9 t sv) q → A q := by
  refine ⟨fun i j hi hj e => ?_, fun q hq => ?_⟩
  · obtain ⟨x, h1, e1⟩ := ws_at (cn := cn) (q8 := q8) (u := u) (q9 := q9) (a9 := a9) (t := t) hi
    obtain ⟨y, h2, e2⟩ := ws_at (cn := cn) (q8 := q8) (u := u) (q9 := q9) (a9 := a9) (t := t) hj
    have h3 : posL.getD i 0 = posL.getD j 0 := hD.1 _ _ _ _ h1 h2 (by rw [e1, e2]; exact e)
    have h4 := pos_ord i hi
    rw [h3, pos_ord j hj] at h4
    exact (Option.some.inj h4).symm
  · obtain ⟨k, hk, rfl⟩ := hq
    obtain ⟨x, h1, e1⟩ := ws_at (cn := cn) (q8 := q8) (u := u) (q9 := q9) (a9 := a9) (t := t) hk
    have h := hD.2 _ _ h1
    rw [e1] at h
    exact h
theorem ws_5 {s : Nat} (hs : s < 5) : ∀ x ∈ Wf5 cn (a5 u s) (u5 u s), x ∈ WSn cn q8 u q9 a9 := by
  intro x hx
  simp only [WSn, Wf8, Wf0, Wf1, Wf6, List.mem_append, List.mem_cons]
  rcases (show s = 0 ∨ s = 1 ∨ s = 2 ∨ s = 3 ∨ s = 4 by omega) with rfl | rfl | rfl | rfl | rfl
  · have hx : x ∈ Wf5 cn u.1.1 u.1.2 := hx
    simp only [hx, true_or, or_true]
  · have hx : x ∈ Wf5 cn u.2.1.1 u.2.1.2 := hx
    simp only [hx, true_or, or_true]
  · have hx : x ∈ Wf5 cn u.2.2.1.2.1 u.2.2.1.2.2.1 := hx
    simp only [hx, true_or, or_true]
  · have hx : x ∈ Wf5 cn u.2.2.2.1.2.1 u.2.2.2.1.2.2.1 := hx
    simp only [hx, true_or, or_true]
  · have hx : x ∈ Wf5 cn u.2.2.2.2.1.2.2.1 u.2.2.2.2.1.2.2.2.1 := hx
    simp only [hx, true_or, or_true]
theorem ws_4 {j : Nat} (hj : j < 8) : ∀ x ∈ Wf4 cn (u.2.2.2.2.2.2.2.1 j) (u.2.2.2.2.2.2.2.2 j), x ∈ WSn cn q8 u q9 a9 := fun x hx => List.mem_append_left _ (List.mem_cons_of_mem _ (List.mem_cons_of_mem _ (List.mem_append_right _ (mem_mkW (f := fun i => Wf4 cn (u.2.2.2.2.2.2.2.1 i) (u.2.2.2.2.2.2.2.2 i)) 8 hj hx))))
abbrev KM (D : va_G) (cn : Nat → ClassId) (q8 : Nat) (u : S8) (q9 : Nat) (a9 t sv : Nat → Nat) (H : Heap) (k : Nat) : Prop := va_at D vwCl (adF q8 u q9 a9 t k, mem (KK D cn q8 u q9 a9 t sv) M0 k) H
theorem hm (hP : va_P D vwCl (WSn cn q8 u q9 a9) H) : ∀ x ∈ WSn cn q8 u q9 a9, va_at D vwCl x H := fun x hx => by
  obtain ⟨k, hk⟩ := List.getElem?_of_mem hx
  exact hP k x hk
theorem km_S {s : Nat} (hs : s < 5) (hP : va_P D vwCl (WSn cn q8 u q9 a9) H) : KM D cn q8 u q9 a9 t sv H (iS s) := by
  have h : va_at D vwCl (a5 u s, .inr (5, [.ref (u5 u s).1, .ref (u5 u s).2.1, .int 0, .int 0, .int 12, .int 5, .int 0, .int 40, .int 0, .int 1])) H := hm hP _ (ws_5 hs _ List.mem_cons_self)
  show va_at D vwCl (adF q8 u q9 a9 t (12 + s), mem (KK D cn q8 u q9 a9 t sv) M0 (iS s)) H
  rw [at_Str _ _ s hs, adF_S hs]
  show va_at D vwCl (a5 u s, .inr (5, [.ref (adF q8 u q9 a9 t (17 + s)), .ref (adF q8 u q9 a9 t (22 + s)), .int 0, .int 0, .int 12, .int 5, .int 0, .int 40, .int 0, .int 1])) H
  rw [adF_WA hs, adF_PA hs]
  exact h
theorem km_WA {s : Nat} (hs : s < 5) (hP : va_P D vwCl (WSn cn q8 u q9 a9) H) : KM D cn q8 u q9 a9 t sv H (iWA s) := by
  have h : va_at D vwCl ((u5 u s).1, .inl (cn 2, 8, .inr (.inr (.inr (.inr (rr 8 (u5 u s).2.2.1)))))) H := hm hP _ (ws_5 hs _ (List.mem_cons_of_mem _ (List.mem_cons_of_mem _ (List.mem_append_left _ (List.mem_append_right _ List.mem_cons_self)))))
  show va_at D vwCl (adF q8 u q9 a9 t (17 + s), mem (KK D cn q8 u q9 a9 t sv) M0 (iWA s)) H
  rw [at_WA _ _ s hs, adF_WA hs]
  exact at_refs h (rr_at (fun j hj => (adF_W hs hj).symm))
theorem km_PA {s : Nat} (hs : s < 5) (hP : va_P D vwCl (WSn cn q8 u q9 a9) H) : KM D cn q8 u q9 a9 t sv H (iPA s) := by
  have h : va_at D vwCl ((u5 u s).2.1, .inl (cn 3, 8, .inr (.inr (.inr (.inr (rr 8 (u5 u s).2.2.2)))))) H := hm hP _ (ws_5 hs _ (List.mem_cons_of_mem _ List.mem_cons_self))
  show va_at D vwCl (adF q8 u q9 a9 t (22 + s), mem (KK D cn q8 u q9 a9 t sv) M0 (iPA s)) H
  rw [at_PA _ _ s hs, adF_PA hs]
  exact at_refs h (rr_at (fun j hj => (adF_P hs hj).symm))
theorem km_W {s j : Nat} (hs : s < 5) (hj : j < 8) (hP : va_P D vwCl (WSn cn q8 u q9 a9) H) : KM D cn q8 u q9 a9 t sv H (iW s j) := by
  have h : va_at D vwCl ((u5 u s).2.2.1 j, .inr (7, [.int 0, .int 0, .int 0])) H := hm hP _ (ws_5 hs _ (List.mem_cons_of_mem _ (List.mem_cons_of_mem _ (List.mem_append_left _ (List.mem_append_left _ (mem_mkW (f := fun i => Wf7 cn ((u5 u s).2.2.1 i) ()) 8 hj List.mem_cons_self))))))
  show va_at D vwCl (adF q8 u q9 a9 t (60 + 8 * s + j), mem (KK D cn q8 u q9 a9 t sv) M0 (iW s j)) H
  rw [at_Win _ _ s j hs hj, adF_W hs hj]
  exact h
theorem m0_P (s f j : Nat) (hf : f = 12 ∨ f = 13) (hs : s < 5) : M0.1 s f j = -1 := by
  show (if f = 2 ∧ j = 0 then (12 : Int32) else if f = 3 ∧ j = 0 then 5 else if f = 3 ∧ j = 2 then 40 else if f = 5 ∧ j = 0 then 1 else if (f = 12 ∨ f = 13) ∧ s < 5 then -1 else 0) = -1
  rw [if_neg (by omega), if_neg (by omega), if_neg (by omega), if_neg (by omega), if_pos ⟨hf, hs⟩]
theorem km_P {s j : Nat} (hs : s < 5) (hj : j < 8) (hP : va_P D vwCl (WSn cn q8 u q9 a9) H) : KM D cn q8 u q9 a9 t sv H (iP s j) := by
  have h : va_at D vwCl ((u5 u s).2.2.2 j, .inr (2, [.int 0, .int 0, .int 0, .int (-1), .int (-1)])) H := hm hP _ (ws_5 hs _ (List.mem_cons_of_mem _ (List.mem_cons_of_mem _ (List.mem_append_right _ (mem_mkW (f := fun i => Wf2 cn ((u5 u s).2.2.2 i) ()) 8 hj List.mem_cons_self)))))
  show va_at D vwCl (adF q8 u q9 a9 t (100 + 8 * s + j), mem (KK D cn q8 u q9 a9 t sv) M0 (iP s j)) H
  rw [at_Per _ _ s j hs hj, adF_P hs hj, m0_P s 12 j (Or.inl rfl) hs, m0_P s 13 j (Or.inr rfl) hs]
  exact h
theorem km_H {j : Nat} (hj : j < 8) (hP : va_P D vwCl (WSn cn q8 u q9 a9) H) : KM D cn q8 u q9 a9 t sv H (iH j) := by
  have h : va_at D vwCl (u.2.2.2.2.2.2.2.1 j, .inr (4, [.ref (u.2.2.2.2.2.2.2.2 j).1, .int 0, .int (-1)])) H := hm hP _ (ws_4 hj _ List.mem_cons_self)
  show va_at D vwCl (adF q8 u q9 a9 t (27 + j), mem (KK D cn q8 u q9 a9 t sv) M0 (iH j)) H
  rw [at_She _ _ j hj, adF_H hj]
  show va_at D vwCl (u.2.2.2.2.2.2.2.1 j, .inr (4, [.ref (adF q8 u q9 a9 t (35 + j)), .int 0, .int (-1)])) H
  rw [adF_R hj]
  exact h
theorem km_R {j : Nat} (hj : j < 8) (hP : va_P D vwCl (WSn cn q8 u q9 a9) H) : KM D cn q8 u q9 a9 t sv H (iR j) := by
  have h : va_at D vwCl ((u.2.2.2.2.2.2.2.2 j).1, .inr (3, [.ref (u.2.2.2.2.2.2.2.2 j).2, .int 0, .int 0])) H := hm hP _ (ws_4 hj _ (List.mem_cons_of_mem _ List.mem_cons_self))
  show va_at D vwCl (adF q8 u q9 a9 t (35 + j), mem (KK D cn q8 u q9 a9 t sv) M0 (iR j)) H
  rw [at_Row _ _ j hj, adF_R hj]
  show va_at D vwCl ((u.2.2.2.2.2.2.2.2 j).1, .inr (3, [.ref (adF q8 u q9 a9 t (43 + j)), .int 0, .int 0])) H
  rw [adF_E hj]
  exact h
theorem km_E {j : Nat} (hj : j < 8) (hP : va_P D vwCl (WSn cn q8 u q9 a9) H) : KM D cn q8 u q9 a9 t sv H (iE j) := by
  have h : va_at D vwCl ((u.2.2.2.2.2.2.2.2 j).2, .inl (cn 1, 40, .inr (.inl (fun _ => 0)))) H := hm hP _ (ws_4 hj _ (List.mem_cons_of_mem _ (List.mem_cons_of_mem _ List.mem_cons_self)))
  show va_at D vwCl (adF q8 u q9 a9 t (43 + j), mem (KK D cn q8 u q9 a9 t sv) M0 (iE j)) H
  rw [at_Ele _ _ j hj, adF_E hj]
  exact h
theorem km_B {j : Nat} (hj : j < 9) (hP : va_P D vwCl (WSn cn q8 u q9 a9) H) : KM D cn q8 u q9 a9 t sv H (iB j) := by
  have h : va_at D vwCl (u.2.2.2.1.2.2.2.2.2.1 j, .inl (cn 0, 256, .inl (fun _ => 0))) H := hm hP _ (List.mem_append_left _ (List.mem_cons_of_mem _ (List.mem_cons_of_mem _ (List.mem_append_left _ (List.mem_append_left _ (List.mem_append_left _ (List.mem_append_right _ (List.mem_cons_of_mem _ (List.mem_append_left _ (List.mem_append_right _ (List.mem_map.mpr ⟨j, List.mem_range.mpr hj, rfl⟩)))))))))))
  show va_at D vwCl (adF q8 u q9 a9 t (51 + j), mem (KK D cn q8 u q9 a9 t sv) M0 (iB j)) H
  rw [at_Bro _ _ j hj, adF_B hj]
  refine at_ints h (fun i hi => ?_)
  show (0 : Int32) = if 13 + j = 10 then -1 else if 13 + j = 32 ∧ i < 8 then -1 else 0
  rw [if_neg (by omega), if_neg (by omega)]
theorem km_0 (hP : va_P D vwCl (WSn cn q8 u q9 a9) H) : KM D cn q8 u q9 a9 t sv H 0 := by
  have h : va_at D vwCl (q8, .inr (8, [.ref u.1.1, .ref u.2.1.1, .ref u.2.2.1.1, .ref u.2.2.2.1.1, .ref u.2.2.2.2.1.1, .ref u.2.2.2.2.2.1, .ref u.2.2.2.2.2.2.1, .int 0])) H := hm hP _ (List.mem_append_left _ List.mem_cons_self)
  show va_at D vwCl (q8, mem (KK D cn q8 u q9 a9 t sv) M0 0) H
  rw [at_X _ _]
  exact h
theorem km_1 (hP : va_P D vwCl (WSn cn q8 u q9 a9) H) : KM D cn q8 u q9 a9 t sv H 1 := by
  have h : va_at D vwCl (u.2.2.2.2.2.2.1, .inl (cn 0, 7, .inl (fun _ => 0))) H := hm hP _ (List.mem_append_left _ (List.mem_cons_of_mem _ (List.mem_cons_of_mem _ (List.mem_append_left _ (List.mem_append_right _ List.mem_cons_self)))))
  show va_at D vwCl (u.2.2.2.2.2.2.1, mem (KK D cn q8 u q9 a9 t sv) M0 1) H
  rw [at_Xref _ _]
  exact h
theorem km_2 (hP : va_P D vwCl (WSn cn q8 u q9 a9) H) : KM D cn q8 u q9 a9 t sv H 2 := by
  have h : va_at D vwCl (u.2.2.2.2.2.1, .inl (cn 4, 8, .inr (.inr (.inr (.inr (rr 8 u.2.2.2.2.2.2.2.1)))))) H := hm hP _ (List.mem_append_left _ (List.mem_cons_of_mem _ List.mem_cons_self))
  show va_at D vwCl (u.2.2.2.2.2.1, mem (KK D cn q8 u q9 a9 t sv) M0 2) H
  rw [at_Xsh _ _]
  exact at_refs h (rr_at (fun j hj => (adF_H hj).symm))
theorem km_3 (hP : va_P D vwCl (WSn cn q8 u q9 a9) H) : KM D cn q8 u q9 a9 t sv H 3 := by
  have h : va_at D vwCl (u.2.2.1.1, .inr (0, [.ref u.2.2.1.2.1, .ref u.2.2.1.2.2.2, .int 0, .int 0, .int 0, .int 0, .int 0])) H := hm hP _ (List.mem_append_left _ (List.mem_cons_of_mem _ (List.mem_cons_of_mem _ (List.mem_append_left _ (List.mem_append_left _ (List.mem_append_left _ (List.mem_append_left _ (List.mem_append_right _ (List.mem_cons_self)))))))))
  show va_at D vwCl (u.2.2.1.1, mem (KK D cn q8 u q9 a9 t sv) M0 3) H
  rw [at_Out _ _]
  exact h
theorem km_4 (hP : va_P D vwCl (WSn cn q8 u q9 a9) H) : KM D cn q8 u q9 a9 t sv H 4 := by
  have h : va_at D vwCl (u.2.2.1.2.2.2, .inl (cn 0, 8, .inl (fun _ => 0))) H := hm hP _ (List.mem_append_left _ (List.mem_cons_of_mem _ (List.mem_cons_of_mem _ (List.mem_append_left _ (List.mem_append_left _ (List.mem_append_left _ (List.mem_append_left _ (List.mem_append_right _ (List.mem_cons_of_mem _ (List.mem_append_right _ List.mem_cons_self))))))))))
  show va_at D vwCl (u.2.2.1.2.2.2, mem (KK D cn q8 u q9 a9 t sv) M0 4) H
  rw [at_Opn _ _]
  exact h
theorem km_5 (hP : va_P D vwCl (WSn cn q8 u q9 a9) H) : KM D cn q8 u q9 a9 t sv H 5 := by
  have h : va_at D vwCl (u.2.2.2.1.1, .inr (1, [.ref u.2.2.2.1.2.1, .ref u.2.2.2.1.2.2.2.1, .ref u.2.2.2.1.2.2.2.2.1, .ref u.2.2.2.1.2.2.2.2.2.2])) H := hm hP _ (List.mem_append_left _ (List.mem_cons_of_mem _ (List.mem_cons_of_mem _ (List.mem_append_left _ (List.mem_append_left _ (List.mem_append_left _ (List.mem_append_right _ (List.mem_cons_self))))))))
  show va_at D vwCl (u.2.2.2.1.1, mem (KK D cn q8 u q9 a9 t sv) M0 5) H
  rw [at_Pai _ _]
  exact h
theorem km_6 (hP : va_P D vwCl (WSn cn q8 u q9 a9) H) : KM D cn q8 u q9 a9 t sv H 6 := by
  have h : va_at D vwCl (u.2.2.2.1.2.2.2.1, .inl (cn 0, 8, .inl (fun _ => 0))) H := hm hP _ (List.mem_append_left _ (List.mem_cons_of_mem _ (List.mem_cons_of_mem _ (List.mem_append_left _ (List.mem_append_left _ (List.mem_append_left _ (List.mem_append_right _ (List.mem_cons_of_mem _ (List.mem_append_left _ (List.mem_append_left _ (List.mem_append_left _ (List.mem_append_right _ List.mem_cons_self))))))))))))
  show va_at D vwCl (u.2.2.2.1.2.2.2.1, mem (KK D cn q8 u q9 a9 t sv) M0 6) H
  rw [at_Hit _ _]
  exact h
theorem km_7 (hP : va_P D vwCl (WSn cn q8 u q9 a9) H) : KM D cn q8 u q9 a9 t sv H 7 := by
  have h : va_at D vwCl (u.2.2.2.1.2.2.2.2.1, .inl (cn 5, 9, .inr (.inr (.inr (.inr (rr 9 u.2.2.2.1.2.2.2.2.2.1)))))) H := hm hP _ (List.mem_append_left _ (List.mem_cons_of_mem _ (List.mem_cons_of_mem _ (List.mem_append_left _ (List.mem_append_left _ (List.mem_append_left _ (List.mem_append_right _ (List.mem_cons_of_mem _ (List.mem_append_left _ (List.mem_append_left _ (List.mem_append_right _ List.mem_cons_self)))))))))))
  show va_at D vwCl (u.2.2.2.1.2.2.2.2.1, mem (KK D cn q8 u q9 a9 t sv) M0 7) H
  rw [at_Bst _ _]
  exact at_refs h (rr_at (fun j hj => (adF_B hj).symm))
theorem km_8 (hP : va_P D vwCl (WSn cn q8 u q9 a9) H) : KM D cn q8 u q9 a9 t sv H 8 := by
  have h : va_at D vwCl (u.2.2.2.1.2.2.2.2.2.2, .inl (cn 0, 8, .inl (fun _ => 0))) H := hm hP _ (List.mem_append_left _ (List.mem_cons_of_mem _ (List.mem_cons_of_mem _ (List.mem_append_left _ (List.mem_append_left _ (List.mem_append_left _ (List.mem_append_right _ (List.mem_cons_of_mem _ (List.mem_append_right _ List.mem_cons_self)))))))))
  show va_at D vwCl (u.2.2.2.1.2.2.2.2.2.2, mem (KK D cn q8 u q9 a9 t sv) M0 8) H
  rw [at_Prt _ _]
  exact h
theorem km_9 (hP : va_P D vwCl (WSn cn q8 u q9 a9) H) : KM D cn q8 u q9 a9 t sv H 9 := by
  have h : va_at D vwCl (u.2.2.2.2.1.1, .inr (6, [.ref u.2.2.2.2.1.2.1, .int 0, .ref u.2.2.2.2.1.2.2.1, .ref u.2.2.2.2.1.2.2.2.2, .int 0, .int 0, .int 0])) H := hm hP _ (List.mem_append_left _ (List.mem_cons_of_mem _ (List.mem_cons_of_mem _ (List.mem_append_left _ (List.mem_append_left _ (List.mem_append_right _ (List.mem_cons_self)))))))
  show va_at D vwCl (u.2.2.2.2.1.1, mem (KK D cn q8 u q9 a9 t sv) M0 9) H
  rw [at_Tap _ _]
  exact h
theorem km_10 (hP : va_P D vwCl (WSn cn q8 u q9 a9) H) : KM D cn q8 u q9 a9 t sv H 10 := by
  have h : va_at D vwCl (u.2.2.2.2.1.2.1, .inl (cn 0, 250, .inl (fun _ => 0))) H := hm hP _ (List.mem_append_left _ (List.mem_cons_of_mem _ (List.mem_cons_of_mem _ (List.mem_append_left _ (List.mem_append_left _ (List.mem_append_right _ (List.mem_cons_of_mem _ (List.mem_append_left _ (List.mem_append_left _ List.mem_cons_self)))))))))
  show va_at D vwCl (u.2.2.2.2.1.2.1, mem (KK D cn q8 u q9 a9 t sv) M0 10) H
  rw [at_Let _ _]
  exact h
theorem km_11 (hP : va_P D vwCl (WSn cn q8 u q9 a9) H) : KM D cn q8 u q9 a9 t sv H 11 := by
  have h : va_at D vwCl (u.2.2.2.2.1.2.2.2.2, .inl (cn 0, 3, .inl (fun _ => 0))) H := hm hP _ (List.mem_append_left _ (List.mem_cons_of_mem _ (List.mem_cons_of_mem _ (List.mem_append_left _ (List.mem_append_left _ (List.mem_append_right _ (List.mem_cons_of_mem _ (List.mem_append_right _ List.mem_cons_self))))))))
  show va_at D vwCl (u.2.2.2.2.1.2.2.2.2, mem (KK D cn q8 u q9 a9 t sv) M0 11) H
  rw [at_Num _ _]
  exact h
theorem km_140 (hP : va_P D vwCl (WSn cn q8 u q9 a9) H) : KM D cn q8 u q9 a9 t sv H 140 := by
  have h : va_at D vwCl (q9, .inr (9, [.int 12, .ref (a9 0), .int 0, .int 0, .ref (a9 1), .ref (a9 2), .ref (a9 3), .int 0, .ref (a9 4), .ref (a9 5), .ref (a9 6), .ref (a9 7), .ref (a9 8), .int 1, .int 0, .ref (a9 9), .int 0, .int 0, .int 0, .int 0, .ref (a9 10), .ref (a9 11), .ref (a9 12), .ref (a9 13), .int 0, .ref (a9 14), .ref (a9 15), .ref (a9 16), .ref (a9 17), .ref (a9 18), .ref (a9 19), .int 0])) H := hm hP _ (List.mem_append_right _ (List.mem_cons_self))
  show va_at D vwCl (q9, mem (KK D cn q8 u q9 a9 t sv) M0 140) H
  rw [at_Mod _ _]
  exact h
theorem km_141 (hP : va_P D vwCl (WSn cn q8 u q9 a9) H) : KM D cn q8 u q9 a9 t sv H 141 := by
  have h : va_at D vwCl (a9 0, .inl (cn 0, 3, .inl wy)) H := hm hP _ (List.mem_append_right _ (List.mem_cons_of_mem _ (List.mem_cons_self)))
  show va_at D vwCl (a9 0, mem (KK D cn q8 u q9 a9 t sv) M0 141) H
  rw [at_Mways _ _]
  exact at_ints h (fun j hj => by rcases (show j = 0 ∨ j = 1 ∨ j = 2 by omega) with rfl | rfl | rfl <;> rfl)
theorem km_142 (hP : va_P D vwCl (WSn cn q8 u q9 a9) H) : KM D cn q8 u q9 a9 t sv H 142 := by
  have h : va_at D vwCl (a9 1, .inl (cn 0, 8, .inl (fun _ => 0))) H := hm hP _ (List.mem_append_right _ (List.mem_cons_of_mem _ (List.mem_cons_of_mem _ (List.mem_cons_self))))
  show va_at D vwCl (a9 1, mem (KK D cn q8 u q9 a9 t sv) M0 142) H
  rw [at_Mat _ _]
  exact h
theorem km_143 (hP : va_P D vwCl (WSn cn q8 u q9 a9) H) : KM D cn q8 u q9 a9 t sv H 143 := by
  have h : va_at D vwCl (a9 2, .inl (cn 0, 8, .inl (fun _ => 0))) H := hm hP _ (List.mem_append_right _ (List.mem_cons_of_mem _ (List.mem_cons_of_mem _ (List.mem_cons_of_mem _ (List.mem_cons_self)))))
  show va_at D vwCl (a9 2, mem (KK D cn q8 u q9 a9 t sv) M0 143) H
  rw [at_Mfloor _ _]
  exact h
theorem km_144 (hP : va_P D vwCl (WSn cn q8 u q9 a9) H) : KM D cn q8 u q9 a9 t sv H 144 := by
  have h : va_at D vwCl (a9 3, .inl (cn 0, 8, .inl (fun _ => 0))) H := hm hP _ (List.mem_append_right _ (List.mem_cons_of_mem _ (List.mem_cons_of_mem _ (List.mem_cons_of_mem _ (List.mem_cons_of_mem _ (List.mem_cons_self))))))
  show va_at D vwCl (a9 3, mem (KK D cn q8 u q9 a9 t sv) M0 144) H
  rw [at_Mthorns _ _]
  exact h
theorem km_145 (hP : va_P D vwCl (WSn cn q8 u q9 a9) H) : KM D cn q8 u q9 a9 t sv H 145 := by
  have h : va_at D vwCl (a9 4, .inl (cn 0, 8, .inl (fun _ => 0))) H := hm hP _ (List.mem_append_right _ (List.mem_cons_of_mem _ (List.mem_cons_of_mem _ (List.mem_cons_of_mem _ (List.mem_cons_of_mem _ (List.mem_cons_of_mem _ (List.mem_cons_self)))))))
  show va_at D vwCl (a9 4, mem (KK D cn q8 u q9 a9 t sv) M0 145) H
  rw [at_Mkind _ _]
  exact h
theorem km_146 (hP : va_P D vwCl (WSn cn q8 u q9 a9) H) : KM D cn q8 u q9 a9 t sv H 146 := by
  have h : va_at D vwCl (a9 5, .inl (cn 0, 8, .inl (fun _ => 0))) H := hm hP _ (List.mem_append_right _ (List.mem_cons_of_mem _ (List.mem_cons_of_mem _ (List.mem_cons_of_mem _ (List.mem_cons_of_mem _ (List.mem_cons_of_mem _ (List.mem_cons_of_mem _ (List.mem_cons_self))))))))
  show va_at D vwCl (a9 5, mem (KK D cn q8 u q9 a9 t sv) M0 146) H
  rw [at_Mown _ _]
  exact h
theorem km_147 (hP : va_P D vwCl (WSn cn q8 u q9 a9) H) : KM D cn q8 u q9 a9 t sv H 147 := by
  have h : va_at D vwCl (a9 6, .inl (cn 0, 8, .inl (fun _ => 0))) H := hm hP _ (List.mem_append_right _ (List.mem_cons_of_mem _ (List.mem_cons_of_mem _ (List.mem_cons_of_mem _ (List.mem_cons_of_mem _ (List.mem_cons_of_mem _ (List.mem_cons_of_mem _ (List.mem_cons_of_mem _ (List.mem_cons_self)))))))))
  show va_at D vwCl (a9 6, mem (KK D cn q8 u q9 a9 t sv) M0 147) H
  rw [at_Mplace _ _]
  exact h
theorem km_148 (hP : va_P D vwCl (WSn cn q8 u q9 a9) H) : KM D cn q8 u q9 a9 t sv H 148 := by
  have h : va_at D vwCl (a9 7, .inl (cn 0, 8, .inl (fun _ => 0))) H := hm hP _ (List.mem_append_right _ (List.mem_cons_of_mem _ (List.mem_cons_of_mem _ (List.mem_cons_of_mem _ (List.mem_cons_of_mem _ (List.mem_cons_of_mem _ (List.mem_cons_of_mem _ (List.mem_cons_of_mem _ (List.mem_cons_of_mem _ (List.mem_cons_self))))))))))
  show va_at D vwCl (a9 7, mem (KK D cn q8 u q9 a9 t sv) M0 148) H
  rw [at_Mrose _ _]
  exact h
theorem km_149 (hP : va_P D vwCl (WSn cn q8 u q9 a9) H) : KM D cn q8 u q9 a9 t sv H 149 := by
  have h : va_at D vwCl (a9 8, .inl (cn 0, 8, .inl (fun _ => 0))) H := hm hP _ (List.mem_append_right _ (List.mem_cons_of_mem _ (List.mem_cons_of_mem _ (List.mem_cons_of_mem _ (List.mem_cons_of_mem _ (List.mem_cons_of_mem _ (List.mem_cons_of_mem _ (List.mem_cons_of_mem _ (List.mem_cons_of_mem _ (List.mem_cons_of_mem _ (List.mem_cons_self)))))))))))
  show va_at D vwCl (a9 8, mem (KK D cn q8 u q9 a9 t sv) M0 149) H
  rw [at_Mdue _ _]
  exact h
theorem km_150 (hP : va_P D vwCl (WSn cn q8 u q9 a9) H) : KM D cn q8 u q9 a9 t sv H 150 := by
  have h : va_at D vwCl (a9 9, .inl (cn 0, 250, .inl (fun _ => 0))) H := hm hP _ (List.mem_append_right _ (List.mem_cons_of_mem _ (List.mem_cons_of_mem _ (List.mem_cons_of_mem _ (List.mem_cons_of_mem _ (List.mem_cons_of_mem _ (List.mem_cons_of_mem _ (List.mem_cons_of_mem _ (List.mem_cons_of_mem _ (List.mem_cons_of_mem _ (List.mem_cons_of_mem _ (List.mem_cons_self))))))))))))
  show va_at D vwCl (a9 9, mem (KK D cn q8 u q9 a9 t sv) M0 150) H
  rw [at_Mtape _ _]
  exact h
theorem km_151 (hP : va_P D vwCl (WSn cn q8 u q9 a9) H) : KM D cn q8 u q9 a9 t sv H 151 := by
  have h : va_at D vwCl (a9 10, .inl (cn 0, 8, .inl (hh 8))) H := hm hP _ (List.mem_append_right _ (List.mem_cons_of_mem _ (List.mem_cons_of_mem _ (List.mem_cons_of_mem _ (List.mem_cons_of_mem _ (List.mem_cons_of_mem _ (List.mem_cons_of_mem _ (List.mem_cons_of_mem _ (List.mem_cons_of_mem _ (List.mem_cons_of_mem _ (List.mem_cons_of_mem _ (List.mem_cons_of_mem _ (List.mem_cons_self)))))))))))))
  show va_at D vwCl (a9 10, mem (KK D cn q8 u q9 a9 t sv) M0 151) H
  rw [at_Mholding _ _]
  exact at_ints h (fun j hj => by rcases (show j = 0 ∨ j = 1 ∨ j = 2 ∨ j = 3 ∨ j = 4 ∨ j = 5 ∨ j = 6 ∨ j = 7 by omega) with rfl | rfl | rfl | rfl | rfl | rfl | rfl | rfl <;> rfl)
theorem km_152 (hP : va_P D vwCl (WSn cn q8 u q9 a9) H) : KM D cn q8 u q9 a9 t sv H 152 := by
  have h : va_at D vwCl (a9 11, .inl (cn 0, 8, .inl (fun _ => 0))) H := hm hP _ (List.mem_append_right _ (List.mem_cons_of_mem _ (List.mem_cons_of_mem _ (List.mem_cons_of_mem _ (List.mem_cons_of_mem _ (List.mem_cons_of_mem _ (List.mem_cons_of_mem _ (List.mem_cons_of_mem _ (List.mem_cons_of_mem _ (List.mem_cons_of_mem _ (List.mem_cons_of_mem _ (List.mem_cons_of_mem _ (List.mem_cons_of_mem _ (List.mem_cons_self))))))))))))))
  show va_at D vwCl (a9 11, mem (KK D cn q8 u q9 a9 t sv) M0 152) H
  rw [at_MrowLength _ _]
  exact h
theorem km_153 (hP : va_P D vwCl (WSn cn q8 u q9 a9) H) : KM D cn q8 u q9 a9 t sv H 153 := by
  have h : va_at D vwCl (a9 12, .inl (cn 1, 320, .inr (.inl (fun _ => 0)))) H := hm hP _ (List.mem_append_right _ (List.mem_cons_of_mem _ (List.mem_cons_of_mem _ (List.mem_cons_of_mem _ (List.mem_cons_of_mem _ (List.mem_cons_of_mem _ (List.mem_cons_of_mem _ (List.mem_cons_of_mem _ (List.mem_cons_of_mem _ (List.mem_cons_of_mem _ (List.mem_cons_of_mem _ (List.mem_cons_of_mem _ (List.mem_cons_of_mem _ (List.mem_cons_of_mem _ (List.mem_cons_self)))))))))))))))
  show va_at D vwCl (a9 12, mem (KK D cn q8 u q9 a9 t sv) M0 153) H
  rw [at_MrowOf _ _]
  exact h
theorem km_154 (hP : va_P D vwCl (WSn cn q8 u q9 a9) H) : KM D cn q8 u q9 a9 t sv H 154 := by
  have h : va_at D vwCl (a9 13, .inl (cn 0, 7, .inl (fun _ => 0))) H := hm hP _ (List.mem_append_right _ (List.mem_cons_of_mem _ (List.mem_cons_of_mem _ (List.mem_cons_of_mem _ (List.mem_cons_of_mem _ (List.mem_cons_of_mem _ (List.mem_cons_of_mem _ (List.mem_cons_of_mem _ (List.mem_cons_of_mem _ (List.mem_cons_of_mem _ (List.mem_cons_of_mem _ (List.mem_cons_of_mem _ (List.mem_cons_of_mem _ (List.mem_cons_of_mem _ (List.mem_cons_of_mem _ (List.mem_cons_self))))))))))))))))
  show va_at D vwCl (a9 13, mem (KK D cn q8 u q9 a9 t sv) M0 154) H
  rw [at_Mrefusals _ _]
  exact h
theorem km_155 (hP : va_P D vwCl (WSn cn q8 u q9 a9) H) : KM D cn q8 u q9 a9 t sv H 155 := by
  have h : va_at D vwCl (a9 14, .inl (cn 0, 75, .inl (fun _ => 0))) H := hm hP _ (List.mem_append_right _ (List.mem_cons_of_mem _ (List.mem_cons_of_mem _ (List.mem_cons_of_mem _ (List.mem_cons_of_mem _ (List.mem_cons_of_mem _ (List.mem_cons_of_mem _ (List.mem_cons_of_mem _ (List.mem_cons_of_mem _ (List.mem_cons_of_mem _ (List.mem_cons_of_mem _ (List.mem_cons_of_mem _ (List.mem_cons_of_mem _ (List.mem_cons_of_mem _ (List.mem_cons_of_mem _ (List.mem_cons_of_mem _ (List.mem_cons_self)))))))))))))))))
  show va_at D vwCl (a9 14, mem (KK D cn q8 u q9 a9 t sv) M0 155) H
  rw [at_Mold _ _]
  exact h
theorem km_156 (hP : va_P D vwCl (WSn cn q8 u q9 a9) H) : KM D cn q8 u q9 a9 t sv H 156 := by
  have h : va_at D vwCl (a9 15, .inl (cn 0, 75, .inl (fun _ => 0))) H := hm hP _ (List.mem_append_right _ (List.mem_cons_of_mem _ (List.mem_cons_of_mem _ (List.mem_cons_of_mem _ (List.mem_cons_of_mem _ (List.mem_cons_of_mem _ (List.mem_cons_of_mem _ (List.mem_cons_of_mem _ (List.mem_cons_of_mem _ (List.mem_cons_of_mem _ (List.mem_cons_of_mem _ (List.mem_cons_of_mem _ (List.mem_cons_of_mem _ (List.mem_cons_of_mem _ (List.mem_cons_of_mem _ (List.mem_cons_of_mem _ (List.mem_cons_of_mem _ (List.mem_cons_self))))))))))))))))))
  show va_at D vwCl (a9 15, mem (KK D cn q8 u q9 a9 t sv) M0 156) H
  rw [at_Mbefore _ _]
  exact h
theorem km_157 (hP : va_P D vwCl (WSn cn q8 u q9 a9) H) : KM D cn q8 u q9 a9 t sv H 157 := by
  have h : va_at D vwCl (a9 16, .inl (cn 0, 8, .inl (fun _ => 0))) H := hm hP _ (List.mem_append_right _ (List.mem_cons_of_mem _ (List.mem_cons_of_mem _ (List.mem_cons_of_mem _ (List.mem_cons_of_mem _ (List.mem_cons_of_mem _ (List.mem_cons_of_mem _ (List.mem_cons_of_mem _ (List.mem_cons_of_mem _ (List.mem_cons_of_mem _ (List.mem_cons_of_mem _ (List.mem_cons_of_mem _ (List.mem_cons_of_mem _ (List.mem_cons_of_mem _ (List.mem_cons_of_mem _ (List.mem_cons_of_mem _ (List.mem_cons_of_mem _ (List.mem_cons_of_mem _ (List.mem_cons_self)))))))))))))))))))
  show va_at D vwCl (a9 16, mem (KK D cn q8 u q9 a9 t sv) M0 157) H
  rw [at_Mroses _ _]
  exact h
theorem km_158 (hP : va_P D vwCl (WSn cn q8 u q9 a9) H) : KM D cn q8 u q9 a9 t sv H 158 := by
  have h : va_at D vwCl (a9 17, .inl (cn 0, 8, .inl (fun _ => 0))) H := hm hP _ (List.mem_append_right _ (List.mem_cons_of_mem _ (List.mem_cons_of_mem _ (List.mem_cons_of_mem _ (List.mem_cons_of_mem _ (List.mem_cons_of_mem _ (List.mem_cons_of_mem _ (List.mem_cons_of_mem _ (List.mem_cons_of_mem _ (List.mem_cons_of_mem _ (List.mem_cons_of_mem _ (List.mem_cons_of_mem _ (List.mem_cons_of_mem _ (List.mem_cons_of_mem _ (List.mem_cons_of_mem _ (List.mem_cons_of_mem _ (List.mem_cons_of_mem _ (List.mem_cons_of_mem _ (List.mem_cons_of_mem _ (List.mem_cons_self))))))))))))))))))))
  show va_at D vwCl (a9 17, mem (KK D cn q8 u q9 a9 t sv) M0 158) H
  rw [at_Mhits _ _]
  exact h
theorem km_159 (hP : va_P D vwCl (WSn cn q8 u q9 a9) H) : KM D cn q8 u q9 a9 t sv H 159 := by
  have h : va_at D vwCl (a9 18, .inl (cn 0, 8, .inl (fun _ => 0))) H := hm hP _ (List.mem_append_right _ (List.mem_cons_of_mem _ (List.mem_cons_of_mem _ (List.mem_cons_of_mem _ (List.mem_cons_of_mem _ (List.mem_cons_of_mem _ (List.mem_cons_of_mem _ (List.mem_cons_of_mem _ (List.mem_cons_of_mem _ (List.mem_cons_of_mem _ (List.mem_cons_of_mem _ (List.mem_cons_of_mem _ (List.mem_cons_of_mem _ (List.mem_cons_of_mem _ (List.mem_cons_of_mem _ (List.mem_cons_of_mem _ (List.mem_cons_of_mem _ (List.mem_cons_of_mem _ (List.mem_cons_of_mem _ (List.mem_cons_of_mem _ (List.mem_cons_self)))))))))))))))))))))
  show va_at D vwCl (a9 18, mem (KK D cn q8 u q9 a9 t sv) M0 159) H
  rw [at_Mtried _ _]
  exact h
theorem km_160 (hP : va_P D vwCl (WSn cn q8 u q9 a9) H) : KM D cn q8 u q9 a9 t sv H 160 := by
  have h : va_at D vwCl (a9 19, .inl (cn 0, 8, .inl (fun _ => 0))) H := hm hP _ (List.mem_append_right _ (List.mem_cons_of_mem _ (List.mem_cons_of_mem _ (List.mem_cons_of_mem _ (List.mem_cons_of_mem _ (List.mem_cons_of_mem _ (List.mem_cons_of_mem _ (List.mem_cons_of_mem _ (List.mem_cons_of_mem _ (List.mem_cons_of_mem _ (List.mem_cons_of_mem _ (List.mem_cons_of_mem _ (List.mem_cons_of_mem _ (List.mem_cons_of_mem _ (List.mem_cons_of_mem _ (List.mem_cons_of_mem _ (List.mem_cons_of_mem _ (List.mem_cons_of_mem _ (List.mem_cons_of_mem _ (List.mem_cons_of_mem _ (List.mem_cons_of_mem _ (List.mem_cons_self))))))))))))))))))))))
  show va_at D vwCl (a9 19, mem (KK D cn q8 u q9 a9 t sv) M0 160) H
  rw [at_Mbest _ _]
  exact h
theorem km_all (hP : va_P D vwCl (WSn cn q8 u q9 a9) H) : ∀ k, k < 161 → KM D cn q8 u q9 a9 t sv H k := by
  intro k hk
  by_cases h1 : k < 12
  · rcases (show k = 0 ∨ k = 1 ∨ k = 2 ∨ k = 3 ∨ k = 4 ∨ k = 5 ∨ k = 6 ∨ k = 7 ∨ k = 8 ∨ k = 9 ∨ k = 10 ∨ k = 11 by omega) with rfl | rfl | rfl | rfl | rfl | rfl | rfl | rfl | rfl | rfl | rfl | rfl
    · exact km_0 hP
    · exact km_1 hP
    · exact km_2 hP
    · exact km_3 hP
    · exact km_4 hP
    · exact km_5 hP
    · exact km_6 hP
    · exact km_7 hP
    · exact km_8 hP
    · exact km_9 hP
    · exact km_10 hP
    · exact km_11 hP
  by_cases h17 : k < 17
  · obtain ⟨j, rfl⟩ : ∃ j, k = 12 + j := ⟨k - 12, by omega⟩
    exact km_S (by omega) hP
  by_cases h22 : k < 22
  · obtain ⟨j, rfl⟩ : ∃ j, k = 17 + j := ⟨k - 17, by omega⟩
    exact km_WA (by omega) hP
  by_cases h27 : k < 27
  · obtain ⟨j, rfl⟩ : ∃ j, k = 22 + j := ⟨k - 22, by omega⟩
    exact km_PA (by omega) hP
  by_cases h35 : k < 35
  · obtain ⟨j, rfl⟩ : ∃ j, k = 27 + j := ⟨k - 27, by omega⟩
    exact km_H (by omega) hP
  by_cases h43 : k < 43
  · obtain ⟨j, rfl⟩ : ∃ j, k = 35 + j := ⟨k - 35, by omega⟩
    exact km_R (by omega) hP
  by_cases h51 : k < 51
  · obtain ⟨j, rfl⟩ : ∃ j, k = 43 + j := ⟨k - 43, by omega⟩
    exact km_E (by omega) hP
  by_cases h60 : k < 60
  · obtain ⟨j, rfl⟩ : ∃ j, k = 51 + j := ⟨k - 51, by omega⟩
    exact km_B (by omega) hP
  by_cases h100 : k < 100
  · obtain ⟨s, j, hs, hj, rfl⟩ : ∃ s j, s < 5 ∧ j < 8 ∧ k = 60 + 8 * s + j := ⟨(k - 60) / 8, (k - 60) % 8, by omega, by omega, by omega⟩
    exact km_W hs hj hP
  by_cases h140 : k < 140
  · obtain ⟨s, j, hs, hj, rfl⟩ : ∃ s j, s < 5 ∧ j < 8 ∧ k = 100 + 8 * s + j := ⟨(k - 100) / 8, (k - 100) % 8, by omega, by omega, by omega⟩
    exact km_P hs hj hP
  rcases (show k = 140 ∨ k = 141 ∨ k = 142 ∨ k = 143 ∨ k = 144 ∨ k = 145 ∨ k = 146 ∨ k = 147 ∨ k = 148 ∨ k = 149 ∨ k = 150 ∨ k = 151 ∨ k = 152 ∨ k = 153 ∨ k = 154 ∨ k = 155 ∨ k = 156 ∨ k = 157 ∨ k = 158 ∨ k = 159 ∨ k = 160 by omega) with rfl | rfl | rfl | rfl | rfl | rfl | rfl | rfl | rfl | rfl | rfl | rfl | rfl | rfl | rfl | rfl | rfl | rfl | rfl | rfl | rfl
  · exact km_140 hP
  · exact km_141 hP
  · exact km_142 hP
  · exact km_143 hP
  · exact km_144 hP
  · exact km_145 hP
  · exact km_146 hP
  · exact km_147 hP
  · exact km_148 hP
  · exact km_149 hP
  · exact km_150 hP
  · exact km_151 hP
  · exact km_152 hP
  · exact km_153 hP
  · exact km_154 hP
  · exact km_155 hP
  · exact km_156 hP
  · exact km_157 hP
  · exact km_158 hP
  · exact km_159 hP
  · exact km_160 hP
theorem hand {A : Nat → Prop} (hP : va_P D vwCl (WSn cn q8 u q9 a9) H) (hD : va_D A (WSn cn q8 u q9 a9)) : va_P D vwCl (wd (KK D cn q8 u q9 a9 t sv) M0) H ∧ inj (KK D cn q8 u q9 a9 t sv) ∧ ∀ q, aK (KK D cn q8 u q9 a9 t sv) q → A q := by
  refine ⟨fun k q hq => ?_, hand_inj hD⟩
  have hk : k < 161 := by
    have := (List.getElem?_eq_some_iff.mp hq).1
    simpa [wd] using this
  rw [wd_at _ _ hk rfl] at hq
  rw [← Option.some.inj hq]
  exact km_all (t := t) (sv := sv) hP k hk
end Hand
