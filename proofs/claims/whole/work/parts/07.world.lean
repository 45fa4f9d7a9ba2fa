/-! the world of the class and of the reference: what the cells hold -/
abbrev MT : Type := (Nat → Nat → Nat → Int32) × (Nat → Nat → Int32) × (Nat → Nat → Int64)
abbrev KT : Type := va_G × (Nat → ClassId) × (Nat → Nat) × (Nat → Nat)
abbrev ad (K : KT) : Nat → Nat := K.2.2.1
abbrev rf (K : KT) (k : Nat) : Value := .ref (K.2.2.1 k)
def iS (s : Nat) : Nat := 12 + s
def iWA (s : Nat) : Nat := 17 + s
def iPA (s : Nat) : Nat := 22 + s
def iH (t : Nat) : Nat := 27 + t
def iR (t : Nat) : Nat := 35 + t
def iE (t : Nat) : Nat := 43 + t
def iB (t : Nat) : Nat := 51 + t
def iW (s t : Nat) : Nat := 60 + 8 * s + t
def iP (s t : Nat) : Nat := 100 + 8 * s + t
def mem (K : KT) (M : MT) (k : Nat) : va_E :=
  if k = 0 then .inr (8, [rf K (iS 0), rf K (iS 1), rf K 3, rf K 5, rf K 9, rf K 2, rf K 1, .int (M.2.1 0 0)]) else
  if k = 1 then .inl (K.2.1 0, 7, .inl (M.2.1 1)) else
  if k = 2 then .inl (K.2.1 4, 8, .inr (.inr (.inr (.inr (fun j => some (ad K (iH j))))))) else
  if k = 3 then .inr (0, [rf K (iS 2), rf K 4, .int (M.2.1 2 0), .int (M.2.1 2 1), .int (M.2.1 2 2), .int (M.2.1 2 3), .int (M.2.1 2 4)]) else
  if k = 4 then .inl (K.2.1 0, 8, .inl (M.2.1 3)) else
  if k = 5 then .inr (1, [rf K (iS 3), rf K 6, rf K 7, rf K 8]) else
  if k = 6 then .inl (K.2.1 0, 8, .inl (M.2.1 4)) else
  if k = 7 then .inl (K.2.1 5, 9, .inr (.inr (.inr (.inr (fun j => some (ad K (iB j))))))) else
  if k = 8 then .inl (K.2.1 0, 8, .inl (M.2.1 5)) else
  if k = 9 then .inr (6, [rf K 10, .int (M.2.1 6 0), rf K (iS 4), rf K 11, .int (M.2.1 6 1), .int (M.2.1 6 2), .int (M.2.1 6 3)]) else
  if k = 10 then .inl (K.2.1 0, 250, .inl (M.2.1 7)) else
  if k = 11 then .inl (K.2.1 0, 3, .inl (M.2.1 8)) else
  if 12 ≤ k ∧ k < 17 then (fun s => (.inr (5, [rf K (iWA s), rf K (iPA s), .int (M.1 s 0 0), .int (M.1 s 1 0), .int (M.1 s 2 0), .int (M.1 s 3 0), .int (M.1 s 3 1), .int (M.1 s 3 2), .int (M.1 s 4 0), .int (M.1 s 5 0)]) : va_E)) (k - 12) else
  if 17 ≤ k ∧ k < 22 then (fun s => (.inl (K.2.1 2, 8, .inr (.inr (.inr (.inr (fun j => some (ad K (iW s j))))))) : va_E)) (k - 17) else
  if 22 ≤ k ∧ k < 27 then (fun s => (.inl (K.2.1 3, 8, .inr (.inr (.inr (.inr (fun j => some (ad K (iP s j))))))) : va_E)) (k - 22) else
  if 27 ≤ k ∧ k < 35 then (fun t => (.inr (4, [rf K (iR t), .int (M.2.1 9 t), .int (M.2.1 10 t)]) : va_E)) (k - 27) else
  if 35 ≤ k ∧ k < 43 then (fun t => (.inr (3, [rf K (iE t), .int (M.2.1 11 t), .int (M.2.1 12 t)]) : va_E)) (k - 35) else
  if 43 ≤ k ∧ k < 51 then (fun t => (.inl (K.2.1 1, 40, .inr (.inl (M.2.2 t))) : va_E)) (k - 43) else
  if 51 ≤ k ∧ k < 60 then (fun t => (.inl (K.2.1 0, 256, .inl (M.2.1 (13 + t))) : va_E)) (k - 51) else
  if 60 ≤ k ∧ k < 100 then (fun s t => (.inr (7, [.int (M.1 s 6 t), .int (M.1 s 7 t), .int (M.1 s 8 t)]) : va_E)) ((k - 60) / 8) ((k - 60) % 8) else
  if 100 ≤ k ∧ k < 140 then (fun s t => (.inr (2, [.int (M.1 s 9 t), .int (M.1 s 10 t), .int (M.1 s 11 t), .int (M.1 s 12 t), .int (M.1 s 13 t)]) : va_E)) ((k - 100) / 8) ((k - 100) % 8) else
  if k = 140 then .inr (9, [.int (M.1 5 2 0), rf K 141, .int (M.1 5 4 0), .int (M.1 5 0 0), rf K 142, rf K 143, rf K 144, .int (M.1 5 1 0), rf K 145, rf K 146, rf K 147, rf K 148, rf K 149, .int (M.1 5 5 0), .int (M.2.1 30 0), rf K 150, .int (M.2.1 30 1), .int (M.2.1 30 2), .int (M.2.1 30 3), .int (M.2.1 30 4), rf K 151, rf K 152, rf K 153, rf K 154, .int (M.2.1 30 5), rf K 155, rf K 156, rf K 157, rf K 158, rf K 159, rf K 160, .int (M.2.1 30 6)]) else
  if k = 141 then .inl (K.2.1 0, 3, .inl (M.1 5 3)) else
  if k = 142 then .inl (K.2.1 0, 8, .inl (M.1 5 6)) else
  if k = 143 then .inl (K.2.1 0, 8, .inl (M.1 5 7)) else
  if k = 144 then .inl (K.2.1 0, 8, .inl (M.1 5 8)) else
  if k = 145 then .inl (K.2.1 0, 8, .inl (M.1 5 9)) else
  if k = 146 then .inl (K.2.1 0, 8, .inl (M.1 5 10)) else
  if k = 147 then .inl (K.2.1 0, 8, .inl (M.1 5 11)) else
  if k = 148 then .inl (K.2.1 0, 8, .inl (M.1 5 12)) else
  if k = 149 then .inl (K.2.1 0, 8, .inl (M.1 5 13)) else
  if k = 150 then .inl (K.2.1 0, 250, .inl (M.2.1 31)) else
  if k = 151 then .inl (K.2.1 0, 8, .inl (M.2.1 32)) else
  if k = 152 then .inl (K.2.1 0, 8, .inl (M.2.1 33)) else
  if k = 153 then .inl (K.2.1 1, 320, .inr (.inl (M.2.2 8))) else
  if k = 154 then .inl (K.2.1 0, 7, .inl (M.2.1 34)) else
  if k = 155 then .inl (K.2.1 0, 75, .inl (M.2.1 35)) else
  if k = 156 then .inl (K.2.1 0, 75, .inl (M.2.1 36)) else
  if k = 157 then .inl (K.2.1 0, 8, .inl (M.2.1 37)) else
  if k = 158 then .inl (K.2.1 0, 8, .inl (M.2.1 38)) else
  if k = 159 then .inl (K.2.1 0, 8, .inl (M.2.1 39)) else
  if k = 160 then .inl (K.2.1 0, 8, .inl (M.2.1 40)) else
  .inr (7, [])
def NC : Nat := 161
def wd (K : KT) (M : MT) : va_W := (List.range 161).map (fun k => (ad K k, mem K M k))
theorem wd_at (K : KT) (M : MT) {k : Nat} (h : k < 161) {e : va_E} (he : mem K M k = e) : (wd K M)[k]? = some (ad K k, e) := by
  subst he
  simp [wd, List.getElem?_map, List.getElem?_range h]
theorem wd_set (K : KT) (M M' : MT) {k : Nat} {e : va_E} (he : ∀ j, j < 161 → mem K M' j = if j = k then e else mem K M j) : (wd K M).set k (ad K k, e) = wd K M' := by
  apply List.ext_getElem?
  intro j
  by_cases hj : j < 161
  · rw [List.getElem?_set]
    by_cases hk : k = j
    · subst hk
      have hl : k < (wd K M).length := by simpa [wd] using hj
      rw [if_pos rfl, if_pos hl, wd_at K M' hj (he k hj), if_pos rfl]
    · rw [if_neg hk, wd_at K M hj rfl, wd_at K M' hj (he j hj), if_neg (fun h => hk h.symm)]
  · rw [List.getElem?_eq_none (by simp [wd]; omega), List.getElem?_eq_none (by simp [wd]; omega)]
theorem at_X (K : KT) (M : MT) : mem K M 0 = .inr (8, [rf K (iS 0), rf K (iS 1), rf K 3, rf K 5, rf K 9, rf K 2, rf K 1, .int (M.2.1 0 0)]) := by simp [mem]
theorem at_Xref (K : KT) (M : MT) : mem K M 1 = .inl (K.2.1 0, 7, .inl (M.2.1 1)) := by simp [mem]
theorem at_Xsh (K : KT) (M : MT) : mem K M 2 = .inl (K.2.1 4, 8, .inr (.inr (.inr (.inr (fun j => some (ad K (iH j))))))) := by simp [mem]
theorem at_Out (K : KT) (M : MT) : mem K M 3 = .inr (0, [rf K (iS 2), rf K 4, .int (M.2.1 2 0), .int (M.2.1 2 1), .int (M.2.1 2 2), .int (M.2.1 2 3), .int (M.2.1 2 4)]) := by simp [mem]
theorem at_Opn (K : KT) (M : MT) : mem K M 4 = .inl (K.2.1 0, 8, .inl (M.2.1 3)) := by simp [mem]
theorem at_Pai (K : KT) (M : MT) : mem K M 5 = .inr (1, [rf K (iS 3), rf K 6, rf K 7, rf K 8]) := by simp [mem]
theorem at_Hit (K : KT) (M : MT) : mem K M 6 = .inl (K.2.1 0, 8, .inl (M.2.1 4)) := by simp [mem]
theorem at_Bst (K : KT) (M : MT) : mem K M 7 = .inl (K.2.1 5, 9, .inr (.inr (.inr (.inr (fun j => some (ad K (iB j))))))) := by simp [mem]
theorem at_Prt (K : KT) (M : MT) : mem K M 8 = .inl (K.2.1 0, 8, .inl (M.2.1 5)) := by simp [mem]
theorem at_Tap (K : KT) (M : MT) : mem K M 9 = .inr (6, [rf K 10, .int (M.2.1 6 0), rf K (iS 4), rf K 11, .int (M.2.1 6 1), .int (M.2.1 6 2), .int (M.2.1 6 3)]) := by simp [mem]
theorem at_Let (K : KT) (M : MT) : mem K M 10 = .inl (K.2.1 0, 250, .inl (M.2.1 7)) := by simp [mem]
theorem at_Num (K : KT) (M : MT) : mem K M 11 = .inl (K.2.1 0, 3, .inl (M.2.1 8)) := by simp [mem]
theorem at_Str (K : KT) (M : MT) (s : Nat) (hs : s < 5) : mem K M (iS s) = .inr (5, [rf K (iWA s), rf K (iPA s), .int (M.1 s 0 0), .int (M.1 s 1 0), .int (M.1 s 2 0), .int (M.1 s 3 0), .int (M.1 s 3 1), .int (M.1 s 3 2), .int (M.1 s 4 0), .int (M.1 s 5 0)]) := by
  have e : 12 + s - 12 = s := by omega
  show mem K M (12 + s) = _
  unfold mem
  rw [if_neg (show ¬ 12 + s = 0 by omega), if_neg (show ¬ 12 + s = 1 by omega), if_neg (show ¬ 12 + s = 2 by omega), if_neg (show ¬ 12 + s = 3 by omega), if_neg (show ¬ 12 + s = 4 by omega), if_neg (show ¬ 12 + s = 5 by omega), if_neg (show ¬ 12 + s = 6 by omega), if_neg (show ¬ 12 + s = 7 by omega), if_neg (show ¬ 12 + s = 8 by omega), if_neg (show ¬ 12 + s = 9 by omega), if_neg (show ¬ 12 + s = 10 by omega), if_neg (show ¬ 12 + s = 11 by omega), if_pos (show 12 ≤ 12 + s ∧ 12 + s < 17 by omega)]
  rw [e]
theorem at_WA (K : KT) (M : MT) (s : Nat) (hs : s < 5) : mem K M (iWA s) = .inl (K.2.1 2, 8, .inr (.inr (.inr (.inr (fun j => some (ad K (iW s j))))))) := by
  have e : 17 + s - 17 = s := by omega
  show mem K M (17 + s) = _
  unfold mem
  rw [if_neg (show ¬ 17 + s = 0 by omega), if_neg (show ¬ 17 + s = 1 by omega), if_neg (show ¬ 17 + s = 2 by omega), if_neg (show ¬ 17 + s = 3 by omega), if_neg (show ¬ 17 + s = 4 by omega), if_neg (show ¬ 17 + s = 5 by omega), if_neg (show ¬ 17 + s = 6 by omega), if_neg (show ¬ 17 + s = 7 by omega), if_neg (show ¬ 17 + s = 8 by omega), if_neg (show ¬ 17 + s = 9 by omega), if_neg (show ¬ 17 + s = 10 by omega), if_neg (show ¬ 17 + s = 11 by omega), if_neg (show ¬ (12 ≤ 17 + s ∧ 17 + s < 17) by omega), if_pos (show 17 ≤ 17 + s ∧ 17 + s < 22 by omega)]
  rw [e]
theorem at_PA (K : KT) (M : MT) (s : Nat) (hs : s < 5) : mem K M (iPA s) = .inl (K.2.1 3, 8, .inr (.inr (.inr (.inr (fun j => some (ad K (iP s j))))))) := by
  have e : 22 + s - 22 = s := by omega
  show mem K M (22 + s) = _
  unfold mem
  rw [if_neg (show ¬ 22 + s = 0 by omega), if_neg (show ¬ 22 + s = 1 by omega), if_neg (show ¬ 22 + s = 2 by omega), if_neg (show ¬ 22 + s = 3 by omega), if_neg (show ¬ 22 + s = 4 by omega), if_neg (show ¬ 22 + s = 5 by omega), if_neg (show ¬ 22 + s = 6 by omega), if_neg (show ¬ 22 + s = 7 by omega), if_neg (show ¬ 22 + s = 8 by omega), if_neg (show ¬ 22 + s = 9 by omega), if_neg (show ¬ 22 + s = 10 by omega), if_neg (show ¬ 22 + s = 11 by omega), if_neg (show ¬ (12 ≤ 22 + s ∧ 22 + s < 17) by omega), if_neg (show ¬ (17 ≤ 22 + s ∧ 22 + s < 22) by omega), if_pos (show 22 ≤ 22 + s ∧ 22 + s < 27 by omega)]
  rw [e]
theorem at_She (K : KT) (M : MT) (t : Nat) (ht : t < 8) : mem K M (iH t) = .inr (4, [rf K (iR t), .int (M.2.1 9 t), .int (M.2.1 10 t)]) := by
  have e : 27 + t - 27 = t := by omega
  show mem K M (27 + t) = _
  unfold mem
  rw [if_neg (show ¬ 27 + t = 0 by omega), if_neg (show ¬ 27 + t = 1 by omega), if_neg (show ¬ 27 + t = 2 by omega), if_neg (show ¬ 27 + t = 3 by omega), if_neg (show ¬ 27 + t = 4 by omega), if_neg (show ¬ 27 + t = 5 by omega), if_neg (show ¬ 27 + t = 6 by omega), if_neg (show ¬ 27 + t = 7 by omega), if_neg (show ¬ 27 + t = 8 by omega), if_neg (show ¬ 27 + t = 9 by omega), if_neg (show ¬ 27 + t = 10 by omega), if_neg (show ¬ 27 + t = 11 by omega), if_neg (show ¬ (12 ≤ 27 + t ∧ 27 + t < 17) by omega), if_neg (show ¬ (17 ≤ 27 + t ∧ 27 + t < 22) by omega), if_neg (show ¬ (22 ≤ 27 + t ∧ 27 + t < 27) by omega), if_pos (show 27 ≤ 27 + t ∧ 27 + t < 35 by omega)]
  rw [e]
theorem at_Row (K : KT) (M : MT) (t : Nat) (ht : t < 8) : mem K M (iR t) = .inr (3, [rf K (iE t), .int (M.2.1 11 t), .int (M.2.1 12 t)]) := by
  have e : 35 + t - 35 = t := by omega
  show mem K M (35 + t) = _
  unfold mem
  rw [if_neg (show ¬ 35 + t = 0 by omega), if_neg (show ¬ 35 + t = 1 by omega), if_neg (show ¬ 35 + t = 2 by omega), if_neg (show ¬ 35 + t = 3 by omega), if_neg (show ¬ 35 + t = 4 by omega), if_neg (show ¬ 35 + t = 5 by omega), if_neg (show ¬ 35 + t = 6 by omega), if_neg (show ¬ 35 + t = 7 by omega), if_neg (show ¬ 35 + t = 8 by omega), if_neg (show ¬ 35 + t = 9 by omega), if_neg (show ¬ 35 + t = 10 by omega), if_neg (show ¬ 35 + t = 11 by omega), if_neg (show ¬ (12 ≤ 35 + t ∧ 35 + t < 17) by omega), if_neg (show ¬ (17 ≤ 35 + t ∧ 35 + t < 22) by omega), if_neg (show ¬ (22 ≤ 35 + t ∧ 35 + t < 27) by omega), if_neg (show ¬ (27 ≤ 35 + t ∧ 35 + t < 35) by omega), if_pos (show 35 ≤ 35 + t ∧ 35 + t < 43 by omega)]
  rw [e]
theorem at_Ele (K : KT) (M : MT) (t : Nat) (ht : t < 8) : mem K M (iE t) = .inl (K.2.1 1, 40, .inr (.inl (M.2.2 t))) := by
  have e : 43 + t - 43 = t := by omega
  show mem K M (43 + t) = _
  unfold mem
  rw [if_neg (show ¬ 43 + t = 0 by omega), if_neg (show ¬ 43 + t = 1 by omega), if_neg (show ¬ 43 + t = 2 by omega), if_neg (show ¬ 43 + t = 3 by omega), if_neg (show ¬ 43 + t = 4 by omega), if_neg (show ¬ 43 + t = 5 by omega), if_neg (show ¬ 43 + t = 6 by omega), if_neg (show ¬ 43 + t = 7 by omega), if_neg (show ¬ 43 + t = 8 by omega), if_neg (show ¬ 43 + t = 9 by omega), if_neg (show ¬ 43 + t = 10 by omega), if_neg (show ¬ 43 + t = 11 by omega), if_neg (show ¬ (12 ≤ 43 + t ∧ 43 + t < 17) by omega), if_neg (show ¬ (17 ≤ 43 + t ∧ 43 + t < 22) by omega), if_neg (show ¬ (22 ≤ 43 + t ∧ 43 + t < 27) by omega), if_neg (show ¬ (27 ≤ 43 + t ∧ 43 + t < 35) by omega), if_neg (show ¬ (35 ≤ 43 + t ∧ 43 + t < 43) by omega), if_pos (show 43 ≤ 43 + t ∧ 43 + t < 51 by omega)]
  rw [e]
theorem at_Bro (K : KT) (M : MT) (t : Nat) (ht : t < 9) : mem K M (iB t) = .inl (K.2.1 0, 256, .inl (M.2.1 (13 + t))) := by
  have e : 51 + t - 51 = t := by omega
  show mem K M (51 + t) = _
  unfold mem
  rw [if_neg (show ¬ 51 + t = 0 by omega), if_neg (show ¬ 51 + t = 1 by omega), if_neg (show ¬ 51 + t = 2 by omega), if_neg (show ¬ 51 + t = 3 by omega), if_neg (show ¬ 51 + t = 4 by omega), if_neg (show ¬ 51 + t = 5 by omega), if_neg (show ¬ 51 + t = 6 by omega), if_neg (show ¬ 51 + t = 7 by omega), if_neg (show ¬ 51 + t = 8 by omega), if_neg (show ¬ 51 + t = 9 by omega), if_neg (show ¬ 51 + t = 10 by omega), if_neg (show ¬ 51 + t = 11 by omega), if_neg (show ¬ (12 ≤ 51 + t ∧ 51 + t < 17) by omega), if_neg (show ¬ (17 ≤ 51 + t ∧ 51 + t < 22) by omega), if_neg (show ¬ (22 ≤ 51 + t ∧ 51 + t < 27) by omega), if_neg (show ¬ (27 ≤ 51 + t ∧ 51 + t < 35) by omega), if_neg (show ¬ (35 ≤ 51 + t ∧ 51 + t < 43) by omega), if_neg (show ¬ (43 ≤ 51 + t ∧ 51 + t < 51) by omega), if_pos (show 51 ≤ 51 + t ∧ 51 + t < 60 by omega)]
  rw [e]
theorem at_Win (K : KT) (M : MT) (s : Nat) (t : Nat) (hs : s < 5) (ht : t < 8) : mem K M (iW s t) = .inr (7, [.int (M.1 s 6 t), .int (M.1 s 7 t), .int (M.1 s 8 t)]) := by
  have e : (60 + 8 * s + t - 60) / 8 = s := by omega
  have e2 : (60 + 8 * s + t - 60) % 8 = t := by omega
  show mem K M (60 + 8 * s + t) = _
  unfold mem
  rw [if_neg (show ¬ 60 + 8 * s + t = 0 by omega), if_neg (show ¬ 60 + 8 * s + t = 1 by omega), if_neg (show ¬ 60 + 8 * s + t = 2 by omega), if_neg (show ¬ 60 + 8 * s + t = 3 by omega), if_neg (show ¬ 60 + 8 * s + t = 4 by omega), if_neg (show ¬ 60 + 8 * s + t = 5 by omega), if_neg (show ¬ 60 + 8 * s + t = 6 by omega), if_neg (show ¬ 60 + 8 * s + t = 7 by omega), if_neg (show ¬ 60 + 8 * s + t = 8 by omega), if_neg (show ¬ 60 + 8 * s + t = 9 by omega), if_neg (show ¬ 60 + 8 * s + t = 10 by omega), if_neg (show ¬ 60 + 8 * s + t = 11 by omega), if_neg (show ¬ (12 ≤ 60 + 8 * s + t ∧ 60 + 8 * s + t < 17) by omega), if_neg (show ¬ (17 ≤ 60 + 8 * s + t ∧ 60 + 8 * s + t < 22) by omega), if_neg (show ¬ (22 ≤ 60 + 8 * s + t ∧ 60 + 8 * s + t < 27) by omega), if_neg (show ¬ (27 ≤ 60 + 8 * s + t ∧ 60 + 8 * s + t < 35) by omega), if_neg (show ¬ (35 ≤ 60 + 8 * s + t ∧ 60 + 8 * s + t < 43) by omega), if_neg (show ¬ (43 ≤ 60 + 8 * s + t ∧ 60 + 8 * s + t < 51) by omega), if_neg (show ¬ (51 ≤ 60 + 8 * s + t ∧ 60 + 8 * s + t < 60) by omega), if_pos (show 60 ≤ 60 + 8 * s + t ∧ 60 + 8 * s + t < 100 by omega)]
  rw [e, e2]
theorem at_Per (K : KT) (M : MT) (s : Nat) (t : Nat) (hs : s < 5) (ht : t < 8) : mem K M (iP s t) = .inr (2, [.int (M.1 s 9 t), .int (M.1 s 10 t), .int (M.1 s 11 t), .int (M.1 s 12 t), .int (M.1 s 13 t)]) := by
  have e : (100 + 8 * s + t - 100) / 8 = s := by omega
  have e2 : (100 + 8 * s + t - 100) % 8 = t := by omega
  show mem K M (100 + 8 * s + t) = _
  unfold mem
  rw [if_neg (show ¬ 100 + 8 * s + t = 0 by omega), if_neg (show ¬ 100 + 8 * s + t = 1 by omega), if_neg (show ¬ 100 + 8 * s + t = 2 by omega), if_neg (show ¬ 100 + 8 * s + t = 3 by omega), if_neg (show ¬ 100 + 8 * s + t = 4 by omega), if_neg (show ¬ 100 + 8 * s + t = 5 by omega), if_neg (show ¬ 100 + 8 * s + t = 6 by omega), if_neg (show ¬ 100 + 8 * s + t = 7 by omega), if_neg (show ¬ 100 + 8 * s + t = 8 by omega), if_neg (show ¬ 100 + 8 * s + t = 9 by omega), if_neg (show ¬ 100 + 8 * s + t = 10 by omega), if_neg (show ¬ 100 + 8 * s + t = 11 by omega), if_neg (show ¬ (12 ≤ 100 + 8 * s + t ∧ 100 + 8 * s + t < 17) by omega), if_neg (show ¬ (17 ≤ 100 + 8 * s + t ∧ 100 + 8 * s + t < 22) by omega), if_neg (show ¬ (22 ≤ 100 + 8 * s + t ∧ 100 + 8 * s + t < 27) by omega), if_neg (show ¬ (27 ≤ 100 + 8 * s + t ∧ 100 + 8 * s + t < 35) by omega), if_neg (show ¬ (35 ≤ 100 + 8 * s + t ∧ 100 + 8 * s + t < 43) by omega), if_neg (show ¬ (43 ≤ 100 + 8 * s + t ∧ 100 + 8 * s + t < 51) by omega), if_neg (show ¬ (51 ≤ 100 + 8 * s + t ∧ 100 + 8 * s + t < 60) by omega), if_neg (show ¬ (60 ≤ 100 + 8 * s + t ∧ 100 + 8 * s + t < 100) by omega), if_pos (show 100 ≤ 100 + 8 * s + t ∧ 100 + 8 * s + t < 140 by omega)]
  rw [e, e2]
theorem at_Mod (K : KT) (M : MT) : mem K M 140 = .inr (9, [.int (M.1 5 2 0), rf K 141, .int (M.1 5 4 0), .int (M.1 5 0 0), rf K 142, rf K 143, rf K 144, .int (M.1 5 1 0), rf K 145, rf K 146, rf K 147, rf K 148, rf K 149, .int (M.1 5 5 0), .int (M.2.1 30 0), rf K 150, .int (M.2.1 30 1), .int (M.2.1 30 2), .int (M.2.1 30 3), .int (M.2.1 30 4), rf K 151, rf K 152, rf K 153, rf K 154, .int (M.2.1 30 5), rf K 155, rf K 156, rf K 157, rf K 158, rf K 159, rf K 160, .int (M.2.1 30 6)]) := by simp [mem]
theorem at_Mways (K : KT) (M : MT) : mem K M 141 = .inl (K.2.1 0, 3, .inl (M.1 5 3)) := by simp [mem]
theorem at_Mat (K : KT) (M : MT) : mem K M 142 = .inl (K.2.1 0, 8, .inl (M.1 5 6)) := by simp [mem]
theorem at_Mfloor (K : KT) (M : MT) : mem K M 143 = .inl (K.2.1 0, 8, .inl (M.1 5 7)) := by simp [mem]
theorem at_Mthorns (K : KT) (M : MT) : mem K M 144 = .inl (K.2.1 0, 8, .inl (M.1 5 8)) := by simp [mem]
theorem at_Mkind (K : KT) (M : MT) : mem K M 145 = .inl (K.2.1 0, 8, .inl (M.1 5 9)) := by simp [mem]
theorem at_Mown (K : KT) (M : MT) : mem K M 146 = .inl (K.2.1 0, 8, .inl (M.1 5 10)) := by simp [mem]
theorem at_Mplace (K : KT) (M : MT) : mem K M 147 = .inl (K.2.1 0, 8, .inl (M.1 5 11)) := by simp [mem]
theorem at_Mrose (K : KT) (M : MT) : mem K M 148 = .inl (K.2.1 0, 8, .inl (M.1 5 12)) := by simp [mem]
theorem at_Mdue (K : KT) (M : MT) : mem K M 149 = .inl (K.2.1 0, 8, .inl (M.1 5 13)) := by simp [mem]
theorem at_Mtape (K : KT) (M : MT) : mem K M 150 = .inl (K.2.1 0, 250, .inl (M.2.1 31)) := by simp [mem]
theorem at_Mholding (K : KT) (M : MT) : mem K M 151 = .inl (K.2.1 0, 8, .inl (M.2.1 32)) := by simp [mem]
theorem at_MrowLength (K : KT) (M : MT) : mem K M 152 = .inl (K.2.1 0, 8, .inl (M.2.1 33)) := by simp [mem]
theorem at_MrowOf (K : KT) (M : MT) : mem K M 153 = .inl (K.2.1 1, 320, .inr (.inl (M.2.2 8))) := by simp [mem]
theorem at_Mrefusals (K : KT) (M : MT) : mem K M 154 = .inl (K.2.1 0, 7, .inl (M.2.1 34)) := by simp [mem]
theorem at_Mold (K : KT) (M : MT) : mem K M 155 = .inl (K.2.1 0, 75, .inl (M.2.1 35)) := by simp [mem]
theorem at_Mbefore (K : KT) (M : MT) : mem K M 156 = .inl (K.2.1 0, 75, .inl (M.2.1 36)) := by simp [mem]
theorem at_Mroses (K : KT) (M : MT) : mem K M 157 = .inl (K.2.1 0, 8, .inl (M.2.1 37)) := by simp [mem]
theorem at_Mhits (K : KT) (M : MT) : mem K M 158 = .inl (K.2.1 0, 8, .inl (M.2.1 38)) := by simp [mem]
theorem at_Mtried (K : KT) (M : MT) : mem K M 159 = .inl (K.2.1 0, 8, .inl (M.2.1 39)) := by simp [mem]
theorem at_Mbest (K : KT) (M : MT) : mem K M 160 = .inl (K.2.1 0, 8, .inl (M.2.1 40)) := by simp [mem]
