/-! ===== what a statement keeps ===== -/
theorem aw_J {M : MT} {s : Nat} {a b c : Int32} : (sp_X5_addWindow M s a b c).2.2 = M.2 := by
  unfold sp_X5_addWindow; rfl
theorem ap_J {M : MT} {s : Nat} {a b c : Int32} : (sp_X5_addPerson M s a b c).2.2 = M.2 := by
  unfold sp_X5_addPerson; rfl
theorem apply_J {M : MT} {v : Int32} : (sp_X6_apply M v).2 = M.2 := by
  unfold sp_X6_apply
  split
  · rfl
  · split
    · exact aw_J
    · split
      · exact ap_J
      · split
        · rfl
        · split
          · rfl
          · split
            · rfl
            · rfl
theorem apply_tk {M : MT} {v : Int32} (h : tkI M) : tkI (sp_X6_apply M v) := by
  unfold tkI
  rw [apply_J]
  exact h
theorem stmt_tk {M : MT} (h : tkI M) : tkI (sp_X6_readStatement M).2 := by
  have hA := (adv_tk h).1
  have hr := (rsN_inv (v := sp_X6_word M) (NBv (sp_X6_word M)) 0 (sp_X6_advance M) hA).1
  unfold sp_X6_readStatement
  split
  · exact hA
  · split
    · split
      · exact apply_tk hr
      · exact hr
    · exact hA
theorem aw_0 {M : MT} {s : Nat} {a b c : Int32} : (sp_X5_addWindow M s a b c).2.1 s 0 0 = M.1 s 0 0 + 1 := by
  unfold sp_X5_addWindow
  dsimp only
  rw [u1_eq, u1_f (by decide), u1_f (by decide), u1_f (by decide)]
theorem inc9 {x : Int32} (h : bd x 8) : bd (x + 1) 9 := by
  have hl := bd_lt h
  rw [bd_eq h, ← nI_succ]
  exact bd_nI (by omega) (by omega)
theorem ap_0 {M : MT} {s : Nat} {a b c : Int32} : (sp_X5_addPerson M s a b c).2.1 s 0 0 = M.1 s 0 0 := by
  unfold sp_X5_addPerson sp_X2_drop
  dsimp only
  rw [u1_f (by decide), u1_f (by decide), u1_f (by decide), u1_f (by decide), u1_f (by decide), u1_f (by decide)]
theorem apply_w {M : MT} {v : Int32} (h : bd (M.1 4 0 0) 9) (h8 : v = 1 → bd (M.1 4 0 0) 8) : bd ((sp_X6_apply M v).1 4 0 0) 9 := by
  unfold sp_X6_apply
  split
  · rw [u1_f (by decide)]; exact h
  · split
    · rename_i e
      rw [aw_0]; exact inc9 (h8 e)
    · split
      · rw [ap_0]; exact h
      · split
        · rw [u1_f (by decide)]; exact h
        · split
          · rw [u1_f (by decide)]; exact h
          · split
            · rw [u1_f (by decide)]; exact h
            · rw [u1_f (by decide)]; exact h
theorem aw_1 {M : MT} {s : Nat} {a b c : Int32} : (sp_X5_addWindow M s a b c).2.1 s 1 0 = M.1 s 1 0 := by
  unfold sp_X5_addWindow
  dsimp only
  rw [u1_f (by decide), u1_f (by decide), u1_f (by decide), u1_f (by decide)]
theorem ap_1 {M : MT} {s : Nat} {a b c : Int32} : (sp_X5_addPerson M s a b c).2.1 s 1 0 = M.1 s 1 0 + 1 := by
  unfold sp_X5_addPerson sp_X2_drop
  dsimp only
  rw [u1_eq, u1_f (by decide), u1_f (by decide), u1_f (by decide), u1_f (by decide), u1_f (by decide)]
theorem apply_p {M : MT} {v : Int32} (h : bd (M.1 4 1 0) 9) (h8 : v = 2 → bd (M.1 4 1 0) 8) : bd ((sp_X6_apply M v).1 4 1 0) 9 := by
  unfold sp_X6_apply
  split
  · rw [u1_f (by decide)]; exact h
  · split
    · rw [aw_1]; exact h
    · split
      · rename_i e
        rw [ap_1]; exact inc9 (h8 e)
      · split
        · rw [u1_f (by decide)]; exact h
        · split
          · rw [u1_f (by decide)]; exact h
          · split
            · rw [u1_f (by decide)]; exact h
            · rw [u1_f (by decide)]; exact h
theorem rI_stmt {M : MT} (h : rI M) : rI (sp_X6_readStatement M).2 := by
  refine ⟨stmt_tk h.1, ?_, ?_⟩
  · have hr := (rsN_inv (v := sp_X6_word M) (NBv (sp_X6_word M)) 0 (sp_X6_advance M) (adv_tk h.1).1).2.1
    have h9 : bd ((sp_X6_advance M).1 4 0 0) 9 := h.2.1
    unfold sp_X6_readStatement
    split
    · exact h9
    · split
      · rename_i q
        split
        · exact apply_w (by rw [hr]; exact h9) (fun e => by rw [hr]; exact room_w h9 e q)
        · rw [hr]; exact h9
      · exact h9
  · have hr := (rsN_inv (v := sp_X6_word M) (NBv (sp_X6_word M)) 0 (sp_X6_advance M) (adv_tk h.1).1).2.1
    have h9 : bd ((sp_X6_advance M).1 4 1 0) 9 := h.2.2
    unfold sp_X6_readStatement
    split
    · exact h9
    · split
      · rename_i q
        split
        · exact apply_p (by rw [hr]; exact h9) (fun e => by rw [hr]; exact room_p h9 e q)
        · rw [hr]; exact h9
      · exact h9
theorem c_X6_read {K : KT} {M : MT} (hsz : bd (M.2.1 6 0) 251) (hw9 : bd (M.1 4 0 0) 9) (hp9 : bd (M.1 4 1 0) 9) : CM K 8 yX6_read cX6_read 2 (some .int) [rf K 9] M (some (.int (sp_X6_read M).1)) (sp_X6_read M).2 := c_X6_read0 (fun _ h => rI_stmt h) hsz hw9 hp9
