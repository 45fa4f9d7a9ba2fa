theorem hold_p {M : MT} {a : Int32} (h : ∀ t, t < 8 → bd (M.2.1 33 t) 41 ∧ (M.2.1 32 t = -1 ∨ bd (M.2.1 32 t) 5 ∨ (10 ≤ M.2.1 32 t ∧ bd (M.2.1 32 t - 10) 8 ∧ tn (M.2.1 32 t - 10) < tn (M.1 5 1 0)))) (ha : bd a 8) (h1 : ¬ sp_X9_isRow M a = true) (h2 : 0 ≤ (M.2.1 32 (tn a))) : bd ((M.2.1 32 (tn a)) - 10) 8 ∧ tn ((M.2.1 32 (tn a)) - 10) < tn (M.1 5 1 0) := by
  rcases (h _ (bd_lt ha)).2 with q | q | q
  · rw [q] at h2; exact absurd h2 (by decide)
  · exfalso
    apply h1
    unfold sp_X9_isRow
    refine within_iff.mpr ⟨Int32.not_lt.mp q.1, ?_⟩
    have e := bd_eq q
    have hl := bd_lt q
    rw [e]
    exact (nI_le (a := tn (M.2.1 32 (tn a))) (b := 4) (by omega) (by omega))
  · exact q.2
theorem ne250 {x : Int32} (h : bd x 251) (q : ¬ x = 250) : bd x 250 := by
  have hl := bd_lt h
  rw [bd_eq h] at q ⊢
  have : ¬ tn x = 250 := fun z => q (by rw [z]; rfl)
  exact bd_nI (by omega) (by omega)

theorem nrB {M : MT} {a : Int32} : bd (-(sp_X9_noRow M a)) 7 := by
  unfold sp_X9_noRow
  (repeat' split) <;> exact bd_lit (by decide)
theorem ntB {M : MT} {a b : Int32} : bd (-(sp_X9_noTold M a b)) 7 := by
  unfold sp_X9_noTold
  split
  · split
    · exact bd_lit (by decide)
    · exact bd_lit (by decide)
  · exact nrB

def st_X9_row_50 (M : MT) (a0 : Int32) (a1 : Int32) (a2 : Int32) (i : Nat) (b50 : MT) : MT :=
  u3 b50 8 (tn ((40 * a0) + (nI i))) 0
def sp_X9_row (M : MT) (a0 : Int32) (a1 : Int32) (a2 : Int32) : Int32 × MT :=
  if (sp_X9_isShelf a0) = true then
    if (sp_X9_within a1 0 4) = true then
      if (sp_X9_within a2 0 40) = true then
        (1, itN 40 (st_X9_row_50 M a0 a1 a2) (u2 (u2 M 32 (tn a0) a1) 33 (tn a0) a2))
      else
        ((sp_X9_no M (-2)).1, (sp_X9_no M (-2)).2)
    else
      ((sp_X9_no M (-2)).1, (sp_X9_no M (-2)).2)
  else
    ((sp_X9_no M (-2)).1, (sp_X9_no M (-2)).2)
set_option maxRecDepth 20000 in
theorem c_X9_row {K : KT} {M : MT} {a0 : Int32} {a1 : Int32} {a2 : Int32}  (hokr : OKR M) : CM K 3 yX9_row cX9_row 5 (some FieldType.int) [rf K 140, .int a0, .int a1, .int a2] M (some (.int (sp_X9_row M a0 a1 a2).1)) (sp_X9_row M a0 a1 a2).2 := by
  refine CM.ofI (by decide) [some (rf K 140), some (.int a0), some (.int a1), some (.int a2), none] rfl (Nat.le_of_ble_eq_true rfl) (Nat.le_of_ble_eq_true rfl) (fun G hG _ hret => ?_)
  obtain ⟨hok5, hhl, htp5⟩ := id hokr
  obtain ⟨hwc5, hpc5, ⟨hcl5, hcm5⟩, hwi5, hda5, hle5, hk85, ha85, hW5, hP5⟩ := id hok5
  have hwl5 := bd_lt hwc5
  have hpl5 := bd_lt hpc5
  have hcl5l := bd_lt hcl5
  refine r_iload_n (pc := 0) hG dX9_row_0 rfl ?_
  refine cs_X9_isShelf (pc := 1)  hG dX9_row_1 tw_1267 (c_X9_isShelf) (by decide) (Nat.le_of_ble_eq_true rfl) ?_
  refine r_ifz_eq (pc := 4) (tgt := 26) hG dX9_row_4 (by decide) (fun c1 => ?_) (fun c1 => ?_)
  · refine r_aload_n (pc := 26) hG dX9_row_26 rfl ?_
    refine r_bipush (pc := 27) hG dX9_row_27 bc_m2 ?_
    refine cv_X9_no (pc := 29)  hG dX9_row_29 tw_1273 (c_X9_no (bd_lit (n := 7) (by decide))) (by decide) (Nat.le_of_ble_eq_true rfl) ?_
    exact hret _ _ _ _ dX9_row_32 (pair_fst (show sp_X9_row M a0 a1 a2 = ((sp_X9_no M (-2)).1, (sp_X9_no M (-2)).2) from (by unfold sp_X9_row; exact (if_neg c1)))) (pair_snd (show sp_X9_row M a0 a1 a2 = ((sp_X9_no M (-2)).1, (sp_X9_no M (-2)).2) from (by unfold sp_X9_row; exact (if_neg c1))))
  · refine r_iload_n (pc := 7) hG dX9_row_7 rfl ?_
    refine r_iconst (pc := 8) hG dX9_row_8 ic_0 ?_
    refine r_iconst (pc := 9) hG dX9_row_9 ic_4 ?_
    refine cs_X9_within (pc := 10)  hG dX9_row_10 tw_1270 (c_X9_within) (by decide) (Nat.le_of_ble_eq_true rfl) ?_
    refine r_ifz_eq (pc := 13) (tgt := 26) hG dX9_row_13 (by decide) (fun c2 => ?_) (fun c2 => ?_)
    · refine r_aload_n (pc := 26) hG dX9_row_26 rfl ?_
      refine r_bipush (pc := 27) hG dX9_row_27 bc_m2 ?_
      refine cv_X9_no (pc := 29)  hG dX9_row_29 tw_1273 (c_X9_no (bd_lit (n := 7) (by decide))) (by decide) (Nat.le_of_ble_eq_true rfl) ?_
      exact hret _ _ _ _ dX9_row_32 (pair_fst (show sp_X9_row M a0 a1 a2 = ((sp_X9_no M (-2)).1, (sp_X9_no M (-2)).2) from (by unfold sp_X9_row; exact ((if_pos c1).trans (if_neg c2))))) (pair_snd (show sp_X9_row M a0 a1 a2 = ((sp_X9_no M (-2)).1, (sp_X9_no M (-2)).2) from (by unfold sp_X9_row; exact ((if_pos c1).trans (if_neg c2)))))
    · refine r_iload_n (pc := 16) hG dX9_row_16 rfl ?_
      refine r_iconst (pc := 17) hG dX9_row_17 ic_0 ?_
      refine r_bipush (pc := 18) hG dX9_row_18 bc_40 ?_
      refine cs_X9_within (pc := 20)  hG dX9_row_20 tw_1270 (c_X9_within) (by decide) (Nat.le_of_ble_eq_true rfl) ?_
      refine r_ifz_ne (pc := 23) (tgt := 33) hG dX9_row_23 (by decide) (fun c3 => ?_) (fun c3 => ?_)
      · refine r_aload_n (pc := 33) hG dX9_row_33 rfl ?_
        refine gf_X9_holding (pc := 34)  hG dX9_row_34 tw_1186 ?_
        refine r_iload_n (pc := 37) hG dX9_row_37 rfl ?_
        refine r_iload_n (pc := 38) hG dX9_row_38 rfl ?_
        refine as_Mholding (pc := 39)  hG dX9_row_39 (ix_bd (isSh5 c1)) ?_
        refine r_aload_n (pc := 40) hG dX9_row_40 rfl ?_
        refine gf_X9_rowLength (pc := 41)  hG dX9_row_41 tw_1187 ?_
        refine r_iload_n (pc := 44) hG dX9_row_44 rfl ?_
        refine r_iload_n (pc := 45) hG dX9_row_45 rfl ?_
        refine as_MrowLength (pc := 46)  hG dX9_row_46 (ix_bd (isSh5 c1)) ?_
        refine r_iconst (pc := 47) hG dX9_row_47 ic_0 ?_
        refine r_istore (pc := 48) (ls' := [_, _, _, _, _]) hG dX9_row_48 rfl rfl ?_
        have lp50 : ∀ i, i ≤ 40 → ∀ b50 : MT, b50 = itN i (st_X9_row_50 M a0 a1 a2) (u2 (u2 M 32 (tn a0) a1) 33 (tn a0) a2) → J G K b50 50 [some (rf K 140), some (.int a0), some (.int a1), some (.int a2), some (.int (nI i))] [] := by
          refine up_ind 40 (fun i hi50 ih50 => ?_)
          intro b50 hg50
          refine r_iload (pc := 50) hG dX9_row_50 rfl ?_
          refine r_bipush (pc := 52) hG dX9_row_52 bc_40 ?_
          refine r_icmp_ge (pc := 54) (tgt := 76) hG dX9_row_54 (by decide) (fun c4 => ?_) (fun c4 => ?_)
          · have e50 : i = 40 := by have := (le_nI (k := 40) (i := i) (Nat.le_of_ble_eq_true rfl) (by omega)).mp c4; omega
            subst hg50
            subst e50
            refine r_iconst (pc := 76) hG dX9_row_76 ic_1 ?_
            exact hret _ _ _ _ dX9_row_77 (pair_fst (show sp_X9_row M a0 a1 a2 = (1, itN 40 (st_X9_row_50 M a0 a1 a2) (u2 (u2 M 32 (tn a0) a1) 33 (tn a0) a2)) from (by unfold sp_X9_row; exact ((if_pos c1).trans ((if_pos c2).trans (if_pos c3)))))) (pair_snd (show sp_X9_row M a0 a1 a2 = (1, itN 40 (st_X9_row_50 M a0 a1 a2) (u2 (u2 M 32 (tn a0) a1) 33 (tn a0) a2)) from (by unfold sp_X9_row; exact ((if_pos c1).trans ((if_pos c2).trans (if_pos c3))))))
          · have hl50 : i < 40 := by have := mt (le_nI (k := 40) (i := i) (Nat.le_of_ble_eq_true rfl) (by omega)).mpr c4; omega
            refine r_aload_n (pc := 57) hG dX9_row_57 rfl ?_
            refine gf_X9_rowOf (pc := 58)  hG dX9_row_58 tw_1188 ?_
            refine r_bipush (pc := 61) hG dX9_row_61 bc_40 ?_
            refine r_iload_n (pc := 63) hG dX9_row_63 rfl ?_
            refine r_imul (pc := 64) hG dX9_row_64 ?_
            refine r_iload (pc := 65) hG dX9_row_65 rfl ?_
            refine r_iadd (pc := 67) hG dX9_row_67 ?_
            refine r_lconst (pc := 68) (v := 0) hG dX9_row_68 (by decide) ?_
            refine as_MrowOf (pc := 69)  hG dX9_row_69 (ix_bd (row_ix (isSh5 c1) (by omega))) ?_
            refine r_iinc (pc := 70) (v := nI (i + 1)) (ls' := [_, _, _, _, _]) hG dX9_row_70 rfl (nI_1 _) rfl rfl ?_
            refine r_goto (pc := 73) (tgt := 50) hG dX9_row_73 (by decide) ?_
            have eN50 : u3 b50 8 (tn ((40 * a0) + (nI i))) 0 = st_X9_row_50 M a0 a1 a2 i (itN i (st_X9_row_50 M a0 a1 a2) (u2 (u2 M 32 (tn a0) a1) 33 (tn a0) a2)) := by rw [← hg50]; unfold st_X9_row_50; exact Eq.symm rfl
            refine J.wk (ls' := [some (rf K 140), some (.int a0), some (.int a1), some (.int a2), some (.int (nI (i + 1)))]) ?_ (Eq.refl 5) (wk_s rfl (wk_s rfl (wk_s rfl (wk_s rfl (wk_s rfl wk_0)))))
            exact ih50 hl50 (u3 b50 8 (tn ((40 * a0) + (nI i))) 0) eN50
        exact (lp50 0 (Nat.zero_le _) _ rfl).wk (Eq.refl 5) (wk_s rfl (wk_s rfl (wk_s rfl (wk_s rfl (wk_s rfl wk_0)))))
      · refine r_aload_n (pc := 26) hG dX9_row_26 rfl ?_
        refine r_bipush (pc := 27) hG dX9_row_27 bc_m2 ?_
        refine cv_X9_no (pc := 29)  hG dX9_row_29 tw_1273 (c_X9_no (bd_lit (n := 7) (by decide))) (by decide) (Nat.le_of_ble_eq_true rfl) ?_
        exact hret _ _ _ _ dX9_row_32 (pair_fst (show sp_X9_row M a0 a1 a2 = ((sp_X9_no M (-2)).1, (sp_X9_no M (-2)).2) from (by unfold sp_X9_row; exact ((if_pos c1).trans ((if_pos c2).trans (if_neg c3)))))) (pair_snd (show sp_X9_row M a0 a1 a2 = ((sp_X9_no M (-2)).1, (sp_X9_no M (-2)).2) from (by unfold sp_X9_row; exact ((if_pos c1).trans ((if_pos c2).trans (if_neg c3))))))

def sp_X9_set (M : MT) (a0 : Int32) (a1 : Int32) (a2 : Int64) : Int32 × MT :=
  if (sp_X9_isShelf a0) = true then
    if (sp_X9_isRow M a0) = true then
      if (sp_X9_within a1 0 ((M.2.1 33 (tn a0)) - 1)) = true then
        (1, u3 M 8 (tn ((40 * a0) + a1)) (sp_X9_kept (M.2.1 32 (tn a0)) a2))
      else
        ((sp_X9_no M (-2)).1, (sp_X9_no M (-2)).2)
    else
      ((sp_X9_no M (sp_X9_noRow M a0)).1, (sp_X9_no M (sp_X9_noRow M a0)).2)
  else
    ((sp_X9_no M (-2)).1, (sp_X9_no M (-2)).2)
set_option maxRecDepth 20000 in
theorem c_X9_set {K : KT} {M : MT} {a0 : Int32} {a1 : Int32} {a2 : Int64}  (hokr : OKR M) : CM K 3 yX9_set cX9_set 5 (some FieldType.int) [rf K 140, .int a0, .int a1, .long a2] M (some (.int (sp_X9_set M a0 a1 a2).1)) (sp_X9_set M a0 a1 a2).2 := by
  refine CM.ofI (by decide) [some (rf K 140), some (.int a0), some (.int a1), some (.long a2), none] rfl (Nat.le_of_ble_eq_true rfl) (Nat.le_of_ble_eq_true rfl) (fun G hG _ hret => ?_)
  obtain ⟨hok5, hhl, htp5⟩ := id hokr
  obtain ⟨hwc5, hpc5, ⟨hcl5, hcm5⟩, hwi5, hda5, hle5, hk85, ha85, hW5, hP5⟩ := id hok5
  have hwl5 := bd_lt hwc5
  have hpl5 := bd_lt hpc5
  have hcl5l := bd_lt hcl5
  refine r_iload_n (pc := 0) hG dX9_set_0 rfl ?_
  refine cs_X9_isShelf (pc := 1)  hG dX9_set_1 tw_1267 (c_X9_isShelf) (by decide) (Nat.le_of_ble_eq_true rfl) ?_
  refine r_ifz_ne (pc := 4) (tgt := 14) hG dX9_set_4 (by decide) (fun c1 => ?_) (fun c1 => ?_)
  · refine r_aload_n (pc := 14) hG dX9_set_14 rfl ?_
    refine r_iload_n (pc := 15) hG dX9_set_15 rfl ?_
    refine cv_X9_isRow (pc := 16)  hG dX9_set_16 tw_1281 (c_X9_isRow (isSh5 c1)) (by decide) (Nat.le_of_ble_eq_true rfl) ?_
    refine r_ifz_ne (pc := 19) (tgt := 32) hG dX9_set_19 (by decide) (fun c2 => ?_) (fun c2 => ?_)
    · refine r_iload_n (pc := 32) hG dX9_set_32 rfl ?_
      refine r_iconst (pc := 33) hG dX9_set_33 ic_0 ?_
      refine r_aload_n (pc := 34) hG dX9_set_34 rfl ?_
      refine gf_X9_rowLength (pc := 35)  hG dX9_set_35 tw_1187 ?_
      refine r_iload_n (pc := 38) hG dX9_set_38 rfl ?_
      refine al_MrowLength (pc := 39)  hG dX9_set_39 (ix_bd (isSh5 c1)) ?_
      refine r_iconst (pc := 40) hG dX9_set_40 ic_1 ?_
      refine r_isub (pc := 41) hG dX9_set_41 ?_
      refine cs_X9_within (pc := 42)  hG dX9_set_42 tw_1270 (c_X9_within) (by decide) (Nat.le_of_ble_eq_true rfl) ?_
      refine r_ifz_ne (pc := 45) (tgt := 55) hG dX9_set_45 (by decide) (fun c3 => ?_) (fun c3 => ?_)
      · refine r_aload_n (pc := 55) hG dX9_set_55 rfl ?_
        refine gf_X9_rowOf (pc := 56)  hG dX9_set_56 tw_1188 ?_
        refine r_bipush (pc := 59) hG dX9_set_59 bc_40 ?_
        refine r_iload_n (pc := 61) hG dX9_set_61 rfl ?_
        refine r_imul (pc := 62) hG dX9_set_62 ?_
        refine r_iload_n (pc := 63) hG dX9_set_63 rfl ?_
        refine r_iadd (pc := 64) hG dX9_set_64 ?_
        refine r_aload_n (pc := 65) hG dX9_set_65 rfl ?_
        refine gf_X9_holding (pc := 66)  hG dX9_set_66 tw_1186 ?_
        refine r_iload_n (pc := 69) hG dX9_set_69 rfl ?_
        refine al_Mholding (pc := 70)  hG dX9_set_70 (ix_bd (isSh5 c1)) ?_
        refine r_lload_n (pc := 71) hG dX9_set_71 rfl ?_
        refine cs_X9_kept (pc := 72)  hG dX9_set_72 tw_1289 (c_X9_kept) (by decide) (Nat.le_of_ble_eq_true rfl) ?_
        refine as_MrowOf (pc := 75)  hG dX9_set_75 (ix_bd (row_ix2 (isSh5 c1) (in_lt (hhl _ (bd_lt (isSh5 c1))).1 c3))) ?_
        refine r_iconst (pc := 76) hG dX9_set_76 ic_1 ?_
        exact hret _ _ _ _ dX9_set_77 (pair_fst (show sp_X9_set M a0 a1 a2 = (1, u3 M 8 (tn ((40 * a0) + a1)) (sp_X9_kept (M.2.1 32 (tn a0)) a2)) from (by unfold sp_X9_set; exact ((if_pos c1).trans ((if_pos c2).trans (if_pos c3)))))) (pair_snd (show sp_X9_set M a0 a1 a2 = (1, u3 M 8 (tn ((40 * a0) + a1)) (sp_X9_kept (M.2.1 32 (tn a0)) a2)) from (by unfold sp_X9_set; exact ((if_pos c1).trans ((if_pos c2).trans (if_pos c3))))))
      · refine r_aload_n (pc := 48) hG dX9_set_48 rfl ?_
        refine r_bipush (pc := 49) hG dX9_set_49 bc_m2 ?_
        refine cv_X9_no (pc := 51)  hG dX9_set_51 tw_1273 (c_X9_no (bd_lit (n := 7) (by decide))) (by decide) (Nat.le_of_ble_eq_true rfl) ?_
        exact hret _ _ _ _ dX9_set_54 (pair_fst (show sp_X9_set M a0 a1 a2 = ((sp_X9_no M (-2)).1, (sp_X9_no M (-2)).2) from (by unfold sp_X9_set; exact ((if_pos c1).trans ((if_pos c2).trans (if_neg c3)))))) (pair_snd (show sp_X9_set M a0 a1 a2 = ((sp_X9_no M (-2)).1, (sp_X9_no M (-2)).2) from (by unfold sp_X9_set; exact ((if_pos c1).trans ((if_pos c2).trans (if_neg c3))))))
    · refine r_aload_n (pc := 22) hG dX9_set_22 rfl ?_
      refine r_aload_n (pc := 23) hG dX9_set_23 rfl ?_
      refine r_iload_n (pc := 24) hG dX9_set_24 rfl ?_
      refine cv_X9_noRow (pc := 25)  hG dX9_set_25 tw_1285 (c_X9_noRow (isSh5 c1)) (by decide) (Nat.le_of_ble_eq_true rfl) ?_
      refine cv_X9_no (pc := 28)  hG dX9_set_28 tw_1273 (c_X9_no nrB) (by decide) (Nat.le_of_ble_eq_true rfl) ?_
      exact hret _ _ _ _ dX9_set_31 (pair_fst (show sp_X9_set M a0 a1 a2 = ((sp_X9_no M (sp_X9_noRow M a0)).1, (sp_X9_no M (sp_X9_noRow M a0)).2) from (by unfold sp_X9_set; exact ((if_pos c1).trans (if_neg c2))))) (pair_snd (show sp_X9_set M a0 a1 a2 = ((sp_X9_no M (sp_X9_noRow M a0)).1, (sp_X9_no M (sp_X9_noRow M a0)).2) from (by unfold sp_X9_set; exact ((if_pos c1).trans (if_neg c2)))))
  · refine r_aload_n (pc := 7) hG dX9_set_7 rfl ?_
    refine r_bipush (pc := 8) hG dX9_set_8 bc_m2 ?_
    refine cv_X9_no (pc := 10)  hG dX9_set_10 tw_1273 (c_X9_no (bd_lit (n := 7) (by decide))) (by decide) (Nat.le_of_ble_eq_true rfl) ?_
    exact hret _ _ _ _ dX9_set_13 (pair_fst (show sp_X9_set M a0 a1 a2 = ((sp_X9_no M (-2)).1, (sp_X9_no M (-2)).2) from (by unfold sp_X9_set; exact (if_neg c1)))) (pair_snd (show sp_X9_set M a0 a1 a2 = ((sp_X9_no M (-2)).1, (sp_X9_no M (-2)).2) from (by unfold sp_X9_set; exact (if_neg c1))))

def sp_X9_element (M : MT) (a0 : Int32) (a1 : Int32) : Int64 × MT :=
  if (sp_X9_isShelf a0) = true then
    if (sp_X9_isRow M a0) = true then
      if (sp_X9_within a1 0 ((M.2.1 33 (tn a0)) - 1)) = true then
        (M.2.2 8 (tn ((40 * a0) + a1)), M)
      else
        (0, M)
    else
      (0, M)
  else
    (0, M)
set_option maxRecDepth 20000 in
theorem c_X9_element {K : KT} {M : MT} {a0 : Int32} {a1 : Int32}  (hokr : OKR M) : CM K 3 yX9_element cX9_element 3 (some FieldType.long) [rf K 140, .int a0, .int a1] M (some (.long (sp_X9_element M a0 a1).1)) (sp_X9_element M a0 a1).2 := by
  refine CM.ofL (by decide) [some (rf K 140), some (.int a0), some (.int a1)] rfl (Nat.le_of_ble_eq_true rfl) (Nat.le_of_ble_eq_true rfl) (fun G hG _ hret => ?_)
  obtain ⟨hok5, hhl, htp5⟩ := id hokr
  obtain ⟨hwc5, hpc5, ⟨hcl5, hcm5⟩, hwi5, hda5, hle5, hk85, ha85, hW5, hP5⟩ := id hok5
  have hwl5 := bd_lt hwc5
  have hpl5 := bd_lt hpc5
  have hcl5l := bd_lt hcl5
  refine r_iload_n (pc := 0) hG dX9_element_0 rfl ?_
  refine cs_X9_isShelf (pc := 1)  hG dX9_element_1 tw_1267 (c_X9_isShelf) (by decide) (Nat.le_of_ble_eq_true rfl) ?_
  refine r_ifz_eq (pc := 4) (tgt := 45) hG dX9_element_4 (by decide) (fun c1 => ?_) (fun c1 => ?_)
  · refine r_lconst (pc := 45) (v := 0) hG dX9_element_45 (by decide) ?_
    exact hret _ _ _ _ dX9_element_46 (pair_fst (show sp_X9_element M a0 a1 = (0, M) from (by unfold sp_X9_element; exact (if_neg c1)))) (pair_snd (show sp_X9_element M a0 a1 = (0, M) from (by unfold sp_X9_element; exact (if_neg c1))))
  · refine r_aload_n (pc := 7) hG dX9_element_7 rfl ?_
    refine r_iload_n (pc := 8) hG dX9_element_8 rfl ?_
    refine cv_X9_isRow (pc := 9)  hG dX9_element_9 tw_1281 (c_X9_isRow (isSh5 c1)) (by decide) (Nat.le_of_ble_eq_true rfl) ?_
    refine r_ifz_eq (pc := 12) (tgt := 45) hG dX9_element_12 (by decide) (fun c2 => ?_) (fun c2 => ?_)
    · refine r_lconst (pc := 45) (v := 0) hG dX9_element_45 (by decide) ?_
      exact hret _ _ _ _ dX9_element_46 (pair_fst (show sp_X9_element M a0 a1 = (0, M) from (by unfold sp_X9_element; exact ((if_pos c1).trans (if_neg c2))))) (pair_snd (show sp_X9_element M a0 a1 = (0, M) from (by unfold sp_X9_element; exact ((if_pos c1).trans (if_neg c2)))))
    · refine r_iload_n (pc := 15) hG dX9_element_15 rfl ?_
      refine r_iconst (pc := 16) hG dX9_element_16 ic_0 ?_
      refine r_aload_n (pc := 17) hG dX9_element_17 rfl ?_
      refine gf_X9_rowLength (pc := 18)  hG dX9_element_18 tw_1187 ?_
      refine r_iload_n (pc := 21) hG dX9_element_21 rfl ?_
      refine al_MrowLength (pc := 22)  hG dX9_element_22 (ix_bd (isSh5 c1)) ?_
      refine r_iconst (pc := 23) hG dX9_element_23 ic_1 ?_
      refine r_isub (pc := 24) hG dX9_element_24 ?_
      refine cs_X9_within (pc := 25)  hG dX9_element_25 tw_1270 (c_X9_within) (by decide) (Nat.le_of_ble_eq_true rfl) ?_
      refine r_ifz_eq (pc := 28) (tgt := 45) hG dX9_element_28 (by decide) (fun c3 => ?_) (fun c3 => ?_)
      · refine r_lconst (pc := 45) (v := 0) hG dX9_element_45 (by decide) ?_
        exact hret _ _ _ _ dX9_element_46 (pair_fst (show sp_X9_element M a0 a1 = (0, M) from (by unfold sp_X9_element; exact ((if_pos c1).trans ((if_pos c2).trans (if_neg c3)))))) (pair_snd (show sp_X9_element M a0 a1 = (0, M) from (by unfold sp_X9_element; exact ((if_pos c1).trans ((if_pos c2).trans (if_neg c3))))))
      · refine r_aload_n (pc := 31) hG dX9_element_31 rfl ?_
        refine gf_X9_rowOf (pc := 32)  hG dX9_element_32 tw_1188 ?_
        refine r_bipush (pc := 35) hG dX9_element_35 bc_40 ?_
        refine r_iload_n (pc := 37) hG dX9_element_37 rfl ?_
        refine r_imul (pc := 38) hG dX9_element_38 ?_
        refine r_iload_n (pc := 39) hG dX9_element_39 rfl ?_
        refine r_iadd (pc := 40) hG dX9_element_40 ?_
        refine al_MrowOf (pc := 41)  hG dX9_element_41 (ix_bd (row_ix2 (isSh5 c1) (in_lt (hhl _ (bd_lt (isSh5 c1))).1 c3))) ?_
        refine r_goto (pc := 42) (tgt := 46) hG dX9_element_42 (by decide) ?_
        exact hret _ _ _ _ dX9_element_46 (pair_fst (show sp_X9_element M a0 a1 = (M.2.2 8 (tn ((40 * a0) + a1)), M) from (by unfold sp_X9_element; exact ((if_pos c1).trans ((if_pos c2).trans (if_pos c3)))))) (pair_snd (show sp_X9_element M a0 a1 = (M.2.2 8 (tn ((40 * a0) + a1)), M) from (by unfold sp_X9_element; exact ((if_pos c1).trans ((if_pos c2).trans (if_pos c3))))))

def sp_X9_says (M : MT) (a0 : Int32) (a1 : Int32) : Int32 × MT :=
  if (sp_X9_isShelf a0) = true then
    if (sp_X9_within a1 0 5) = true then
      if (sp_X9_isRow M a0) = true then
        ((sp_X9_no M (-3)).1, (sp_X9_no M (-3)).2)
      else
        if 0 ≤ (M.2.1 32 (tn a0)) then
          if (sp_X9_isUnder (M.1 5 9 (tn ((M.2.1 32 (tn a0)) - 10))) a1) = true then
            if a1 = 0 then
              (M.1 5 10 (tn ((M.2.1 32 (tn a0)) - 10)), M)
            else
              (sp_X9_slowTo M ((M.2.1 32 (tn a0)) - 10) 5, M)
          else
            ((sp_X9_no M (-3)).1, (sp_X9_no M (-3)).2)
        else
          ((sp_X9_no M (-4)).1, (sp_X9_no M (-4)).2)
    else
      ((sp_X9_no M (-2)).1, (sp_X9_no M (-2)).2)
  else
    ((sp_X9_no M (-2)).1, (sp_X9_no M (-2)).2)
set_option maxRecDepth 20000 in
theorem c_X9_says {K : KT} {M : MT} {a0 : Int32} {a1 : Int32}  (hokr : OKR M) : CM K 3 yX9_says cX9_says 4 (some FieldType.int) [rf K 140, .int a0, .int a1] M (some (.int (sp_X9_says M a0 a1).1)) (sp_X9_says M a0 a1).2 := by
  refine CM.ofI (by decide) [some (rf K 140), some (.int a0), some (.int a1), none] rfl (Nat.le_of_ble_eq_true rfl) (Nat.le_of_ble_eq_true rfl) (fun G hG _ hret => ?_)
  obtain ⟨hok5, hhl, htp5⟩ := id hokr
  obtain ⟨hwc5, hpc5, ⟨hcl5, hcm5⟩, hwi5, hda5, hle5, hk85, ha85, hW5, hP5⟩ := id hok5
  have hwl5 := bd_lt hwc5
  have hpl5 := bd_lt hpc5
  have hcl5l := bd_lt hcl5
  refine r_iload_n (pc := 0) hG dX9_says_0 rfl ?_
  refine cs_X9_isShelf (pc := 1)  hG dX9_says_1 tw_1267 (c_X9_isShelf) (by decide) (Nat.le_of_ble_eq_true rfl) ?_
  refine r_ifz_eq (pc := 4) (tgt := 16) hG dX9_says_4 (by decide) (fun c1 => ?_) (fun c1 => ?_)
  · refine r_aload_n (pc := 16) hG dX9_says_16 rfl ?_
    refine r_bipush (pc := 17) hG dX9_says_17 bc_m2 ?_
    refine cv_X9_no (pc := 19)  hG dX9_says_19 tw_1273 (c_X9_no (bd_lit (n := 7) (by decide))) (by decide) (Nat.le_of_ble_eq_true rfl) ?_
    exact hret _ _ _ _ dX9_says_22 (pair_fst (show sp_X9_says M a0 a1 = ((sp_X9_no M (-2)).1, (sp_X9_no M (-2)).2) from (by unfold sp_X9_says; exact (if_neg c1)))) (pair_snd (show sp_X9_says M a0 a1 = ((sp_X9_no M (-2)).1, (sp_X9_no M (-2)).2) from (by unfold sp_X9_says; exact (if_neg c1))))
  · refine r_iload_n (pc := 7) hG dX9_says_7 rfl ?_
    refine r_iconst (pc := 8) hG dX9_says_8 ic_0 ?_
    refine r_iconst (pc := 9) hG dX9_says_9 ic_5 ?_
    refine cs_X9_within (pc := 10)  hG dX9_says_10 tw_1270 (c_X9_within) (by decide) (Nat.le_of_ble_eq_true rfl) ?_
    refine r_ifz_ne (pc := 13) (tgt := 23) hG dX9_says_13 (by decide) (fun c2 => ?_) (fun c2 => ?_)
    · refine r_aload_n (pc := 23) hG dX9_says_23 rfl ?_
      refine r_iload_n (pc := 24) hG dX9_says_24 rfl ?_
      refine cv_X9_isRow (pc := 25)  hG dX9_says_25 tw_1281 (c_X9_isRow (isSh5 c1)) (by decide) (Nat.le_of_ble_eq_true rfl) ?_
      refine r_ifz_eq (pc := 28) (tgt := 38) hG dX9_says_28 (by decide) (fun c3 => ?_) (fun c3 => ?_)
      · refine r_aload_n (pc := 38) hG dX9_says_38 rfl ?_
        refine gf_X9_holding (pc := 39)  hG dX9_says_39 tw_1186 ?_
        refine r_iload_n (pc := 42) hG dX9_says_42 rfl ?_
        refine al_Mholding (pc := 43)  hG dX9_says_43 (ix_bd (isSh5 c1)) ?_
        refine r_if_ge (pc := 44) (tgt := 54) hG dX9_says_44 (by decide) (fun c4 => ?_) (fun c4 => ?_)
        · refine r_aload_n (pc := 54) hG dX9_says_54 rfl ?_
          refine gf_X9_holding (pc := 55)  hG dX9_says_55 tw_1186 ?_
          refine r_iload_n (pc := 58) hG dX9_says_58 rfl ?_
          refine al_Mholding (pc := 59)  hG dX9_says_59 (ix_bd (isSh5 c1)) ?_
          refine r_bipush (pc := 60) hG dX9_says_60 bc_10 ?_
          refine r_isub (pc := 62) hG dX9_says_62 ?_
          refine r_istore_n (pc := 63) (ls' := [_, _, _, _]) hG dX9_says_63 rfl rfl ?_
          refine r_aload_n (pc := 64) hG dX9_says_64 rfl ?_
          refine gf_X9_kind (pc := 65)  hG dX9_says_65 tw_1174 ?_
          refine r_iload_n (pc := 68) hG dX9_says_68 rfl ?_
          refine al_Mkind (pc := 69)  hG dX9_says_69 (ix_bd (hold_p hhl (isSh5 c1) c3 c4).1) ?_
          refine r_iload_n (pc := 70) hG dX9_says_70 rfl ?_
          refine cs_X9_isUnder (pc := 71)  hG dX9_says_71 tw_1316 (c_X9_isUnder) (by decide) (Nat.le_of_ble_eq_true rfl) ?_
          refine r_ifz_ne (pc := 74) (tgt := 84) hG dX9_says_74 (by decide) (fun c5 => ?_) (fun c5 => ?_)
          · refine r_iload_n (pc := 84) hG dX9_says_84 rfl ?_
            refine r_if_ne (pc := 85) (tgt := 97) hG dX9_says_85 (by decide) (fun c6 => ?_) (fun c6 => ?_)
            · refine r_aload_n (pc := 97) hG dX9_says_97 rfl ?_
              refine r_iload_n (pc := 98) hG dX9_says_98 rfl ?_
              refine r_iconst (pc := 99) hG dX9_says_99 ic_5 ?_
              refine cv_X9_slowTo (pc := 100)  hG dX9_says_100 tw_1319 (c_X9_slowTo (hold_p hhl (isSh5 c1) c3 c4).1) (by decide) (Nat.le_of_ble_eq_true rfl) ?_
              exact hret _ _ _ _ dX9_says_103 (pair_fst (show sp_X9_says M a0 a1 = (sp_X9_slowTo M ((M.2.1 32 (tn a0)) - 10) 5, M) from (by unfold sp_X9_says; exact ((if_pos c1).trans ((if_pos c2).trans ((if_neg c3).trans ((if_pos c4).trans ((if_pos c5).trans (if_neg c6))))))))) (pair_snd (show sp_X9_says M a0 a1 = (sp_X9_slowTo M ((M.2.1 32 (tn a0)) - 10) 5, M) from (by unfold sp_X9_says; exact ((if_pos c1).trans ((if_pos c2).trans ((if_neg c3).trans ((if_pos c4).trans ((if_pos c5).trans (if_neg c6)))))))))
            · refine r_aload_n (pc := 88) hG dX9_says_88 rfl ?_
              refine gf_X9_own (pc := 89)  hG dX9_says_89 tw_1175 ?_
              refine r_iload_n (pc := 92) hG dX9_says_92 rfl ?_
              refine al_Mown (pc := 93)  hG dX9_says_93 (ix_bd (hold_p hhl (isSh5 c1) c3 c4).1) ?_
              refine r_goto (pc := 94) (tgt := 103) hG dX9_says_94 (by decide) ?_
              exact hret _ _ _ _ dX9_says_103 (pair_fst (show sp_X9_says M a0 a1 = (M.1 5 10 (tn ((M.2.1 32 (tn a0)) - 10)), M) from (by unfold sp_X9_says; exact ((if_pos c1).trans ((if_pos c2).trans ((if_neg c3).trans ((if_pos c4).trans ((if_pos c5).trans (if_pos c6))))))))) (pair_snd (show sp_X9_says M a0 a1 = (M.1 5 10 (tn ((M.2.1 32 (tn a0)) - 10)), M) from (by unfold sp_X9_says; exact ((if_pos c1).trans ((if_pos c2).trans ((if_neg c3).trans ((if_pos c4).trans ((if_pos c5).trans (if_pos c6)))))))))
          · refine r_aload_n (pc := 77) hG dX9_says_77 rfl ?_
            refine r_bipush (pc := 78) hG dX9_says_78 bc_m3 ?_
            refine cv_X9_no (pc := 80)  hG dX9_says_80 tw_1273 (c_X9_no (bd_lit (n := 7) (by decide))) (by decide) (Nat.le_of_ble_eq_true rfl) ?_
            exact hret _ _ _ _ dX9_says_83 (pair_fst (show sp_X9_says M a0 a1 = ((sp_X9_no M (-3)).1, (sp_X9_no M (-3)).2) from (by unfold sp_X9_says; exact ((if_pos c1).trans ((if_pos c2).trans ((if_neg c3).trans ((if_pos c4).trans (if_neg c5)))))))) (pair_snd (show sp_X9_says M a0 a1 = ((sp_X9_no M (-3)).1, (sp_X9_no M (-3)).2) from (by unfold sp_X9_says; exact ((if_pos c1).trans ((if_pos c2).trans ((if_neg c3).trans ((if_pos c4).trans (if_neg c5))))))))
        · refine r_aload_n (pc := 47) hG dX9_says_47 rfl ?_
          refine r_bipush (pc := 48) hG dX9_says_48 bc_m4 ?_
          refine cv_X9_no (pc := 50)  hG dX9_says_50 tw_1273 (c_X9_no (bd_lit (n := 7) (by decide))) (by decide) (Nat.le_of_ble_eq_true rfl) ?_
          exact hret _ _ _ _ dX9_says_53 (pair_fst (show sp_X9_says M a0 a1 = ((sp_X9_no M (-4)).1, (sp_X9_no M (-4)).2) from (by unfold sp_X9_says; exact ((if_pos c1).trans ((if_pos c2).trans ((if_neg c3).trans (if_neg c4))))))) (pair_snd (show sp_X9_says M a0 a1 = ((sp_X9_no M (-4)).1, (sp_X9_no M (-4)).2) from (by unfold sp_X9_says; exact ((if_pos c1).trans ((if_pos c2).trans ((if_neg c3).trans (if_neg c4)))))))
      · refine r_aload_n (pc := 31) hG dX9_says_31 rfl ?_
        refine r_bipush (pc := 32) hG dX9_says_32 bc_m3 ?_
        refine cv_X9_no (pc := 34)  hG dX9_says_34 tw_1273 (c_X9_no (bd_lit (n := 7) (by decide))) (by decide) (Nat.le_of_ble_eq_true rfl) ?_
        exact hret _ _ _ _ dX9_says_37 (pair_fst (show sp_X9_says M a0 a1 = ((sp_X9_no M (-3)).1, (sp_X9_no M (-3)).2) from (by unfold sp_X9_says; exact ((if_pos c1).trans ((if_pos c2).trans (if_pos c3)))))) (pair_snd (show sp_X9_says M a0 a1 = ((sp_X9_no M (-3)).1, (sp_X9_no M (-3)).2) from (by unfold sp_X9_says; exact ((if_pos c1).trans ((if_pos c2).trans (if_pos c3))))))
    · refine r_aload_n (pc := 16) hG dX9_says_16 rfl ?_
      refine r_bipush (pc := 17) hG dX9_says_17 bc_m2 ?_
      refine cv_X9_no (pc := 19)  hG dX9_says_19 tw_1273 (c_X9_no (bd_lit (n := 7) (by decide))) (by decide) (Nat.le_of_ble_eq_true rfl) ?_
      exact hret _ _ _ _ dX9_says_22 (pair_fst (show sp_X9_says M a0 a1 = ((sp_X9_no M (-2)).1, (sp_X9_no M (-2)).2) from (by unfold sp_X9_says; exact ((if_pos c1).trans (if_neg c2))))) (pair_snd (show sp_X9_says M a0 a1 = ((sp_X9_no M (-2)).1, (sp_X9_no M (-2)).2) from (by unfold sp_X9_says; exact ((if_pos c1).trans (if_neg c2)))))

def sp_X9_holds (M : MT) (a0 : Int32) : Int32 × MT :=
  if (sp_X9_isShelf a0) = true then
    (M.2.1 32 (tn a0), M)
  else
    ((-1), M)
set_option maxRecDepth 20000 in
theorem c_X9_holds {K : KT} {M : MT} {a0 : Int32}  (hokr : OKR M) : CM K 3 yX9_holds cX9_holds 2 (some FieldType.int) [rf K 140, .int a0] M (some (.int (sp_X9_holds M a0).1)) (sp_X9_holds M a0).2 := by
  refine CM.ofI (by decide) [some (rf K 140), some (.int a0)] rfl (Nat.le_of_ble_eq_true rfl) (Nat.le_of_ble_eq_true rfl) (fun G hG _ hret => ?_)
  obtain ⟨hok5, hhl, htp5⟩ := id hokr
  obtain ⟨hwc5, hpc5, ⟨hcl5, hcm5⟩, hwi5, hda5, hle5, hk85, ha85, hW5, hP5⟩ := id hok5
  have hwl5 := bd_lt hwc5
  have hpl5 := bd_lt hpc5
  have hcl5l := bd_lt hcl5
  refine r_iload_n (pc := 0) hG dX9_holds_0 rfl ?_
  refine cs_X9_isShelf (pc := 1)  hG dX9_holds_1 tw_1267 (c_X9_isShelf) (by decide) (Nat.le_of_ble_eq_true rfl) ?_
  refine r_ifz_eq (pc := 4) (tgt := 16) hG dX9_holds_4 (by decide) (fun c1 => ?_) (fun c1 => ?_)
  · refine r_iconst (pc := 16) hG dX9_holds_16 ic_m1 ?_
    exact hret _ _ _ _ dX9_holds_17 (pair_fst (show sp_X9_holds M a0 = ((-1), M) from (by unfold sp_X9_holds; exact (if_neg c1)))) (pair_snd (show sp_X9_holds M a0 = ((-1), M) from (by unfold sp_X9_holds; exact (if_neg c1))))
  · refine r_aload_n (pc := 7) hG dX9_holds_7 rfl ?_
    refine gf_X9_holding (pc := 8)  hG dX9_holds_8 tw_1186 ?_
    refine r_iload_n (pc := 11) hG dX9_holds_11 rfl ?_
    refine al_Mholding (pc := 12)  hG dX9_holds_12 (ix_bd (isSh5 c1)) ?_
    refine r_goto (pc := 13) (tgt := 17) hG dX9_holds_13 (by decide) ?_
    exact hret _ _ _ _ dX9_holds_17 (pair_fst (show sp_X9_holds M a0 = (M.2.1 32 (tn a0), M) from (by unfold sp_X9_holds; exact (if_pos c1)))) (pair_snd (show sp_X9_holds M a0 = (M.2.1 32 (tn a0), M) from (by unfold sp_X9_holds; exact (if_pos c1))))

def sp_X9_show (M : MT) (a0 : Int32) (a1 : Int32) : Int32 × MT :=
  if (sp_X9_isShelf a0) = true then
    if a1 = (-1) then
      (1, u2 M 32 (tn a0) (-1))
    else
      if (sp_X9_isOne M a1) = true then
        (1, u2 M 32 (tn a0) (10 + a1))
      else
        ((sp_X9_no M (-2)).1, (sp_X9_no M (-2)).2)
  else
    ((sp_X9_no M (-2)).1, (sp_X9_no M (-2)).2)
set_option maxRecDepth 20000 in
theorem c_X9_show {K : KT} {M : MT} {a0 : Int32} {a1 : Int32}  (hokr : OKR M) : CM K 3 yX9_show cX9_show 3 (some FieldType.int) [rf K 140, .int a0, .int a1] M (some (.int (sp_X9_show M a0 a1).1)) (sp_X9_show M a0 a1).2 := by
  refine CM.ofI (by decide) [some (rf K 140), some (.int a0), some (.int a1)] rfl (Nat.le_of_ble_eq_true rfl) (Nat.le_of_ble_eq_true rfl) (fun G hG _ hret => ?_)
  obtain ⟨hok5, hhl, htp5⟩ := id hokr
  obtain ⟨hwc5, hpc5, ⟨hcl5, hcm5⟩, hwi5, hda5, hle5, hk85, ha85, hW5, hP5⟩ := id hok5
  have hwl5 := bd_lt hwc5
  have hpl5 := bd_lt hpc5
  have hcl5l := bd_lt hcl5
  refine r_iload_n (pc := 0) hG dX9_show_0 rfl ?_
  refine cs_X9_isShelf (pc := 1)  hG dX9_show_1 tw_1267 (c_X9_isShelf) (by decide) (Nat.le_of_ble_eq_true rfl) ?_
  refine r_ifz_eq (pc := 4) (tgt := 20) hG dX9_show_4 (by decide) (fun c1 => ?_) (fun c1 => ?_)
  · refine r_aload_n (pc := 20) hG dX9_show_20 rfl ?_
    refine r_bipush (pc := 21) hG dX9_show_21 bc_m2 ?_
    refine cv_X9_no (pc := 23)  hG dX9_show_23 tw_1273 (c_X9_no (bd_lit (n := 7) (by decide))) (by decide) (Nat.le_of_ble_eq_true rfl) ?_
    exact hret _ _ _ _ dX9_show_26 (pair_fst (show sp_X9_show M a0 a1 = ((sp_X9_no M (-2)).1, (sp_X9_no M (-2)).2) from (by unfold sp_X9_show; exact (if_neg c1)))) (pair_snd (show sp_X9_show M a0 a1 = ((sp_X9_no M (-2)).1, (sp_X9_no M (-2)).2) from (by unfold sp_X9_show; exact (if_neg c1))))
  · refine r_iload_n (pc := 7) hG dX9_show_7 rfl ?_
    refine r_iconst (pc := 8) hG dX9_show_8 ic_m1 ?_
    refine r_icmp_eq (pc := 9) (tgt := 27) hG dX9_show_9 (by decide) (fun c2 => ?_) (fun c2 => ?_)
    · refine r_aload_n (pc := 27) hG dX9_show_27 rfl ?_
      refine gf_X9_holding (pc := 28)  hG dX9_show_28 tw_1186 ?_
      refine r_iload_n (pc := 31) hG dX9_show_31 rfl ?_
      refine r_iload_n (pc := 32) hG dX9_show_32 rfl ?_
      refine r_iconst (pc := 33) hG dX9_show_33 ic_m1 ?_
      refine r_icmp_ne (pc := 34) (tgt := 41) hG dX9_show_34 (by decide) (fun c3 => ?_) (fun c3 => ?_)
      · exact absurd c2 c3
      · refine r_iconst (pc := 37) hG dX9_show_37 ic_m1 ?_
        refine r_goto (pc := 38) (tgt := 45) hG dX9_show_38 (by decide) ?_
        refine as_Mholding (pc := 45)  hG dX9_show_45 (ix_bd (isSh5 c1)) ?_
        refine r_iconst (pc := 46) hG dX9_show_46 ic_1 ?_
        exact hret _ _ _ _ dX9_show_47 (pair_fst (show sp_X9_show M a0 a1 = (1, u2 M 32 (tn a0) (-1)) from (by unfold sp_X9_show; exact ((if_pos c1).trans (if_pos c2))))) (pair_snd (show sp_X9_show M a0 a1 = (1, u2 M 32 (tn a0) (-1)) from (by unfold sp_X9_show; exact ((if_pos c1).trans (if_pos c2)))))
    · refine r_aload_n (pc := 12) hG dX9_show_12 rfl ?_
      refine r_iload_n (pc := 13) hG dX9_show_13 rfl ?_
      refine cv_X9_isOne (pc := 14)  hG dX9_show_14 tw_1308 (c_X9_isOne) (by decide) (Nat.le_of_ble_eq_true rfl) ?_
      refine r_ifz_ne (pc := 17) (tgt := 27) hG dX9_show_17 (by decide) (fun c4 => ?_) (fun c4 => ?_)
      · refine r_aload_n (pc := 27) hG dX9_show_27 rfl ?_
        refine gf_X9_holding (pc := 28)  hG dX9_show_28 tw_1186 ?_
        refine r_iload_n (pc := 31) hG dX9_show_31 rfl ?_
        refine r_iload_n (pc := 32) hG dX9_show_32 rfl ?_
        refine r_iconst (pc := 33) hG dX9_show_33 ic_m1 ?_
        refine r_icmp_ne (pc := 34) (tgt := 41) hG dX9_show_34 (by decide) (fun c5 => ?_) (fun c5 => ?_)
        · refine r_bipush (pc := 41) hG dX9_show_41 bc_10 ?_
          refine r_iload_n (pc := 43) hG dX9_show_43 rfl ?_
          refine r_iadd (pc := 44) hG dX9_show_44 ?_
          refine as_Mholding (pc := 45)  hG dX9_show_45 (ix_bd (isSh5 c1)) ?_
          refine r_iconst (pc := 46) hG dX9_show_46 ic_1 ?_
          exact hret _ _ _ _ dX9_show_47 (pair_fst (show sp_X9_show M a0 a1 = (1, u2 M 32 (tn a0) (10 + a1)) from (by unfold sp_X9_show; exact ((if_pos c1).trans ((if_neg c2).trans (if_pos c4)))))) (pair_snd (show sp_X9_show M a0 a1 = (1, u2 M 32 (tn a0) (10 + a1)) from (by unfold sp_X9_show; exact ((if_pos c1).trans ((if_neg c2).trans (if_pos c4))))))
        · exact absurd c5 c2
      · refine r_aload_n (pc := 20) hG dX9_show_20 rfl ?_
        refine r_bipush (pc := 21) hG dX9_show_21 bc_m2 ?_
        refine cv_X9_no (pc := 23)  hG dX9_show_23 tw_1273 (c_X9_no (bd_lit (n := 7) (by decide))) (by decide) (Nat.le_of_ble_eq_true rfl) ?_
        exact hret _ _ _ _ dX9_show_26 (pair_fst (show sp_X9_show M a0 a1 = ((sp_X9_no M (-2)).1, (sp_X9_no M (-2)).2) from (by unfold sp_X9_show; exact ((if_pos c1).trans ((if_neg c2).trans (if_neg c4)))))) (pair_snd (show sp_X9_show M a0 a1 = ((sp_X9_no M (-2)).1, (sp_X9_no M (-2)).2) from (by unfold sp_X9_show; exact ((if_pos c1).trans ((if_neg c2).trans (if_neg c4))))))

def sp_X9_paves (M : MT) (a0 : Int32) : Int32 × MT :=
  if (sp_X9_within a0 (M.1 5 2 0) 30) = true then
    (M.1 5 2 0, u1 M 5 2 0 a0)
  else
    ((sp_X9_no M (-2)).1, (sp_X9_no M (-2)).2)
set_option maxRecDepth 20000 in
theorem c_X9_paves {K : KT} {M : MT} {a0 : Int32}  (hokr : OKR M) : CM K 2 yX9_paves cX9_paves 3 (some FieldType.int) [rf K 140, .int a0] M (some (.int (sp_X9_paves M a0).1)) (sp_X9_paves M a0).2 := by
  refine CM.ofI (by decide) [some (rf K 140), some (.int a0), none] rfl (Nat.le_of_ble_eq_true rfl) (Nat.le_of_ble_eq_true rfl) (fun G hG _ hret => ?_)
  obtain ⟨hok5, hhl, htp5⟩ := id hokr
  obtain ⟨hwc5, hpc5, ⟨hcl5, hcm5⟩, hwi5, hda5, hle5, hk85, ha85, hW5, hP5⟩ := id hok5
  have hwl5 := bd_lt hwc5
  have hpl5 := bd_lt hpc5
  have hcl5l := bd_lt hcl5
  refine r_iload_n (pc := 0) hG dX9_paves_0 rfl ?_
  refine r_aload_n (pc := 1) hG dX9_paves_1 rfl ?_
  refine gf_X9_n (pc := 2)  hG dX9_paves_2 tw_1166 ?_
  refine r_bipush (pc := 5) hG dX9_paves_5 bc_30 ?_
  refine cs_X9_within (pc := 7)  hG dX9_paves_7 tw_1270 (c_X9_within) (by decide) (Nat.le_of_ble_eq_true rfl) ?_
  refine r_ifz_ne (pc := 10) (tgt := 20) hG dX9_paves_10 (by decide) (fun c1 => ?_) (fun c1 => ?_)
  · refine r_aload_n (pc := 20) hG dX9_paves_20 rfl ?_
    refine gf_X9_n (pc := 21)  hG dX9_paves_21 tw_1166 ?_
    refine r_istore_n (pc := 24) (ls' := [_, _, _]) hG dX9_paves_24 rfl rfl ?_
    refine r_aload_n (pc := 25) hG dX9_paves_25 rfl ?_
    refine r_iload_n (pc := 26) hG dX9_paves_26 rfl ?_
    refine pf_X9_n (pc := 27)  hG dX9_paves_27 tw_1166 ?_
    refine r_iload_n (pc := 30) hG dX9_paves_30 rfl ?_
    exact hret _ _ _ _ dX9_paves_31 (pair_fst (show sp_X9_paves M a0 = (M.1 5 2 0, u1 M 5 2 0 a0) from (by unfold sp_X9_paves; exact (if_pos c1)))) (pair_snd (show sp_X9_paves M a0 = (M.1 5 2 0, u1 M 5 2 0 a0) from (by unfold sp_X9_paves; exact (if_pos c1))))
  · refine r_aload_n (pc := 13) hG dX9_paves_13 rfl ?_
    refine r_bipush (pc := 14) hG dX9_paves_14 bc_m2 ?_
    refine cv_X9_no (pc := 16)  hG dX9_paves_16 tw_1273 (c_X9_no (bd_lit (n := 7) (by decide))) (by decide) (Nat.le_of_ble_eq_true rfl) ?_
    exact hret _ _ _ _ dX9_paves_19 (pair_fst (show sp_X9_paves M a0 = ((sp_X9_no M (-2)).1, (sp_X9_no M (-2)).2) from (by unfold sp_X9_paves; exact (if_neg c1)))) (pair_snd (show sp_X9_paves M a0 = ((sp_X9_no M (-2)).1, (sp_X9_no M (-2)).2) from (by unfold sp_X9_paves; exact (if_neg c1))))

def sp_X9_window (M : MT) (a0 : Int32) (a1 : Int32) (a2 : Int32) : Int32 × MT :=
  if (sp_X9_isCell M a0) = true then
    if (sp_X9_within a1 1 5) = true then
      if (sp_X9_within a2 0 9) = true then
        if (M.1 5 0 0) = 8 then
          ((sp_X9_no M (-6)).1, (sp_X9_no M (-6)).2)
        else
          ((sp_X9_newWindow M a0 a1 a2).1, (sp_X9_newWindow M a0 a1 a2).2)
      else
        ((sp_X9_no M (-2)).1, (sp_X9_no M (-2)).2)
    else
      ((sp_X9_no M (-2)).1, (sp_X9_no M (-2)).2)
  else
    ((sp_X9_no M (-2)).1, (sp_X9_no M (-2)).2)
set_option maxRecDepth 20000 in
theorem c_X9_window {K : KT} {M : MT} {a0 : Int32} {a1 : Int32} {a2 : Int32}  (hokr : OKR M) : CM K 3 yX9_window cX9_window 4 (some FieldType.int) [rf K 140, .int a0, .int a1, .int a2] M (some (.int (sp_X9_window M a0 a1 a2).1)) (sp_X9_window M a0 a1 a2).2 := by
  refine CM.ofI (by decide) [some (rf K 140), some (.int a0), some (.int a1), some (.int a2)] rfl (Nat.le_of_ble_eq_true rfl) (Nat.le_of_ble_eq_true rfl) (fun G hG _ hret => ?_)
  obtain ⟨hok5, hhl, htp5⟩ := id hokr
  obtain ⟨hwc5, hpc5, ⟨hcl5, hcm5⟩, hwi5, hda5, hle5, hk85, ha85, hW5, hP5⟩ := id hok5
  have hwl5 := bd_lt hwc5
  have hpl5 := bd_lt hpc5
  have hcl5l := bd_lt hcl5
  refine r_aload_n (pc := 0) hG dX9_window_0 rfl ?_
  refine r_iload_n (pc := 1) hG dX9_window_1 rfl ?_
  refine cv_X9_isCell (pc := 2)  hG dX9_window_2 tw_1331 (c_X9_isCell) (by decide) (Nat.le_of_ble_eq_true rfl) ?_
  refine r_ifz_eq (pc := 5) (tgt := 27) hG dX9_window_5 (by decide) (fun c1 => ?_) (fun c1 => ?_)
  · refine r_aload_n (pc := 27) hG dX9_window_27 rfl ?_
    refine r_bipush (pc := 28) hG dX9_window_28 bc_m2 ?_
    refine cv_X9_no (pc := 30)  hG dX9_window_30 tw_1273 (c_X9_no (bd_lit (n := 7) (by decide))) (by decide) (Nat.le_of_ble_eq_true rfl) ?_
    exact hret _ _ _ _ dX9_window_33 (pair_fst (show sp_X9_window M a0 a1 a2 = ((sp_X9_no M (-2)).1, (sp_X9_no M (-2)).2) from (by unfold sp_X9_window; exact (if_neg c1)))) (pair_snd (show sp_X9_window M a0 a1 a2 = ((sp_X9_no M (-2)).1, (sp_X9_no M (-2)).2) from (by unfold sp_X9_window; exact (if_neg c1))))
  · refine r_iload_n (pc := 8) hG dX9_window_8 rfl ?_
    refine r_iconst (pc := 9) hG dX9_window_9 ic_1 ?_
    refine r_iconst (pc := 10) hG dX9_window_10 ic_5 ?_
    refine cs_X9_within (pc := 11)  hG dX9_window_11 tw_1270 (c_X9_within) (by decide) (Nat.le_of_ble_eq_true rfl) ?_
    refine r_ifz_eq (pc := 14) (tgt := 27) hG dX9_window_14 (by decide) (fun c2 => ?_) (fun c2 => ?_)
    · refine r_aload_n (pc := 27) hG dX9_window_27 rfl ?_
      refine r_bipush (pc := 28) hG dX9_window_28 bc_m2 ?_
      refine cv_X9_no (pc := 30)  hG dX9_window_30 tw_1273 (c_X9_no (bd_lit (n := 7) (by decide))) (by decide) (Nat.le_of_ble_eq_true rfl) ?_
      exact hret _ _ _ _ dX9_window_33 (pair_fst (show sp_X9_window M a0 a1 a2 = ((sp_X9_no M (-2)).1, (sp_X9_no M (-2)).2) from (by unfold sp_X9_window; exact ((if_pos c1).trans (if_neg c2))))) (pair_snd (show sp_X9_window M a0 a1 a2 = ((sp_X9_no M (-2)).1, (sp_X9_no M (-2)).2) from (by unfold sp_X9_window; exact ((if_pos c1).trans (if_neg c2)))))
    · refine r_iload_n (pc := 17) hG dX9_window_17 rfl ?_
      refine r_iconst (pc := 18) hG dX9_window_18 ic_0 ?_
      refine r_bipush (pc := 19) hG dX9_window_19 bc_9 ?_
      refine cs_X9_within (pc := 21)  hG dX9_window_21 tw_1270 (c_X9_within) (by decide) (Nat.le_of_ble_eq_true rfl) ?_
      refine r_ifz_ne (pc := 24) (tgt := 34) hG dX9_window_24 (by decide) (fun c3 => ?_) (fun c3 => ?_)
      · refine r_aload_n (pc := 34) hG dX9_window_34 rfl ?_
        refine gf_X9_windows (pc := 35)  hG dX9_window_35 tw_1169 ?_
        refine r_bipush (pc := 38) hG dX9_window_38 bc_8 ?_
        refine r_icmp_ne (pc := 40) (tgt := 52) hG dX9_window_40 (by decide) (fun c4 => ?_) (fun c4 => ?_)
        · refine r_aload_n (pc := 52) hG dX9_window_52 rfl ?_
          refine r_iload_n (pc := 53) hG dX9_window_53 rfl ?_
          refine r_iload_n (pc := 54) hG dX9_window_54 rfl ?_
          refine r_iload_n (pc := 55) hG dX9_window_55 rfl ?_
          refine cv_X9_newWindow (pc := 56)  hG dX9_window_56 tw_1335 (c_X9_newWindow (ne8 hwc5 c4)) (by decide) (Nat.le_of_ble_eq_true rfl) ?_
          exact hret _ _ _ _ dX9_window_59 (pair_fst (show sp_X9_window M a0 a1 a2 = ((sp_X9_newWindow M a0 a1 a2).1, (sp_X9_newWindow M a0 a1 a2).2) from (by unfold sp_X9_window; exact ((if_pos c1).trans ((if_pos c2).trans ((if_pos c3).trans (if_neg c4))))))) (pair_snd (show sp_X9_window M a0 a1 a2 = ((sp_X9_newWindow M a0 a1 a2).1, (sp_X9_newWindow M a0 a1 a2).2) from (by unfold sp_X9_window; exact ((if_pos c1).trans ((if_pos c2).trans ((if_pos c3).trans (if_neg c4)))))))
        · refine r_aload_n (pc := 43) hG dX9_window_43 rfl ?_
          refine r_bipush (pc := 44) hG dX9_window_44 bc_m6 ?_
          refine cv_X9_no (pc := 46)  hG dX9_window_46 tw_1273 (c_X9_no (bd_lit (n := 7) (by decide))) (by decide) (Nat.le_of_ble_eq_true rfl) ?_
          refine r_goto (pc := 49) (tgt := 59) hG dX9_window_49 (by decide) ?_
          exact hret _ _ _ _ dX9_window_59 (pair_fst (show sp_X9_window M a0 a1 a2 = ((sp_X9_no M (-6)).1, (sp_X9_no M (-6)).2) from (by unfold sp_X9_window; exact ((if_pos c1).trans ((if_pos c2).trans ((if_pos c3).trans (if_pos c4))))))) (pair_snd (show sp_X9_window M a0 a1 a2 = ((sp_X9_no M (-6)).1, (sp_X9_no M (-6)).2) from (by unfold sp_X9_window; exact ((if_pos c1).trans ((if_pos c2).trans ((if_pos c3).trans (if_pos c4)))))))
      · refine r_aload_n (pc := 27) hG dX9_window_27 rfl ?_
        refine r_bipush (pc := 28) hG dX9_window_28 bc_m2 ?_
        refine cv_X9_no (pc := 30)  hG dX9_window_30 tw_1273 (c_X9_no (bd_lit (n := 7) (by decide))) (by decide) (Nat.le_of_ble_eq_true rfl) ?_
        exact hret _ _ _ _ dX9_window_33 (pair_fst (show sp_X9_window M a0 a1 a2 = ((sp_X9_no M (-2)).1, (sp_X9_no M (-2)).2) from (by unfold sp_X9_window; exact ((if_pos c1).trans ((if_pos c2).trans (if_neg c3)))))) (pair_snd (show sp_X9_window M a0 a1 a2 = ((sp_X9_no M (-2)).1, (sp_X9_no M (-2)).2) from (by unfold sp_X9_window; exact ((if_pos c1).trans ((if_pos c2).trans (if_neg c3))))))

def sp_X9_person (M : MT) (a0 : Int32) (a1 : Int32) (a2 : Int32) : Int32 × MT :=
  if (sp_X9_within a0 0 5) = true then
    if (sp_X9_within a1 0 9) = true then
      if (sp_X9_isCell M a2) = true then
        if (M.1 5 1 0) = 8 then
          ((sp_X9_no M (-6)).1, (sp_X9_no M (-6)).2)
        else
          ((sp_X9_newOne M a0 a1 a2).1, (sp_X9_newOne M a0 a1 a2).2)
      else
        ((sp_X9_no M (-2)).1, (sp_X9_no M (-2)).2)
    else
      ((sp_X9_no M (-2)).1, (sp_X9_no M (-2)).2)
  else
    ((sp_X9_no M (-2)).1, (sp_X9_no M (-2)).2)
set_option maxRecDepth 20000 in
theorem c_X9_person {K : KT} {M : MT} {a0 : Int32} {a1 : Int32} {a2 : Int32}  (hokr : OKR M) : CM K 3 yX9_person cX9_person 4 (some FieldType.int) [rf K 140, .int a0, .int a1, .int a2] M (some (.int (sp_X9_person M a0 a1 a2).1)) (sp_X9_person M a0 a1 a2).2 := by
  refine CM.ofI (by decide) [some (rf K 140), some (.int a0), some (.int a1), some (.int a2)] rfl (Nat.le_of_ble_eq_true rfl) (Nat.le_of_ble_eq_true rfl) (fun G hG _ hret => ?_)
  obtain ⟨hok5, hhl, htp5⟩ := id hokr
  obtain ⟨hwc5, hpc5, ⟨hcl5, hcm5⟩, hwi5, hda5, hle5, hk85, ha85, hW5, hP5⟩ := id hok5
  have hwl5 := bd_lt hwc5
  have hpl5 := bd_lt hpc5
  have hcl5l := bd_lt hcl5
  refine r_iload_n (pc := 0) hG dX9_person_0 rfl ?_
  refine r_iconst (pc := 1) hG dX9_person_1 ic_0 ?_
  refine r_iconst (pc := 2) hG dX9_person_2 ic_5 ?_
  refine cs_X9_within (pc := 3)  hG dX9_person_3 tw_1270 (c_X9_within) (by decide) (Nat.le_of_ble_eq_true rfl) ?_
  refine r_ifz_eq (pc := 6) (tgt := 27) hG dX9_person_6 (by decide) (fun c1 => ?_) (fun c1 => ?_)
  · refine r_aload_n (pc := 27) hG dX9_person_27 rfl ?_
    refine r_bipush (pc := 28) hG dX9_person_28 bc_m2 ?_
    refine cv_X9_no (pc := 30)  hG dX9_person_30 tw_1273 (c_X9_no (bd_lit (n := 7) (by decide))) (by decide) (Nat.le_of_ble_eq_true rfl) ?_
    exact hret _ _ _ _ dX9_person_33 (pair_fst (show sp_X9_person M a0 a1 a2 = ((sp_X9_no M (-2)).1, (sp_X9_no M (-2)).2) from (by unfold sp_X9_person; exact (if_neg c1)))) (pair_snd (show sp_X9_person M a0 a1 a2 = ((sp_X9_no M (-2)).1, (sp_X9_no M (-2)).2) from (by unfold sp_X9_person; exact (if_neg c1))))
  · refine r_iload_n (pc := 9) hG dX9_person_9 rfl ?_
    refine r_iconst (pc := 10) hG dX9_person_10 ic_0 ?_
    refine r_bipush (pc := 11) hG dX9_person_11 bc_9 ?_
    refine cs_X9_within (pc := 13)  hG dX9_person_13 tw_1270 (c_X9_within) (by decide) (Nat.le_of_ble_eq_true rfl) ?_
    refine r_ifz_eq (pc := 16) (tgt := 27) hG dX9_person_16 (by decide) (fun c2 => ?_) (fun c2 => ?_)
    · refine r_aload_n (pc := 27) hG dX9_person_27 rfl ?_
      refine r_bipush (pc := 28) hG dX9_person_28 bc_m2 ?_
      refine cv_X9_no (pc := 30)  hG dX9_person_30 tw_1273 (c_X9_no (bd_lit (n := 7) (by decide))) (by decide) (Nat.le_of_ble_eq_true rfl) ?_
      exact hret _ _ _ _ dX9_person_33 (pair_fst (show sp_X9_person M a0 a1 a2 = ((sp_X9_no M (-2)).1, (sp_X9_no M (-2)).2) from (by unfold sp_X9_person; exact ((if_pos c1).trans (if_neg c2))))) (pair_snd (show sp_X9_person M a0 a1 a2 = ((sp_X9_no M (-2)).1, (sp_X9_no M (-2)).2) from (by unfold sp_X9_person; exact ((if_pos c1).trans (if_neg c2)))))
    · refine r_aload_n (pc := 19) hG dX9_person_19 rfl ?_
      refine r_iload_n (pc := 20) hG dX9_person_20 rfl ?_
      refine cv_X9_isCell (pc := 21)  hG dX9_person_21 tw_1331 (c_X9_isCell) (by decide) (Nat.le_of_ble_eq_true rfl) ?_
      refine r_ifz_ne (pc := 24) (tgt := 34) hG dX9_person_24 (by decide) (fun c3 => ?_) (fun c3 => ?_)
      · refine r_aload_n (pc := 34) hG dX9_person_34 rfl ?_
        refine gf_X9_people (pc := 35)  hG dX9_person_35 tw_1173 ?_
        refine r_bipush (pc := 38) hG dX9_person_38 bc_8 ?_
        refine r_icmp_ne (pc := 40) (tgt := 52) hG dX9_person_40 (by decide) (fun c4 => ?_) (fun c4 => ?_)
        · refine r_aload_n (pc := 52) hG dX9_person_52 rfl ?_
          refine r_iload_n (pc := 53) hG dX9_person_53 rfl ?_
          refine r_iload_n (pc := 54) hG dX9_person_54 rfl ?_
          refine r_iload_n (pc := 55) hG dX9_person_55 rfl ?_
          refine cv_X9_newOne (pc := 56)  hG dX9_person_56 tw_1343 (c_X9_newOne (ne8 hpc5 c4)) (by decide) (Nat.le_of_ble_eq_true rfl) ?_
          exact hret _ _ _ _ dX9_person_59 (pair_fst (show sp_X9_person M a0 a1 a2 = ((sp_X9_newOne M a0 a1 a2).1, (sp_X9_newOne M a0 a1 a2).2) from (by unfold sp_X9_person; exact ((if_pos c1).trans ((if_pos c2).trans ((if_pos c3).trans (if_neg c4))))))) (pair_snd (show sp_X9_person M a0 a1 a2 = ((sp_X9_newOne M a0 a1 a2).1, (sp_X9_newOne M a0 a1 a2).2) from (by unfold sp_X9_person; exact ((if_pos c1).trans ((if_pos c2).trans ((if_pos c3).trans (if_neg c4)))))))
        · refine r_aload_n (pc := 43) hG dX9_person_43 rfl ?_
          refine r_bipush (pc := 44) hG dX9_person_44 bc_m6 ?_
          refine cv_X9_no (pc := 46)  hG dX9_person_46 tw_1273 (c_X9_no (bd_lit (n := 7) (by decide))) (by decide) (Nat.le_of_ble_eq_true rfl) ?_
          refine r_goto (pc := 49) (tgt := 59) hG dX9_person_49 (by decide) ?_
          exact hret _ _ _ _ dX9_person_59 (pair_fst (show sp_X9_person M a0 a1 a2 = ((sp_X9_no M (-6)).1, (sp_X9_no M (-6)).2) from (by unfold sp_X9_person; exact ((if_pos c1).trans ((if_pos c2).trans ((if_pos c3).trans (if_pos c4))))))) (pair_snd (show sp_X9_person M a0 a1 a2 = ((sp_X9_no M (-6)).1, (sp_X9_no M (-6)).2) from (by unfold sp_X9_person; exact ((if_pos c1).trans ((if_pos c2).trans ((if_pos c3).trans (if_pos c4)))))))
      · refine r_aload_n (pc := 27) hG dX9_person_27 rfl ?_
        refine r_bipush (pc := 28) hG dX9_person_28 bc_m2 ?_
        refine cv_X9_no (pc := 30)  hG dX9_person_30 tw_1273 (c_X9_no (bd_lit (n := 7) (by decide))) (by decide) (Nat.le_of_ble_eq_true rfl) ?_
        exact hret _ _ _ _ dX9_person_33 (pair_fst (show sp_X9_person M a0 a1 a2 = ((sp_X9_no M (-2)).1, (sp_X9_no M (-2)).2) from (by unfold sp_X9_person; exact ((if_pos c1).trans ((if_pos c2).trans (if_neg c3)))))) (pair_snd (show sp_X9_person M a0 a1 a2 = ((sp_X9_no M (-2)).1, (sp_X9_no M (-2)).2) from (by unfold sp_X9_person; exact ((if_pos c1).trans ((if_pos c2).trans (if_neg c3))))))

def sp_X9_put (M : MT) (a0 : Int32) (a1 : Int32) : Int32 × MT :=
  if (sp_X9_isOne M a0) = true then
    if (sp_X9_isCell M a1) = true then
      (M.1 5 11 (tn a0), u1 M 5 11 (tn a0) a1)
    else
      ((sp_X9_no M (-2)).1, (sp_X9_no M (-2)).2)
  else
    ((sp_X9_no M (-2)).1, (sp_X9_no M (-2)).2)
set_option maxRecDepth 20000 in
theorem c_X9_put {K : KT} {M : MT} {a0 : Int32} {a1 : Int32}  (hokr : OKR M) : CM K 3 yX9_put cX9_put 4 (some FieldType.int) [rf K 140, .int a0, .int a1] M (some (.int (sp_X9_put M a0 a1).1)) (sp_X9_put M a0 a1).2 := by
  refine CM.ofI (by decide) [some (rf K 140), some (.int a0), some (.int a1), none] rfl (Nat.le_of_ble_eq_true rfl) (Nat.le_of_ble_eq_true rfl) (fun G hG _ hret => ?_)
  obtain ⟨hok5, hhl, htp5⟩ := id hokr
  obtain ⟨hwc5, hpc5, ⟨hcl5, hcm5⟩, hwi5, hda5, hle5, hk85, ha85, hW5, hP5⟩ := id hok5
  have hwl5 := bd_lt hwc5
  have hpl5 := bd_lt hpc5
  have hcl5l := bd_lt hcl5
  refine r_aload_n (pc := 0) hG dX9_put_0 rfl ?_
  refine r_iload_n (pc := 1) hG dX9_put_1 rfl ?_
  refine cv_X9_isOne (pc := 2)  hG dX9_put_2 tw_1308 (c_X9_isOne) (by decide) (Nat.le_of_ble_eq_true rfl) ?_
  refine r_ifz_eq (pc := 5) (tgt := 16) hG dX9_put_5 (by decide) (fun c1 => ?_) (fun c1 => ?_)
  · refine r_aload_n (pc := 16) hG dX9_put_16 rfl ?_
    refine r_bipush (pc := 17) hG dX9_put_17 bc_m2 ?_
    refine cv_X9_no (pc := 19)  hG dX9_put_19 tw_1273 (c_X9_no (bd_lit (n := 7) (by decide))) (by decide) (Nat.le_of_ble_eq_true rfl) ?_
    exact hret _ _ _ _ dX9_put_22 (pair_fst (show sp_X9_put M a0 a1 = ((sp_X9_no M (-2)).1, (sp_X9_no M (-2)).2) from (by unfold sp_X9_put; exact (if_neg c1)))) (pair_snd (show sp_X9_put M a0 a1 = ((sp_X9_no M (-2)).1, (sp_X9_no M (-2)).2) from (by unfold sp_X9_put; exact (if_neg c1))))
  · refine r_aload_n (pc := 8) hG dX9_put_8 rfl ?_
    refine r_iload_n (pc := 9) hG dX9_put_9 rfl ?_
    refine cv_X9_isCell (pc := 10)  hG dX9_put_10 tw_1331 (c_X9_isCell) (by decide) (Nat.le_of_ble_eq_true rfl) ?_
    refine r_ifz_ne (pc := 13) (tgt := 23) hG dX9_put_13 (by decide) (fun c2 => ?_) (fun c2 => ?_)
    · refine r_aload_n (pc := 23) hG dX9_put_23 rfl ?_
      refine gf_X9_place (pc := 24)  hG dX9_put_24 tw_1176 ?_
      refine r_iload_n (pc := 27) hG dX9_put_27 rfl ?_
      refine al_Mplace (pc := 28)  hG dX9_put_28 (ix_bd (hasP5 hpc5 c1)) ?_
      refine r_istore_n (pc := 29) (ls' := [_, _, _, _]) hG dX9_put_29 rfl rfl ?_
      refine r_aload_n (pc := 30) hG dX9_put_30 rfl ?_
      refine gf_X9_place (pc := 31)  hG dX9_put_31 tw_1176 ?_
      refine r_iload_n (pc := 34) hG dX9_put_34 rfl ?_
      refine r_iload_n (pc := 35) hG dX9_put_35 rfl ?_
      refine as_Mplace (pc := 36)  hG dX9_put_36 (ix_bd (hasP5 hpc5 c1)) ?_
      refine r_iload_n (pc := 37) hG dX9_put_37 rfl ?_
      exact hret _ _ _ _ dX9_put_38 (pair_fst (show sp_X9_put M a0 a1 = (M.1 5 11 (tn a0), u1 M 5 11 (tn a0) a1) from (by unfold sp_X9_put; exact ((if_pos c1).trans (if_pos c2))))) (pair_snd (show sp_X9_put M a0 a1 = (M.1 5 11 (tn a0), u1 M 5 11 (tn a0) a1) from (by unfold sp_X9_put; exact ((if_pos c1).trans (if_pos c2)))))
    · refine r_aload_n (pc := 16) hG dX9_put_16 rfl ?_
      refine r_bipush (pc := 17) hG dX9_put_17 bc_m2 ?_
      refine cv_X9_no (pc := 19)  hG dX9_put_19 tw_1273 (c_X9_no (bd_lit (n := 7) (by decide))) (by decide) (Nat.le_of_ble_eq_true rfl) ?_
      exact hret _ _ _ _ dX9_put_22 (pair_fst (show sp_X9_put M a0 a1 = ((sp_X9_no M (-2)).1, (sp_X9_no M (-2)).2) from (by unfold sp_X9_put; exact ((if_pos c1).trans (if_neg c2))))) (pair_snd (show sp_X9_put M a0 a1 = ((sp_X9_no M (-2)).1, (sp_X9_no M (-2)).2) from (by unfold sp_X9_put; exact ((if_pos c1).trans (if_neg c2)))))

def sp_X9_tell (M : MT) (a0 : Int32) (a1 : Int32) : Int32 × MT :=
  if (sp_X9_within a0 0 2) = true then
    if a0 = 0 then
      if (sp_X9_within a1 0 10) = true then
        (M.1 5 3 (tn a0), u1 M 5 3 (tn a0) a1)
      else
        ((sp_X9_no M (-2)).1, (sp_X9_no M (-2)).2)
    else
      if (sp_X9_within a1 0 999) = true then
        (M.1 5 3 (tn a0), u1 M 5 3 (tn a0) a1)
      else
        ((sp_X9_no M (-2)).1, (sp_X9_no M (-2)).2)
  else
    ((sp_X9_no M (-2)).1, (sp_X9_no M (-2)).2)
set_option maxRecDepth 20000 in
theorem c_X9_tell {K : KT} {M : MT} {a0 : Int32} {a1 : Int32}  (hokr : OKR M) : CM K 2 yX9_tell cX9_tell 4 (some FieldType.int) [rf K 140, .int a0, .int a1] M (some (.int (sp_X9_tell M a0 a1).1)) (sp_X9_tell M a0 a1).2 := by
  refine CM.ofI (by decide) [some (rf K 140), some (.int a0), some (.int a1), none] rfl (Nat.le_of_ble_eq_true rfl) (Nat.le_of_ble_eq_true rfl) (fun G hG _ hret => ?_)
  obtain ⟨hok5, hhl, htp5⟩ := id hokr
  obtain ⟨hwc5, hpc5, ⟨hcl5, hcm5⟩, hwi5, hda5, hle5, hk85, ha85, hW5, hP5⟩ := id hok5
  have hwl5 := bd_lt hwc5
  have hpl5 := bd_lt hpc5
  have hcl5l := bd_lt hcl5
  refine r_iload_n (pc := 0) hG dX9_tell_0 rfl ?_
  refine r_iconst (pc := 1) hG dX9_tell_1 ic_0 ?_
  refine r_iconst (pc := 2) hG dX9_tell_2 ic_2 ?_
  refine cs_X9_within (pc := 3)  hG dX9_tell_3 tw_1270 (c_X9_within) (by decide) (Nat.le_of_ble_eq_true rfl) ?_
  refine r_ifz_eq (pc := 6) (tgt := 29) hG dX9_tell_6 (by decide) (fun c1 => ?_) (fun c1 => ?_)
  · refine r_aload_n (pc := 29) hG dX9_tell_29 rfl ?_
    refine r_bipush (pc := 30) hG dX9_tell_30 bc_m2 ?_
    refine cv_X9_no (pc := 32)  hG dX9_tell_32 tw_1273 (c_X9_no (bd_lit (n := 7) (by decide))) (by decide) (Nat.le_of_ble_eq_true rfl) ?_
    exact hret _ _ _ _ dX9_tell_35 (pair_fst (show sp_X9_tell M a0 a1 = ((sp_X9_no M (-2)).1, (sp_X9_no M (-2)).2) from (by unfold sp_X9_tell; exact (if_neg c1)))) (pair_snd (show sp_X9_tell M a0 a1 = ((sp_X9_no M (-2)).1, (sp_X9_no M (-2)).2) from (by unfold sp_X9_tell; exact (if_neg c1))))
  · refine r_iload_n (pc := 9) hG dX9_tell_9 rfl ?_
    refine r_iconst (pc := 10) hG dX9_tell_10 ic_0 ?_
    refine r_iload_n (pc := 11) hG dX9_tell_11 rfl ?_
    refine r_if_ne (pc := 12) (tgt := 20) hG dX9_tell_12 (by decide) (fun c2 => ?_) (fun c2 => ?_)
    · refine r_sipush (pc := 20) hG dX9_tell_20 sc_999 ?_
      refine cs_X9_within (pc := 23)  hG dX9_tell_23 tw_1270 (c_X9_within) (by decide) (Nat.le_of_ble_eq_true rfl) ?_
      refine r_ifz_ne (pc := 26) (tgt := 36) hG dX9_tell_26 (by decide) (fun c3 => ?_) (fun c3 => ?_)
      · refine r_aload_n (pc := 36) hG dX9_tell_36 rfl ?_
        refine gf_X9_ways (pc := 37)  hG dX9_tell_37 tw_1167 ?_
        refine r_iload_n (pc := 40) hG dX9_tell_40 rfl ?_
        refine al_Mways (pc := 41)  hG dX9_tell_41 (ix_bd (wi5_bd (n := 2) c1 rfl (Nat.le_of_ble_eq_true rfl))) ?_
        refine r_istore_n (pc := 42) (ls' := [_, _, _, _]) hG dX9_tell_42 rfl rfl ?_
        refine r_aload_n (pc := 43) hG dX9_tell_43 rfl ?_
        refine gf_X9_ways (pc := 44)  hG dX9_tell_44 tw_1167 ?_
        refine r_iload_n (pc := 47) hG dX9_tell_47 rfl ?_
        refine r_iload_n (pc := 48) hG dX9_tell_48 rfl ?_
        refine as_Mways (pc := 49)  hG dX9_tell_49 (ix_bd (wi5_bd (n := 2) c1 rfl (Nat.le_of_ble_eq_true rfl))) ?_
        refine r_iload_n (pc := 50) hG dX9_tell_50 rfl ?_
        exact hret _ _ _ _ dX9_tell_51 (pair_fst (show sp_X9_tell M a0 a1 = (M.1 5 3 (tn a0), u1 M 5 3 (tn a0) a1) from (by unfold sp_X9_tell; exact ((if_pos c1).trans ((if_neg c2).trans (if_pos c3)))))) (pair_snd (show sp_X9_tell M a0 a1 = (M.1 5 3 (tn a0), u1 M 5 3 (tn a0) a1) from (by unfold sp_X9_tell; exact ((if_pos c1).trans ((if_neg c2).trans (if_pos c3))))))
      · refine r_aload_n (pc := 29) hG dX9_tell_29 rfl ?_
        refine r_bipush (pc := 30) hG dX9_tell_30 bc_m2 ?_
        refine cv_X9_no (pc := 32)  hG dX9_tell_32 tw_1273 (c_X9_no (bd_lit (n := 7) (by decide))) (by decide) (Nat.le_of_ble_eq_true rfl) ?_
        exact hret _ _ _ _ dX9_tell_35 (pair_fst (show sp_X9_tell M a0 a1 = ((sp_X9_no M (-2)).1, (sp_X9_no M (-2)).2) from (by unfold sp_X9_tell; exact ((if_pos c1).trans ((if_neg c2).trans (if_neg c3)))))) (pair_snd (show sp_X9_tell M a0 a1 = ((sp_X9_no M (-2)).1, (sp_X9_no M (-2)).2) from (by unfold sp_X9_tell; exact ((if_pos c1).trans ((if_neg c2).trans (if_neg c3))))))
    · refine r_bipush (pc := 15) hG dX9_tell_15 bc_10 ?_
      refine r_goto (pc := 17) (tgt := 23) hG dX9_tell_17 (by decide) ?_
      refine cs_X9_within (pc := 23)  hG dX9_tell_23 tw_1270 (c_X9_within) (by decide) (Nat.le_of_ble_eq_true rfl) ?_
      refine r_ifz_ne (pc := 26) (tgt := 36) hG dX9_tell_26 (by decide) (fun c4 => ?_) (fun c4 => ?_)
      · refine r_aload_n (pc := 36) hG dX9_tell_36 rfl ?_
        refine gf_X9_ways (pc := 37)  hG dX9_tell_37 tw_1167 ?_
        refine r_iload_n (pc := 40) hG dX9_tell_40 rfl ?_
        refine al_Mways (pc := 41)  hG dX9_tell_41 (ix_bd (wi5_bd (n := 2) c1 rfl (Nat.le_of_ble_eq_true rfl))) ?_
        refine r_istore_n (pc := 42) (ls' := [_, _, _, _]) hG dX9_tell_42 rfl rfl ?_
        refine r_aload_n (pc := 43) hG dX9_tell_43 rfl ?_
        refine gf_X9_ways (pc := 44)  hG dX9_tell_44 tw_1167 ?_
        refine r_iload_n (pc := 47) hG dX9_tell_47 rfl ?_
        refine r_iload_n (pc := 48) hG dX9_tell_48 rfl ?_
        refine as_Mways (pc := 49)  hG dX9_tell_49 (ix_bd (wi5_bd (n := 2) c1 rfl (Nat.le_of_ble_eq_true rfl))) ?_
        refine r_iload_n (pc := 50) hG dX9_tell_50 rfl ?_
        exact hret _ _ _ _ dX9_tell_51 (pair_fst (show sp_X9_tell M a0 a1 = (M.1 5 3 (tn a0), u1 M 5 3 (tn a0) a1) from (by unfold sp_X9_tell; exact ((if_pos c1).trans ((if_pos c2).trans (if_pos c4)))))) (pair_snd (show sp_X9_tell M a0 a1 = (M.1 5 3 (tn a0), u1 M 5 3 (tn a0) a1) from (by unfold sp_X9_tell; exact ((if_pos c1).trans ((if_pos c2).trans (if_pos c4))))))
      · refine r_aload_n (pc := 29) hG dX9_tell_29 rfl ?_
        refine r_bipush (pc := 30) hG dX9_tell_30 bc_m2 ?_
        refine cv_X9_no (pc := 32)  hG dX9_tell_32 tw_1273 (c_X9_no (bd_lit (n := 7) (by decide))) (by decide) (Nat.le_of_ble_eq_true rfl) ?_
        exact hret _ _ _ _ dX9_tell_35 (pair_fst (show sp_X9_tell M a0 a1 = ((sp_X9_no M (-2)).1, (sp_X9_no M (-2)).2) from (by unfold sp_X9_tell; exact ((if_pos c1).trans ((if_pos c2).trans (if_neg c4)))))) (pair_snd (show sp_X9_tell M a0 a1 = ((sp_X9_no M (-2)).1, (sp_X9_no M (-2)).2) from (by unfold sp_X9_tell; exact ((if_pos c1).trans ((if_pos c2).trans (if_neg c4))))))

def sp_X9_feed (M : MT) (a0 : Int32) : Int32 × MT :=
  if (sp_X9_within a0 0 255) = true then
    if (M.2.1 30 0) = 250 then
      ((sp_X9_no M (-6)).1, (sp_X9_no M (-6)).2)
    else
      (((M.2.1 30 0) + 1), u2 (u2 M 30 0 ((M.2.1 30 0) + 1)) 31 (tn (M.2.1 30 0)) a0)
  else
    ((sp_X9_no M (-2)).1, (sp_X9_no M (-2)).2)
set_option maxRecDepth 20000 in
theorem c_X9_feed {K : KT} {M : MT} {a0 : Int32}  (hokr : OKR M) : CM K 2 yX9_feed cX9_feed 2 (some FieldType.int) [rf K 140, .int a0] M (some (.int (sp_X9_feed M a0).1)) (sp_X9_feed M a0).2 := by
  refine CM.ofI (by decide) [some (rf K 140), some (.int a0)] rfl (Nat.le_of_ble_eq_true rfl) (Nat.le_of_ble_eq_true rfl) (fun G hG _ hret => ?_)
  obtain ⟨hok5, hhl, htp5⟩ := id hokr
  obtain ⟨hwc5, hpc5, ⟨hcl5, hcm5⟩, hwi5, hda5, hle5, hk85, ha85, hW5, hP5⟩ := id hok5
  have hwl5 := bd_lt hwc5
  have hpl5 := bd_lt hpc5
  have hcl5l := bd_lt hcl5
  refine r_iload_n (pc := 0) hG dX9_feed_0 rfl ?_
  refine r_iconst (pc := 1) hG dX9_feed_1 ic_0 ?_
  refine r_sipush (pc := 2) hG dX9_feed_2 sc_255 ?_
  refine cs_X9_within (pc := 5)  hG dX9_feed_5 tw_1270 (c_X9_within) (by decide) (Nat.le_of_ble_eq_true rfl) ?_
  refine r_ifz_ne (pc := 8) (tgt := 18) hG dX9_feed_8 (by decide) (fun c1 => ?_) (fun c1 => ?_)
  · refine r_aload_n (pc := 18) hG dX9_feed_18 rfl ?_
    refine gf_X9_taped (pc := 19)  hG dX9_feed_19 tw_1180 ?_
    refine r_sipush (pc := 22) hG dX9_feed_22 sc_250 ?_
    refine r_icmp_ne (pc := 25) (tgt := 35) hG dX9_feed_25 (by decide) (fun c2 => ?_) (fun c2 => ?_)
    · refine r_aload_n (pc := 35) hG dX9_feed_35 rfl ?_
      refine gf_X9_tape (pc := 36)  hG dX9_feed_36 tw_1181 ?_
      refine r_aload_n (pc := 39) hG dX9_feed_39 rfl ?_
      refine r_dup (pc := 40) hG dX9_feed_40 rfl ?_
      refine gf_X9_taped (pc := 41)  hG dX9_feed_41 tw_1180 ?_
      refine r_dup_x1 (pc := 44) hG dX9_feed_44 rfl rfl ?_
      refine r_iconst (pc := 45) hG dX9_feed_45 ic_1 ?_
      refine r_iadd (pc := 46) hG dX9_feed_46 ?_
      refine pf_X9_taped (pc := 47)  hG dX9_feed_47 tw_1180 ?_
      refine r_iload_n (pc := 50) hG dX9_feed_50 rfl ?_
      refine as_Mtape (pc := 51)  hG dX9_feed_51 (ix_bd (ne250 htp5 c2)) ?_
      refine r_aload_n (pc := 52) hG dX9_feed_52 rfl ?_
      refine gf_X9_taped (pc := 53)  hG dX9_feed_53 tw_1180 ?_
      exact hret _ _ _ _ dX9_feed_56 (pair_fst (show sp_X9_feed M a0 = (((M.2.1 30 0) + 1), u2 (u2 M 30 0 ((M.2.1 30 0) + 1)) 31 (tn (M.2.1 30 0)) a0) from (by unfold sp_X9_feed; exact ((if_pos c1).trans (if_neg c2))))) (pair_snd (show sp_X9_feed M a0 = (((M.2.1 30 0) + 1), u2 (u2 M 30 0 ((M.2.1 30 0) + 1)) 31 (tn (M.2.1 30 0)) a0) from (by unfold sp_X9_feed; exact ((if_pos c1).trans (if_neg c2)))))
    · refine r_aload_n (pc := 28) hG dX9_feed_28 rfl ?_
      refine r_bipush (pc := 29) hG dX9_feed_29 bc_m6 ?_
      refine cv_X9_no (pc := 31)  hG dX9_feed_31 tw_1273 (c_X9_no (bd_lit (n := 7) (by decide))) (by decide) (Nat.le_of_ble_eq_true rfl) ?_
      exact hret _ _ _ _ dX9_feed_34 (pair_fst (show sp_X9_feed M a0 = ((sp_X9_no M (-6)).1, (sp_X9_no M (-6)).2) from (by unfold sp_X9_feed; exact ((if_pos c1).trans (if_pos c2))))) (pair_snd (show sp_X9_feed M a0 = ((sp_X9_no M (-6)).1, (sp_X9_no M (-6)).2) from (by unfold sp_X9_feed; exact ((if_pos c1).trans (if_pos c2)))))
  · refine r_aload_n (pc := 11) hG dX9_feed_11 rfl ?_
    refine r_bipush (pc := 12) hG dX9_feed_12 bc_m2 ?_
    refine cv_X9_no (pc := 14)  hG dX9_feed_14 tw_1273 (c_X9_no (bd_lit (n := 7) (by decide))) (by decide) (Nat.le_of_ble_eq_true rfl) ?_
    exact hret _ _ _ _ dX9_feed_17 (pair_fst (show sp_X9_feed M a0 = ((sp_X9_no M (-2)).1, (sp_X9_no M (-2)).2) from (by unfold sp_X9_feed; exact (if_neg c1)))) (pair_snd (show sp_X9_feed M a0 = ((sp_X9_no M (-2)).1, (sp_X9_no M (-2)).2) from (by unfold sp_X9_feed; exact (if_neg c1))))

def sp_X9_wipe (M : MT) : Int32 × MT :=
  (M.2.1 30 0, u2 M 30 0 0)
set_option maxRecDepth 20000 in
theorem c_X9_wipe {K : KT} {M : MT}   (hokr : OKR M) : CM K 1 yX9_wipe cX9_wipe 2 (some FieldType.int) [rf K 140] M (some (.int (sp_X9_wipe M).1)) (sp_X9_wipe M).2 := by
  refine CM.ofI (by decide) [some (rf K 140), none] rfl (Nat.le_of_ble_eq_true rfl) (Nat.le_of_ble_eq_true rfl) (fun G hG _ hret => ?_)
  obtain ⟨hok5, hhl, htp5⟩ := id hokr
  obtain ⟨hwc5, hpc5, ⟨hcl5, hcm5⟩, hwi5, hda5, hle5, hk85, ha85, hW5, hP5⟩ := id hok5
  have hwl5 := bd_lt hwc5
  have hpl5 := bd_lt hpc5
  have hcl5l := bd_lt hcl5
  refine r_aload_n (pc := 0) hG dX9_wipe_0 rfl ?_
  refine gf_X9_taped (pc := 1)  hG dX9_wipe_1 tw_1180 ?_
  refine r_istore_n (pc := 4) (ls' := [_, _]) hG dX9_wipe_4 rfl rfl ?_
  refine r_aload_n (pc := 5) hG dX9_wipe_5 rfl ?_
  refine r_iconst (pc := 6) hG dX9_wipe_6 ic_0 ?_
  refine pf_X9_taped (pc := 7)  hG dX9_wipe_7 tw_1180 ?_
  refine r_iload_n (pc := 10) hG dX9_wipe_10 rfl ?_
  exact hret _ _ _ _ dX9_wipe_11 (pair_fst (show sp_X9_wipe M = (M.2.1 30 0, u2 M 30 0 0) from (by unfold sp_X9_wipe; exact rfl))) (pair_snd (show sp_X9_wipe M = (M.2.1 30 0, u2 M 30 0 0) from (by unfold sp_X9_wipe; exact rfl)))

def sp_X9_personOf (M : MT) (a0 : Int32) (a1 : Int32) : Int32 × MT :=
  if (sp_X9_isOne M a0) = true then
    if a1 = 0 then
      (M.1 5 9 (tn a0), M)
    else
      if a1 = 1 then
        (M.1 5 10 (tn a0), M)
      else
        if a1 = 2 then
          (M.1 5 11 (tn a0), M)
        else
          if a1 = 3 then
            (M.1 5 12 (tn a0), M)
          else
            if a1 = 4 then
              (M.1 5 13 (tn a0), M)
            else
              if a1 = 5 then
                (sp_X9_reach M a0, M)
              else
                ((sp_X9_no M (-2)).1, (sp_X9_no M (-2)).2)
  else
    ((sp_X9_no M (-2)).1, (sp_X9_no M (-2)).2)
set_option maxRecDepth 20000 in
theorem c_X9_personOf {K : KT} {M : MT} {a0 : Int32} {a1 : Int32}  (hokr : OKR M) : CM K 3 yX9_personOf cX9_personOf 3 (some FieldType.int) [rf K 140, .int a0, .int a1] M (some (.int (sp_X9_personOf M a0 a1).1)) (sp_X9_personOf M a0 a1).2 := by
  refine CM.ofI (by decide) [some (rf K 140), some (.int a0), some (.int a1)] rfl (Nat.le_of_ble_eq_true rfl) (Nat.le_of_ble_eq_true rfl) (fun G hG _ hret => ?_)
  obtain ⟨hok5, hhl, htp5⟩ := id hokr
  obtain ⟨hwc5, hpc5, ⟨hcl5, hcm5⟩, hwi5, hda5, hle5, hk85, ha85, hW5, hP5⟩ := id hok5
  have hwl5 := bd_lt hwc5
  have hpl5 := bd_lt hpc5
  have hcl5l := bd_lt hcl5
  refine r_aload_n (pc := 0) hG dX9_personOf_0 rfl ?_
  refine r_iload_n (pc := 1) hG dX9_personOf_1 rfl ?_
  refine cv_X9_isOne (pc := 2)  hG dX9_personOf_2 tw_1308 (c_X9_isOne) (by decide) (Nat.le_of_ble_eq_true rfl) ?_
  refine r_ifz_ne (pc := 5) (tgt := 15) hG dX9_personOf_5 (by decide) (fun c1 => ?_) (fun c1 => ?_)
  · refine r_iload_n (pc := 15) hG dX9_personOf_15 rfl ?_
    by_cases c2 : a1 = 0
    · refine r_tableIn (pc := 16) (tgt := 56) (off := 40) hG dX9_personOf_16 (by rw [c2]; decide) (by rw [c2]; decide) (by rw [c2]; rfl) (by decide) ?_
      refine r_aload_n (pc := 56) hG dX9_personOf_56 rfl ?_
      refine gf_X9_kind (pc := 57)  hG dX9_personOf_57 tw_1174 ?_
      refine r_iload_n (pc := 60) hG dX9_personOf_60 rfl ?_
      refine al_Mkind (pc := 61)  hG dX9_personOf_61 (ix_bd (hasP5 hpc5 c1)) ?_
      exact hret _ _ _ _ dX9_personOf_62 (pair_fst (show sp_X9_personOf M a0 a1 = (M.1 5 9 (tn a0), M) from (by unfold sp_X9_personOf; exact ((if_pos c1).trans (if_pos c2))))) (pair_snd (show sp_X9_personOf M a0 a1 = (M.1 5 9 (tn a0), M) from (by unfold sp_X9_personOf; exact ((if_pos c1).trans (if_pos c2)))))
    · by_cases c3 : a1 = 1
      · refine r_tableIn (pc := 16) (tgt := 63) (off := 47) hG dX9_personOf_16 (by rw [c3]; decide) (by rw [c3]; decide) (by rw [c3]; rfl) (by decide) ?_
        refine r_aload_n (pc := 63) hG dX9_personOf_63 rfl ?_
        refine gf_X9_own (pc := 64)  hG dX9_personOf_64 tw_1175 ?_
        refine r_iload_n (pc := 67) hG dX9_personOf_67 rfl ?_
        refine al_Mown (pc := 68)  hG dX9_personOf_68 (ix_bd (hasP5 hpc5 c1)) ?_
        exact hret _ _ _ _ dX9_personOf_69 (pair_fst (show sp_X9_personOf M a0 a1 = (M.1 5 10 (tn a0), M) from (by unfold sp_X9_personOf; exact ((if_pos c1).trans ((if_neg c2).trans (if_pos c3)))))) (pair_snd (show sp_X9_personOf M a0 a1 = (M.1 5 10 (tn a0), M) from (by unfold sp_X9_personOf; exact ((if_pos c1).trans ((if_neg c2).trans (if_pos c3))))))
      · by_cases c4 : a1 = 2
        · refine r_tableIn (pc := 16) (tgt := 70) (off := 54) hG dX9_personOf_16 (by rw [c4]; decide) (by rw [c4]; decide) (by rw [c4]; rfl) (by decide) ?_
          refine r_aload_n (pc := 70) hG dX9_personOf_70 rfl ?_
          refine gf_X9_place (pc := 71)  hG dX9_personOf_71 tw_1176 ?_
          refine r_iload_n (pc := 74) hG dX9_personOf_74 rfl ?_
          refine al_Mplace (pc := 75)  hG dX9_personOf_75 (ix_bd (hasP5 hpc5 c1)) ?_
          exact hret _ _ _ _ dX9_personOf_76 (pair_fst (show sp_X9_personOf M a0 a1 = (M.1 5 11 (tn a0), M) from (by unfold sp_X9_personOf; exact ((if_pos c1).trans ((if_neg c2).trans ((if_neg c3).trans (if_pos c4))))))) (pair_snd (show sp_X9_personOf M a0 a1 = (M.1 5 11 (tn a0), M) from (by unfold sp_X9_personOf; exact ((if_pos c1).trans ((if_neg c2).trans ((if_neg c3).trans (if_pos c4)))))))
        · by_cases c5 : a1 = 3
          · refine r_tableIn (pc := 16) (tgt := 77) (off := 61) hG dX9_personOf_16 (by rw [c5]; decide) (by rw [c5]; decide) (by rw [c5]; rfl) (by decide) ?_
            refine r_aload_n (pc := 77) hG dX9_personOf_77 rfl ?_
            refine gf_X9_rose (pc := 78)  hG dX9_personOf_78 tw_1177 ?_
            refine r_iload_n (pc := 81) hG dX9_personOf_81 rfl ?_
            refine al_Mrose (pc := 82)  hG dX9_personOf_82 (ix_bd (hasP5 hpc5 c1)) ?_
            exact hret _ _ _ _ dX9_personOf_83 (pair_fst (show sp_X9_personOf M a0 a1 = (M.1 5 12 (tn a0), M) from (by unfold sp_X9_personOf; exact ((if_pos c1).trans ((if_neg c2).trans ((if_neg c3).trans ((if_neg c4).trans (if_pos c5)))))))) (pair_snd (show sp_X9_personOf M a0 a1 = (M.1 5 12 (tn a0), M) from (by unfold sp_X9_personOf; exact ((if_pos c1).trans ((if_neg c2).trans ((if_neg c3).trans ((if_neg c4).trans (if_pos c5))))))))
          · by_cases c6 : a1 = 4
            · refine r_tableIn (pc := 16) (tgt := 84) (off := 68) hG dX9_personOf_16 (by rw [c6]; decide) (by rw [c6]; decide) (by rw [c6]; rfl) (by decide) ?_
              refine r_aload_n (pc := 84) hG dX9_personOf_84 rfl ?_
              refine gf_X9_due (pc := 85)  hG dX9_personOf_85 tw_1178 ?_
              refine r_iload_n (pc := 88) hG dX9_personOf_88 rfl ?_
              refine al_Mdue (pc := 89)  hG dX9_personOf_89 (ix_bd (hasP5 hpc5 c1)) ?_
              exact hret _ _ _ _ dX9_personOf_90 (pair_fst (show sp_X9_personOf M a0 a1 = (M.1 5 13 (tn a0), M) from (by unfold sp_X9_personOf; exact ((if_pos c1).trans ((if_neg c2).trans ((if_neg c3).trans ((if_neg c4).trans ((if_neg c5).trans (if_pos c6))))))))) (pair_snd (show sp_X9_personOf M a0 a1 = (M.1 5 13 (tn a0), M) from (by unfold sp_X9_personOf; exact ((if_pos c1).trans ((if_neg c2).trans ((if_neg c3).trans ((if_neg c4).trans ((if_neg c5).trans (if_pos c6)))))))))
            · by_cases c7 : a1 = 5
              · refine r_tableIn (pc := 16) (tgt := 91) (off := 75) hG dX9_personOf_16 (by rw [c7]; decide) (by rw [c7]; decide) (by rw [c7]; rfl) (by decide) ?_
                refine r_aload_n (pc := 91) hG dX9_personOf_91 rfl ?_
                refine r_iload_n (pc := 92) hG dX9_personOf_92 rfl ?_
                refine cv_X9_reach (pc := 93)  hG dX9_personOf_93 tw_1422 (c_X9_reach (hasP5 hpc5 c1)) (by decide) (Nat.le_of_ble_eq_true rfl) ?_
                exact hret _ _ _ _ dX9_personOf_96 (pair_fst (show sp_X9_personOf M a0 a1 = (sp_X9_reach M a0, M) from (by unfold sp_X9_personOf; exact ((if_pos c1).trans ((if_neg c2).trans ((if_neg c3).trans ((if_neg c4).trans ((if_neg c5).trans ((if_neg c6).trans (if_pos c7)))))))))) (pair_snd (show sp_X9_personOf M a0 a1 = (sp_X9_reach M a0, M) from (by unfold sp_X9_personOf; exact ((if_pos c1).trans ((if_neg c2).trans ((if_neg c3).trans ((if_neg c4).trans ((if_neg c5).trans ((if_neg c6).trans (if_pos c7))))))))))
              · have nc2 : Int32.toInt a1 ≠ 0 := fun q => c2 (Int32.toInt_inj.mp q)
                have nc3 : Int32.toInt a1 ≠ 1 := fun q => c3 (Int32.toInt_inj.mp q)
                have nc4 : Int32.toInt a1 ≠ 2 := fun q => c4 (Int32.toInt_inj.mp q)
                have nc5 : Int32.toInt a1 ≠ 3 := fun q => c5 (Int32.toInt_inj.mp q)
                have nc6 : Int32.toInt a1 ≠ 4 := fun q => c6 (Int32.toInt_inj.mp q)
                have nc7 : Int32.toInt a1 ≠ 5 := fun q => c7 (Int32.toInt_inj.mp q)
                refine r_tableOut (pc := 16) (tgt := 97) hG dX9_personOf_16 (by omega) (by decide) ?_
                refine r_aload_n (pc := 97) hG dX9_personOf_97 rfl ?_
                refine r_bipush (pc := 98) hG dX9_personOf_98 bc_m2 ?_
                refine cv_X9_no (pc := 100)  hG dX9_personOf_100 tw_1273 (c_X9_no (bd_lit (n := 7) (by decide))) (by decide) (Nat.le_of_ble_eq_true rfl) ?_
                exact hret _ _ _ _ dX9_personOf_103 (pair_fst (show sp_X9_personOf M a0 a1 = ((sp_X9_no M (-2)).1, (sp_X9_no M (-2)).2) from (by unfold sp_X9_personOf; exact ((if_pos c1).trans ((if_neg c2).trans ((if_neg c3).trans ((if_neg c4).trans ((if_neg c5).trans ((if_neg c6).trans (if_neg c7)))))))))) (pair_snd (show sp_X9_personOf M a0 a1 = ((sp_X9_no M (-2)).1, (sp_X9_no M (-2)).2) from (by unfold sp_X9_personOf; exact ((if_pos c1).trans ((if_neg c2).trans ((if_neg c3).trans ((if_neg c4).trans ((if_neg c5).trans ((if_neg c6).trans (if_neg c7))))))))))
  · refine r_aload_n (pc := 8) hG dX9_personOf_8 rfl ?_
    refine r_bipush (pc := 9) hG dX9_personOf_9 bc_m2 ?_
    refine cv_X9_no (pc := 11)  hG dX9_personOf_11 tw_1273 (c_X9_no (bd_lit (n := 7) (by decide))) (by decide) (Nat.le_of_ble_eq_true rfl) ?_
    exact hret _ _ _ _ dX9_personOf_14 (pair_fst (show sp_X9_personOf M a0 a1 = ((sp_X9_no M (-2)).1, (sp_X9_no M (-2)).2) from (by unfold sp_X9_personOf; exact (if_neg c1)))) (pair_snd (show sp_X9_personOf M a0 a1 = ((sp_X9_no M (-2)).1, (sp_X9_no M (-2)).2) from (by unfold sp_X9_personOf; exact (if_neg c1))))

def sp_X9_windowOf (M : MT) (a0 : Int32) (a1 : Int32) : Int32 × MT :=
  if (sp_X9_isWindow M a0) = true then
    if (sp_X9_within a1 0 2) = true then
      if a1 = 0 then
        (M.1 5 6 (tn a0), M)
      else
        if a1 = 1 then
          (M.1 5 7 (tn a0), M)
        else
          (M.1 5 8 (tn a0), M)
    else
      ((sp_X9_no M (-2)).1, (sp_X9_no M (-2)).2)
  else
    ((sp_X9_no M (-2)).1, (sp_X9_no M (-2)).2)
set_option maxRecDepth 20000 in
theorem c_X9_windowOf {K : KT} {M : MT} {a0 : Int32} {a1 : Int32}  (hokr : OKR M) : CM K 3 yX9_windowOf cX9_windowOf 3 (some FieldType.int) [rf K 140, .int a0, .int a1] M (some (.int (sp_X9_windowOf M a0 a1).1)) (sp_X9_windowOf M a0 a1).2 := by
  refine CM.ofI (by decide) [some (rf K 140), some (.int a0), some (.int a1)] rfl (Nat.le_of_ble_eq_true rfl) (Nat.le_of_ble_eq_true rfl) (fun G hG _ hret => ?_)
  obtain ⟨hok5, hhl, htp5⟩ := id hokr
  obtain ⟨hwc5, hpc5, ⟨hcl5, hcm5⟩, hwi5, hda5, hle5, hk85, ha85, hW5, hP5⟩ := id hok5
  have hwl5 := bd_lt hwc5
  have hpl5 := bd_lt hpc5
  have hcl5l := bd_lt hcl5
  refine r_aload_n (pc := 0) hG dX9_windowOf_0 rfl ?_
  refine r_iload_n (pc := 1) hG dX9_windowOf_1 rfl ?_
  refine cv_X9_isWindow (pc := 2)  hG dX9_windowOf_2 tw_1430 (c_X9_isWindow) (by decide) (Nat.le_of_ble_eq_true rfl) ?_
  refine r_ifz_eq (pc := 5) (tgt := 17) hG dX9_windowOf_5 (by decide) (fun c1 => ?_) (fun c1 => ?_)
  · refine r_aload_n (pc := 17) hG dX9_windowOf_17 rfl ?_
    refine r_bipush (pc := 18) hG dX9_windowOf_18 bc_m2 ?_
    refine cv_X9_no (pc := 20)  hG dX9_windowOf_20 tw_1273 (c_X9_no (bd_lit (n := 7) (by decide))) (by decide) (Nat.le_of_ble_eq_true rfl) ?_
    exact hret _ _ _ _ dX9_windowOf_23 (pair_fst (show sp_X9_windowOf M a0 a1 = ((sp_X9_no M (-2)).1, (sp_X9_no M (-2)).2) from (by unfold sp_X9_windowOf; exact (if_neg c1)))) (pair_snd (show sp_X9_windowOf M a0 a1 = ((sp_X9_no M (-2)).1, (sp_X9_no M (-2)).2) from (by unfold sp_X9_windowOf; exact (if_neg c1))))
  · refine r_iload_n (pc := 8) hG dX9_windowOf_8 rfl ?_
    refine r_iconst (pc := 9) hG dX9_windowOf_9 ic_0 ?_
    refine r_iconst (pc := 10) hG dX9_windowOf_10 ic_2 ?_
    refine cs_X9_within (pc := 11)  hG dX9_windowOf_11 tw_1270 (c_X9_within) (by decide) (Nat.le_of_ble_eq_true rfl) ?_
    refine r_ifz_ne (pc := 14) (tgt := 24) hG dX9_windowOf_14 (by decide) (fun c2 => ?_) (fun c2 => ?_)
    · refine r_iload_n (pc := 24) hG dX9_windowOf_24 rfl ?_
      refine r_if_ne (pc := 25) (tgt := 37) hG dX9_windowOf_25 (by decide) (fun c3 => ?_) (fun c3 => ?_)
      · refine r_iload_n (pc := 37) hG dX9_windowOf_37 rfl ?_
        refine r_iconst (pc := 38) hG dX9_windowOf_38 ic_1 ?_
        refine r_icmp_ne (pc := 39) (tgt := 51) hG dX9_windowOf_39 (by decide) (fun c4 => ?_) (fun c4 => ?_)
        · refine r_aload_n (pc := 51) hG dX9_windowOf_51 rfl ?_
          refine gf_X9_thorns (pc := 52)  hG dX9_windowOf_52 tw_1172 ?_
          refine r_iload_n (pc := 55) hG dX9_windowOf_55 rfl ?_
          refine al_Mthorns (pc := 56)  hG dX9_windowOf_56 (ix_bd (hasW5 hwc5 c1)) ?_
          exact hret _ _ _ _ dX9_windowOf_57 (pair_fst (show sp_X9_windowOf M a0 a1 = (M.1 5 8 (tn a0), M) from (by unfold sp_X9_windowOf; exact ((if_pos c1).trans ((if_pos c2).trans ((if_neg c3).trans (if_neg c4))))))) (pair_snd (show sp_X9_windowOf M a0 a1 = (M.1 5 8 (tn a0), M) from (by unfold sp_X9_windowOf; exact ((if_pos c1).trans ((if_pos c2).trans ((if_neg c3).trans (if_neg c4)))))))
        · refine r_aload_n (pc := 42) hG dX9_windowOf_42 rfl ?_
          refine gf_X9_floor (pc := 43)  hG dX9_windowOf_43 tw_1171 ?_
          refine r_iload_n (pc := 46) hG dX9_windowOf_46 rfl ?_
          refine al_Mfloor (pc := 47)  hG dX9_windowOf_47 (ix_bd (hasW5 hwc5 c1)) ?_
          refine r_goto (pc := 48) (tgt := 57) hG dX9_windowOf_48 (by decide) ?_
          exact hret _ _ _ _ dX9_windowOf_57 (pair_fst (show sp_X9_windowOf M a0 a1 = (M.1 5 7 (tn a0), M) from (by unfold sp_X9_windowOf; exact ((if_pos c1).trans ((if_pos c2).trans ((if_neg c3).trans (if_pos c4))))))) (pair_snd (show sp_X9_windowOf M a0 a1 = (M.1 5 7 (tn a0), M) from (by unfold sp_X9_windowOf; exact ((if_pos c1).trans ((if_pos c2).trans ((if_neg c3).trans (if_pos c4)))))))
      · refine r_aload_n (pc := 28) hG dX9_windowOf_28 rfl ?_
        refine gf_X9_at (pc := 29)  hG dX9_windowOf_29 tw_1170 ?_
        refine r_iload_n (pc := 32) hG dX9_windowOf_32 rfl ?_
        refine al_Mat (pc := 33)  hG dX9_windowOf_33 (ix_bd (hasW5 hwc5 c1)) ?_
        refine r_goto (pc := 34) (tgt := 57) hG dX9_windowOf_34 (by decide) ?_
        exact hret _ _ _ _ dX9_windowOf_57 (pair_fst (show sp_X9_windowOf M a0 a1 = (M.1 5 6 (tn a0), M) from (by unfold sp_X9_windowOf; exact ((if_pos c1).trans ((if_pos c2).trans (if_pos c3)))))) (pair_snd (show sp_X9_windowOf M a0 a1 = (M.1 5 6 (tn a0), M) from (by unfold sp_X9_windowOf; exact ((if_pos c1).trans ((if_pos c2).trans (if_pos c3))))))
    · refine r_aload_n (pc := 17) hG dX9_windowOf_17 rfl ?_
      refine r_bipush (pc := 18) hG dX9_windowOf_18 bc_m2 ?_
      refine cv_X9_no (pc := 20)  hG dX9_windowOf_20 tw_1273 (c_X9_no (bd_lit (n := 7) (by decide))) (by decide) (Nat.le_of_ble_eq_true rfl) ?_
      exact hret _ _ _ _ dX9_windowOf_23 (pair_fst (show sp_X9_windowOf M a0 a1 = ((sp_X9_no M (-2)).1, (sp_X9_no M (-2)).2) from (by unfold sp_X9_windowOf; exact ((if_pos c1).trans (if_neg c2))))) (pair_snd (show sp_X9_windowOf M a0 a1 = ((sp_X9_no M (-2)).1, (sp_X9_no M (-2)).2) from (by unfold sp_X9_windowOf; exact ((if_pos c1).trans (if_neg c2)))))

def sp_X9_lands (M : MT) (a0 : Int32) (a1 : Int32) (a2 : Int32) : Int32 × MT :=
  if (sp_X9_isThrow M a0 a1 a2) = true then
    (sp_X9_landing M a0 a1 a2, M)
  else
    ((sp_X9_no M (-2)).1, (sp_X9_no M (-2)).2)
set_option maxRecDepth 20000 in
theorem c_X9_lands {K : KT} {M : MT} {a0 : Int32} {a1 : Int32} {a2 : Int32}  (hokr : OKR M) : CM K 4 yX9_lands cX9_lands 4 (some FieldType.int) [rf K 140, .int a0, .int a1, .int a2] M (some (.int (sp_X9_lands M a0 a1 a2).1)) (sp_X9_lands M a0 a1 a2).2 := by
  refine CM.ofI (by decide) [some (rf K 140), some (.int a0), some (.int a1), some (.int a2)] rfl (Nat.le_of_ble_eq_true rfl) (Nat.le_of_ble_eq_true rfl) (fun G hG _ hret => ?_)
  obtain ⟨hok5, hhl, htp5⟩ := id hokr
  obtain ⟨hwc5, hpc5, ⟨hcl5, hcm5⟩, hwi5, hda5, hle5, hk85, ha85, hW5, hP5⟩ := id hok5
  have hwl5 := bd_lt hwc5
  have hpl5 := bd_lt hpc5
  have hcl5l := bd_lt hcl5
  refine r_aload_n (pc := 0) hG dX9_lands_0 rfl ?_
  refine r_iload_n (pc := 1) hG dX9_lands_1 rfl ?_
  refine r_iload_n (pc := 2) hG dX9_lands_2 rfl ?_
  refine r_iload_n (pc := 3) hG dX9_lands_3 rfl ?_
  refine cv_X9_isThrow (pc := 4)  hG dX9_lands_4 tw_1438 (c_X9_isThrow) (by decide) (Nat.le_of_ble_eq_true rfl) ?_
  refine r_ifz_eq (pc := 7) (tgt := 20) hG dX9_lands_7 (by decide) (fun c1 => ?_) (fun c1 => ?_)
  · refine r_aload_n (pc := 20) hG dX9_lands_20 rfl ?_
    refine r_bipush (pc := 21) hG dX9_lands_21 bc_m2 ?_
    refine cv_X9_no (pc := 23)  hG dX9_lands_23 tw_1273 (c_X9_no (bd_lit (n := 7) (by decide))) (by decide) (Nat.le_of_ble_eq_true rfl) ?_
    exact hret _ _ _ _ dX9_lands_26 (pair_fst (show sp_X9_lands M a0 a1 a2 = ((sp_X9_no M (-2)).1, (sp_X9_no M (-2)).2) from (by unfold sp_X9_lands; exact (if_neg c1)))) (pair_snd (show sp_X9_lands M a0 a1 a2 = ((sp_X9_no M (-2)).1, (sp_X9_no M (-2)).2) from (by unfold sp_X9_lands; exact (if_neg c1))))
  · refine r_aload_n (pc := 10) hG dX9_lands_10 rfl ?_
    refine r_iload_n (pc := 11) hG dX9_lands_11 rfl ?_
    refine r_iload_n (pc := 12) hG dX9_lands_12 rfl ?_
    refine r_iload_n (pc := 13) hG dX9_lands_13 rfl ?_
    refine cv_X9_landing (pc := 14)  hG dX9_lands_14 tw_1442 (c_X9_landing (isThr5 hwc5 c1)) (by decide) (Nat.le_of_ble_eq_true rfl) ?_
    refine r_goto (pc := 17) (tgt := 26) hG dX9_lands_17 (by decide) ?_
    exact hret _ _ _ _ dX9_lands_26 (pair_fst (show sp_X9_lands M a0 a1 a2 = (sp_X9_landing M a0 a1 a2, M) from (by unfold sp_X9_lands; exact (if_pos c1)))) (pair_snd (show sp_X9_lands M a0 a1 a2 = (sp_X9_landing M a0 a1 a2, M) from (by unfold sp_X9_lands; exact (if_pos c1))))

def sp_X9_caught (M : MT) (a0 : Int32) (a1 : Int32) (a2 : Int32) : Int32 × MT :=
  if (sp_X9_isThrow M a0 a1 a2) = true then
    (sp_X9_caughtBy M a0 a1 a2, M)
  else
    ((sp_X9_no M (-2)).1, (sp_X9_no M (-2)).2)
set_option maxRecDepth 20000 in
theorem c_X9_caught {K : KT} {M : MT} {a0 : Int32} {a1 : Int32} {a2 : Int32}  (hokr : OKR M) : CM K 6 yX9_caught cX9_caught 4 (some FieldType.int) [rf K 140, .int a0, .int a1, .int a2] M (some (.int (sp_X9_caught M a0 a1 a2).1)) (sp_X9_caught M a0 a1 a2).2 := by
  refine CM.ofI (by decide) [some (rf K 140), some (.int a0), some (.int a1), some (.int a2)] rfl (Nat.le_of_ble_eq_true rfl) (Nat.le_of_ble_eq_true rfl) (fun G hG _ hret => ?_)
  obtain ⟨hok5, hhl, htp5⟩ := id hokr
  obtain ⟨hwc5, hpc5, ⟨hcl5, hcm5⟩, hwi5, hda5, hle5, hk85, ha85, hW5, hP5⟩ := id hok5
  have hwl5 := bd_lt hwc5
  have hpl5 := bd_lt hpc5
  have hcl5l := bd_lt hcl5
  refine r_aload_n (pc := 0) hG dX9_caught_0 rfl ?_
  refine r_iload_n (pc := 1) hG dX9_caught_1 rfl ?_
  refine r_iload_n (pc := 2) hG dX9_caught_2 rfl ?_
  refine r_iload_n (pc := 3) hG dX9_caught_3 rfl ?_
  refine cv_X9_isThrow (pc := 4)  hG dX9_caught_4 tw_1438 (c_X9_isThrow) (by decide) (Nat.le_of_ble_eq_true rfl) ?_
  refine r_ifz_eq (pc := 7) (tgt := 20) hG dX9_caught_7 (by decide) (fun c1 => ?_) (fun c1 => ?_)
  · refine r_aload_n (pc := 20) hG dX9_caught_20 rfl ?_
    refine r_bipush (pc := 21) hG dX9_caught_21 bc_m2 ?_
    refine cv_X9_no (pc := 23)  hG dX9_caught_23 tw_1273 (c_X9_no (bd_lit (n := 7) (by decide))) (by decide) (Nat.le_of_ble_eq_true rfl) ?_
    exact hret _ _ _ _ dX9_caught_26 (pair_fst (show sp_X9_caught M a0 a1 a2 = ((sp_X9_no M (-2)).1, (sp_X9_no M (-2)).2) from (by unfold sp_X9_caught; exact (if_neg c1)))) (pair_snd (show sp_X9_caught M a0 a1 a2 = ((sp_X9_no M (-2)).1, (sp_X9_no M (-2)).2) from (by unfold sp_X9_caught; exact (if_neg c1))))
  · refine r_aload_n (pc := 10) hG dX9_caught_10 rfl ?_
    refine r_iload_n (pc := 11) hG dX9_caught_11 rfl ?_
    refine r_iload_n (pc := 12) hG dX9_caught_12 rfl ?_
    refine r_iload_n (pc := 13) hG dX9_caught_13 rfl ?_
    refine cv_X9_caughtBy (pc := 14)  hG dX9_caught_14 tw_1450 (c_X9_caughtBy (isThr5 hwc5 c1) hpc5) (by decide) (Nat.le_of_ble_eq_true rfl) ?_
    refine r_goto (pc := 17) (tgt := 26) hG dX9_caught_17 (by decide) ?_
    exact hret _ _ _ _ dX9_caught_26 (pair_fst (show sp_X9_caught M a0 a1 a2 = (sp_X9_caughtBy M a0 a1 a2, M) from (by unfold sp_X9_caught; exact (if_pos c1)))) (pair_snd (show sp_X9_caught M a0 a1 a2 = (sp_X9_caughtBy M a0 a1 a2, M) from (by unfold sp_X9_caught; exact (if_pos c1))))

def sp_X9_slow (M : MT) (a0 : Int32) (a1 : Int32) : Int32 × MT :=
  if (sp_X9_isOne M a0) = true then
    if (sp_X9_isWindow M a1) = true then
      (sp_X9_slowTo M a0 (M.1 5 7 (tn a1)), M)
    else
      ((sp_X9_no M (-2)).1, (sp_X9_no M (-2)).2)
  else
    ((sp_X9_no M (-2)).1, (sp_X9_no M (-2)).2)
set_option maxRecDepth 20000 in
theorem c_X9_slow {K : KT} {M : MT} {a0 : Int32} {a1 : Int32}  (hokr : OKR M) : CM K 3 yX9_slow cX9_slow 3 (some FieldType.int) [rf K 140, .int a0, .int a1] M (some (.int (sp_X9_slow M a0 a1).1)) (sp_X9_slow M a0 a1).2 := by
  refine CM.ofI (by decide) [some (rf K 140), some (.int a0), some (.int a1)] rfl (Nat.le_of_ble_eq_true rfl) (Nat.le_of_ble_eq_true rfl) (fun G hG _ hret => ?_)
  obtain ⟨hok5, hhl, htp5⟩ := id hokr
  obtain ⟨hwc5, hpc5, ⟨hcl5, hcm5⟩, hwi5, hda5, hle5, hk85, ha85, hW5, hP5⟩ := id hok5
  have hwl5 := bd_lt hwc5
  have hpl5 := bd_lt hpc5
  have hcl5l := bd_lt hcl5
  refine r_aload_n (pc := 0) hG dX9_slow_0 rfl ?_
  refine r_iload_n (pc := 1) hG dX9_slow_1 rfl ?_
  refine cv_X9_isOne (pc := 2)  hG dX9_slow_2 tw_1308 (c_X9_isOne) (by decide) (Nat.le_of_ble_eq_true rfl) ?_
  refine r_ifz_eq (pc := 5) (tgt := 30) hG dX9_slow_5 (by decide) (fun c1 => ?_) (fun c1 => ?_)
  · refine r_aload_n (pc := 30) hG dX9_slow_30 rfl ?_
    refine r_bipush (pc := 31) hG dX9_slow_31 bc_m2 ?_
    refine cv_X9_no (pc := 33)  hG dX9_slow_33 tw_1273 (c_X9_no (bd_lit (n := 7) (by decide))) (by decide) (Nat.le_of_ble_eq_true rfl) ?_
    exact hret _ _ _ _ dX9_slow_36 (pair_fst (show sp_X9_slow M a0 a1 = ((sp_X9_no M (-2)).1, (sp_X9_no M (-2)).2) from (by unfold sp_X9_slow; exact (if_neg c1)))) (pair_snd (show sp_X9_slow M a0 a1 = ((sp_X9_no M (-2)).1, (sp_X9_no M (-2)).2) from (by unfold sp_X9_slow; exact (if_neg c1))))
  · refine r_aload_n (pc := 8) hG dX9_slow_8 rfl ?_
    refine r_iload_n (pc := 9) hG dX9_slow_9 rfl ?_
    refine cv_X9_isWindow (pc := 10)  hG dX9_slow_10 tw_1430 (c_X9_isWindow) (by decide) (Nat.le_of_ble_eq_true rfl) ?_
    refine r_ifz_eq (pc := 13) (tgt := 30) hG dX9_slow_13 (by decide) (fun c2 => ?_) (fun c2 => ?_)
    · refine r_aload_n (pc := 30) hG dX9_slow_30 rfl ?_
      refine r_bipush (pc := 31) hG dX9_slow_31 bc_m2 ?_
      refine cv_X9_no (pc := 33)  hG dX9_slow_33 tw_1273 (c_X9_no (bd_lit (n := 7) (by decide))) (by decide) (Nat.le_of_ble_eq_true rfl) ?_
      exact hret _ _ _ _ dX9_slow_36 (pair_fst (show sp_X9_slow M a0 a1 = ((sp_X9_no M (-2)).1, (sp_X9_no M (-2)).2) from (by unfold sp_X9_slow; exact ((if_pos c1).trans (if_neg c2))))) (pair_snd (show sp_X9_slow M a0 a1 = ((sp_X9_no M (-2)).1, (sp_X9_no M (-2)).2) from (by unfold sp_X9_slow; exact ((if_pos c1).trans (if_neg c2)))))
    · refine r_aload_n (pc := 16) hG dX9_slow_16 rfl ?_
      refine r_iload_n (pc := 17) hG dX9_slow_17 rfl ?_
      refine r_aload_n (pc := 18) hG dX9_slow_18 rfl ?_
      refine gf_X9_floor (pc := 19)  hG dX9_slow_19 tw_1171 ?_
      refine r_iload_n (pc := 22) hG dX9_slow_22 rfl ?_
      refine al_Mfloor (pc := 23)  hG dX9_slow_23 (ix_bd (hasW5 hwc5 c2)) ?_
      refine cv_X9_slowTo (pc := 24)  hG dX9_slow_24 tw_1319 (c_X9_slowTo (hasP5 hpc5 c1)) (by decide) (Nat.le_of_ble_eq_true rfl) ?_
      refine r_goto (pc := 27) (tgt := 36) hG dX9_slow_27 (by decide) ?_
      exact hret _ _ _ _ dX9_slow_36 (pair_fst (show sp_X9_slow M a0 a1 = (sp_X9_slowTo M a0 (M.1 5 7 (tn a1)), M) from (by unfold sp_X9_slow; exact ((if_pos c1).trans (if_pos c2))))) (pair_snd (show sp_X9_slow M a0 a1 = (sp_X9_slowTo M a0 (M.1 5 7 (tn a1)), M) from (by unfold sp_X9_slow; exact ((if_pos c1).trans (if_pos c2)))))

def sp_X9_comes (M : MT) (a0 : Int32) (a1 : Int32) : Int32 × MT :=
  if (sp_X9_isOne M a0) = true then
    if (sp_X9_isWindow M a1) = true then
      if (sp_X9_isComing M a0 a1) = true then
        (1, M)
      else
        (0, M)
    else
      ((sp_X9_no M (-2)).1, (sp_X9_no M (-2)).2)
  else
    ((sp_X9_no M (-2)).1, (sp_X9_no M (-2)).2)
set_option maxRecDepth 20000 in
theorem c_X9_comes {K : KT} {M : MT} {a0 : Int32} {a1 : Int32}  (hokr : OKR M) : CM K 3 yX9_comes cX9_comes 3 (some FieldType.int) [rf K 140, .int a0, .int a1] M (some (.int (sp_X9_comes M a0 a1).1)) (sp_X9_comes M a0 a1).2 := by
  refine CM.ofI (by decide) [some (rf K 140), some (.int a0), some (.int a1)] rfl (Nat.le_of_ble_eq_true rfl) (Nat.le_of_ble_eq_true rfl) (fun G hG _ hret => ?_)
  obtain ⟨hok5, hhl, htp5⟩ := id hokr
  obtain ⟨hwc5, hpc5, ⟨hcl5, hcm5⟩, hwi5, hda5, hle5, hk85, ha85, hW5, hP5⟩ := id hok5
  have hwl5 := bd_lt hwc5
  have hpl5 := bd_lt hpc5
  have hcl5l := bd_lt hcl5
  refine r_aload_n (pc := 0) hG dX9_comes_0 rfl ?_
  refine r_iload_n (pc := 1) hG dX9_comes_1 rfl ?_
  refine cv_X9_isOne (pc := 2)  hG dX9_comes_2 tw_1308 (c_X9_isOne) (by decide) (Nat.le_of_ble_eq_true rfl) ?_
  refine r_ifz_eq (pc := 5) (tgt := 16) hG dX9_comes_5 (by decide) (fun c1 => ?_) (fun c1 => ?_)
  · refine r_aload_n (pc := 16) hG dX9_comes_16 rfl ?_
    refine r_bipush (pc := 17) hG dX9_comes_17 bc_m2 ?_
    refine cv_X9_no (pc := 19)  hG dX9_comes_19 tw_1273 (c_X9_no (bd_lit (n := 7) (by decide))) (by decide) (Nat.le_of_ble_eq_true rfl) ?_
    exact hret _ _ _ _ dX9_comes_22 (pair_fst (show sp_X9_comes M a0 a1 = ((sp_X9_no M (-2)).1, (sp_X9_no M (-2)).2) from (by unfold sp_X9_comes; exact (if_neg c1)))) (pair_snd (show sp_X9_comes M a0 a1 = ((sp_X9_no M (-2)).1, (sp_X9_no M (-2)).2) from (by unfold sp_X9_comes; exact (if_neg c1))))
  · refine r_aload_n (pc := 8) hG dX9_comes_8 rfl ?_
    refine r_iload_n (pc := 9) hG dX9_comes_9 rfl ?_
    refine cv_X9_isWindow (pc := 10)  hG dX9_comes_10 tw_1430 (c_X9_isWindow) (by decide) (Nat.le_of_ble_eq_true rfl) ?_
    refine r_ifz_ne (pc := 13) (tgt := 23) hG dX9_comes_13 (by decide) (fun c2 => ?_) (fun c2 => ?_)
    · refine r_aload_n (pc := 23) hG dX9_comes_23 rfl ?_
      refine r_iload_n (pc := 24) hG dX9_comes_24 rfl ?_
      refine r_iload_n (pc := 25) hG dX9_comes_25 rfl ?_
      refine cv_X9_isComing (pc := 26)  hG dX9_comes_26 tw_1475 (c_X9_isComing (hasP5 hpc5 c1) (hasW5 hwc5 c2)) (by decide) (Nat.le_of_ble_eq_true rfl) ?_
      refine r_ifz_eq (pc := 29) (tgt := 36) hG dX9_comes_29 (by decide) (fun c3 => ?_) (fun c3 => ?_)
      · refine r_iconst (pc := 36) hG dX9_comes_36 ic_0 ?_
        exact hret _ _ _ _ dX9_comes_37 (pair_fst (show sp_X9_comes M a0 a1 = (0, M) from (by unfold sp_X9_comes; exact ((if_pos c1).trans ((if_pos c2).trans (if_neg c3)))))) (pair_snd (show sp_X9_comes M a0 a1 = (0, M) from (by unfold sp_X9_comes; exact ((if_pos c1).trans ((if_pos c2).trans (if_neg c3))))))
      · refine r_iconst (pc := 32) hG dX9_comes_32 ic_1 ?_
        refine r_goto (pc := 33) (tgt := 37) hG dX9_comes_33 (by decide) ?_
        exact hret _ _ _ _ dX9_comes_37 (pair_fst (show sp_X9_comes M a0 a1 = (1, M) from (by unfold sp_X9_comes; exact ((if_pos c1).trans ((if_pos c2).trans (if_pos c3)))))) (pair_snd (show sp_X9_comes M a0 a1 = (1, M) from (by unfold sp_X9_comes; exact ((if_pos c1).trans ((if_pos c2).trans (if_pos c3))))))
    · refine r_aload_n (pc := 16) hG dX9_comes_16 rfl ?_
      refine r_bipush (pc := 17) hG dX9_comes_17 bc_m2 ?_
      refine cv_X9_no (pc := 19)  hG dX9_comes_19 tw_1273 (c_X9_no (bd_lit (n := 7) (by decide))) (by decide) (Nat.le_of_ble_eq_true rfl) ?_
      exact hret _ _ _ _ dX9_comes_22 (pair_fst (show sp_X9_comes M a0 a1 = ((sp_X9_no M (-2)).1, (sp_X9_no M (-2)).2) from (by unfold sp_X9_comes; exact ((if_pos c1).trans (if_neg c2))))) (pair_snd (show sp_X9_comes M a0 a1 = ((sp_X9_no M (-2)).1, (sp_X9_no M (-2)).2) from (by unfold sp_X9_comes; exact ((if_pos c1).trans (if_neg c2)))))

def sp_X9_hit (M : MT) (a0 : Int32) : Int32 × MT :=
  if (sp_X9_isWindow M a0) = true then
    (sp_X9_hitFrom M a0, M)
  else
    ((sp_X9_no M (-2)).1, (sp_X9_no M (-2)).2)
set_option maxRecDepth 20000 in
theorem c_X9_hit {K : KT} {M : MT} {a0 : Int32}  (hokr : OKR M) : CM K 7 yX9_hit cX9_hit 2 (some FieldType.int) [rf K 140, .int a0] M (some (.int (sp_X9_hit M a0).1)) (sp_X9_hit M a0).2 := by
  refine CM.ofI (by decide) [some (rf K 140), some (.int a0)] rfl (Nat.le_of_ble_eq_true rfl) (Nat.le_of_ble_eq_true rfl) (fun G hG _ hret => ?_)
  obtain ⟨hok5, hhl, htp5⟩ := id hokr
  obtain ⟨hwc5, hpc5, ⟨hcl5, hcm5⟩, hwi5, hda5, hle5, hk85, ha85, hW5, hP5⟩ := id hok5
  have hwl5 := bd_lt hwc5
  have hpl5 := bd_lt hpc5
  have hcl5l := bd_lt hcl5
  refine r_aload_n (pc := 0) hG dX9_hit_0 rfl ?_
  refine r_iload_n (pc := 1) hG dX9_hit_1 rfl ?_
  refine cv_X9_isWindow (pc := 2)  hG dX9_hit_2 tw_1430 (c_X9_isWindow) (by decide) (Nat.le_of_ble_eq_true rfl) ?_
  refine r_ifz_eq (pc := 5) (tgt := 16) hG dX9_hit_5 (by decide) (fun c1 => ?_) (fun c1 => ?_)
  · refine r_aload_n (pc := 16) hG dX9_hit_16 rfl ?_
    refine r_bipush (pc := 17) hG dX9_hit_17 bc_m2 ?_
    refine cv_X9_no (pc := 19)  hG dX9_hit_19 tw_1273 (c_X9_no (bd_lit (n := 7) (by decide))) (by decide) (Nat.le_of_ble_eq_true rfl) ?_
    exact hret _ _ _ _ dX9_hit_22 (pair_fst (show sp_X9_hit M a0 = ((sp_X9_no M (-2)).1, (sp_X9_no M (-2)).2) from (by unfold sp_X9_hit; exact (if_neg c1)))) (pair_snd (show sp_X9_hit M a0 = ((sp_X9_no M (-2)).1, (sp_X9_no M (-2)).2) from (by unfold sp_X9_hit; exact (if_neg c1))))
  · refine r_aload_n (pc := 8) hG dX9_hit_8 rfl ?_
    refine r_iload_n (pc := 9) hG dX9_hit_9 rfl ?_
    refine cv_X9_hitFrom (pc := 10)  hG dX9_hit_10 tw_1487 (c_X9_hitFrom (hasW5 hwc5 c1) hpc5) (by decide) (Nat.le_of_ble_eq_true rfl) ?_
    refine r_goto (pc := 13) (tgt := 22) hG dX9_hit_13 (by decide) ?_
    exact hret _ _ _ _ dX9_hit_22 (pair_fst (show sp_X9_hit M a0 = (sp_X9_hitFrom M a0, M) from (by unfold sp_X9_hit; exact (if_pos c1)))) (pair_snd (show sp_X9_hit M a0 = (sp_X9_hitFrom M a0, M) from (by unfold sp_X9_hit; exact (if_pos c1))))

def sp_X9_fond (M : MT) (a0 : Int32) (a1 : Int32) : Int32 × MT :=
  if (sp_X9_isWindow M a0) = true then
    if (sp_X9_isOne M a1) = true then
      (sp_X9_fondness M a0 a1, M)
    else
      ((sp_X9_no M (-2)).1, (sp_X9_no M (-2)).2)
  else
    ((sp_X9_no M (-2)).1, (sp_X9_no M (-2)).2)
set_option maxRecDepth 20000 in
theorem c_X9_fond {K : KT} {M : MT} {a0 : Int32} {a1 : Int32}  (hokr : OKR M) : CM K 3 yX9_fond cX9_fond 3 (some FieldType.int) [rf K 140, .int a0, .int a1] M (some (.int (sp_X9_fond M a0 a1).1)) (sp_X9_fond M a0 a1).2 := by
  refine CM.ofI (by decide) [some (rf K 140), some (.int a0), some (.int a1)] rfl (Nat.le_of_ble_eq_true rfl) (Nat.le_of_ble_eq_true rfl) (fun G hG _ hret => ?_)
  obtain ⟨hok5, hhl, htp5⟩ := id hokr
  obtain ⟨hwc5, hpc5, ⟨hcl5, hcm5⟩, hwi5, hda5, hle5, hk85, ha85, hW5, hP5⟩ := id hok5
  have hwl5 := bd_lt hwc5
  have hpl5 := bd_lt hpc5
  have hcl5l := bd_lt hcl5
  refine r_aload_n (pc := 0) hG dX9_fond_0 rfl ?_
  refine r_iload_n (pc := 1) hG dX9_fond_1 rfl ?_
  refine cv_X9_isWindow (pc := 2)  hG dX9_fond_2 tw_1430 (c_X9_isWindow) (by decide) (Nat.le_of_ble_eq_true rfl) ?_
  refine r_ifz_eq (pc := 5) (tgt := 25) hG dX9_fond_5 (by decide) (fun c1 => ?_) (fun c1 => ?_)
  · refine r_aload_n (pc := 25) hG dX9_fond_25 rfl ?_
    refine r_bipush (pc := 26) hG dX9_fond_26 bc_m2 ?_
    refine cv_X9_no (pc := 28)  hG dX9_fond_28 tw_1273 (c_X9_no (bd_lit (n := 7) (by decide))) (by decide) (Nat.le_of_ble_eq_true rfl) ?_
    exact hret _ _ _ _ dX9_fond_31 (pair_fst (show sp_X9_fond M a0 a1 = ((sp_X9_no M (-2)).1, (sp_X9_no M (-2)).2) from (by unfold sp_X9_fond; exact (if_neg c1)))) (pair_snd (show sp_X9_fond M a0 a1 = ((sp_X9_no M (-2)).1, (sp_X9_no M (-2)).2) from (by unfold sp_X9_fond; exact (if_neg c1))))
  · refine r_aload_n (pc := 8) hG dX9_fond_8 rfl ?_
    refine r_iload_n (pc := 9) hG dX9_fond_9 rfl ?_
    refine cv_X9_isOne (pc := 10)  hG dX9_fond_10 tw_1308 (c_X9_isOne) (by decide) (Nat.le_of_ble_eq_true rfl) ?_
    refine r_ifz_eq (pc := 13) (tgt := 25) hG dX9_fond_13 (by decide) (fun c2 => ?_) (fun c2 => ?_)
    · refine r_aload_n (pc := 25) hG dX9_fond_25 rfl ?_
      refine r_bipush (pc := 26) hG dX9_fond_26 bc_m2 ?_
      refine cv_X9_no (pc := 28)  hG dX9_fond_28 tw_1273 (c_X9_no (bd_lit (n := 7) (by decide))) (by decide) (Nat.le_of_ble_eq_true rfl) ?_
      exact hret _ _ _ _ dX9_fond_31 (pair_fst (show sp_X9_fond M a0 a1 = ((sp_X9_no M (-2)).1, (sp_X9_no M (-2)).2) from (by unfold sp_X9_fond; exact ((if_pos c1).trans (if_neg c2))))) (pair_snd (show sp_X9_fond M a0 a1 = ((sp_X9_no M (-2)).1, (sp_X9_no M (-2)).2) from (by unfold sp_X9_fond; exact ((if_pos c1).trans (if_neg c2)))))
    · refine r_aload_n (pc := 16) hG dX9_fond_16 rfl ?_
      refine r_iload_n (pc := 17) hG dX9_fond_17 rfl ?_
      refine r_iload_n (pc := 18) hG dX9_fond_18 rfl ?_
      refine cv_X9_fondness (pc := 19)  hG dX9_fond_19 tw_1515 (c_X9_fondness (hasW5 hwc5 c1) (hasP5 hpc5 c2)) (by decide) (Nat.le_of_ble_eq_true rfl) ?_
      refine r_goto (pc := 22) (tgt := 31) hG dX9_fond_22 (by decide) ?_
      exact hret _ _ _ _ dX9_fond_31 (pair_fst (show sp_X9_fond M a0 a1 = (sp_X9_fondness M a0 a1, M) from (by unfold sp_X9_fond; exact ((if_pos c1).trans (if_pos c2))))) (pair_snd (show sp_X9_fond M a0 a1 = (sp_X9_fondness M a0 a1, M) from (by unfold sp_X9_fond; exact ((if_pos c1).trans (if_pos c2)))))

def sp_X9_queue (M : MT) (a0 : Int32) (a1 : Int32) : Int32 × MT :=
  if (sp_X9_isWindow M a0) = true then
    if (sp_X9_within a1 0 999) = true then
      (sp_X9_queueOf M a0 a1, M)
    else
      ((sp_X9_no M (-2)).1, (sp_X9_no M (-2)).2)
  else
    ((sp_X9_no M (-2)).1, (sp_X9_no M (-2)).2)
set_option maxRecDepth 20000 in
theorem c_X9_queue {K : KT} {M : MT} {a0 : Int32} {a1 : Int32}  (hokr : OKR M) : CM K 3 yX9_queue cX9_queue 3 (some FieldType.int) [rf K 140, .int a0, .int a1] M (some (.int (sp_X9_queue M a0 a1).1)) (sp_X9_queue M a0 a1).2 := by
  refine CM.ofI (by decide) [some (rf K 140), some (.int a0), some (.int a1)] rfl (Nat.le_of_ble_eq_true rfl) (Nat.le_of_ble_eq_true rfl) (fun G hG _ hret => ?_)
  obtain ⟨hok5, hhl, htp5⟩ := id hokr
  obtain ⟨hwc5, hpc5, ⟨hcl5, hcm5⟩, hwi5, hda5, hle5, hk85, ha85, hW5, hP5⟩ := id hok5
  have hwl5 := bd_lt hwc5
  have hpl5 := bd_lt hpc5
  have hcl5l := bd_lt hcl5
  refine r_aload_n (pc := 0) hG dX9_queue_0 rfl ?_
  refine r_iload_n (pc := 1) hG dX9_queue_1 rfl ?_
  refine cv_X9_isWindow (pc := 2)  hG dX9_queue_2 tw_1430 (c_X9_isWindow) (by decide) (Nat.le_of_ble_eq_true rfl) ?_
  refine r_ifz_eq (pc := 5) (tgt := 28) hG dX9_queue_5 (by decide) (fun c1 => ?_) (fun c1 => ?_)
  · refine r_aload_n (pc := 28) hG dX9_queue_28 rfl ?_
    refine r_bipush (pc := 29) hG dX9_queue_29 bc_m2 ?_
    refine cv_X9_no (pc := 31)  hG dX9_queue_31 tw_1273 (c_X9_no (bd_lit (n := 7) (by decide))) (by decide) (Nat.le_of_ble_eq_true rfl) ?_
    exact hret _ _ _ _ dX9_queue_34 (pair_fst (show sp_X9_queue M a0 a1 = ((sp_X9_no M (-2)).1, (sp_X9_no M (-2)).2) from (by unfold sp_X9_queue; exact (if_neg c1)))) (pair_snd (show sp_X9_queue M a0 a1 = ((sp_X9_no M (-2)).1, (sp_X9_no M (-2)).2) from (by unfold sp_X9_queue; exact (if_neg c1))))
  · refine r_iload_n (pc := 8) hG dX9_queue_8 rfl ?_
    refine r_iconst (pc := 9) hG dX9_queue_9 ic_0 ?_
    refine r_sipush (pc := 10) hG dX9_queue_10 sc_999 ?_
    refine cs_X9_within (pc := 13)  hG dX9_queue_13 tw_1270 (c_X9_within) (by decide) (Nat.le_of_ble_eq_true rfl) ?_
    refine r_ifz_eq (pc := 16) (tgt := 28) hG dX9_queue_16 (by decide) (fun c2 => ?_) (fun c2 => ?_)
    · refine r_aload_n (pc := 28) hG dX9_queue_28 rfl ?_
      refine r_bipush (pc := 29) hG dX9_queue_29 bc_m2 ?_
      refine cv_X9_no (pc := 31)  hG dX9_queue_31 tw_1273 (c_X9_no (bd_lit (n := 7) (by decide))) (by decide) (Nat.le_of_ble_eq_true rfl) ?_
      exact hret _ _ _ _ dX9_queue_34 (pair_fst (show sp_X9_queue M a0 a1 = ((sp_X9_no M (-2)).1, (sp_X9_no M (-2)).2) from (by unfold sp_X9_queue; exact ((if_pos c1).trans (if_neg c2))))) (pair_snd (show sp_X9_queue M a0 a1 = ((sp_X9_no M (-2)).1, (sp_X9_no M (-2)).2) from (by unfold sp_X9_queue; exact ((if_pos c1).trans (if_neg c2)))))
    · refine r_aload_n (pc := 19) hG dX9_queue_19 rfl ?_
      refine r_iload_n (pc := 20) hG dX9_queue_20 rfl ?_
      refine r_iload_n (pc := 21) hG dX9_queue_21 rfl ?_
      refine cv_X9_queueOf (pc := 22)  hG dX9_queue_22 tw_1575 (c_X9_queueOf hpc5) (by decide) (Nat.le_of_ble_eq_true rfl) ?_
      refine r_goto (pc := 25) (tgt := 34) hG dX9_queue_25 (by decide) ?_
      exact hret _ _ _ _ dX9_queue_34 (pair_fst (show sp_X9_queue M a0 a1 = (sp_X9_queueOf M a0 a1, M) from (by unfold sp_X9_queue; exact ((if_pos c1).trans (if_pos c2))))) (pair_snd (show sp_X9_queue M a0 a1 = (sp_X9_queueOf M a0 a1, M) from (by unfold sp_X9_queue; exact ((if_pos c1).trans (if_pos c2)))))

def sp_X9_rival (M : MT) (a0 : Int32) (a1 : Int32) (a2 : Int32) (a3 : Int32) : Int32 × MT :=
  if (sp_X9_isOne M a0) = true then
    if (sp_X9_isThrow M a1 a2 a3) = true then
      (sp_X9_catcher M (sp_X9_landing M a1 a2 a3) a0, M)
    else
      ((sp_X9_no M (-2)).1, (sp_X9_no M (-2)).2)
  else
    ((sp_X9_no M (-2)).1, (sp_X9_no M (-2)).2)
set_option maxRecDepth 20000 in
theorem c_X9_rival {K : KT} {M : MT} {a0 : Int32} {a1 : Int32} {a2 : Int32} {a3 : Int32}  (hokr : OKR M) : CM K 5 yX9_rival cX9_rival 5 (some FieldType.int) [rf K 140, .int a0, .int a1, .int a2, .int a3] M (some (.int (sp_X9_rival M a0 a1 a2 a3).1)) (sp_X9_rival M a0 a1 a2 a3).2 := by
  refine CM.ofI (by decide) [some (rf K 140), some (.int a0), some (.int a1), some (.int a2), some (.int a3)] rfl (Nat.le_of_ble_eq_true rfl) (Nat.le_of_ble_eq_true rfl) (fun G hG _ hret => ?_)
  obtain ⟨hok5, hhl, htp5⟩ := id hokr
  obtain ⟨hwc5, hpc5, ⟨hcl5, hcm5⟩, hwi5, hda5, hle5, hk85, ha85, hW5, hP5⟩ := id hok5
  have hwl5 := bd_lt hwc5
  have hpl5 := bd_lt hpc5
  have hcl5l := bd_lt hcl5
  refine r_aload_n (pc := 0) hG dX9_rival_0 rfl ?_
  refine r_iload_n (pc := 1) hG dX9_rival_1 rfl ?_
  refine cv_X9_isOne (pc := 2)  hG dX9_rival_2 tw_1308 (c_X9_isOne) (by decide) (Nat.le_of_ble_eq_true rfl) ?_
  refine r_ifz_eq (pc := 5) (tgt := 35) hG dX9_rival_5 (by decide) (fun c1 => ?_) (fun c1 => ?_)
  · refine r_aload_n (pc := 35) hG dX9_rival_35 rfl ?_
    refine r_bipush (pc := 36) hG dX9_rival_36 bc_m2 ?_
    refine cv_X9_no (pc := 38)  hG dX9_rival_38 tw_1273 (c_X9_no (bd_lit (n := 7) (by decide))) (by decide) (Nat.le_of_ble_eq_true rfl) ?_
    exact hret _ _ _ _ dX9_rival_41 (pair_fst (show sp_X9_rival M a0 a1 a2 a3 = ((sp_X9_no M (-2)).1, (sp_X9_no M (-2)).2) from (by unfold sp_X9_rival; exact (if_neg c1)))) (pair_snd (show sp_X9_rival M a0 a1 a2 a3 = ((sp_X9_no M (-2)).1, (sp_X9_no M (-2)).2) from (by unfold sp_X9_rival; exact (if_neg c1))))
  · refine r_aload_n (pc := 8) hG dX9_rival_8 rfl ?_
    refine r_iload_n (pc := 9) hG dX9_rival_9 rfl ?_
    refine r_iload_n (pc := 10) hG dX9_rival_10 rfl ?_
    refine r_iload (pc := 11) hG dX9_rival_11 rfl ?_
    refine cv_X9_isThrow (pc := 13)  hG dX9_rival_13 tw_1438 (c_X9_isThrow) (by decide) (Nat.le_of_ble_eq_true rfl) ?_
    refine r_ifz_eq (pc := 16) (tgt := 35) hG dX9_rival_16 (by decide) (fun c2 => ?_) (fun c2 => ?_)
    · refine r_aload_n (pc := 35) hG dX9_rival_35 rfl ?_
      refine r_bipush (pc := 36) hG dX9_rival_36 bc_m2 ?_
      refine cv_X9_no (pc := 38)  hG dX9_rival_38 tw_1273 (c_X9_no (bd_lit (n := 7) (by decide))) (by decide) (Nat.le_of_ble_eq_true rfl) ?_
      exact hret _ _ _ _ dX9_rival_41 (pair_fst (show sp_X9_rival M a0 a1 a2 a3 = ((sp_X9_no M (-2)).1, (sp_X9_no M (-2)).2) from (by unfold sp_X9_rival; exact ((if_pos c1).trans (if_neg c2))))) (pair_snd (show sp_X9_rival M a0 a1 a2 a3 = ((sp_X9_no M (-2)).1, (sp_X9_no M (-2)).2) from (by unfold sp_X9_rival; exact ((if_pos c1).trans (if_neg c2)))))
    · refine r_aload_n (pc := 19) hG dX9_rival_19 rfl ?_
      refine r_aload_n (pc := 20) hG dX9_rival_20 rfl ?_
      refine r_iload_n (pc := 21) hG dX9_rival_21 rfl ?_
      refine r_iload_n (pc := 22) hG dX9_rival_22 rfl ?_
      refine r_iload (pc := 23) hG dX9_rival_23 rfl ?_
      refine cv_X9_landing (pc := 25)  hG dX9_rival_25 tw_1442 (c_X9_landing (isThr5 hwc5 c2)) (by decide) (Nat.le_of_ble_eq_true rfl) ?_
      refine r_iload_n (pc := 28) hG dX9_rival_28 rfl ?_
      refine cv_X9_catcher (pc := 29)  hG dX9_rival_29 tw_1454 (c_X9_catcher hpc5) (by decide) (Nat.le_of_ble_eq_true rfl) ?_
      refine r_goto (pc := 32) (tgt := 41) hG dX9_rival_32 (by decide) ?_
      exact hret _ _ _ _ dX9_rival_41 (pair_fst (show sp_X9_rival M a0 a1 a2 a3 = (sp_X9_catcher M (sp_X9_landing M a1 a2 a3) a0, M) from (by unfold sp_X9_rival; exact ((if_pos c1).trans (if_pos c2))))) (pair_snd (show sp_X9_rival M a0 a1 a2 a3 = (sp_X9_catcher M (sp_X9_landing M a1 a2 a3) a0, M) from (by unfold sp_X9_rival; exact ((if_pos c1).trans (if_pos c2)))))

def sp_X9_lentFor (M : MT) (a0 : Int32) (a1 : Int32) : Int32 × MT :=
  if (sp_X9_isOne M a0) = true then
    if (sp_X9_isWindow M a1) = true then
      if 999 < ((M.1 5 3 1) + (sp_X9_slowTo M a0 (M.1 5 7 (tn a1)))) then
        ((-1), M)
      else
        if (M.1 5 9 (tn a0)) = 5 then
          if (M.1 5 7 (tn a1)) ≤ 1 then
            ((M.1 5 3 1) + (sp_X9_slowTo M a0 (M.1 5 7 (tn a1))), M)
          else
            ((-1), M)
        else
          ((M.1 5 3 1) + (sp_X9_slowTo M a0 (M.1 5 7 (tn a1))), M)
    else
      ((sp_X9_no M (-2)).1, (sp_X9_no M (-2)).2)
  else
    ((sp_X9_no M (-2)).1, (sp_X9_no M (-2)).2)
set_option maxRecDepth 20000 in
theorem c_X9_lentFor {K : KT} {M : MT} {a0 : Int32} {a1 : Int32}  (hokr : OKR M) : CM K 3 yX9_lentFor cX9_lentFor 4 (some FieldType.int) [rf K 140, .int a0, .int a1] M (some (.int (sp_X9_lentFor M a0 a1).1)) (sp_X9_lentFor M a0 a1).2 := by
  refine CM.ofI (by decide) [some (rf K 140), some (.int a0), some (.int a1), none] rfl (Nat.le_of_ble_eq_true rfl) (Nat.le_of_ble_eq_true rfl) (fun G hG _ hret => ?_)
  obtain ⟨hok5, hhl, htp5⟩ := id hokr
  obtain ⟨hwc5, hpc5, ⟨hcl5, hcm5⟩, hwi5, hda5, hle5, hk85, ha85, hW5, hP5⟩ := id hok5
  have hwl5 := bd_lt hwc5
  have hpl5 := bd_lt hpc5
  have hcl5l := bd_lt hcl5
  refine r_aload_n (pc := 0) hG dX9_lentFor_0 rfl ?_
  refine r_iload_n (pc := 1) hG dX9_lentFor_1 rfl ?_
  refine cv_X9_isOne (pc := 2)  hG dX9_lentFor_2 tw_1308 (c_X9_isOne) (by decide) (Nat.le_of_ble_eq_true rfl) ?_
  refine r_ifz_eq (pc := 5) (tgt := 16) hG dX9_lentFor_5 (by decide) (fun c1 => ?_) (fun c1 => ?_)
  · refine r_aload_n (pc := 16) hG dX9_lentFor_16 rfl ?_
    refine r_bipush (pc := 17) hG dX9_lentFor_17 bc_m2 ?_
    refine cv_X9_no (pc := 19)  hG dX9_lentFor_19 tw_1273 (c_X9_no (bd_lit (n := 7) (by decide))) (by decide) (Nat.le_of_ble_eq_true rfl) ?_
    exact hret _ _ _ _ dX9_lentFor_22 (pair_fst (show sp_X9_lentFor M a0 a1 = ((sp_X9_no M (-2)).1, (sp_X9_no M (-2)).2) from (by unfold sp_X9_lentFor; exact (if_neg c1)))) (pair_snd (show sp_X9_lentFor M a0 a1 = ((sp_X9_no M (-2)).1, (sp_X9_no M (-2)).2) from (by unfold sp_X9_lentFor; exact (if_neg c1))))
  · refine r_aload_n (pc := 8) hG dX9_lentFor_8 rfl ?_
    refine r_iload_n (pc := 9) hG dX9_lentFor_9 rfl ?_
    refine cv_X9_isWindow (pc := 10)  hG dX9_lentFor_10 tw_1430 (c_X9_isWindow) (by decide) (Nat.le_of_ble_eq_true rfl) ?_
    refine r_ifz_ne (pc := 13) (tgt := 23) hG dX9_lentFor_13 (by decide) (fun c2 => ?_) (fun c2 => ?_)
    · refine r_aload_n (pc := 23) hG dX9_lentFor_23 rfl ?_
      refine gf_X9_ways (pc := 24)  hG dX9_lentFor_24 tw_1167 ?_
      refine r_iconst (pc := 27) hG dX9_lentFor_27 ic_1 ?_
      refine al_Mways (pc := 28)  hG dX9_lentFor_28 (ix_lit (j := 1) (by decide)) ?_
      refine r_aload_n (pc := 29) hG dX9_lentFor_29 rfl ?_
      refine r_iload_n (pc := 30) hG dX9_lentFor_30 rfl ?_
      refine r_aload_n (pc := 31) hG dX9_lentFor_31 rfl ?_
      refine gf_X9_floor (pc := 32)  hG dX9_lentFor_32 tw_1171 ?_
      refine r_iload_n (pc := 35) hG dX9_lentFor_35 rfl ?_
      refine al_Mfloor (pc := 36)  hG dX9_lentFor_36 (ix_bd (hasW5 hwc5 c2)) ?_
      refine cv_X9_slowTo (pc := 37)  hG dX9_lentFor_37 tw_1319 (c_X9_slowTo (hasP5 hpc5 c1)) (by decide) (Nat.le_of_ble_eq_true rfl) ?_
      refine r_iadd (pc := 40) hG dX9_lentFor_40 ?_
      refine r_istore_n (pc := 41) (ls' := [_, _, _, _]) hG dX9_lentFor_41 rfl rfl ?_
      refine r_iload_n (pc := 42) hG dX9_lentFor_42 rfl ?_
      refine r_sipush (pc := 43) hG dX9_lentFor_43 sc_999 ?_
      refine r_icmp_gt (pc := 46) (tgt := 69) hG dX9_lentFor_46 (by decide) (fun c3 => ?_) (fun c3 => ?_)
      · refine r_iconst (pc := 69) hG dX9_lentFor_69 ic_m1 ?_
        refine r_goto (pc := 70) (tgt := 74) hG dX9_lentFor_70 (by decide) ?_
        exact hret _ _ _ _ dX9_lentFor_74 (pair_fst (show sp_X9_lentFor M a0 a1 = ((-1), M) from (by unfold sp_X9_lentFor; exact ((if_pos c1).trans ((if_pos c2).trans (if_pos c3)))))) (pair_snd (show sp_X9_lentFor M a0 a1 = ((-1), M) from (by unfold sp_X9_lentFor; exact ((if_pos c1).trans ((if_pos c2).trans (if_pos c3))))))
      · refine r_aload_n (pc := 49) hG dX9_lentFor_49 rfl ?_
        refine gf_X9_kind (pc := 50)  hG dX9_lentFor_50 tw_1174 ?_
        refine r_iload_n (pc := 53) hG dX9_lentFor_53 rfl ?_
        refine al_Mkind (pc := 54)  hG dX9_lentFor_54 (ix_bd (hasP5 hpc5 c1)) ?_
        refine r_iconst (pc := 55) hG dX9_lentFor_55 ic_5 ?_
        refine r_icmp_ne (pc := 56) (tgt := 73) hG dX9_lentFor_56 (by decide) (fun c4 => ?_) (fun c4 => ?_)
        · refine r_iload_n (pc := 73) hG dX9_lentFor_73 rfl ?_
          exact hret _ _ _ _ dX9_lentFor_74 (pair_fst (show sp_X9_lentFor M a0 a1 = ((M.1 5 3 1) + (sp_X9_slowTo M a0 (M.1 5 7 (tn a1))), M) from (by unfold sp_X9_lentFor; exact ((if_pos c1).trans ((if_pos c2).trans ((if_neg c3).trans (if_neg c4))))))) (pair_snd (show sp_X9_lentFor M a0 a1 = ((M.1 5 3 1) + (sp_X9_slowTo M a0 (M.1 5 7 (tn a1))), M) from (by unfold sp_X9_lentFor; exact ((if_pos c1).trans ((if_pos c2).trans ((if_neg c3).trans (if_neg c4)))))))
        · refine r_aload_n (pc := 59) hG dX9_lentFor_59 rfl ?_
          refine gf_X9_floor (pc := 60)  hG dX9_lentFor_60 tw_1171 ?_
          refine r_iload_n (pc := 63) hG dX9_lentFor_63 rfl ?_
          refine al_Mfloor (pc := 64)  hG dX9_lentFor_64 (ix_bd (hasW5 hwc5 c2)) ?_
          refine r_iconst (pc := 65) hG dX9_lentFor_65 ic_1 ?_
          refine r_icmp_le (pc := 66) (tgt := 73) hG dX9_lentFor_66 (by decide) (fun c5 => ?_) (fun c5 => ?_)
          · refine r_iload_n (pc := 73) hG dX9_lentFor_73 rfl ?_
            exact hret _ _ _ _ dX9_lentFor_74 (pair_fst (show sp_X9_lentFor M a0 a1 = ((M.1 5 3 1) + (sp_X9_slowTo M a0 (M.1 5 7 (tn a1))), M) from (by unfold sp_X9_lentFor; exact ((if_pos c1).trans ((if_pos c2).trans ((if_neg c3).trans ((if_pos c4).trans (if_pos c5)))))))) (pair_snd (show sp_X9_lentFor M a0 a1 = ((M.1 5 3 1) + (sp_X9_slowTo M a0 (M.1 5 7 (tn a1))), M) from (by unfold sp_X9_lentFor; exact ((if_pos c1).trans ((if_pos c2).trans ((if_neg c3).trans ((if_pos c4).trans (if_pos c5))))))))
          · refine r_iconst (pc := 69) hG dX9_lentFor_69 ic_m1 ?_
            refine r_goto (pc := 70) (tgt := 74) hG dX9_lentFor_70 (by decide) ?_
            exact hret _ _ _ _ dX9_lentFor_74 (pair_fst (show sp_X9_lentFor M a0 a1 = ((-1), M) from (by unfold sp_X9_lentFor; exact ((if_pos c1).trans ((if_pos c2).trans ((if_neg c3).trans ((if_pos c4).trans (if_neg c5)))))))) (pair_snd (show sp_X9_lentFor M a0 a1 = ((-1), M) from (by unfold sp_X9_lentFor; exact ((if_pos c1).trans ((if_pos c2).trans ((if_neg c3).trans ((if_pos c4).trans (if_neg c5))))))))
    · refine r_aload_n (pc := 16) hG dX9_lentFor_16 rfl ?_
      refine r_bipush (pc := 17) hG dX9_lentFor_17 bc_m2 ?_
      refine cv_X9_no (pc := 19)  hG dX9_lentFor_19 tw_1273 (c_X9_no (bd_lit (n := 7) (by decide))) (by decide) (Nat.le_of_ble_eq_true rfl) ?_
      exact hret _ _ _ _ dX9_lentFor_22 (pair_fst (show sp_X9_lentFor M a0 a1 = ((sp_X9_no M (-2)).1, (sp_X9_no M (-2)).2) from (by unfold sp_X9_lentFor; exact ((if_pos c1).trans (if_neg c2))))) (pair_snd (show sp_X9_lentFor M a0 a1 = ((sp_X9_no M (-2)).1, (sp_X9_no M (-2)).2) from (by unfold sp_X9_lentFor; exact ((if_pos c1).trans (if_neg c2)))))

def sp_X9_catches (M : MT) (a0 : Int32) : Int32 × MT :=
  if (sp_X9_isCell M a0) = true then
    (sp_X9_catcher M a0 (-1), M)
  else
    ((sp_X9_no M (-2)).1, (sp_X9_no M (-2)).2)
set_option maxRecDepth 20000 in
theorem c_X9_catches {K : KT} {M : MT} {a0 : Int32}  (hokr : OKR M) : CM K 5 yX9_catches cX9_catches 2 (some FieldType.int) [rf K 140, .int a0] M (some (.int (sp_X9_catches M a0).1)) (sp_X9_catches M a0).2 := by
  refine CM.ofI (by decide) [some (rf K 140), some (.int a0)] rfl (Nat.le_of_ble_eq_true rfl) (Nat.le_of_ble_eq_true rfl) (fun G hG _ hret => ?_)
  obtain ⟨hok5, hhl, htp5⟩ := id hokr
  obtain ⟨hwc5, hpc5, ⟨hcl5, hcm5⟩, hwi5, hda5, hle5, hk85, ha85, hW5, hP5⟩ := id hok5
  have hwl5 := bd_lt hwc5
  have hpl5 := bd_lt hpc5
  have hcl5l := bd_lt hcl5
  refine r_aload_n (pc := 0) hG dX9_catches_0 rfl ?_
  refine r_iload_n (pc := 1) hG dX9_catches_1 rfl ?_
  refine cv_X9_isCell (pc := 2)  hG dX9_catches_2 tw_1331 (c_X9_isCell) (by decide) (Nat.le_of_ble_eq_true rfl) ?_
  refine r_ifz_eq (pc := 5) (tgt := 17) hG dX9_catches_5 (by decide) (fun c1 => ?_) (fun c1 => ?_)
  · refine r_aload_n (pc := 17) hG dX9_catches_17 rfl ?_
    refine r_bipush (pc := 18) hG dX9_catches_18 bc_m2 ?_
    refine cv_X9_no (pc := 20)  hG dX9_catches_20 tw_1273 (c_X9_no (bd_lit (n := 7) (by decide))) (by decide) (Nat.le_of_ble_eq_true rfl) ?_
    exact hret _ _ _ _ dX9_catches_23 (pair_fst (show sp_X9_catches M a0 = ((sp_X9_no M (-2)).1, (sp_X9_no M (-2)).2) from (by unfold sp_X9_catches; exact (if_neg c1)))) (pair_snd (show sp_X9_catches M a0 = ((sp_X9_no M (-2)).1, (sp_X9_no M (-2)).2) from (by unfold sp_X9_catches; exact (if_neg c1))))
  · refine r_aload_n (pc := 8) hG dX9_catches_8 rfl ?_
    refine r_iload_n (pc := 9) hG dX9_catches_9 rfl ?_
    refine r_iconst (pc := 10) hG dX9_catches_10 ic_m1 ?_
    refine cv_X9_catcher (pc := 11)  hG dX9_catches_11 tw_1454 (c_X9_catcher hpc5) (by decide) (Nat.le_of_ble_eq_true rfl) ?_
    refine r_goto (pc := 14) (tgt := 23) hG dX9_catches_14 (by decide) ?_
    exact hret _ _ _ _ dX9_catches_23 (pair_fst (show sp_X9_catches M a0 = (sp_X9_catcher M a0 (-1), M) from (by unfold sp_X9_catches; exact (if_pos c1)))) (pair_snd (show sp_X9_catches M a0 = (sp_X9_catcher M a0 (-1), M) from (by unfold sp_X9_catches; exact (if_pos c1))))

def sp_X9_between (M : MT) (a0 : Int32) (a1 : Int32) : Int32 × MT :=
  if (sp_X9_isWindow M a0) = true then
    if (sp_X9_isWindow M a1) = true then
      ((sp_X9_openTo M a0) &&& (sp_X9_openTo M a1), M)
    else
      ((sp_X9_no M (-2)).1, (sp_X9_no M (-2)).2)
  else
    ((sp_X9_no M (-2)).1, (sp_X9_no M (-2)).2)
set_option maxRecDepth 20000 in
theorem c_X9_between {K : KT} {M : MT} {a0 : Int32} {a1 : Int32}  (hokr : OKR M) : CM K 5 yX9_between cX9_between 3 (some FieldType.int) [rf K 140, .int a0, .int a1] M (some (.int (sp_X9_between M a0 a1).1)) (sp_X9_between M a0 a1).2 := by
  refine CM.ofI (by decide) [some (rf K 140), some (.int a0), some (.int a1)] rfl (Nat.le_of_ble_eq_true rfl) (Nat.le_of_ble_eq_true rfl) (fun G hG _ hret => ?_)
  obtain ⟨hok5, hhl, htp5⟩ := id hokr
  obtain ⟨hwc5, hpc5, ⟨hcl5, hcm5⟩, hwi5, hda5, hle5, hk85, ha85, hW5, hP5⟩ := id hok5
  have hwl5 := bd_lt hwc5
  have hpl5 := bd_lt hpc5
  have hcl5l := bd_lt hcl5
  refine r_aload_n (pc := 0) hG dX9_between_0 rfl ?_
  refine r_iload_n (pc := 1) hG dX9_between_1 rfl ?_
  refine cv_X9_isWindow (pc := 2)  hG dX9_between_2 tw_1430 (c_X9_isWindow) (by decide) (Nat.le_of_ble_eq_true rfl) ?_
  refine r_ifz_eq (pc := 5) (tgt := 30) hG dX9_between_5 (by decide) (fun c1 => ?_) (fun c1 => ?_)
  · refine r_aload_n (pc := 30) hG dX9_between_30 rfl ?_
    refine r_bipush (pc := 31) hG dX9_between_31 bc_m2 ?_
    refine cv_X9_no (pc := 33)  hG dX9_between_33 tw_1273 (c_X9_no (bd_lit (n := 7) (by decide))) (by decide) (Nat.le_of_ble_eq_true rfl) ?_
    exact hret _ _ _ _ dX9_between_36 (pair_fst (show sp_X9_between M a0 a1 = ((sp_X9_no M (-2)).1, (sp_X9_no M (-2)).2) from (by unfold sp_X9_between; exact (if_neg c1)))) (pair_snd (show sp_X9_between M a0 a1 = ((sp_X9_no M (-2)).1, (sp_X9_no M (-2)).2) from (by unfold sp_X9_between; exact (if_neg c1))))
  · refine r_aload_n (pc := 8) hG dX9_between_8 rfl ?_
    refine r_iload_n (pc := 9) hG dX9_between_9 rfl ?_
    refine cv_X9_isWindow (pc := 10)  hG dX9_between_10 tw_1430 (c_X9_isWindow) (by decide) (Nat.le_of_ble_eq_true rfl) ?_
    refine r_ifz_eq (pc := 13) (tgt := 30) hG dX9_between_13 (by decide) (fun c2 => ?_) (fun c2 => ?_)
    · refine r_aload_n (pc := 30) hG dX9_between_30 rfl ?_
      refine r_bipush (pc := 31) hG dX9_between_31 bc_m2 ?_
      refine cv_X9_no (pc := 33)  hG dX9_between_33 tw_1273 (c_X9_no (bd_lit (n := 7) (by decide))) (by decide) (Nat.le_of_ble_eq_true rfl) ?_
      exact hret _ _ _ _ dX9_between_36 (pair_fst (show sp_X9_between M a0 a1 = ((sp_X9_no M (-2)).1, (sp_X9_no M (-2)).2) from (by unfold sp_X9_between; exact ((if_pos c1).trans (if_neg c2))))) (pair_snd (show sp_X9_between M a0 a1 = ((sp_X9_no M (-2)).1, (sp_X9_no M (-2)).2) from (by unfold sp_X9_between; exact ((if_pos c1).trans (if_neg c2)))))
    · refine r_aload_n (pc := 16) hG dX9_between_16 rfl ?_
      refine r_iload_n (pc := 17) hG dX9_between_17 rfl ?_
      refine cv_X9_openTo (pc := 18)  hG dX9_between_18 tw_1495 (c_X9_openTo (hasW5 hwc5 c1)) (by decide) (Nat.le_of_ble_eq_true rfl) ?_
      refine r_aload_n (pc := 21) hG dX9_between_21 rfl ?_
      refine r_iload_n (pc := 22) hG dX9_between_22 rfl ?_
      refine cv_X9_openTo (pc := 23)  hG dX9_between_23 tw_1495 (c_X9_openTo (hasW5 hwc5 c2)) (by decide) (Nat.le_of_ble_eq_true rfl) ?_
      refine r_iand (pc := 26) hG dX9_between_26 ?_
      refine r_goto (pc := 27) (tgt := 36) hG dX9_between_27 (by decide) ?_
      exact hret _ _ _ _ dX9_between_36 (pair_fst (show sp_X9_between M a0 a1 = ((sp_X9_openTo M a0) &&& (sp_X9_openTo M a1), M) from (by unfold sp_X9_between; exact ((if_pos c1).trans (if_pos c2))))) (pair_snd (show sp_X9_between M a0 a1 = ((sp_X9_openTo M a0) &&& (sp_X9_openTo M a1), M) from (by unfold sp_X9_between; exact ((if_pos c1).trans (if_pos c2)))))

def sp_X9_seed (M : MT) (a0 : Int32) : Int32 × MT :=
  (M.1 5 5 0, u1 M 5 5 0 a0)
set_option maxRecDepth 20000 in
theorem c_X9_seed {K : KT} {M : MT} {a0 : Int32}  (hokr : OKR M) : CM K 1 yX9_seed cX9_seed 3 (some FieldType.int) [rf K 140, .int a0] M (some (.int (sp_X9_seed M a0).1)) (sp_X9_seed M a0).2 := by
  refine CM.ofI (by decide) [some (rf K 140), some (.int a0), none] rfl (Nat.le_of_ble_eq_true rfl) (Nat.le_of_ble_eq_true rfl) (fun G hG _ hret => ?_)
  obtain ⟨hok5, hhl, htp5⟩ := id hokr
  obtain ⟨hwc5, hpc5, ⟨hcl5, hcm5⟩, hwi5, hda5, hle5, hk85, ha85, hW5, hP5⟩ := id hok5
  have hwl5 := bd_lt hwc5
  have hpl5 := bd_lt hpc5
  have hcl5l := bd_lt hcl5
  refine r_aload_n (pc := 0) hG dX9_seed_0 rfl ?_
  refine gf_X9_seed (pc := 1)  hG dX9_seed_1 tw_1179 ?_
  refine r_istore_n (pc := 4) (ls' := [_, _, _]) hG dX9_seed_4 rfl rfl ?_
  refine r_aload_n (pc := 5) hG dX9_seed_5 rfl ?_
  refine r_iload_n (pc := 6) hG dX9_seed_6 rfl ?_
  refine pf_X9_seed (pc := 7)  hG dX9_seed_7 tw_1179 ?_
  refine r_iload_n (pc := 10) hG dX9_seed_10 rfl ?_
  exact hret _ _ _ _ dX9_seed_11 (pair_fst (show sp_X9_seed M a0 = (M.1 5 5 0, u1 M 5 5 0 a0) from (by unfold sp_X9_seed; exact rfl))) (pair_snd (show sp_X9_seed M a0 = (M.1 5 5 0, u1 M 5 5 0 a0) from (by unfold sp_X9_seed; exact rfl)))

def st_X9_off_19 (M : MT) (a0 : Int32) (i : Nat) (b19 : Int32) : Int32 :=
  if (sp_X9_landing M a0 ((nI i) / 3) (irm (nI i) 3)) = (-1) then
    b19 + 1
  else
    b19
def sp_X9_off (M : MT) (a0 : Int32) : Int32 × MT :=
  if (sp_X9_isWindow M a0) = true then
    (itN 30 (st_X9_off_19 M a0) 0, M)
  else
    ((sp_X9_no M (-2)).1, (sp_X9_no M (-2)).2)
set_option maxRecDepth 20000 in
theorem c_X9_off {K : KT} {M : MT} {a0 : Int32}  (hokr : OKR M) : CM K 4 yX9_off cX9_off 4 (some FieldType.int) [rf K 140, .int a0] M (some (.int (sp_X9_off M a0).1)) (sp_X9_off M a0).2 := by
  refine CM.ofI (by decide) [some (rf K 140), some (.int a0), none, none] rfl (Nat.le_of_ble_eq_true rfl) (Nat.le_of_ble_eq_true rfl) (fun G hG _ hret => ?_)
  obtain ⟨hok5, hhl, htp5⟩ := id hokr
  obtain ⟨hwc5, hpc5, ⟨hcl5, hcm5⟩, hwi5, hda5, hle5, hk85, ha85, hW5, hP5⟩ := id hok5
  have hwl5 := bd_lt hwc5
  have hpl5 := bd_lt hpc5
  have hcl5l := bd_lt hcl5
  refine r_aload_n (pc := 0) hG dX9_off_0 rfl ?_
  refine r_iload_n (pc := 1) hG dX9_off_1 rfl ?_
  refine cv_X9_isWindow (pc := 2)  hG dX9_off_2 tw_1430 (c_X9_isWindow) (by decide) (Nat.le_of_ble_eq_true rfl) ?_
  refine r_ifz_ne (pc := 5) (tgt := 15) hG dX9_off_5 (by decide) (fun c1 => ?_) (fun c1 => ?_)
  · refine r_iconst (pc := 15) hG dX9_off_15 ic_0 ?_
    refine r_istore_n (pc := 16) (ls' := [_, _, _, _]) hG dX9_off_16 rfl rfl ?_
    refine r_iconst (pc := 17) hG dX9_off_17 ic_0 ?_
    refine r_istore_n (pc := 18) (ls' := [_, _, _, _]) hG dX9_off_18 rfl rfl ?_
    have lp19 : ∀ i, i ≤ 30 → ∀ b19 : Int32, b19 = itN i (st_X9_off_19 M a0) 0 → J G K M 19 [some (rf K 140), some (.int a0), some (.int b19), some (.int (nI i))] [] := by
      refine up_ind 30 (fun i hi19 ih19 => ?_)
      intro b19 hg19
      refine r_iload_n (pc := 19) hG dX9_off_19 rfl ?_
      refine r_bipush (pc := 20) hG dX9_off_20 bc_30 ?_
      refine r_icmp_ge (pc := 22) (tgt := 49) hG dX9_off_22 (by decide) (fun c2 => ?_) (fun c2 => ?_)
      · have e19 : i = 30 := by have := (le_nI (k := 30) (i := i) (Nat.le_of_ble_eq_true rfl) (by omega)).mp c2; omega
        subst hg19
        subst e19
        refine r_iload_n (pc := 49) hG dX9_off_49 rfl ?_
        exact hret _ _ _ _ dX9_off_50 (pair_fst (show sp_X9_off M a0 = (itN 30 (st_X9_off_19 M a0) 0, M) from (by unfold sp_X9_off; exact (if_pos c1)))) (pair_snd (show sp_X9_off M a0 = (itN 30 (st_X9_off_19 M a0) 0, M) from (by unfold sp_X9_off; exact (if_pos c1))))
      · have hl19 : i < 30 := by have := mt (le_nI (k := 30) (i := i) (Nat.le_of_ble_eq_true rfl) (by omega)).mpr c2; omega
        refine r_aload_n (pc := 25) hG dX9_off_25 rfl ?_
        refine r_iload_n (pc := 26) hG dX9_off_26 rfl ?_
        refine r_iload_n (pc := 27) hG dX9_off_27 rfl ?_
        refine r_iconst (pc := 28) hG dX9_off_28 ic_3 ?_
        refine r_idiv (pc := 29) hG dX9_off_29 (by decide) ?_
        refine r_iload_n (pc := 30) hG dX9_off_30 rfl ?_
        refine r_iconst (pc := 31) hG dX9_off_31 ic_3 ?_
        refine r_irem (pc := 32) hG dX9_off_32 (by decide) ?_
        refine cv_X9_landing (pc := 33)  hG dX9_off_33 tw_1442 (c_X9_landing (hasW5 hwc5 c1)) (by decide) (Nat.le_of_ble_eq_true rfl) ?_
        refine r_iconst (pc := 36) hG dX9_off_36 ic_m1 ?_
        refine r_icmp_ne (pc := 37) (tgt := 43) hG dX9_off_37 (by decide) (fun c3 => ?_) (fun c3 => ?_)
        · refine r_iinc (pc := 43) (v := nI (i + 1)) (ls' := [_, _, _, _]) hG dX9_off_43 rfl (nI_1 _) rfl rfl ?_
          refine r_goto (pc := 46) (tgt := 19) hG dX9_off_46 (by decide) ?_
          have eN19 : b19 = st_X9_off_19 M a0 i (itN i (st_X9_off_19 M a0) 0) := by rw [← hg19]; unfold st_X9_off_19; exact Eq.symm (if_neg c3)
          refine J.wk (ls' := [some (rf K 140), some (.int a0), some (.int b19), some (.int (nI (i + 1)))]) ?_ (Eq.refl 4) (wk_s rfl (wk_s rfl (wk_s rfl (wk_s rfl wk_0))))
          exact ih19 hl19 b19 eN19
        · refine r_iinc (pc := 40) (v := b19 + 1) (ls' := [_, _, _, _]) hG dX9_off_40 rfl rfl rfl rfl ?_
          refine r_iinc (pc := 43) (v := nI (i + 1)) (ls' := [_, _, _, _]) hG dX9_off_43 rfl (nI_1 _) rfl rfl ?_
          refine r_goto (pc := 46) (tgt := 19) hG dX9_off_46 (by decide) ?_
          have eN19 : b19 + 1 = st_X9_off_19 M a0 i (itN i (st_X9_off_19 M a0) 0) := by rw [← hg19]; unfold st_X9_off_19; exact Eq.symm (if_pos c3)
          refine J.wk (ls' := [some (rf K 140), some (.int a0), some (.int (b19 + 1)), some (.int (nI (i + 1)))]) ?_ (Eq.refl 4) (wk_s rfl (wk_s rfl (wk_s rfl (wk_s rfl wk_0))))
          exact ih19 hl19 (b19 + 1) eN19
    exact (lp19 0 (Nat.zero_le _) _ rfl).wk (Eq.refl 4) (wk_s rfl (wk_s rfl (wk_s rfl (wk_s rfl wk_0))))
  · refine r_aload_n (pc := 8) hG dX9_off_8 rfl ?_
    refine r_bipush (pc := 9) hG dX9_off_9 bc_m2 ?_
    refine cv_X9_no (pc := 11)  hG dX9_off_11 tw_1273 (c_X9_no (bd_lit (n := 7) (by decide))) (by decide) (Nat.le_of_ble_eq_true rfl) ?_
    exact hret _ _ _ _ dX9_off_14 (pair_fst (show sp_X9_off M a0 = ((sp_X9_no M (-2)).1, (sp_X9_no M (-2)).2) from (by unfold sp_X9_off; exact (if_neg c1)))) (pair_snd (show sp_X9_off M a0 = ((sp_X9_no M (-2)).1, (sp_X9_no M (-2)).2) from (by unfold sp_X9_off; exact (if_neg c1))))

def st_X9_gaps_4 (M : MT) (i : Nat) (b4 : Int32) : Int32 :=
  if (sp_X9_catcher M (nI i) (-1)) = (-1) then
    b4 ||| (1 <<< ((nI i) &&& 31))
  else
    b4
def sp_X9_gaps (M : MT) : Int32 × MT :=
  (itN (tn (M.1 5 2 0)) (st_X9_gaps_4 M) 0, M)
set_option maxRecDepth 20000 in
theorem c_X9_gaps {K : KT} {M : MT}   (hokr : OKR M) : CM K 5 yX9_gaps cX9_gaps 3 (some FieldType.int) [rf K 140] M (some (.int (sp_X9_gaps M).1)) (sp_X9_gaps M).2 := by
  refine CM.ofI (by decide) [some (rf K 140), none, none] rfl (Nat.le_of_ble_eq_true rfl) (Nat.le_of_ble_eq_true rfl) (fun G hG _ hret => ?_)
  obtain ⟨hok5, hhl, htp5⟩ := id hokr
  obtain ⟨hwc5, hpc5, ⟨hcl5, hcm5⟩, hwi5, hda5, hle5, hk85, ha85, hW5, hP5⟩ := id hok5
  have hwl5 := bd_lt hwc5
  have hpl5 := bd_lt hpc5
  have hcl5l := bd_lt hcl5
  refine r_iconst (pc := 0) hG dX9_gaps_0 ic_0 ?_
  refine r_istore_n (pc := 1) (ls' := [_, _, _]) hG dX9_gaps_1 rfl rfl ?_
  refine r_iconst (pc := 2) hG dX9_gaps_2 ic_0 ?_
  refine r_istore_n (pc := 3) (ls' := [_, _, _]) hG dX9_gaps_3 rfl rfl ?_
  have hb4 : bd (M.1 5 2 0) 31 := hcl5
  have hb4l := bd_lt hb4
  have lp4 : ∀ i, i ≤ (tn (M.1 5 2 0)) → ∀ b4 : Int32, b4 = itN i (st_X9_gaps_4 M) 0 → J G K M 4 [some (rf K 140), some (.int b4), some (.int (nI i))] [] := by
    refine up_ind (tn (M.1 5 2 0)) (fun i hi4 ih4 => ?_)
    intro b4 hg4
    refine r_iload_n (pc := 4) hG dX9_gaps_4 rfl ?_
    refine r_aload_n (pc := 5) hG dX9_gaps_5 rfl ?_
    refine gf_X9_n (pc := 6)  hG dX9_gaps_6 tw_1166 ?_
    refine r_icmp_ge (pc := 9) (tgt := 34) hG dX9_gaps_9 (by decide) (fun c1 => ?_) (fun c1 => ?_)
    · have e4 : i = (tn (M.1 5 2 0)) := by have := (bd_le hb4 (by omega)).mp c1; omega
      subst hg4
      subst e4
      refine r_iload_n (pc := 34) hG dX9_gaps_34 rfl ?_
      exact hret _ _ _ _ dX9_gaps_35 (pair_fst (show sp_X9_gaps M = (itN (tn (M.1 5 2 0)) (st_X9_gaps_4 M) 0, M) from (by unfold sp_X9_gaps; exact rfl))) (pair_snd (show sp_X9_gaps M = (itN (tn (M.1 5 2 0)) (st_X9_gaps_4 M) 0, M) from (by unfold sp_X9_gaps; exact rfl)))
    · have hl4 : i < (tn (M.1 5 2 0)) := by have := mt (bd_le hb4 (by omega)).mpr c1; omega
      refine r_aload_n (pc := 12) hG dX9_gaps_12 rfl ?_
      refine r_iload_n (pc := 13) hG dX9_gaps_13 rfl ?_
      refine r_iconst (pc := 14) hG dX9_gaps_14 ic_m1 ?_
      refine cv_X9_catcher (pc := 15)  hG dX9_gaps_15 tw_1454 (c_X9_catcher hpc5) (by decide) (Nat.le_of_ble_eq_true rfl) ?_
      refine r_iconst (pc := 18) hG dX9_gaps_18 ic_m1 ?_
      refine r_icmp_ne (pc := 19) (tgt := 28) hG dX9_gaps_19 (by decide) (fun c2 => ?_) (fun c2 => ?_)
      · refine r_iinc (pc := 28) (v := nI (i + 1)) (ls' := [_, _, _]) hG dX9_gaps_28 rfl (nI_1 _) rfl rfl ?_
        refine r_goto (pc := 31) (tgt := 4) hG dX9_gaps_31 (by decide) ?_
        have eN4 : b4 = st_X9_gaps_4 M i (itN i (st_X9_gaps_4 M) 0) := by rw [← hg4]; unfold st_X9_gaps_4; exact Eq.symm (if_neg c2)
        refine J.wk (ls' := [some (rf K 140), some (.int b4), some (.int (nI (i + 1)))]) ?_ (Eq.refl 3) (wk_s rfl (wk_s rfl (wk_s rfl wk_0)))
        exact ih4 hl4 b4 eN4
      · refine r_iload_n (pc := 22) hG dX9_gaps_22 rfl ?_
        refine r_iconst (pc := 23) hG dX9_gaps_23 ic_1 ?_
        refine r_iload_n (pc := 24) hG dX9_gaps_24 rfl ?_
        refine r_ishl (pc := 25) hG dX9_gaps_25 ?_
        refine r_ior (pc := 26) hG dX9_gaps_26 ?_
        refine r_istore_n (pc := 27) (ls' := [_, _, _]) hG dX9_gaps_27 rfl rfl ?_
        refine r_iinc (pc := 28) (v := nI (i + 1)) (ls' := [_, _, _]) hG dX9_gaps_28 rfl (nI_1 _) rfl rfl ?_
        refine r_goto (pc := 31) (tgt := 4) hG dX9_gaps_31 (by decide) ?_
        have eN4 : b4 ||| (1 <<< ((nI i) &&& 31)) = st_X9_gaps_4 M i (itN i (st_X9_gaps_4 M) 0) := by rw [← hg4]; unfold st_X9_gaps_4; exact Eq.symm (if_pos c2)
        refine J.wk (ls' := [some (rf K 140), some (.int (b4 ||| (1 <<< ((nI i) &&& 31)))), some (.int (nI (i + 1)))]) ?_ (Eq.refl 3) (wk_s rfl (wk_s rfl (wk_s rfl wk_0)))
        exact ih4 hl4 (b4 ||| (1 <<< ((nI i) &&& 31))) eN4
  exact (lp4 0 (Nat.zero_le _) _ rfl).wk (Eq.refl 3) (wk_s rfl (wk_s rfl (wk_s rfl wk_0)))

def st_X9_reached_19 (M : MT) (a0 : Int32) (i : Nat) (b19 : Int32) : Int32 :=
  if (sp_X9_reach M (nI i)) < (sp_X9_away M (nI i) a0) then
    b19
  else
    b19 ||| (1 <<< ((nI i) &&& 31))
def sp_X9_reached (M : MT) (a0 : Int32) : Int32 × MT :=
  if (sp_X9_isCell M a0) = true then
    (itN (tn (M.1 5 1 0)) (st_X9_reached_19 M a0) 0, M)
  else
    ((sp_X9_no M (-2)).1, (sp_X9_no M (-2)).2)
set_option maxRecDepth 20000 in
theorem c_X9_reached {K : KT} {M : MT} {a0 : Int32}  (hokr : OKR M) : CM K 3 yX9_reached cX9_reached 4 (some FieldType.int) [rf K 140, .int a0] M (some (.int (sp_X9_reached M a0).1)) (sp_X9_reached M a0).2 := by
  refine CM.ofI (by decide) [some (rf K 140), some (.int a0), none, none] rfl (Nat.le_of_ble_eq_true rfl) (Nat.le_of_ble_eq_true rfl) (fun G hG _ hret => ?_)
  obtain ⟨hok5, hhl, htp5⟩ := id hokr
  obtain ⟨hwc5, hpc5, ⟨hcl5, hcm5⟩, hwi5, hda5, hle5, hk85, ha85, hW5, hP5⟩ := id hok5
  have hwl5 := bd_lt hwc5
  have hpl5 := bd_lt hpc5
  have hcl5l := bd_lt hcl5
  refine r_aload_n (pc := 0) hG dX9_reached_0 rfl ?_
  refine r_iload_n (pc := 1) hG dX9_reached_1 rfl ?_
  refine cv_X9_isCell (pc := 2)  hG dX9_reached_2 tw_1331 (c_X9_isCell) (by decide) (Nat.le_of_ble_eq_true rfl) ?_
  refine r_ifz_ne (pc := 5) (tgt := 15) hG dX9_reached_5 (by decide) (fun c1 => ?_) (fun c1 => ?_)
  · refine r_iconst (pc := 15) hG dX9_reached_15 ic_0 ?_
    refine r_istore_n (pc := 16) (ls' := [_, _, _, _]) hG dX9_reached_16 rfl rfl ?_
    refine r_iconst (pc := 17) hG dX9_reached_17 ic_0 ?_
    refine r_istore_n (pc := 18) (ls' := [_, _, _, _]) hG dX9_reached_18 rfl rfl ?_
    have hb19 : bd (M.1 5 1 0) 9 := hpc5
    have hb19l := bd_lt hb19
    have lp19 : ∀ i, i ≤ (tn (M.1 5 1 0)) → ∀ b19 : Int32, b19 = itN i (st_X9_reached_19 M a0) 0 → J G K M 19 [some (rf K 140), some (.int a0), some (.int b19), some (.int (nI i))] [] := by
      refine up_ind (tn (M.1 5 1 0)) (fun i hi19 ih19 => ?_)
      intro b19 hg19
      refine r_iload_n (pc := 19) hG dX9_reached_19 rfl ?_
      refine r_aload_n (pc := 20) hG dX9_reached_20 rfl ?_
      refine gf_X9_people (pc := 21)  hG dX9_reached_21 tw_1173 ?_
      refine r_icmp_ge (pc := 24) (tgt := 53) hG dX9_reached_24 (by decide) (fun c2 => ?_) (fun c2 => ?_)
      · have e19 : i = (tn (M.1 5 1 0)) := by have := (bd_le hb19 (by omega)).mp c2; omega
        subst hg19
        subst e19
        refine r_iload_n (pc := 53) hG dX9_reached_53 rfl ?_
        exact hret _ _ _ _ dX9_reached_54 (pair_fst (show sp_X9_reached M a0 = (itN (tn (M.1 5 1 0)) (st_X9_reached_19 M a0) 0, M) from (by unfold sp_X9_reached; exact (if_pos c1)))) (pair_snd (show sp_X9_reached M a0 = (itN (tn (M.1 5 1 0)) (st_X9_reached_19 M a0) 0, M) from (by unfold sp_X9_reached; exact (if_pos c1))))
      · have hl19 : i < (tn (M.1 5 1 0)) := by have := mt (bd_le hb19 (by omega)).mpr c2; omega
        refine r_aload_n (pc := 27) hG dX9_reached_27 rfl ?_
        refine r_iload_n (pc := 28) hG dX9_reached_28 rfl ?_
        refine r_iload_n (pc := 29) hG dX9_reached_29 rfl ?_
        refine cv_X9_away (pc := 30)  hG dX9_reached_30 tw_1462 (c_X9_away (bd_nI (by omega) (Nat.le_of_ble_eq_true rfl))) (by decide) (Nat.le_of_ble_eq_true rfl) ?_
        refine r_aload_n (pc := 33) hG dX9_reached_33 rfl ?_
        refine r_iload_n (pc := 34) hG dX9_reached_34 rfl ?_
        refine cv_X9_reach (pc := 35)  hG dX9_reached_35 tw_1422 (c_X9_reach (bd_nI (by omega) (Nat.le_of_ble_eq_true rfl))) (by decide) (Nat.le_of_ble_eq_true rfl) ?_
        refine r_icmp_gt (pc := 38) (tgt := 47) hG dX9_reached_38 (by decide) (fun c3 => ?_) (fun c3 => ?_)
        · refine r_iinc (pc := 47) (v := nI (i + 1)) (ls' := [_, _, _, _]) hG dX9_reached_47 rfl (nI_1 _) rfl rfl ?_
          refine r_goto (pc := 50) (tgt := 19) hG dX9_reached_50 (by decide) ?_
          have eN19 : b19 = st_X9_reached_19 M a0 i (itN i (st_X9_reached_19 M a0) 0) := by rw [← hg19]; unfold st_X9_reached_19; exact Eq.symm (if_pos c3)
          refine J.wk (ls' := [some (rf K 140), some (.int a0), some (.int b19), some (.int (nI (i + 1)))]) ?_ (Eq.refl 4) (wk_s rfl (wk_s rfl (wk_s rfl (wk_s rfl wk_0))))
          exact ih19 hl19 b19 eN19
        · refine r_iload_n (pc := 41) hG dX9_reached_41 rfl ?_
          refine r_iconst (pc := 42) hG dX9_reached_42 ic_1 ?_
          refine r_iload_n (pc := 43) hG dX9_reached_43 rfl ?_
          refine r_ishl (pc := 44) hG dX9_reached_44 ?_
          refine r_ior (pc := 45) hG dX9_reached_45 ?_
          refine r_istore_n (pc := 46) (ls' := [_, _, _, _]) hG dX9_reached_46 rfl rfl ?_
          refine r_iinc (pc := 47) (v := nI (i + 1)) (ls' := [_, _, _, _]) hG dX9_reached_47 rfl (nI_1 _) rfl rfl ?_
          refine r_goto (pc := 50) (tgt := 19) hG dX9_reached_50 (by decide) ?_
          have eN19 : b19 ||| (1 <<< ((nI i) &&& 31)) = st_X9_reached_19 M a0 i (itN i (st_X9_reached_19 M a0) 0) := by rw [← hg19]; unfold st_X9_reached_19; exact Eq.symm (if_neg c3)
          refine J.wk (ls' := [some (rf K 140), some (.int a0), some (.int (b19 ||| (1 <<< ((nI i) &&& 31)))), some (.int (nI (i + 1)))]) ?_ (Eq.refl 4) (wk_s rfl (wk_s rfl (wk_s rfl (wk_s rfl wk_0))))
          exact ih19 hl19 (b19 ||| (1 <<< ((nI i) &&& 31))) eN19
    exact (lp19 0 (Nat.zero_le _) _ rfl).wk (Eq.refl 4) (wk_s rfl (wk_s rfl (wk_s rfl (wk_s rfl wk_0))))
  · refine r_aload_n (pc := 8) hG dX9_reached_8 rfl ?_
    refine r_bipush (pc := 9) hG dX9_reached_9 bc_m2 ?_
    refine cv_X9_no (pc := 11)  hG dX9_reached_11 tw_1273 (c_X9_no (bd_lit (n := 7) (by decide))) (by decide) (Nat.le_of_ble_eq_true rfl) ?_
    exact hret _ _ _ _ dX9_reached_14 (pair_fst (show sp_X9_reached M a0 = ((sp_X9_no M (-2)).1, (sp_X9_no M (-2)).2) from (by unfold sp_X9_reached; exact (if_neg c1)))) (pair_snd (show sp_X9_reached M a0 = ((sp_X9_no M (-2)).1, (sp_X9_no M (-2)).2) from (by unfold sp_X9_reached; exact (if_neg c1))))

def st_X9_ofKind_20 (M : MT) (a0 : Int32) (i : Nat) (b20 : Int32) : Int32 :=
  if (M.1 5 9 i) = a0 then
    b20 + 1
  else
    b20
def sp_X9_ofKind (M : MT) (a0 : Int32) : Int32 × MT :=
  if (sp_X9_within a0 0 5) = true then
    (itN (tn (M.1 5 1 0)) (st_X9_ofKind_20 M a0) 0, M)
  else
    ((sp_X9_no M (-2)).1, (sp_X9_no M (-2)).2)
set_option maxRecDepth 20000 in
theorem c_X9_ofKind {K : KT} {M : MT} {a0 : Int32}  (hokr : OKR M) : CM K 2 yX9_ofKind cX9_ofKind 4 (some FieldType.int) [rf K 140, .int a0] M (some (.int (sp_X9_ofKind M a0).1)) (sp_X9_ofKind M a0).2 := by
  refine CM.ofI (by decide) [some (rf K 140), some (.int a0), none, none] rfl (Nat.le_of_ble_eq_true rfl) (Nat.le_of_ble_eq_true rfl) (fun G hG _ hret => ?_)
  obtain ⟨hok5, hhl, htp5⟩ := id hokr
  obtain ⟨hwc5, hpc5, ⟨hcl5, hcm5⟩, hwi5, hda5, hle5, hk85, ha85, hW5, hP5⟩ := id hok5
  have hwl5 := bd_lt hwc5
  have hpl5 := bd_lt hpc5
  have hcl5l := bd_lt hcl5
  refine r_iload_n (pc := 0) hG dX9_ofKind_0 rfl ?_
  refine r_iconst (pc := 1) hG dX9_ofKind_1 ic_0 ?_
  refine r_iconst (pc := 2) hG dX9_ofKind_2 ic_5 ?_
  refine cs_X9_within (pc := 3)  hG dX9_ofKind_3 tw_1270 (c_X9_within) (by decide) (Nat.le_of_ble_eq_true rfl) ?_
  refine r_ifz_ne (pc := 6) (tgt := 16) hG dX9_ofKind_6 (by decide) (fun c1 => ?_) (fun c1 => ?_)
  · refine r_iconst (pc := 16) hG dX9_ofKind_16 ic_0 ?_
    refine r_istore_n (pc := 17) (ls' := [_, _, _, _]) hG dX9_ofKind_17 rfl rfl ?_
    refine r_iconst (pc := 18) hG dX9_ofKind_18 ic_0 ?_
    refine r_istore_n (pc := 19) (ls' := [_, _, _, _]) hG dX9_ofKind_19 rfl rfl ?_
    have hb20 : bd (M.1 5 1 0) 9 := hpc5
    have hb20l := bd_lt hb20
    have lp20 : ∀ i, i ≤ (tn (M.1 5 1 0)) → ∀ b20 : Int32, b20 = itN i (st_X9_ofKind_20 M a0) 0 → J G K M 20 [some (rf K 140), some (.int a0), some (.int b20), some (.int (nI i))] [] := by
      refine up_ind (tn (M.1 5 1 0)) (fun i hi20 ih20 => ?_)
      intro b20 hg20
      refine r_iload_n (pc := 20) hG dX9_ofKind_20 rfl ?_
      refine r_aload_n (pc := 21) hG dX9_ofKind_21 rfl ?_
      refine gf_X9_people (pc := 22)  hG dX9_ofKind_22 tw_1173 ?_
      refine r_icmp_ge (pc := 25) (tgt := 47) hG dX9_ofKind_25 (by decide) (fun c2 => ?_) (fun c2 => ?_)
      · have e20 : i = (tn (M.1 5 1 0)) := by have := (bd_le hb20 (by omega)).mp c2; omega
        subst hg20
        subst e20
        refine r_iload_n (pc := 47) hG dX9_ofKind_47 rfl ?_
        exact hret _ _ _ _ dX9_ofKind_48 (pair_fst (show sp_X9_ofKind M a0 = (itN (tn (M.1 5 1 0)) (st_X9_ofKind_20 M a0) 0, M) from (by unfold sp_X9_ofKind; exact (if_pos c1)))) (pair_snd (show sp_X9_ofKind M a0 = (itN (tn (M.1 5 1 0)) (st_X9_ofKind_20 M a0) 0, M) from (by unfold sp_X9_ofKind; exact (if_pos c1))))
      · have hl20 : i < (tn (M.1 5 1 0)) := by have := mt (bd_le hb20 (by omega)).mpr c2; omega
        refine r_aload_n (pc := 28) hG dX9_ofKind_28 rfl ?_
        refine gf_X9_kind (pc := 29)  hG dX9_ofKind_29 tw_1174 ?_
        refine r_iload_n (pc := 32) hG dX9_ofKind_32 rfl ?_
        refine al_Mkind (pc := 33)  hG dX9_ofKind_33 (ix_nI (by omega) (Nat.le_of_ble_eq_true rfl)) ?_
        refine r_iload_n (pc := 34) hG dX9_ofKind_34 rfl ?_
        refine r_icmp_ne (pc := 35) (tgt := 41) hG dX9_ofKind_35 (by decide) (fun c3 => ?_) (fun c3 => ?_)
        · refine r_iinc (pc := 41) (v := nI (i + 1)) (ls' := [_, _, _, _]) hG dX9_ofKind_41 rfl (nI_1 _) rfl rfl ?_
          refine r_goto (pc := 44) (tgt := 20) hG dX9_ofKind_44 (by decide) ?_
          have eN20 : b20 = st_X9_ofKind_20 M a0 i (itN i (st_X9_ofKind_20 M a0) 0) := by rw [← hg20]; unfold st_X9_ofKind_20; exact Eq.symm (if_neg c3)
          refine J.wk (ls' := [some (rf K 140), some (.int a0), some (.int b20), some (.int (nI (i + 1)))]) ?_ (Eq.refl 4) (wk_s rfl (wk_s rfl (wk_s rfl (wk_s rfl wk_0))))
          exact ih20 hl20 b20 eN20
        · refine r_iinc (pc := 38) (v := b20 + 1) (ls' := [_, _, _, _]) hG dX9_ofKind_38 rfl rfl rfl rfl ?_
          refine r_iinc (pc := 41) (v := nI (i + 1)) (ls' := [_, _, _, _]) hG dX9_ofKind_41 rfl (nI_1 _) rfl rfl ?_
          refine r_goto (pc := 44) (tgt := 20) hG dX9_ofKind_44 (by decide) ?_
          have eN20 : b20 + 1 = st_X9_ofKind_20 M a0 i (itN i (st_X9_ofKind_20 M a0) 0) := by rw [← hg20]; unfold st_X9_ofKind_20; exact Eq.symm (if_pos c3)
          refine J.wk (ls' := [some (rf K 140), some (.int a0), some (.int (b20 + 1)), some (.int (nI (i + 1)))]) ?_ (Eq.refl 4) (wk_s rfl (wk_s rfl (wk_s rfl (wk_s rfl wk_0))))
          exact ih20 hl20 (b20 + 1) eN20
    exact (lp20 0 (Nat.zero_le _) _ rfl).wk (Eq.refl 4) (wk_s rfl (wk_s rfl (wk_s rfl (wk_s rfl wk_0))))
  · refine r_aload_n (pc := 9) hG dX9_ofKind_9 rfl ?_
    refine r_bipush (pc := 10) hG dX9_ofKind_10 bc_m2 ?_
    refine cv_X9_no (pc := 12)  hG dX9_ofKind_12 tw_1273 (c_X9_no (bd_lit (n := 7) (by decide))) (by decide) (Nat.le_of_ble_eq_true rfl) ?_
    exact hret _ _ _ _ dX9_ofKind_15 (pair_fst (show sp_X9_ofKind M a0 = ((sp_X9_no M (-2)).1, (sp_X9_no M (-2)).2) from (by unfold sp_X9_ofKind; exact (if_neg c1)))) (pair_snd (show sp_X9_ofKind M a0 = ((sp_X9_no M (-2)).1, (sp_X9_no M (-2)).2) from (by unfold sp_X9_ofKind; exact (if_neg c1))))

def st_X9_late_19 (M : MT) (a0 : Int32) (i : Nat) (b19 : Int32) : Int32 :=
  if (sp_X9_isComing M a0 (nI i)) = true then
    b19
  else
    b19 ||| (1 <<< ((nI i) &&& 31))
def sp_X9_late (M : MT) (a0 : Int32) : Int32 × MT :=
  if (sp_X9_isOne M a0) = true then
    (itN (tn (M.1 5 0 0)) (st_X9_late_19 M a0) 0, M)
  else
    ((sp_X9_no M (-2)).1, (sp_X9_no M (-2)).2)
set_option maxRecDepth 20000 in
theorem c_X9_late {K : KT} {M : MT} {a0 : Int32}  (hokr : OKR M) : CM K 3 yX9_late cX9_late 4 (some FieldType.int) [rf K 140, .int a0] M (some (.int (sp_X9_late M a0).1)) (sp_X9_late M a0).2 := by
  refine CM.ofI (by decide) [some (rf K 140), some (.int a0), none, none] rfl (Nat.le_of_ble_eq_true rfl) (Nat.le_of_ble_eq_true rfl) (fun G hG _ hret => ?_)
  obtain ⟨hok5, hhl, htp5⟩ := id hokr
  obtain ⟨hwc5, hpc5, ⟨hcl5, hcm5⟩, hwi5, hda5, hle5, hk85, ha85, hW5, hP5⟩ := id hok5
  have hwl5 := bd_lt hwc5
  have hpl5 := bd_lt hpc5
  have hcl5l := bd_lt hcl5
  refine r_aload_n (pc := 0) hG dX9_late_0 rfl ?_
  refine r_iload_n (pc := 1) hG dX9_late_1 rfl ?_
  refine cv_X9_isOne (pc := 2)  hG dX9_late_2 tw_1308 (c_X9_isOne) (by decide) (Nat.le_of_ble_eq_true rfl) ?_
  refine r_ifz_ne (pc := 5) (tgt := 15) hG dX9_late_5 (by decide) (fun c1 => ?_) (fun c1 => ?_)
  · refine r_iconst (pc := 15) hG dX9_late_15 ic_0 ?_
    refine r_istore_n (pc := 16) (ls' := [_, _, _, _]) hG dX9_late_16 rfl rfl ?_
    refine r_iconst (pc := 17) hG dX9_late_17 ic_0 ?_
    refine r_istore_n (pc := 18) (ls' := [_, _, _, _]) hG dX9_late_18 rfl rfl ?_
    have hb19 : bd (M.1 5 0 0) 9 := hwc5
    have hb19l := bd_lt hb19
    have lp19 : ∀ i, i ≤ (tn (M.1 5 0 0)) → ∀ b19 : Int32, b19 = itN i (st_X9_late_19 M a0) 0 → J G K M 19 [some (rf K 140), some (.int a0), some (.int b19), some (.int (nI i))] [] := by
      refine up_ind (tn (M.1 5 0 0)) (fun i hi19 ih19 => ?_)
      intro b19 hg19
      refine r_iload_n (pc := 19) hG dX9_late_19 rfl ?_
      refine r_aload_n (pc := 20) hG dX9_late_20 rfl ?_
      refine gf_X9_windows (pc := 21)  hG dX9_late_21 tw_1169 ?_
      refine r_icmp_ge (pc := 24) (tgt := 48) hG dX9_late_24 (by decide) (fun c2 => ?_) (fun c2 => ?_)
      · have e19 : i = (tn (M.1 5 0 0)) := by have := (bd_le hb19 (by omega)).mp c2; omega
        subst hg19
        subst e19
        refine r_iload_n (pc := 48) hG dX9_late_48 rfl ?_
        exact hret _ _ _ _ dX9_late_49 (pair_fst (show sp_X9_late M a0 = (itN (tn (M.1 5 0 0)) (st_X9_late_19 M a0) 0, M) from (by unfold sp_X9_late; exact (if_pos c1)))) (pair_snd (show sp_X9_late M a0 = (itN (tn (M.1 5 0 0)) (st_X9_late_19 M a0) 0, M) from (by unfold sp_X9_late; exact (if_pos c1))))
      · have hl19 : i < (tn (M.1 5 0 0)) := by have := mt (bd_le hb19 (by omega)).mpr c2; omega
        refine r_aload_n (pc := 27) hG dX9_late_27 rfl ?_
        refine r_iload_n (pc := 28) hG dX9_late_28 rfl ?_
        refine r_iload_n (pc := 29) hG dX9_late_29 rfl ?_
        refine cv_X9_isComing (pc := 30)  hG dX9_late_30 tw_1475 (c_X9_isComing (hasP5 hpc5 c1) (bd_nI (by omega) (Nat.le_of_ble_eq_true rfl))) (by decide) (Nat.le_of_ble_eq_true rfl) ?_
        refine r_ifz_ne (pc := 33) (tgt := 42) hG dX9_late_33 (by decide) (fun c3 => ?_) (fun c3 => ?_)
        · refine r_iinc (pc := 42) (v := nI (i + 1)) (ls' := [_, _, _, _]) hG dX9_late_42 rfl (nI_1 _) rfl rfl ?_
          refine r_goto (pc := 45) (tgt := 19) hG dX9_late_45 (by decide) ?_
          have eN19 : b19 = st_X9_late_19 M a0 i (itN i (st_X9_late_19 M a0) 0) := by rw [← hg19]; unfold st_X9_late_19; exact Eq.symm (if_pos c3)
          refine J.wk (ls' := [some (rf K 140), some (.int a0), some (.int b19), some (.int (nI (i + 1)))]) ?_ (Eq.refl 4) (wk_s rfl (wk_s rfl (wk_s rfl (wk_s rfl wk_0))))
          exact ih19 hl19 b19 eN19
        · refine r_iload_n (pc := 36) hG dX9_late_36 rfl ?_
          refine r_iconst (pc := 37) hG dX9_late_37 ic_1 ?_
          refine r_iload_n (pc := 38) hG dX9_late_38 rfl ?_
          refine r_ishl (pc := 39) hG dX9_late_39 ?_
          refine r_ior (pc := 40) hG dX9_late_40 ?_
          refine r_istore_n (pc := 41) (ls' := [_, _, _, _]) hG dX9_late_41 rfl rfl ?_
          refine r_iinc (pc := 42) (v := nI (i + 1)) (ls' := [_, _, _, _]) hG dX9_late_42 rfl (nI_1 _) rfl rfl ?_
          refine r_goto (pc := 45) (tgt := 19) hG dX9_late_45 (by decide) ?_
          have eN19 : b19 ||| (1 <<< ((nI i) &&& 31)) = st_X9_late_19 M a0 i (itN i (st_X9_late_19 M a0) 0) := by rw [← hg19]; unfold st_X9_late_19; exact Eq.symm (if_neg c3)
          refine J.wk (ls' := [some (rf K 140), some (.int a0), some (.int (b19 ||| (1 <<< ((nI i) &&& 31)))), some (.int (nI (i + 1)))]) ?_ (Eq.refl 4) (wk_s rfl (wk_s rfl (wk_s rfl (wk_s rfl wk_0))))
          exact ih19 hl19 (b19 ||| (1 <<< ((nI i) &&& 31))) eN19
    exact (lp19 0 (Nat.zero_le _) _ rfl).wk (Eq.refl 4) (wk_s rfl (wk_s rfl (wk_s rfl (wk_s rfl wk_0))))
  · refine r_aload_n (pc := 8) hG dX9_late_8 rfl ?_
    refine r_bipush (pc := 9) hG dX9_late_9 bc_m2 ?_
    refine cv_X9_no (pc := 11)  hG dX9_late_11 tw_1273 (c_X9_no (bd_lit (n := 7) (by decide))) (by decide) (Nat.le_of_ble_eq_true rfl) ?_
    exact hret _ _ _ _ dX9_late_14 (pair_fst (show sp_X9_late M a0 = ((sp_X9_no M (-2)).1, (sp_X9_no M (-2)).2) from (by unfold sp_X9_late; exact (if_neg c1)))) (pair_snd (show sp_X9_late M a0 = ((sp_X9_no M (-2)).1, (sp_X9_no M (-2)).2) from (by unfold sp_X9_late; exact (if_neg c1))))

def st_X9_due_20 (M : MT) (a0 : Int32) (i : Nat) (b20 : Int32) : Int32 :=
  imax b20 (M.1 5 13 i)
def sp_X9_due (M : MT) (a0 : Int32) : Int32 × MT :=
  if (sp_X9_within a0 0 1) = true then
    if a0 = 1 then
      (itN (tn (M.1 5 1 0)) (st_X9_due_20 M a0) (-1), M)
    else
      if (itN (tn (M.1 5 1 0)) (st_X9_due_20 M a0) (-1)) = (-1) then
        (itN (tn (M.1 5 1 0)) (st_X9_due_20 M a0) (-1), M)
      else
        (sp_X9_firstDue M, M)
  else
    ((sp_X9_no M (-2)).1, (sp_X9_no M (-2)).2)
set_option maxRecDepth 20000 in
theorem c_X9_due {K : KT} {M : MT} {a0 : Int32}  (hokr : OKR M) : CM K 3 yX9_due cX9_due 4 (some FieldType.int) [rf K 140, .int a0] M (some (.int (sp_X9_due M a0).1)) (sp_X9_due M a0).2 := by
  refine CM.ofI (by decide) [some (rf K 140), some (.int a0), none, none] rfl (Nat.le_of_ble_eq_true rfl) (Nat.le_of_ble_eq_true rfl) (fun G hG _ hret => ?_)
  obtain ⟨hok5, hhl, htp5⟩ := id hokr
  obtain ⟨hwc5, hpc5, ⟨hcl5, hcm5⟩, hwi5, hda5, hle5, hk85, ha85, hW5, hP5⟩ := id hok5
  have hwl5 := bd_lt hwc5
  have hpl5 := bd_lt hpc5
  have hcl5l := bd_lt hcl5
  refine r_iload_n (pc := 0) hG dX9_due_0 rfl ?_
  refine r_iconst (pc := 1) hG dX9_due_1 ic_0 ?_
  refine r_iconst (pc := 2) hG dX9_due_2 ic_1 ?_
  refine cs_X9_within (pc := 3)  hG dX9_due_3 tw_1270 (c_X9_within) (by decide) (Nat.le_of_ble_eq_true rfl) ?_
  refine r_ifz_ne (pc := 6) (tgt := 16) hG dX9_due_6 (by decide) (fun c1 => ?_) (fun c1 => ?_)
  · refine r_iconst (pc := 16) hG dX9_due_16 ic_m1 ?_
    refine r_istore_n (pc := 17) (ls' := [_, _, _, _]) hG dX9_due_17 rfl rfl ?_
    refine r_iconst (pc := 18) hG dX9_due_18 ic_0 ?_
    refine r_istore_n (pc := 19) (ls' := [_, _, _, _]) hG dX9_due_19 rfl rfl ?_
    have hb20 : bd (M.1 5 1 0) 9 := hpc5
    have hb20l := bd_lt hb20
    have lp20 : ∀ i, i ≤ (tn (M.1 5 1 0)) → ∀ b20 : Int32, b20 = itN i (st_X9_due_20 M a0) (-1) → J G K M 20 [some (rf K 140), some (.int a0), some (.int b20), some (.int (nI i))] [] := by
      refine up_ind (tn (M.1 5 1 0)) (fun i hi20 ih20 => ?_)
      intro b20 hg20
      refine r_iload_n (pc := 20) hG dX9_due_20 rfl ?_
      refine r_aload_n (pc := 21) hG dX9_due_21 rfl ?_
      refine gf_X9_people (pc := 22)  hG dX9_due_22 tw_1173 ?_
      refine r_icmp_ge (pc := 25) (tgt := 45) hG dX9_due_25 (by decide) (fun c2 => ?_) (fun c2 => ?_)
      · have e20 : i = (tn (M.1 5 1 0)) := by have := (bd_le hb20 (by omega)).mp c2; omega
        subst hg20
        subst e20
        refine r_iload_n (pc := 45) hG dX9_due_45 rfl ?_
        refine r_iconst (pc := 46) hG dX9_due_46 ic_1 ?_
        refine r_icmp_eq (pc := 47) (tgt := 55) hG dX9_due_47 (by decide) (fun c3 => ?_) (fun c3 => ?_)
        · refine r_iload_n (pc := 55) hG dX9_due_55 rfl ?_
          refine r_goto (pc := 56) (tgt := 63) hG dX9_due_56 (by decide) ?_
          exact hret _ _ _ _ dX9_due_63 (pair_fst (show sp_X9_due M a0 = (itN (tn (M.1 5 1 0)) (st_X9_due_20 M a0) (-1), M) from (by unfold sp_X9_due; exact ((if_pos c1).trans (if_pos c3))))) (pair_snd (show sp_X9_due M a0 = (itN (tn (M.1 5 1 0)) (st_X9_due_20 M a0) (-1), M) from (by unfold sp_X9_due; exact ((if_pos c1).trans (if_pos c3)))))
        · refine r_iload_n (pc := 50) hG dX9_due_50 rfl ?_
          refine r_iconst (pc := 51) hG dX9_due_51 ic_m1 ?_
          refine r_icmp_ne (pc := 52) (tgt := 59) hG dX9_due_52 (by decide) (fun c4 => ?_) (fun c4 => ?_)
          · refine r_aload_n (pc := 59) hG dX9_due_59 rfl ?_
            refine cv_X9_firstDue (pc := 60)  hG dX9_due_60 tw_1595 (c_X9_firstDue hpc5) (by decide) (Nat.le_of_ble_eq_true rfl) ?_
            exact hret _ _ _ _ dX9_due_63 (pair_fst (show sp_X9_due M a0 = (sp_X9_firstDue M, M) from (by unfold sp_X9_due; exact ((if_pos c1).trans ((if_neg c3).trans (if_neg c4)))))) (pair_snd (show sp_X9_due M a0 = (sp_X9_firstDue M, M) from (by unfold sp_X9_due; exact ((if_pos c1).trans ((if_neg c3).trans (if_neg c4))))))
          · refine r_iload_n (pc := 55) hG dX9_due_55 rfl ?_
            refine r_goto (pc := 56) (tgt := 63) hG dX9_due_56 (by decide) ?_
            exact hret _ _ _ _ dX9_due_63 (pair_fst (show sp_X9_due M a0 = (itN (tn (M.1 5 1 0)) (st_X9_due_20 M a0) (-1), M) from (by unfold sp_X9_due; exact ((if_pos c1).trans ((if_neg c3).trans (if_pos c4)))))) (pair_snd (show sp_X9_due M a0 = (itN (tn (M.1 5 1 0)) (st_X9_due_20 M a0) (-1), M) from (by unfold sp_X9_due; exact ((if_pos c1).trans ((if_neg c3).trans (if_pos c4))))))
      · have hl20 : i < (tn (M.1 5 1 0)) := by have := mt (bd_le hb20 (by omega)).mpr c2; omega
        refine r_iload_n (pc := 28) hG dX9_due_28 rfl ?_
        refine r_aload_n (pc := 29) hG dX9_due_29 rfl ?_
        refine gf_X9_due (pc := 30)  hG dX9_due_30 tw_1178 ?_
        refine r_iload_n (pc := 33) hG dX9_due_33 rfl ?_
        refine al_Mdue (pc := 34)  hG dX9_due_34 (ix_nI (by omega) (Nat.le_of_ble_eq_true rfl)) ?_
        refine r_mmax (pc := 35) hG dX9_due_35 tw_1604 (by decide) (Nat.le_of_ble_eq_true rfl) ?_
        refine r_istore_n (pc := 38) (ls' := [_, _, _, _]) hG dX9_due_38 rfl rfl ?_
        refine r_iinc (pc := 39) (v := nI (i + 1)) (ls' := [_, _, _, _]) hG dX9_due_39 rfl (nI_1 _) rfl rfl ?_
        refine r_goto (pc := 42) (tgt := 20) hG dX9_due_42 (by decide) ?_
        have eN20 : imax b20 (M.1 5 13 i) = st_X9_due_20 M a0 i (itN i (st_X9_due_20 M a0) (-1)) := by rw [← hg20]; unfold st_X9_due_20; exact Eq.symm rfl
        refine J.wk (ls' := [some (rf K 140), some (.int a0), some (.int (imax b20 (M.1 5 13 i))), some (.int (nI (i + 1)))]) ?_ (Eq.refl 4) (wk_s rfl (wk_s rfl (wk_s rfl (wk_s rfl wk_0))))
        exact ih20 hl20 (imax b20 (M.1 5 13 i)) eN20
    exact (lp20 0 (Nat.zero_le _) _ rfl).wk (Eq.refl 4) (wk_s rfl (wk_s rfl (wk_s rfl (wk_s rfl wk_0))))
  · refine r_aload_n (pc := 9) hG dX9_due_9 rfl ?_
    refine r_bipush (pc := 10) hG dX9_due_10 bc_m2 ?_
    refine cv_X9_no (pc := 12)  hG dX9_due_12 tw_1273 (c_X9_no (bd_lit (n := 7) (by decide))) (by decide) (Nat.le_of_ble_eq_true rfl) ?_
    exact hret _ _ _ _ dX9_due_15 (pair_fst (show sp_X9_due M a0 = ((sp_X9_no M (-2)).1, (sp_X9_no M (-2)).2) from (by unfold sp_X9_due; exact (if_neg c1)))) (pair_snd (show sp_X9_due M a0 = ((sp_X9_no M (-2)).1, (sp_X9_no M (-2)).2) from (by unfold sp_X9_due; exact (if_neg c1))))

def st_X9_having_26 (M : MT) (a0 : Int32) (i : Nat) (b26 : Int32) : Int32 :=
  if a0 = 0 then
    if (M.1 5 12 i) = (-1) then
      b26
    else
      b26 ||| (1 <<< ((nI i) &&& 31))
  else
    if a0 = 1 then
      if (M.1 5 12 i) = (-1) then
        b26
      else
        if (M.1 5 13 i) = (-1) then
          b26 ||| (1 <<< ((nI i) &&& 31))
        else
          b26
    else
      if (M.1 5 13 i) = (sp_X9_firstDue M) then
        b26 ||| (1 <<< ((nI i) &&& 31))
      else
        b26
def sp_X9_having (M : MT) (a0 : Int32) : Int32 × MT :=
  if (sp_X9_within a0 0 2) = true then
    (itN (tn (M.1 5 1 0)) (st_X9_having_26 M a0) 0, M)
  else
    ((sp_X9_no M (-2)).1, (sp_X9_no M (-2)).2)
set_option maxRecDepth 20000 in
theorem c_X9_having {K : KT} {M : MT} {a0 : Int32}  (hokr : OKR M) : CM K 3 yX9_having cX9_having 5 (some FieldType.int) [rf K 140, .int a0] M (some (.int (sp_X9_having M a0).1)) (sp_X9_having M a0).2 := by
  refine CM.ofI (by decide) [some (rf K 140), some (.int a0), none, none, none] rfl (Nat.le_of_ble_eq_true rfl) (Nat.le_of_ble_eq_true rfl) (fun G hG _ hret => ?_)
  obtain ⟨hok5, hhl, htp5⟩ := id hokr
  obtain ⟨hwc5, hpc5, ⟨hcl5, hcm5⟩, hwi5, hda5, hle5, hk85, ha85, hW5, hP5⟩ := id hok5
  have hwl5 := bd_lt hwc5
  have hpl5 := bd_lt hpc5
  have hcl5l := bd_lt hcl5
  refine r_iload_n (pc := 0) hG dX9_having_0 rfl ?_
  refine r_iconst (pc := 1) hG dX9_having_1 ic_0 ?_
  refine r_iconst (pc := 2) hG dX9_having_2 ic_2 ?_
  refine cs_X9_within (pc := 3)  hG dX9_having_3 tw_1270 (c_X9_within) (by decide) (Nat.le_of_ble_eq_true rfl) ?_
  refine r_ifz_ne (pc := 6) (tgt := 16) hG dX9_having_6 (by decide) (fun c1 => ?_) (fun c1 => ?_)
  · refine r_aload_n (pc := 16) hG dX9_having_16 rfl ?_
    refine cv_X9_firstDue (pc := 17)  hG dX9_having_17 tw_1595 (c_X9_firstDue hpc5) (by decide) (Nat.le_of_ble_eq_true rfl) ?_
    refine r_istore_n (pc := 20) (ls' := [_, _, _, _, _]) hG dX9_having_20 rfl rfl ?_
    refine r_iconst (pc := 21) hG dX9_having_21 ic_0 ?_
    refine r_istore_n (pc := 22) (ls' := [_, _, _, _, _]) hG dX9_having_22 rfl rfl ?_
    refine r_iconst (pc := 23) hG dX9_having_23 ic_0 ?_
    refine r_istore (pc := 24) (ls' := [_, _, _, _, _]) hG dX9_having_24 rfl rfl ?_
    have hb26 : bd (M.1 5 1 0) 9 := hpc5
    have hb26l := bd_lt hb26
    have lp26 : ∀ i, i ≤ (tn (M.1 5 1 0)) → ∀ b26 : Int32, b26 = itN i (st_X9_having_26 M a0) 0 → J G K M 26 [some (rf K 140), some (.int a0), some (.int (sp_X9_firstDue M)), some (.int b26), some (.int (nI i))] [] := by
      refine up_ind (tn (M.1 5 1 0)) (fun i hi26 ih26 => ?_)
      intro b26 hg26
      refine r_iload (pc := 26) hG dX9_having_26 rfl ?_
      refine r_aload_n (pc := 28) hG dX9_having_28 rfl ?_
      refine gf_X9_people (pc := 29)  hG dX9_having_29 tw_1173 ?_
      refine r_icmp_ge (pc := 32) (tgt := 107) hG dX9_having_32 (by decide) (fun c2 => ?_) (fun c2 => ?_)
      · have e26 : i = (tn (M.1 5 1 0)) := by have := (bd_le hb26 (by omega)).mp c2; omega
        subst hg26
        subst e26
        refine r_iload_n (pc := 107) hG dX9_having_107 rfl ?_
        exact hret _ _ _ _ dX9_having_108 (pair_fst (show sp_X9_having M a0 = (itN (tn (M.1 5 1 0)) (st_X9_having_26 M a0) 0, M) from (by unfold sp_X9_having; exact (if_pos c1)))) (pair_snd (show sp_X9_having M a0 = (itN (tn (M.1 5 1 0)) (st_X9_having_26 M a0) 0, M) from (by unfold sp_X9_having; exact (if_pos c1))))
      · have hl26 : i < (tn (M.1 5 1 0)) := by have := mt (bd_le hb26 (by omega)).mpr c2; omega
        refine r_iload_n (pc := 35) hG dX9_having_35 rfl ?_
        refine r_if_ne (pc := 36) (tgt := 53) hG dX9_having_36 (by decide) (fun c3 => ?_) (fun c3 => ?_)
        · refine r_iload_n (pc := 53) hG dX9_having_53 rfl ?_
          refine r_iconst (pc := 54) hG dX9_having_54 ic_1 ?_
          refine r_icmp_ne (pc := 55) (tgt := 83) hG dX9_having_55 (by decide) (fun c4 => ?_) (fun c4 => ?_)
          · refine r_aload_n (pc := 83) hG dX9_having_83 rfl ?_
            refine gf_X9_due (pc := 84)  hG dX9_having_84 tw_1178 ?_
            refine r_iload (pc := 87) hG dX9_having_87 rfl ?_
            refine al_Mdue (pc := 89)  hG dX9_having_89 (ix_nI (by omega) (Nat.le_of_ble_eq_true rfl)) ?_
            refine r_iload_n (pc := 90) hG dX9_having_90 rfl ?_
            refine r_icmp_ne (pc := 91) (tgt := 101) hG dX9_having_91 (by decide) (fun c5 => ?_) (fun c5 => ?_)
            · refine r_iinc (pc := 101) (v := nI (i + 1)) (ls' := [_, _, _, _, _]) hG dX9_having_101 rfl (nI_1 _) rfl rfl ?_
              refine r_goto (pc := 104) (tgt := 26) hG dX9_having_104 (by decide) ?_
              have eN26 : b26 = st_X9_having_26 M a0 i (itN i (st_X9_having_26 M a0) 0) := by rw [← hg26]; unfold st_X9_having_26; exact Eq.symm ((if_neg c3).trans ((if_neg c4).trans (if_neg c5)))
              refine J.wk (ls' := [some (rf K 140), some (.int a0), some (.int (sp_X9_firstDue M)), some (.int b26), some (.int (nI (i + 1)))]) ?_ (Eq.refl 5) (wk_s rfl (wk_s rfl (wk_s rfl (wk_s rfl (wk_s rfl wk_0)))))
              exact ih26 hl26 b26 eN26
            · refine r_iload_n (pc := 94) hG dX9_having_94 rfl ?_
              refine r_iconst (pc := 95) hG dX9_having_95 ic_1 ?_
              refine r_iload (pc := 96) hG dX9_having_96 rfl ?_
              refine r_ishl (pc := 98) hG dX9_having_98 ?_
              refine r_ior (pc := 99) hG dX9_having_99 ?_
              refine r_istore_n (pc := 100) (ls' := [_, _, _, _, _]) hG dX9_having_100 rfl rfl ?_
              refine r_iinc (pc := 101) (v := nI (i + 1)) (ls' := [_, _, _, _, _]) hG dX9_having_101 rfl (nI_1 _) rfl rfl ?_
              refine r_goto (pc := 104) (tgt := 26) hG dX9_having_104 (by decide) ?_
              have eN26 : b26 ||| (1 <<< ((nI i) &&& 31)) = st_X9_having_26 M a0 i (itN i (st_X9_having_26 M a0) 0) := by rw [← hg26]; unfold st_X9_having_26; exact Eq.symm ((if_neg c3).trans ((if_neg c4).trans (if_pos c5)))
              refine J.wk (ls' := [some (rf K 140), some (.int a0), some (.int (sp_X9_firstDue M)), some (.int (b26 ||| (1 <<< ((nI i) &&& 31)))), some (.int (nI (i + 1)))]) ?_ (Eq.refl 5) (wk_s rfl (wk_s rfl (wk_s rfl (wk_s rfl (wk_s rfl wk_0)))))
              exact ih26 hl26 (b26 ||| (1 <<< ((nI i) &&& 31))) eN26
          · refine r_aload_n (pc := 58) hG dX9_having_58 rfl ?_
            refine gf_X9_rose (pc := 59)  hG dX9_having_59 tw_1177 ?_
            refine r_iload (pc := 62) hG dX9_having_62 rfl ?_
            refine al_Mrose (pc := 64)  hG dX9_having_64 (ix_nI (by omega) (Nat.le_of_ble_eq_true rfl)) ?_
            refine r_iconst (pc := 65) hG dX9_having_65 ic_m1 ?_
            refine r_icmp_eq (pc := 66) (tgt := 101) hG dX9_having_66 (by decide) (fun c6 => ?_) (fun c6 => ?_)
            · refine r_iinc (pc := 101) (v := nI (i + 1)) (ls' := [_, _, _, _, _]) hG dX9_having_101 rfl (nI_1 _) rfl rfl ?_
              refine r_goto (pc := 104) (tgt := 26) hG dX9_having_104 (by decide) ?_
              have eN26 : b26 = st_X9_having_26 M a0 i (itN i (st_X9_having_26 M a0) 0) := by rw [← hg26]; unfold st_X9_having_26; exact Eq.symm ((if_neg c3).trans ((if_pos c4).trans (if_pos c6)))
              refine J.wk (ls' := [some (rf K 140), some (.int a0), some (.int (sp_X9_firstDue M)), some (.int b26), some (.int (nI (i + 1)))]) ?_ (Eq.refl 5) (wk_s rfl (wk_s rfl (wk_s rfl (wk_s rfl (wk_s rfl wk_0)))))
              exact ih26 hl26 b26 eN26
            · refine r_aload_n (pc := 69) hG dX9_having_69 rfl ?_
              refine gf_X9_due (pc := 70)  hG dX9_having_70 tw_1178 ?_
              refine r_iload (pc := 73) hG dX9_having_73 rfl ?_
              refine al_Mdue (pc := 75)  hG dX9_having_75 (ix_nI (by omega) (Nat.le_of_ble_eq_true rfl)) ?_
              refine r_iconst (pc := 76) hG dX9_having_76 ic_m1 ?_
              refine r_icmp_ne (pc := 77) (tgt := 101) hG dX9_having_77 (by decide) (fun c7 => ?_) (fun c7 => ?_)
              · refine r_iinc (pc := 101) (v := nI (i + 1)) (ls' := [_, _, _, _, _]) hG dX9_having_101 rfl (nI_1 _) rfl rfl ?_
                refine r_goto (pc := 104) (tgt := 26) hG dX9_having_104 (by decide) ?_
                have eN26 : b26 = st_X9_having_26 M a0 i (itN i (st_X9_having_26 M a0) 0) := by rw [← hg26]; unfold st_X9_having_26; exact Eq.symm ((if_neg c3).trans ((if_pos c4).trans ((if_neg c6).trans (if_neg c7))))
                refine J.wk (ls' := [some (rf K 140), some (.int a0), some (.int (sp_X9_firstDue M)), some (.int b26), some (.int (nI (i + 1)))]) ?_ (Eq.refl 5) (wk_s rfl (wk_s rfl (wk_s rfl (wk_s rfl (wk_s rfl wk_0)))))
                exact ih26 hl26 b26 eN26
              · refine r_goto (pc := 80) (tgt := 94) hG dX9_having_80 (by decide) ?_
                refine r_iload_n (pc := 94) hG dX9_having_94 rfl ?_
                refine r_iconst (pc := 95) hG dX9_having_95 ic_1 ?_
                refine r_iload (pc := 96) hG dX9_having_96 rfl ?_
                refine r_ishl (pc := 98) hG dX9_having_98 ?_
                refine r_ior (pc := 99) hG dX9_having_99 ?_
                refine r_istore_n (pc := 100) (ls' := [_, _, _, _, _]) hG dX9_having_100 rfl rfl ?_
                refine r_iinc (pc := 101) (v := nI (i + 1)) (ls' := [_, _, _, _, _]) hG dX9_having_101 rfl (nI_1 _) rfl rfl ?_
                refine r_goto (pc := 104) (tgt := 26) hG dX9_having_104 (by decide) ?_
                have eN26 : b26 ||| (1 <<< ((nI i) &&& 31)) = st_X9_having_26 M a0 i (itN i (st_X9_having_26 M a0) 0) := by rw [← hg26]; unfold st_X9_having_26; exact Eq.symm ((if_neg c3).trans ((if_pos c4).trans ((if_neg c6).trans (if_pos c7))))
                refine J.wk (ls' := [some (rf K 140), some (.int a0), some (.int (sp_X9_firstDue M)), some (.int (b26 ||| (1 <<< ((nI i) &&& 31)))), some (.int (nI (i + 1)))]) ?_ (Eq.refl 5) (wk_s rfl (wk_s rfl (wk_s rfl (wk_s rfl (wk_s rfl wk_0)))))
                exact ih26 hl26 (b26 ||| (1 <<< ((nI i) &&& 31))) eN26
        · refine r_aload_n (pc := 39) hG dX9_having_39 rfl ?_
          refine gf_X9_rose (pc := 40)  hG dX9_having_40 tw_1177 ?_
          refine r_iload (pc := 43) hG dX9_having_43 rfl ?_
          refine al_Mrose (pc := 45)  hG dX9_having_45 (ix_nI (by omega) (Nat.le_of_ble_eq_true rfl)) ?_
          refine r_iconst (pc := 46) hG dX9_having_46 ic_m1 ?_
          refine r_icmp_eq (pc := 47) (tgt := 101) hG dX9_having_47 (by decide) (fun c8 => ?_) (fun c8 => ?_)
          · refine r_iinc (pc := 101) (v := nI (i + 1)) (ls' := [_, _, _, _, _]) hG dX9_having_101 rfl (nI_1 _) rfl rfl ?_
            refine r_goto (pc := 104) (tgt := 26) hG dX9_having_104 (by decide) ?_
            have eN26 : b26 = st_X9_having_26 M a0 i (itN i (st_X9_having_26 M a0) 0) := by rw [← hg26]; unfold st_X9_having_26; exact Eq.symm ((if_pos c3).trans (if_pos c8))
            refine J.wk (ls' := [some (rf K 140), some (.int a0), some (.int (sp_X9_firstDue M)), some (.int b26), some (.int (nI (i + 1)))]) ?_ (Eq.refl 5) (wk_s rfl (wk_s rfl (wk_s rfl (wk_s rfl (wk_s rfl wk_0)))))
            exact ih26 hl26 b26 eN26
          · refine r_goto (pc := 50) (tgt := 94) hG dX9_having_50 (by decide) ?_
            refine r_iload_n (pc := 94) hG dX9_having_94 rfl ?_
            refine r_iconst (pc := 95) hG dX9_having_95 ic_1 ?_
            refine r_iload (pc := 96) hG dX9_having_96 rfl ?_
            refine r_ishl (pc := 98) hG dX9_having_98 ?_
            refine r_ior (pc := 99) hG dX9_having_99 ?_
            refine r_istore_n (pc := 100) (ls' := [_, _, _, _, _]) hG dX9_having_100 rfl rfl ?_
            refine r_iinc (pc := 101) (v := nI (i + 1)) (ls' := [_, _, _, _, _]) hG dX9_having_101 rfl (nI_1 _) rfl rfl ?_
            refine r_goto (pc := 104) (tgt := 26) hG dX9_having_104 (by decide) ?_
            have eN26 : b26 ||| (1 <<< ((nI i) &&& 31)) = st_X9_having_26 M a0 i (itN i (st_X9_having_26 M a0) 0) := by rw [← hg26]; unfold st_X9_having_26; exact Eq.symm ((if_pos c3).trans (if_neg c8))
            refine J.wk (ls' := [some (rf K 140), some (.int a0), some (.int (sp_X9_firstDue M)), some (.int (b26 ||| (1 <<< ((nI i) &&& 31)))), some (.int (nI (i + 1)))]) ?_ (Eq.refl 5) (wk_s rfl (wk_s rfl (wk_s rfl (wk_s rfl (wk_s rfl wk_0)))))
            exact ih26 hl26 (b26 ||| (1 <<< ((nI i) &&& 31))) eN26
    exact (lp26 0 (Nat.zero_le _) _ rfl).wk (Eq.refl 5) (wk_s rfl (wk_s rfl (wk_s rfl (wk_s rfl (wk_s rfl wk_0)))))
  · refine r_aload_n (pc := 9) hG dX9_having_9 rfl ?_
    refine r_bipush (pc := 10) hG dX9_having_10 bc_m2 ?_
    refine cv_X9_no (pc := 12)  hG dX9_having_12 tw_1273 (c_X9_no (bd_lit (n := 7) (by decide))) (by decide) (Nat.le_of_ble_eq_true rfl) ?_
    exact hret _ _ _ _ dX9_having_15 (pair_fst (show sp_X9_having M a0 = ((sp_X9_no M (-2)).1, (sp_X9_no M (-2)).2) from (by unfold sp_X9_having; exact (if_neg c1)))) (pair_snd (show sp_X9_having M a0 = ((sp_X9_no M (-2)).1, (sp_X9_no M (-2)).2) from (by unfold sp_X9_having; exact (if_neg c1))))

def st_X9_throwsFor_42 (M : MT) (a0 : Int32) (a1 : Int32) (a2 : Int32) (i : Nat) (b42 : Int32 × Int32) : Int32 × Int32 :=
  if (sp_X9_caughtBy M a1 ((dn 30 i) / 3) (irm (dn 30 i) 3)) = a0 then
    (b42.1 + 1, dn 30 i)
  else
    (b42.1, b42.2)
def sp_X9_throwsFor (M : MT) (a0 : Int32) (a1 : Int32) (a2 : Int32) : Int32 × MT :=
  if (sp_X9_isOne M a0) = true then
    if (sp_X9_isWindow M a1) = true then
      if (sp_X9_within a2 0 2) = true then
        if a2 = 0 then
          ((itN 30 (st_X9_throwsFor_42 M a0 a1 a2) (0, (-1))).1, M)
        else
          if ((itN 30 (st_X9_throwsFor_42 M a0 a1 a2) (0, (-1))).2) = (-1) then
            ((-1), M)
          else
            if a2 = 1 then
              (((itN 30 (st_X9_throwsFor_42 M a0 a1 a2) (0, (-1))).2) / 3, M)
            else
              (irm ((itN 30 (st_X9_throwsFor_42 M a0 a1 a2) (0, (-1))).2) 3, M)
      else
        ((sp_X9_no M (-2)).1, (sp_X9_no M (-2)).2)
    else
      ((sp_X9_no M (-2)).1, (sp_X9_no M (-2)).2)
  else
    ((sp_X9_no M (-2)).1, (sp_X9_no M (-2)).2)
set_option maxRecDepth 20000 in
theorem c_X9_throwsFor {K : KT} {M : MT} {a0 : Int32} {a1 : Int32} {a2 : Int32}  (hokr : OKR M) : CM K 6 yX9_throwsFor cX9_throwsFor 7 (some FieldType.int) [rf K 140, .int a0, .int a1, .int a2] M (some (.int (sp_X9_throwsFor M a0 a1 a2).1)) (sp_X9_throwsFor M a0 a1 a2).2 := by
  refine CM.ofI (by decide) [some (rf K 140), some (.int a0), some (.int a1), some (.int a2), none, none, none] rfl (Nat.le_of_ble_eq_true rfl) (Nat.le_of_ble_eq_true rfl) (fun G hG _ hret => ?_)
  obtain ⟨hok5, hhl, htp5⟩ := id hokr
  obtain ⟨hwc5, hpc5, ⟨hcl5, hcm5⟩, hwi5, hda5, hle5, hk85, ha85, hW5, hP5⟩ := id hok5
  have hwl5 := bd_lt hwc5
  have hpl5 := bd_lt hpc5
  have hcl5l := bd_lt hcl5
  refine r_aload_n (pc := 0) hG dX9_throwsFor_0 rfl ?_
  refine r_iload_n (pc := 1) hG dX9_throwsFor_1 rfl ?_
  refine cv_X9_isOne (pc := 2)  hG dX9_throwsFor_2 tw_1308 (c_X9_isOne) (by decide) (Nat.le_of_ble_eq_true rfl) ?_
  refine r_ifz_eq (pc := 5) (tgt := 25) hG dX9_throwsFor_5 (by decide) (fun c1 => ?_) (fun c1 => ?_)
  · refine r_aload_n (pc := 25) hG dX9_throwsFor_25 rfl ?_
    refine r_bipush (pc := 26) hG dX9_throwsFor_26 bc_m2 ?_
    refine cv_X9_no (pc := 28)  hG dX9_throwsFor_28 tw_1273 (c_X9_no (bd_lit (n := 7) (by decide))) (by decide) (Nat.le_of_ble_eq_true rfl) ?_
    exact hret _ _ _ _ dX9_throwsFor_31 (pair_fst (show sp_X9_throwsFor M a0 a1 a2 = ((sp_X9_no M (-2)).1, (sp_X9_no M (-2)).2) from (by unfold sp_X9_throwsFor; exact (if_neg c1)))) (pair_snd (show sp_X9_throwsFor M a0 a1 a2 = ((sp_X9_no M (-2)).1, (sp_X9_no M (-2)).2) from (by unfold sp_X9_throwsFor; exact (if_neg c1))))
  · refine r_aload_n (pc := 8) hG dX9_throwsFor_8 rfl ?_
    refine r_iload_n (pc := 9) hG dX9_throwsFor_9 rfl ?_
    refine cv_X9_isWindow (pc := 10)  hG dX9_throwsFor_10 tw_1430 (c_X9_isWindow) (by decide) (Nat.le_of_ble_eq_true rfl) ?_
    refine r_ifz_eq (pc := 13) (tgt := 25) hG dX9_throwsFor_13 (by decide) (fun c2 => ?_) (fun c2 => ?_)
    · refine r_aload_n (pc := 25) hG dX9_throwsFor_25 rfl ?_
      refine r_bipush (pc := 26) hG dX9_throwsFor_26 bc_m2 ?_
      refine cv_X9_no (pc := 28)  hG dX9_throwsFor_28 tw_1273 (c_X9_no (bd_lit (n := 7) (by decide))) (by decide) (Nat.le_of_ble_eq_true rfl) ?_
      exact hret _ _ _ _ dX9_throwsFor_31 (pair_fst (show sp_X9_throwsFor M a0 a1 a2 = ((sp_X9_no M (-2)).1, (sp_X9_no M (-2)).2) from (by unfold sp_X9_throwsFor; exact ((if_pos c1).trans (if_neg c2))))) (pair_snd (show sp_X9_throwsFor M a0 a1 a2 = ((sp_X9_no M (-2)).1, (sp_X9_no M (-2)).2) from (by unfold sp_X9_throwsFor; exact ((if_pos c1).trans (if_neg c2)))))
    · refine r_iload_n (pc := 16) hG dX9_throwsFor_16 rfl ?_
      refine r_iconst (pc := 17) hG dX9_throwsFor_17 ic_0 ?_
      refine r_iconst (pc := 18) hG dX9_throwsFor_18 ic_2 ?_
      refine cs_X9_within (pc := 19)  hG dX9_throwsFor_19 tw_1270 (c_X9_within) (by decide) (Nat.le_of_ble_eq_true rfl) ?_
      refine r_ifz_ne (pc := 22) (tgt := 32) hG dX9_throwsFor_22 (by decide) (fun c3 => ?_) (fun c3 => ?_)
      · refine r_iconst (pc := 32) hG dX9_throwsFor_32 ic_0 ?_
        refine r_istore (pc := 33) (ls' := [_, _, _, _, _, _, _]) hG dX9_throwsFor_33 rfl rfl ?_
        refine r_iconst (pc := 35) hG dX9_throwsFor_35 ic_m1 ?_
        refine r_istore (pc := 36) (ls' := [_, _, _, _, _, _, _]) hG dX9_throwsFor_36 rfl rfl ?_
        refine r_bipush (pc := 38) hG dX9_throwsFor_38 bc_29 ?_
        refine r_istore (pc := 40) (ls' := [_, _, _, _, _, _, _]) hG dX9_throwsFor_40 rfl rfl ?_
        have lp42 : ∀ i, i ≤ 30 → ∀ b42 : Int32 × Int32, b42 = itN i (st_X9_throwsFor_42 M a0 a1 a2) (0, (-1)) → J G K M 42 [some (rf K 140), some (.int a0), some (.int a1), some (.int a2), some (.int b42.1), some (.int b42.2), some (.int (dn 30 i))] [] := by
          refine up_ind 30 (fun i hi42 ih42 => ?_)
          intro b42 hg42
          refine r_iload (pc := 42) hG dX9_throwsFor_42 rfl ?_
          refine r_if_lt (pc := 44) (tgt := 80) hG dX9_throwsFor_44 (by decide) (fun c4 => ?_) (fun c4 => ?_)
          · have e42 : i = 30 := by have := (dn_neg (n := 30) (by omega)).mp c4; omega
            subst hg42
            subst e42
            refine r_iload_n (pc := 80) hG dX9_throwsFor_80 rfl ?_
            refine r_if_ne (pc := 81) (tgt := 89) hG dX9_throwsFor_81 (by decide) (fun c5 => ?_) (fun c5 => ?_)
            · refine r_iload (pc := 89) hG dX9_throwsFor_89 rfl ?_
              refine r_iconst (pc := 91) hG dX9_throwsFor_91 ic_m1 ?_
              refine r_icmp_ne (pc := 92) (tgt := 99) hG dX9_throwsFor_92 (by decide) (fun c6 => ?_) (fun c6 => ?_)
              · refine r_iload_n (pc := 99) hG dX9_throwsFor_99 rfl ?_
                refine r_iconst (pc := 100) hG dX9_throwsFor_100 ic_1 ?_
                refine r_icmp_ne (pc := 101) (tgt := 111) hG dX9_throwsFor_101 (by decide) (fun c7 => ?_) (fun c7 => ?_)
                · refine r_iload (pc := 111) hG dX9_throwsFor_111 rfl ?_
                  refine r_iconst (pc := 113) hG dX9_throwsFor_113 ic_3 ?_
                  refine r_irem (pc := 114) hG dX9_throwsFor_114 (by decide) ?_
                  exact hret _ _ _ _ dX9_throwsFor_115 (pair_fst (show sp_X9_throwsFor M a0 a1 a2 = (irm ((itN 30 (st_X9_throwsFor_42 M a0 a1 a2) (0, (-1))).2) 3, M) from (by unfold sp_X9_throwsFor; exact ((if_pos c1).trans ((if_pos c2).trans ((if_pos c3).trans ((if_neg c5).trans ((if_neg c6).trans (if_neg c7))))))))) (pair_snd (show sp_X9_throwsFor M a0 a1 a2 = (irm ((itN 30 (st_X9_throwsFor_42 M a0 a1 a2) (0, (-1))).2) 3, M) from (by unfold sp_X9_throwsFor; exact ((if_pos c1).trans ((if_pos c2).trans ((if_pos c3).trans ((if_neg c5).trans ((if_neg c6).trans (if_neg c7)))))))))
                · refine r_iload (pc := 104) hG dX9_throwsFor_104 rfl ?_
                  refine r_iconst (pc := 106) hG dX9_throwsFor_106 ic_3 ?_
                  refine r_idiv (pc := 107) hG dX9_throwsFor_107 (by decide) ?_
                  refine r_goto (pc := 108) (tgt := 115) hG dX9_throwsFor_108 (by decide) ?_
                  exact hret _ _ _ _ dX9_throwsFor_115 (pair_fst (show sp_X9_throwsFor M a0 a1 a2 = (((itN 30 (st_X9_throwsFor_42 M a0 a1 a2) (0, (-1))).2) / 3, M) from (by unfold sp_X9_throwsFor; exact ((if_pos c1).trans ((if_pos c2).trans ((if_pos c3).trans ((if_neg c5).trans ((if_neg c6).trans (if_pos c7))))))))) (pair_snd (show sp_X9_throwsFor M a0 a1 a2 = (((itN 30 (st_X9_throwsFor_42 M a0 a1 a2) (0, (-1))).2) / 3, M) from (by unfold sp_X9_throwsFor; exact ((if_pos c1).trans ((if_pos c2).trans ((if_pos c3).trans ((if_neg c5).trans ((if_neg c6).trans (if_pos c7)))))))))
              · refine r_iconst (pc := 95) hG dX9_throwsFor_95 ic_m1 ?_
                refine r_goto (pc := 96) (tgt := 115) hG dX9_throwsFor_96 (by decide) ?_
                exact hret _ _ _ _ dX9_throwsFor_115 (pair_fst (show sp_X9_throwsFor M a0 a1 a2 = ((-1), M) from (by unfold sp_X9_throwsFor; exact ((if_pos c1).trans ((if_pos c2).trans ((if_pos c3).trans ((if_neg c5).trans (if_pos c6)))))))) (pair_snd (show sp_X9_throwsFor M a0 a1 a2 = ((-1), M) from (by unfold sp_X9_throwsFor; exact ((if_pos c1).trans ((if_pos c2).trans ((if_pos c3).trans ((if_neg c5).trans (if_pos c6))))))))
            · refine r_iload (pc := 84) hG dX9_throwsFor_84 rfl ?_
              refine r_goto (pc := 86) (tgt := 115) hG dX9_throwsFor_86 (by decide) ?_
              exact hret _ _ _ _ dX9_throwsFor_115 (pair_fst (show sp_X9_throwsFor M a0 a1 a2 = ((itN 30 (st_X9_throwsFor_42 M a0 a1 a2) (0, (-1))).1, M) from (by unfold sp_X9_throwsFor; exact ((if_pos c1).trans ((if_pos c2).trans ((if_pos c3).trans (if_pos c5))))))) (pair_snd (show sp_X9_throwsFor M a0 a1 a2 = ((itN 30 (st_X9_throwsFor_42 M a0 a1 a2) (0, (-1))).1, M) from (by unfold sp_X9_throwsFor; exact ((if_pos c1).trans ((if_pos c2).trans ((if_pos c3).trans (if_pos c5)))))))
          · have hl42 : i < 30 := by have := mt (dn_neg (n := 30) (by omega)).mpr c4; omega
            refine r_aload_n (pc := 47) hG dX9_throwsFor_47 rfl ?_
            refine r_iload_n (pc := 48) hG dX9_throwsFor_48 rfl ?_
            refine r_iload (pc := 49) hG dX9_throwsFor_49 rfl ?_
            refine r_iconst (pc := 51) hG dX9_throwsFor_51 ic_3 ?_
            refine r_idiv (pc := 52) hG dX9_throwsFor_52 (by decide) ?_
            refine r_iload (pc := 53) hG dX9_throwsFor_53 rfl ?_
            refine r_iconst (pc := 55) hG dX9_throwsFor_55 ic_3 ?_
            refine r_irem (pc := 56) hG dX9_throwsFor_56 (by decide) ?_
            refine cv_X9_caughtBy (pc := 57)  hG dX9_throwsFor_57 tw_1450 (c_X9_caughtBy (hasW5 hwc5 c2) hpc5) (by decide) (Nat.le_of_ble_eq_true rfl) ?_
            refine r_iload_n (pc := 60) hG dX9_throwsFor_60 rfl ?_
            refine r_icmp_eq (pc := 61) (tgt := 67) hG dX9_throwsFor_61 (by decide) (fun c8 => ?_) (fun c8 => ?_)
            · refine r_iinc (pc := 67) (v := b42.1 + 1) (ls' := [_, _, _, _, _, _, _]) hG dX9_throwsFor_67 rfl rfl rfl rfl ?_
              refine r_iload (pc := 70) hG dX9_throwsFor_70 rfl ?_
              refine r_istore (pc := 72) (ls' := [_, _, _, _, _, _, _]) hG dX9_throwsFor_72 rfl rfl ?_
              refine r_iinc (pc := 74) (v := (dn 30 i) + (-1)) (ls' := [_, _, _, _, _, _, _]) hG dX9_throwsFor_74 rfl rfl rfl rfl ?_
              refine r_goto (pc := 77) (tgt := 42) hG dX9_throwsFor_77 (by decide) ?_
              have eN42 : (b42.1 + 1, dn 30 i) = st_X9_throwsFor_42 M a0 a1 a2 i (itN i (st_X9_throwsFor_42 M a0 a1 a2) (0, (-1))) := by rw [← hg42]; unfold st_X9_throwsFor_42; exact Eq.symm (if_pos c8)
              refine J.wk (ls' := [some (rf K 140), some (.int a0), some (.int a1), some (.int a2), some (.int (b42.1 + 1)), some (.int (dn 30 i)), some (.int (dn 30 (i + 1)))]) ?_ (Eq.refl 7) (wk_s rfl (wk_s rfl (wk_s rfl (wk_s rfl (wk_s rfl (wk_s rfl (wk_s (congrArg Value.int (dn_step hl42 (by omega))) wk_0)))))))
              exact ih42 hl42 (b42.1 + 1, dn 30 i) eN42
            · refine r_goto (pc := 64) (tgt := 74) hG dX9_throwsFor_64 (by decide) ?_
              refine r_iinc (pc := 74) (v := (dn 30 i) + (-1)) (ls' := [_, _, _, _, _, _, _]) hG dX9_throwsFor_74 rfl rfl rfl rfl ?_
              refine r_goto (pc := 77) (tgt := 42) hG dX9_throwsFor_77 (by decide) ?_
              have eN42 : (b42.1, b42.2) = st_X9_throwsFor_42 M a0 a1 a2 i (itN i (st_X9_throwsFor_42 M a0 a1 a2) (0, (-1))) := by rw [← hg42]; unfold st_X9_throwsFor_42; exact Eq.symm (if_neg c8)
              refine J.wk (ls' := [some (rf K 140), some (.int a0), some (.int a1), some (.int a2), some (.int b42.1), some (.int b42.2), some (.int (dn 30 (i + 1)))]) ?_ (Eq.refl 7) (wk_s rfl (wk_s rfl (wk_s rfl (wk_s rfl (wk_s rfl (wk_s rfl (wk_s (congrArg Value.int (dn_step hl42 (by omega))) wk_0)))))))
              exact ih42 hl42 (b42.1, b42.2) eN42
        exact (lp42 0 (Nat.zero_le _) _ rfl).wk (Eq.refl 7) (wk_s rfl (wk_s rfl (wk_s rfl (wk_s rfl (wk_s rfl (wk_s rfl (wk_s (congrArg Value.int (show dn 30 0 = 29 from by decide)) wk_0)))))))
      · refine r_aload_n (pc := 25) hG dX9_throwsFor_25 rfl ?_
        refine r_bipush (pc := 26) hG dX9_throwsFor_26 bc_m2 ?_
        refine cv_X9_no (pc := 28)  hG dX9_throwsFor_28 tw_1273 (c_X9_no (bd_lit (n := 7) (by decide))) (by decide) (Nat.le_of_ble_eq_true rfl) ?_
        exact hret _ _ _ _ dX9_throwsFor_31 (pair_fst (show sp_X9_throwsFor M a0 a1 a2 = ((sp_X9_no M (-2)).1, (sp_X9_no M (-2)).2) from (by unfold sp_X9_throwsFor; exact ((if_pos c1).trans ((if_pos c2).trans (if_neg c3)))))) (pair_snd (show sp_X9_throwsFor M a0 a1 a2 = ((sp_X9_no M (-2)).1, (sp_X9_no M (-2)).2) from (by unfold sp_X9_throwsFor; exact ((if_pos c1).trans ((if_pos c2).trans (if_neg c3))))))

def st_X9_longest_38 (M : MT) (a0 : Int32) (i : Nat) (b26 : Int32 × Int32 × Int32) (i38 : Nat) (b38 : Int32 × Int32 × Int32) : Int32 × Int32 × Int32 :=
  if b38.1 < (sp_X9_queueOf M (nI i) (nI i38)) then
    (sp_X9_queueOf M (nI i) (nI i38), nI i, nI i38)
  else
    (b38.1, b38.2.1, b38.2.2)
def st_X9_longest_26 (M : MT) (a0 : Int32) (i : Nat) (b26 : Int32 × Int32 × Int32) : Int32 × Int32 × Int32 :=
  ((itN 1000 (st_X9_longest_38 M a0 i b26) (b26.1, b26.2.1, b26.2.2)).1, (itN 1000 (st_X9_longest_38 M a0 i b26) (b26.1, b26.2.1, b26.2.2)).2.1, (itN 1000 (st_X9_longest_38 M a0 i b26) (b26.1, b26.2.1, b26.2.2)).2.2)
def sp_X9_longest (M : MT) (a0 : Int32) : Int32 × MT :=
  if (sp_X9_within a0 0 2) = true then
    if a0 = 0 then
      ((itN (tn (M.1 5 0 0)) (st_X9_longest_26 M a0) (0, (-1), (-1))).1, M)
    else
      if a0 = 1 then
        ((itN (tn (M.1 5 0 0)) (st_X9_longest_26 M a0) (0, (-1), (-1))).2.2, M)
      else
        ((itN (tn (M.1 5 0 0)) (st_X9_longest_26 M a0) (0, (-1), (-1))).2.1, M)
  else
    ((sp_X9_no M (-2)).1, (sp_X9_no M (-2)).2)
set_option maxRecDepth 20000 in
theorem c_X9_longest {K : KT} {M : MT} {a0 : Int32}  (hokr : OKR M) : CM K 2 yX9_longest cX9_longest 8 (some FieldType.int) [rf K 140, .int a0] M (some (.int (sp_X9_longest M a0).1)) (sp_X9_longest M a0).2 := by
  refine CM.ofI (by decide) [some (rf K 140), some (.int a0), none, none, none, none, none, none] rfl (Nat.le_of_ble_eq_true rfl) (Nat.le_of_ble_eq_true rfl) (fun G hG _ hret => ?_)
  obtain ⟨hok5, hhl, htp5⟩ := id hokr
  obtain ⟨hwc5, hpc5, ⟨hcl5, hcm5⟩, hwi5, hda5, hle5, hk85, ha85, hW5, hP5⟩ := id hok5
  have hwl5 := bd_lt hwc5
  have hpl5 := bd_lt hpc5
  have hcl5l := bd_lt hcl5
  refine r_iload_n (pc := 0) hG dX9_longest_0 rfl ?_
  refine r_iconst (pc := 1) hG dX9_longest_1 ic_0 ?_
  refine r_iconst (pc := 2) hG dX9_longest_2 ic_2 ?_
  refine cs_X9_within (pc := 3)  hG dX9_longest_3 tw_1270 (c_X9_within) (by decide) (Nat.le_of_ble_eq_true rfl) ?_
  refine r_ifz_ne (pc := 6) (tgt := 16) hG dX9_longest_6 (by decide) (fun c1 => ?_) (fun c1 => ?_)
  · refine r_iconst (pc := 16) hG dX9_longest_16 ic_0 ?_
    refine r_istore_n (pc := 17) (ls' := [_, _, _, _, _, _, _, _]) hG dX9_longest_17 rfl rfl ?_
    refine r_iconst (pc := 18) hG dX9_longest_18 ic_m1 ?_
    refine r_istore_n (pc := 19) (ls' := [_, _, _, _, _, _, _, _]) hG dX9_longest_19 rfl rfl ?_
    refine r_iconst (pc := 20) hG dX9_longest_20 ic_m1 ?_
    refine r_istore (pc := 21) (ls' := [_, _, _, _, _, _, _, _]) hG dX9_longest_21 rfl rfl ?_
    refine r_iconst (pc := 23) hG dX9_longest_23 ic_0 ?_
    refine r_istore (pc := 24) (ls' := [_, _, _, _, _, _, _, _]) hG dX9_longest_24 rfl rfl ?_
    have hb26 : bd (M.1 5 0 0) 9 := hwc5
    have hb26l := bd_lt hb26
    have lp26 : ∀ i, i ≤ (tn (M.1 5 0 0)) → ∀ b26 : Int32 × Int32 × Int32, b26 = itN i (st_X9_longest_26 M a0) (0, (-1), (-1)) → J G K M 26 [some (rf K 140), some (.int a0), some (.int b26.1), some (.int b26.2.1), some (.int b26.2.2), some (.int (nI i)), none, none] [] := by
      refine up_ind (tn (M.1 5 0 0)) (fun i hi26 ih26 => ?_)
      intro b26 hg26
      refine r_iload (pc := 26) hG dX9_longest_26 rfl ?_
      refine r_aload_n (pc := 28) hG dX9_longest_28 rfl ?_
      refine gf_X9_windows (pc := 29)  hG dX9_longest_29 tw_1169 ?_
      refine r_icmp_ge (pc := 32) (tgt := 87) hG dX9_longest_32 (by decide) (fun c2 => ?_) (fun c2 => ?_)
      · have e26 : i = (tn (M.1 5 0 0)) := by have := (bd_le hb26 (by omega)).mp c2; omega
        subst hg26
        subst e26
        refine r_iload_n (pc := 87) hG dX9_longest_87 rfl ?_
        refine r_if_ne (pc := 88) (tgt := 95) hG dX9_longest_88 (by decide) (fun c3 => ?_) (fun c3 => ?_)
        · refine r_iload_n (pc := 95) hG dX9_longest_95 rfl ?_
          refine r_iconst (pc := 96) hG dX9_longest_96 ic_1 ?_
          refine r_icmp_ne (pc := 97) (tgt := 105) hG dX9_longest_97 (by decide) (fun c4 => ?_) (fun c4 => ?_)
          · refine r_iload_n (pc := 105) hG dX9_longest_105 rfl ?_
            exact hret _ _ _ _ dX9_longest_106 (pair_fst (show sp_X9_longest M a0 = ((itN (tn (M.1 5 0 0)) (st_X9_longest_26 M a0) (0, (-1), (-1))).2.1, M) from (by unfold sp_X9_longest; exact ((if_pos c1).trans ((if_neg c3).trans (if_neg c4)))))) (pair_snd (show sp_X9_longest M a0 = ((itN (tn (M.1 5 0 0)) (st_X9_longest_26 M a0) (0, (-1), (-1))).2.1, M) from (by unfold sp_X9_longest; exact ((if_pos c1).trans ((if_neg c3).trans (if_neg c4))))))
          · refine r_iload (pc := 100) hG dX9_longest_100 rfl ?_
            refine r_goto (pc := 102) (tgt := 106) hG dX9_longest_102 (by decide) ?_
            exact hret _ _ _ _ dX9_longest_106 (pair_fst (show sp_X9_longest M a0 = ((itN (tn (M.1 5 0 0)) (st_X9_longest_26 M a0) (0, (-1), (-1))).2.2, M) from (by unfold sp_X9_longest; exact ((if_pos c1).trans ((if_neg c3).trans (if_pos c4)))))) (pair_snd (show sp_X9_longest M a0 = ((itN (tn (M.1 5 0 0)) (st_X9_longest_26 M a0) (0, (-1), (-1))).2.2, M) from (by unfold sp_X9_longest; exact ((if_pos c1).trans ((if_neg c3).trans (if_pos c4))))))
        · refine r_iload_n (pc := 91) hG dX9_longest_91 rfl ?_
          refine r_goto (pc := 92) (tgt := 106) hG dX9_longest_92 (by decide) ?_
          exact hret _ _ _ _ dX9_longest_106 (pair_fst (show sp_X9_longest M a0 = ((itN (tn (M.1 5 0 0)) (st_X9_longest_26 M a0) (0, (-1), (-1))).1, M) from (by unfold sp_X9_longest; exact ((if_pos c1).trans (if_pos c3))))) (pair_snd (show sp_X9_longest M a0 = ((itN (tn (M.1 5 0 0)) (st_X9_longest_26 M a0) (0, (-1), (-1))).1, M) from (by unfold sp_X9_longest; exact ((if_pos c1).trans (if_pos c3)))))
      · have hl26 : i < (tn (M.1 5 0 0)) := by have := mt (bd_le hb26 (by omega)).mpr c2; omega
        refine r_iconst (pc := 35) hG dX9_longest_35 ic_0 ?_
        refine r_istore (pc := 36) (ls' := [_, _, _, _, _, _, _, _]) hG dX9_longest_36 rfl rfl ?_
        have lp38 : ∀ i38, i38 ≤ 1000 → ∀ b38 : Int32 × Int32 × Int32, b38 = itN i38 (st_X9_longest_38 M a0 i b26) (b26.1, b26.2.1, b26.2.2) → J G K M 38 [some (rf K 140), some (.int a0), some (.int b38.1), some (.int b38.2.1), some (.int b38.2.2), some (.int (nI i)), some (.int (nI i38)), none] [] := by
          refine up_ind 1000 (fun i38 hi38 ih38 => ?_)
          intro b38 hg38
          refine r_iload (pc := 38) hG dX9_longest_38 rfl ?_
          refine r_sipush (pc := 40) hG dX9_longest_40 sc_1000 ?_
          refine r_icmp_ge (pc := 43) (tgt := 81) hG dX9_longest_43 (by decide) (fun c5 => ?_) (fun c5 => ?_)
          · have e38 : i38 = 1000 := by have := (le_nI (k := 1000) (i := i38) (Nat.le_of_ble_eq_true rfl) (by omega)).mp c5; omega
            subst hg38
            subst e38
            refine r_iinc (pc := 81) (v := nI (i + 1)) (ls' := [_, _, _, _, _, _, _, _]) hG dX9_longest_81 rfl (nI_1 _) rfl rfl ?_
            refine r_goto (pc := 84) (tgt := 26) hG dX9_longest_84 (by decide) ?_
            have eN26 : ((itN 1000 (st_X9_longest_38 M a0 i b26) (b26.1, b26.2.1, b26.2.2)).1, (itN 1000 (st_X9_longest_38 M a0 i b26) (b26.1, b26.2.1, b26.2.2)).2.1, (itN 1000 (st_X9_longest_38 M a0 i b26) (b26.1, b26.2.1, b26.2.2)).2.2) = st_X9_longest_26 M a0 i (itN i (st_X9_longest_26 M a0) (0, (-1), (-1))) := by rw [← hg26]; unfold st_X9_longest_26; exact Eq.symm rfl
            refine J.wk (ls' := [some (rf K 140), some (.int a0), some (.int ((itN 1000 (st_X9_longest_38 M a0 i b26) (b26.1, b26.2.1, b26.2.2)).1)), some (.int ((itN 1000 (st_X9_longest_38 M a0 i b26) (b26.1, b26.2.1, b26.2.2)).2.1)), some (.int ((itN 1000 (st_X9_longest_38 M a0 i b26) (b26.1, b26.2.1, b26.2.2)).2.2)), some (.int (nI (i + 1))), none, none]) ?_ (Eq.refl 8) (wk_s rfl (wk_s rfl (wk_s rfl (wk_s rfl (wk_s rfl (wk_s rfl (wk_n (wk_n wk_0))))))))
            exact ih26 hl26 ((itN 1000 (st_X9_longest_38 M a0 i b26) (b26.1, b26.2.1, b26.2.2)).1, (itN 1000 (st_X9_longest_38 M a0 i b26) (b26.1, b26.2.1, b26.2.2)).2.1, (itN 1000 (st_X9_longest_38 M a0 i b26) (b26.1, b26.2.1, b26.2.2)).2.2) eN26
          · have hl38 : i38 < 1000 := by have := mt (le_nI (k := 1000) (i := i38) (Nat.le_of_ble_eq_true rfl) (by omega)).mpr c5; omega
            refine r_aload_n (pc := 46) hG dX9_longest_46 rfl ?_
            refine r_iload (pc := 47) hG dX9_longest_47 rfl ?_
            refine r_iload (pc := 49) hG dX9_longest_49 rfl ?_
            refine cv_X9_queueOf (pc := 51)  hG dX9_longest_51 tw_1575 (c_X9_queueOf hpc5) (by decide) (Nat.le_of_ble_eq_true rfl) ?_
            refine r_istore (pc := 54) (ls' := [_, _, _, _, _, _, _, _]) hG dX9_longest_54 rfl rfl ?_
            refine r_iload (pc := 56) hG dX9_longest_56 rfl ?_
            refine r_iload_n (pc := 58) hG dX9_longest_58 rfl ?_
            refine r_icmp_gt (pc := 59) (tgt := 65) hG dX9_longest_59 (by decide) (fun c6 => ?_) (fun c6 => ?_)
            · refine r_iload (pc := 65) hG dX9_longest_65 rfl ?_
              refine r_istore_n (pc := 67) (ls' := [_, _, _, _, _, _, _, _]) hG dX9_longest_67 rfl rfl ?_
              refine r_iload (pc := 68) hG dX9_longest_68 rfl ?_
              refine r_istore_n (pc := 70) (ls' := [_, _, _, _, _, _, _, _]) hG dX9_longest_70 rfl rfl ?_
              refine r_iload (pc := 71) hG dX9_longest_71 rfl ?_
              refine r_istore (pc := 73) (ls' := [_, _, _, _, _, _, _, _]) hG dX9_longest_73 rfl rfl ?_
              refine r_iinc (pc := 75) (v := nI (i38 + 1)) (ls' := [_, _, _, _, _, _, _, _]) hG dX9_longest_75 rfl (nI_1 _) rfl rfl ?_
              refine r_goto (pc := 78) (tgt := 38) hG dX9_longest_78 (by decide) ?_
              have eN38 : (sp_X9_queueOf M (nI i) (nI i38), nI i, nI i38) = st_X9_longest_38 M a0 i b26 i38 (itN i38 (st_X9_longest_38 M a0 i b26) (b26.1, b26.2.1, b26.2.2)) := by rw [← hg38]; unfold st_X9_longest_38; exact Eq.symm (if_pos c6)
              refine J.wk (ls' := [some (rf K 140), some (.int a0), some (.int (sp_X9_queueOf M (nI i) (nI i38))), some (.int (nI i)), some (.int (nI i38)), some (.int (nI i)), some (.int (nI (i38 + 1))), none]) ?_ (Eq.refl 8) (wk_s rfl (wk_s rfl (wk_s rfl (wk_s rfl (wk_s rfl (wk_s rfl (wk_s rfl (wk_n wk_0))))))))
              exact ih38 hl38 (sp_X9_queueOf M (nI i) (nI i38), nI i, nI i38) eN38
            · refine r_goto (pc := 62) (tgt := 75) hG dX9_longest_62 (by decide) ?_
              refine r_iinc (pc := 75) (v := nI (i38 + 1)) (ls' := [_, _, _, _, _, _, _, _]) hG dX9_longest_75 rfl (nI_1 _) rfl rfl ?_
              refine r_goto (pc := 78) (tgt := 38) hG dX9_longest_78 (by decide) ?_
              have eN38 : (b38.1, b38.2.1, b38.2.2) = st_X9_longest_38 M a0 i b26 i38 (itN i38 (st_X9_longest_38 M a0 i b26) (b26.1, b26.2.1, b26.2.2)) := by rw [← hg38]; unfold st_X9_longest_38; exact Eq.symm (if_neg c6)
              refine J.wk (ls' := [some (rf K 140), some (.int a0), some (.int b38.1), some (.int b38.2.1), some (.int b38.2.2), some (.int (nI i)), some (.int (nI (i38 + 1))), none]) ?_ (Eq.refl 8) (wk_s rfl (wk_s rfl (wk_s rfl (wk_s rfl (wk_s rfl (wk_s rfl (wk_s rfl (wk_n wk_0))))))))
              exact ih38 hl38 (b38.1, b38.2.1, b38.2.2) eN38
        exact (lp38 0 (Nat.zero_le _) _ rfl).wk (Eq.refl 8) (wk_s rfl (wk_s rfl (wk_s rfl (wk_s rfl (wk_s rfl (wk_s rfl (wk_s rfl (wk_n wk_0))))))))
    exact (lp26 0 (Nat.zero_le _) _ rfl).wk (Eq.refl 8) (wk_s rfl (wk_s rfl (wk_s rfl (wk_s rfl (wk_s rfl (wk_s rfl (wk_n (wk_n wk_0))))))))
  · refine r_aload_n (pc := 9) hG dX9_longest_9 rfl ?_
    refine r_bipush (pc := 10) hG dX9_longest_10 bc_m2 ?_
    refine cv_X9_no (pc := 12)  hG dX9_longest_12 tw_1273 (c_X9_no (bd_lit (n := 7) (by decide))) (by decide) (Nat.le_of_ble_eq_true rfl) ?_
    exact hret _ _ _ _ dX9_longest_15 (pair_fst (show sp_X9_longest M a0 = ((sp_X9_no M (-2)).1, (sp_X9_no M (-2)).2) from (by unfold sp_X9_longest; exact (if_neg c1)))) (pair_snd (show sp_X9_longest M a0 = ((sp_X9_no M (-2)).1, (sp_X9_no M (-2)).2) from (by unfold sp_X9_longest; exact (if_neg c1))))

def st_X9_whose_46 (M : MT) (a0 : Int32) (a1 : Int32) (a2 : Int32) (i : Nat) (b46 : Int32 × Int32 × Int32) : Int32 × Int32 × Int32 :=
  if (M.1 5 8 i) = a1 then
    if (sp_X9_mayBeHers M a0 (nI i)) = true then
      if b46.2.2 = (-1) then
        (b46.1 ||| (1 <<< ((nI i) &&& 31)), b46.2.1 + (M.1 5 7 i), nI i)
      else
        if (M.1 5 7 (tn b46.2.2)) ≤ (M.1 5 7 i) then
          (b46.1 ||| (1 <<< ((nI i) &&& 31)), b46.2.1 + (M.1 5 7 i), b46.2.2)
        else
          (b46.1 ||| (1 <<< ((nI i) &&& 31)), b46.2.1 + (M.1 5 7 i), nI i)
    else
      (b46.1, b46.2.1, b46.2.2)
  else
    (b46.1, b46.2.1, b46.2.2)
def sp_X9_whose (M : MT) (a0 : Int32) (a1 : Int32) (a2 : Int32) : Int32 × MT :=
  if (sp_X9_isOne M a0) = true then
    if (sp_X9_within a1 0 9) = true then
      if (sp_X9_within a2 0 2) = true then
        if a2 = 0 then
          ((itN (tn (M.1 5 0 0)) (st_X9_whose_46 M a0 a1 a2) (0, 0, (-1))).1, M)
        else
          if a2 = 1 then
            ((itN (tn (M.1 5 0 0)) (st_X9_whose_46 M a0 a1 a2) (0, 0, (-1))).2.1, M)
          else
            ((itN (tn (M.1 5 0 0)) (st_X9_whose_46 M a0 a1 a2) (0, 0, (-1))).2.2, M)
      else
        ((sp_X9_no M (-2)).1, (sp_X9_no M (-2)).2)
    else
      ((sp_X9_no M (-2)).1, (sp_X9_no M (-2)).2)
  else
    ((sp_X9_no M (-2)).1, (sp_X9_no M (-2)).2)
set_option maxRecDepth 20000 in
theorem c_X9_whose {K : KT} {M : MT} {a0 : Int32} {a1 : Int32} {a2 : Int32}  (hokr : OKR M) : CM K 5 yX9_whose cX9_whose 8 (some FieldType.int) [rf K 140, .int a0, .int a1, .int a2] M (some (.int (sp_X9_whose M a0 a1 a2).1)) (sp_X9_whose M a0 a1 a2).2 := by
  refine CM.ofI (by decide) [some (rf K 140), some (.int a0), some (.int a1), some (.int a2), none, none, none, none] rfl (Nat.le_of_ble_eq_true rfl) (Nat.le_of_ble_eq_true rfl) (fun G hG _ hret => ?_)
  obtain ⟨hok5, hhl, htp5⟩ := id hokr
  obtain ⟨hwc5, hpc5, ⟨hcl5, hcm5⟩, hwi5, hda5, hle5, hk85, ha85, hW5, hP5⟩ := id hok5
  have hwl5 := bd_lt hwc5
  have hpl5 := bd_lt hpc5
  have hcl5l := bd_lt hcl5
  refine r_aload_n (pc := 0) hG dX9_whose_0 rfl ?_
  refine r_iload_n (pc := 1) hG dX9_whose_1 rfl ?_
  refine cv_X9_isOne (pc := 2)  hG dX9_whose_2 tw_1308 (c_X9_isOne) (by decide) (Nat.le_of_ble_eq_true rfl) ?_
  refine r_ifz_eq (pc := 5) (tgt := 27) hG dX9_whose_5 (by decide) (fun c1 => ?_) (fun c1 => ?_)
  · refine r_aload_n (pc := 27) hG dX9_whose_27 rfl ?_
    refine r_bipush (pc := 28) hG dX9_whose_28 bc_m2 ?_
    refine cv_X9_no (pc := 30)  hG dX9_whose_30 tw_1273 (c_X9_no (bd_lit (n := 7) (by decide))) (by decide) (Nat.le_of_ble_eq_true rfl) ?_
    exact hret _ _ _ _ dX9_whose_33 (pair_fst (show sp_X9_whose M a0 a1 a2 = ((sp_X9_no M (-2)).1, (sp_X9_no M (-2)).2) from (by unfold sp_X9_whose; exact (if_neg c1)))) (pair_snd (show sp_X9_whose M a0 a1 a2 = ((sp_X9_no M (-2)).1, (sp_X9_no M (-2)).2) from (by unfold sp_X9_whose; exact (if_neg c1))))
  · refine r_iload_n (pc := 8) hG dX9_whose_8 rfl ?_
    refine r_iconst (pc := 9) hG dX9_whose_9 ic_0 ?_
    refine r_bipush (pc := 10) hG dX9_whose_10 bc_9 ?_
    refine cs_X9_within (pc := 12)  hG dX9_whose_12 tw_1270 (c_X9_within) (by decide) (Nat.le_of_ble_eq_true rfl) ?_
    refine r_ifz_eq (pc := 15) (tgt := 27) hG dX9_whose_15 (by decide) (fun c2 => ?_) (fun c2 => ?_)
    · refine r_aload_n (pc := 27) hG dX9_whose_27 rfl ?_
      refine r_bipush (pc := 28) hG dX9_whose_28 bc_m2 ?_
      refine cv_X9_no (pc := 30)  hG dX9_whose_30 tw_1273 (c_X9_no (bd_lit (n := 7) (by decide))) (by decide) (Nat.le_of_ble_eq_true rfl) ?_
      exact hret _ _ _ _ dX9_whose_33 (pair_fst (show sp_X9_whose M a0 a1 a2 = ((sp_X9_no M (-2)).1, (sp_X9_no M (-2)).2) from (by unfold sp_X9_whose; exact ((if_pos c1).trans (if_neg c2))))) (pair_snd (show sp_X9_whose M a0 a1 a2 = ((sp_X9_no M (-2)).1, (sp_X9_no M (-2)).2) from (by unfold sp_X9_whose; exact ((if_pos c1).trans (if_neg c2)))))
    · refine r_iload_n (pc := 18) hG dX9_whose_18 rfl ?_
      refine r_iconst (pc := 19) hG dX9_whose_19 ic_0 ?_
      refine r_iconst (pc := 20) hG dX9_whose_20 ic_2 ?_
      refine cs_X9_within (pc := 21)  hG dX9_whose_21 tw_1270 (c_X9_within) (by decide) (Nat.le_of_ble_eq_true rfl) ?_
      refine r_ifz_ne (pc := 24) (tgt := 34) hG dX9_whose_24 (by decide) (fun c3 => ?_) (fun c3 => ?_)
      · refine r_iconst (pc := 34) hG dX9_whose_34 ic_0 ?_
        refine r_istore (pc := 35) (ls' := [_, _, _, _, _, _, _, _]) hG dX9_whose_35 rfl rfl ?_
        refine r_iconst (pc := 37) hG dX9_whose_37 ic_0 ?_
        refine r_istore (pc := 38) (ls' := [_, _, _, _, _, _, _, _]) hG dX9_whose_38 rfl rfl ?_
        refine r_iconst (pc := 40) hG dX9_whose_40 ic_m1 ?_
        refine r_istore (pc := 41) (ls' := [_, _, _, _, _, _, _, _]) hG dX9_whose_41 rfl rfl ?_
        refine r_iconst (pc := 43) hG dX9_whose_43 ic_0 ?_
        refine r_istore (pc := 44) (ls' := [_, _, _, _, _, _, _, _]) hG dX9_whose_44 rfl rfl ?_
        have hb46 : bd (M.1 5 0 0) 9 := hwc5
        have hb46l := bd_lt hb46
        have lp46 : ∀ i, i ≤ (tn (M.1 5 0 0)) → ∀ b46 : Int32 × Int32 × Int32, b46 = itN i (st_X9_whose_46 M a0 a1 a2) (0, 0, (-1)) → J G K M 46 [some (rf K 140), some (.int a0), some (.int a1), some (.int a2), some (.int b46.1), some (.int b46.2.1), some (.int b46.2.2), some (.int (nI i))] [] := by
          refine up_ind (tn (M.1 5 0 0)) (fun i hi46 ih46 => ?_)
          intro b46 hg46
          have hv46 : b46.2.2 = -1 ∨ bd b46.2.2 8 := by subst hg46; exact itN_inv (fun x : Int32 × Int32 × Int32 => x.2.2 = -1 ∨ bd x.2.2 8) i (Or.inl rfl) (fun k b hk hb => by unfold st_X9_whose_46; (repeat' split) <;> first | exact hb | exact Or.inr (bd_nI (by omega) (Nat.le_of_ble_eq_true rfl)))
          refine r_iload (pc := 46) hG dX9_whose_46 rfl ?_
          refine r_aload_n (pc := 48) hG dX9_whose_48 rfl ?_
          refine gf_X9_windows (pc := 49)  hG dX9_whose_49 tw_1169 ?_
          refine r_icmp_ge (pc := 52) (tgt := 133) hG dX9_whose_52 (by decide) (fun c4 => ?_) (fun c4 => ?_)
          · have e46 : i = (tn (M.1 5 0 0)) := by have := (bd_le hb46 (by omega)).mp c4; omega
            subst hg46
            subst e46
            refine r_iload_n (pc := 133) hG dX9_whose_133 rfl ?_
            refine r_if_ne (pc := 134) (tgt := 142) hG dX9_whose_134 (by decide) (fun c5 => ?_) (fun c5 => ?_)
            · refine r_iload_n (pc := 142) hG dX9_whose_142 rfl ?_
              refine r_iconst (pc := 143) hG dX9_whose_143 ic_1 ?_
              refine r_icmp_ne (pc := 144) (tgt := 152) hG dX9_whose_144 (by decide) (fun c6 => ?_) (fun c6 => ?_)
              · refine r_iload (pc := 152) hG dX9_whose_152 rfl ?_
                exact hret _ _ _ _ dX9_whose_154 (pair_fst (show sp_X9_whose M a0 a1 a2 = ((itN (tn (M.1 5 0 0)) (st_X9_whose_46 M a0 a1 a2) (0, 0, (-1))).2.2, M) from (by unfold sp_X9_whose; exact ((if_pos c1).trans ((if_pos c2).trans ((if_pos c3).trans ((if_neg c5).trans (if_neg c6)))))))) (pair_snd (show sp_X9_whose M a0 a1 a2 = ((itN (tn (M.1 5 0 0)) (st_X9_whose_46 M a0 a1 a2) (0, 0, (-1))).2.2, M) from (by unfold sp_X9_whose; exact ((if_pos c1).trans ((if_pos c2).trans ((if_pos c3).trans ((if_neg c5).trans (if_neg c6))))))))
              · refine r_iload (pc := 147) hG dX9_whose_147 rfl ?_
                refine r_goto (pc := 149) (tgt := 154) hG dX9_whose_149 (by decide) ?_
                exact hret _ _ _ _ dX9_whose_154 (pair_fst (show sp_X9_whose M a0 a1 a2 = ((itN (tn (M.1 5 0 0)) (st_X9_whose_46 M a0 a1 a2) (0, 0, (-1))).2.1, M) from (by unfold sp_X9_whose; exact ((if_pos c1).trans ((if_pos c2).trans ((if_pos c3).trans ((if_neg c5).trans (if_pos c6)))))))) (pair_snd (show sp_X9_whose M a0 a1 a2 = ((itN (tn (M.1 5 0 0)) (st_X9_whose_46 M a0 a1 a2) (0, 0, (-1))).2.1, M) from (by unfold sp_X9_whose; exact ((if_pos c1).trans ((if_pos c2).trans ((if_pos c3).trans ((if_neg c5).trans (if_pos c6))))))))
            · refine r_iload (pc := 137) hG dX9_whose_137 rfl ?_
              refine r_goto (pc := 139) (tgt := 154) hG dX9_whose_139 (by decide) ?_
              exact hret _ _ _ _ dX9_whose_154 (pair_fst (show sp_X9_whose M a0 a1 a2 = ((itN (tn (M.1 5 0 0)) (st_X9_whose_46 M a0 a1 a2) (0, 0, (-1))).1, M) from (by unfold sp_X9_whose; exact ((if_pos c1).trans ((if_pos c2).trans ((if_pos c3).trans (if_pos c5))))))) (pair_snd (show sp_X9_whose M a0 a1 a2 = ((itN (tn (M.1 5 0 0)) (st_X9_whose_46 M a0 a1 a2) (0, 0, (-1))).1, M) from (by unfold sp_X9_whose; exact ((if_pos c1).trans ((if_pos c2).trans ((if_pos c3).trans (if_pos c5)))))))
          · have hl46 : i < (tn (M.1 5 0 0)) := by have := mt (bd_le hb46 (by omega)).mpr c4; omega
            refine r_aload_n (pc := 55) hG dX9_whose_55 rfl ?_
            refine gf_X9_thorns (pc := 56)  hG dX9_whose_56 tw_1172 ?_
            refine r_iload (pc := 59) hG dX9_whose_59 rfl ?_
            refine al_Mthorns (pc := 61)  hG dX9_whose_61 (ix_nI (by omega) (Nat.le_of_ble_eq_true rfl)) ?_
            refine r_iload_n (pc := 62) hG dX9_whose_62 rfl ?_
            refine r_icmp_ne (pc := 63) (tgt := 127) hG dX9_whose_63 (by decide) (fun c7 => ?_) (fun c7 => ?_)
            · refine r_iinc (pc := 127) (v := nI (i + 1)) (ls' := [_, _, _, _, _, _, _, _]) hG dX9_whose_127 rfl (nI_1 _) rfl rfl ?_
              refine r_goto (pc := 130) (tgt := 46) hG dX9_whose_130 (by decide) ?_
              have eN46 : (b46.1, b46.2.1, b46.2.2) = st_X9_whose_46 M a0 a1 a2 i (itN i (st_X9_whose_46 M a0 a1 a2) (0, 0, (-1))) := by rw [← hg46]; unfold st_X9_whose_46; exact Eq.symm (if_neg c7)
              refine J.wk (ls' := [some (rf K 140), some (.int a0), some (.int a1), some (.int a2), some (.int b46.1), some (.int b46.2.1), some (.int b46.2.2), some (.int (nI (i + 1)))]) ?_ (Eq.refl 8) (wk_s rfl (wk_s rfl (wk_s rfl (wk_s rfl (wk_s rfl (wk_s rfl (wk_s rfl (wk_s rfl wk_0))))))))
              exact ih46 hl46 (b46.1, b46.2.1, b46.2.2) eN46
            · refine r_aload_n (pc := 66) hG dX9_whose_66 rfl ?_
              refine r_iload_n (pc := 67) hG dX9_whose_67 rfl ?_
              refine r_iload (pc := 68) hG dX9_whose_68 rfl ?_
              refine cv_X9_mayBeHers (pc := 70)  hG dX9_whose_70 tw_1507 (c_X9_mayBeHers (hasP5 hpc5 c1) (bd_nI (by omega) (Nat.le_of_ble_eq_true rfl))) (by decide) (Nat.le_of_ble_eq_true rfl) ?_
              refine r_ifz_ne (pc := 73) (tgt := 79) hG dX9_whose_73 (by decide) (fun c8 => ?_) (fun c8 => ?_)
              · refine r_iload (pc := 79) hG dX9_whose_79 rfl ?_
                refine r_iconst (pc := 81) hG dX9_whose_81 ic_1 ?_
                refine r_iload (pc := 82) hG dX9_whose_82 rfl ?_
                refine r_ishl (pc := 84) hG dX9_whose_84 ?_
                refine r_ior (pc := 85) hG dX9_whose_85 ?_
                refine r_istore (pc := 86) (ls' := [_, _, _, _, _, _, _, _]) hG dX9_whose_86 rfl rfl ?_
                refine r_iload (pc := 88) hG dX9_whose_88 rfl ?_
                refine r_aload_n (pc := 90) hG dX9_whose_90 rfl ?_
                refine gf_X9_floor (pc := 91)  hG dX9_whose_91 tw_1171 ?_
                refine r_iload (pc := 94) hG dX9_whose_94 rfl ?_
                refine al_Mfloor (pc := 96)  hG dX9_whose_96 (ix_nI (by omega) (Nat.le_of_ble_eq_true rfl)) ?_
                refine r_iadd (pc := 97) hG dX9_whose_97 ?_
                refine r_istore (pc := 98) (ls' := [_, _, _, _, _, _, _, _]) hG dX9_whose_98 rfl rfl ?_
                refine r_iload (pc := 100) hG dX9_whose_100 rfl ?_
                refine r_iconst (pc := 102) hG dX9_whose_102 ic_m1 ?_
                refine r_icmp_eq (pc := 103) (tgt := 123) hG dX9_whose_103 (by decide) (fun c9 => ?_) (fun c9 => ?_)
                · refine r_iload (pc := 123) hG dX9_whose_123 rfl ?_
                  refine r_istore (pc := 125) (ls' := [_, _, _, _, _, _, _, _]) hG dX9_whose_125 rfl rfl ?_
                  refine r_iinc (pc := 127) (v := nI (i + 1)) (ls' := [_, _, _, _, _, _, _, _]) hG dX9_whose_127 rfl (nI_1 _) rfl rfl ?_
                  refine r_goto (pc := 130) (tgt := 46) hG dX9_whose_130 (by decide) ?_
                  have eN46 : (b46.1 ||| (1 <<< ((nI i) &&& 31)), b46.2.1 + (M.1 5 7 i), nI i) = st_X9_whose_46 M a0 a1 a2 i (itN i (st_X9_whose_46 M a0 a1 a2) (0, 0, (-1))) := by rw [← hg46]; unfold st_X9_whose_46; exact Eq.symm ((if_pos c7).trans ((if_pos c8).trans (if_pos c9)))
                  refine J.wk (ls' := [some (rf K 140), some (.int a0), some (.int a1), some (.int a2), some (.int (b46.1 ||| (1 <<< ((nI i) &&& 31)))), some (.int (b46.2.1 + (M.1 5 7 i))), some (.int (nI i)), some (.int (nI (i + 1)))]) ?_ (Eq.refl 8) (wk_s rfl (wk_s rfl (wk_s rfl (wk_s rfl (wk_s rfl (wk_s rfl (wk_s rfl (wk_s rfl wk_0))))))))
                  exact ih46 hl46 (b46.1 ||| (1 <<< ((nI i) &&& 31)), b46.2.1 + (M.1 5 7 i), nI i) eN46
                · refine r_aload_n (pc := 106) hG dX9_whose_106 rfl ?_
                  refine gf_X9_floor (pc := 107)  hG dX9_whose_107 tw_1171 ?_
                  refine r_iload (pc := 110) hG dX9_whose_110 rfl ?_
                  refine al_Mfloor (pc := 112)  hG dX9_whose_112 (ix_nI (by omega) (Nat.le_of_ble_eq_true rfl)) ?_
                  refine r_aload_n (pc := 113) hG dX9_whose_113 rfl ?_
                  refine gf_X9_floor (pc := 114)  hG dX9_whose_114 tw_1171 ?_
                  refine r_iload (pc := 117) hG dX9_whose_117 rfl ?_
                  refine al_Mfloor (pc := 119)  hG dX9_whose_119 (ix_bd (Or.resolve_left hv46 c9)) ?_
                  refine r_icmp_ge (pc := 120) (tgt := 127) hG dX9_whose_120 (by decide) (fun c10 => ?_) (fun c10 => ?_)
                  · refine r_iinc (pc := 127) (v := nI (i + 1)) (ls' := [_, _, _, _, _, _, _, _]) hG dX9_whose_127 rfl (nI_1 _) rfl rfl ?_
                    refine r_goto (pc := 130) (tgt := 46) hG dX9_whose_130 (by decide) ?_
                    have eN46 : (b46.1 ||| (1 <<< ((nI i) &&& 31)), b46.2.1 + (M.1 5 7 i), b46.2.2) = st_X9_whose_46 M a0 a1 a2 i (itN i (st_X9_whose_46 M a0 a1 a2) (0, 0, (-1))) := by rw [← hg46]; unfold st_X9_whose_46; exact Eq.symm ((if_pos c7).trans ((if_pos c8).trans ((if_neg c9).trans (if_pos c10))))
                    refine J.wk (ls' := [some (rf K 140), some (.int a0), some (.int a1), some (.int a2), some (.int (b46.1 ||| (1 <<< ((nI i) &&& 31)))), some (.int (b46.2.1 + (M.1 5 7 i))), some (.int b46.2.2), some (.int (nI (i + 1)))]) ?_ (Eq.refl 8) (wk_s rfl (wk_s rfl (wk_s rfl (wk_s rfl (wk_s rfl (wk_s rfl (wk_s rfl (wk_s rfl wk_0))))))))
                    exact ih46 hl46 (b46.1 ||| (1 <<< ((nI i) &&& 31)), b46.2.1 + (M.1 5 7 i), b46.2.2) eN46
                  · refine r_iload (pc := 123) hG dX9_whose_123 rfl ?_
                    refine r_istore (pc := 125) (ls' := [_, _, _, _, _, _, _, _]) hG dX9_whose_125 rfl rfl ?_
                    refine r_iinc (pc := 127) (v := nI (i + 1)) (ls' := [_, _, _, _, _, _, _, _]) hG dX9_whose_127 rfl (nI_1 _) rfl rfl ?_
                    refine r_goto (pc := 130) (tgt := 46) hG dX9_whose_130 (by decide) ?_
                    have eN46 : (b46.1 ||| (1 <<< ((nI i) &&& 31)), b46.2.1 + (M.1 5 7 i), nI i) = st_X9_whose_46 M a0 a1 a2 i (itN i (st_X9_whose_46 M a0 a1 a2) (0, 0, (-1))) := by rw [← hg46]; unfold st_X9_whose_46; exact Eq.symm ((if_pos c7).trans ((if_pos c8).trans ((if_neg c9).trans (if_neg c10))))
                    refine J.wk (ls' := [some (rf K 140), some (.int a0), some (.int a1), some (.int a2), some (.int (b46.1 ||| (1 <<< ((nI i) &&& 31)))), some (.int (b46.2.1 + (M.1 5 7 i))), some (.int (nI i)), some (.int (nI (i + 1)))]) ?_ (Eq.refl 8) (wk_s rfl (wk_s rfl (wk_s rfl (wk_s rfl (wk_s rfl (wk_s rfl (wk_s rfl (wk_s rfl wk_0))))))))
                    exact ih46 hl46 (b46.1 ||| (1 <<< ((nI i) &&& 31)), b46.2.1 + (M.1 5 7 i), nI i) eN46
              · refine r_goto (pc := 76) (tgt := 127) hG dX9_whose_76 (by decide) ?_
                refine r_iinc (pc := 127) (v := nI (i + 1)) (ls' := [_, _, _, _, _, _, _, _]) hG dX9_whose_127 rfl (nI_1 _) rfl rfl ?_
                refine r_goto (pc := 130) (tgt := 46) hG dX9_whose_130 (by decide) ?_
                have eN46 : (b46.1, b46.2.1, b46.2.2) = st_X9_whose_46 M a0 a1 a2 i (itN i (st_X9_whose_46 M a0 a1 a2) (0, 0, (-1))) := by rw [← hg46]; unfold st_X9_whose_46; exact Eq.symm ((if_pos c7).trans (if_neg c8))
                refine J.wk (ls' := [some (rf K 140), some (.int a0), some (.int a1), some (.int a2), some (.int b46.1), some (.int b46.2.1), some (.int b46.2.2), some (.int (nI (i + 1)))]) ?_ (Eq.refl 8) (wk_s rfl (wk_s rfl (wk_s rfl (wk_s rfl (wk_s rfl (wk_s rfl (wk_s rfl (wk_s rfl wk_0))))))))
                exact ih46 hl46 (b46.1, b46.2.1, b46.2.2) eN46
        exact (lp46 0 (Nat.zero_le _) _ rfl).wk (Eq.refl 8) (wk_s rfl (wk_s rfl (wk_s rfl (wk_s rfl (wk_s rfl (wk_s rfl (wk_s rfl (wk_s rfl wk_0))))))))
      · refine r_aload_n (pc := 27) hG dX9_whose_27 rfl ?_
        refine r_bipush (pc := 28) hG dX9_whose_28 bc_m2 ?_
        refine cv_X9_no (pc := 30)  hG dX9_whose_30 tw_1273 (c_X9_no (bd_lit (n := 7) (by decide))) (by decide) (Nat.le_of_ble_eq_true rfl) ?_
        exact hret _ _ _ _ dX9_whose_33 (pair_fst (show sp_X9_whose M a0 a1 a2 = ((sp_X9_no M (-2)).1, (sp_X9_no M (-2)).2) from (by unfold sp_X9_whose; exact ((if_pos c1).trans ((if_pos c2).trans (if_neg c3)))))) (pair_snd (show sp_X9_whose M a0 a1 a2 = ((sp_X9_no M (-2)).1, (sp_X9_no M (-2)).2) from (by unfold sp_X9_whose; exact ((if_pos c1).trans ((if_pos c2).trans (if_neg c3))))))

def st_X9_best_34 (M : MT) (a0 : Int32) (i : Nat) (b34 : Int32) : Int32 :=
  if (sp_J6_bitCount_0f7a4 (sp_X9_hitFrom M (nI (i + 1)))) ≤ (sp_J6_bitCount_0f7a4 (sp_X9_hitFrom M b34)) then
    b34
  else
    nI (i + 1)
def sp_X9_best (M : MT) (a0 : Int32) : Int32 × MT :=
  if (sp_X9_within a0 0 1) = true then
    if (M.1 5 0 0) = 0 then
      ((sp_X9_no M (-5)).1, (sp_X9_no M (-5)).2)
    else
      if a0 = 0 then
        (itN (tn (M.1 5 0 0) - 1) (st_X9_best_34 M a0) 0, M)
      else
        (sp_J6_bitCount_0f7a4 (sp_X9_hitFrom M (itN (tn (M.1 5 0 0) - 1) (st_X9_best_34 M a0) 0)), M)
  else
    ((sp_X9_no M (-2)).1, (sp_X9_no M (-2)).2)
set_option maxRecDepth 20000 in
theorem c_X9_best {K : KT} {M : MT} {a0 : Int32}  (hokr : OKR M) : CM K 7 yX9_best cX9_best 4 (some FieldType.int) [rf K 140, .int a0] M (some (.int (sp_X9_best M a0).1)) (sp_X9_best M a0).2 := by
  refine CM.ofI (by decide) [some (rf K 140), some (.int a0), none, none] rfl (Nat.le_of_ble_eq_true rfl) (Nat.le_of_ble_eq_true rfl) (fun G hG _ hret => ?_)
  obtain ⟨hok5, hhl, htp5⟩ := id hokr
  obtain ⟨hwc5, hpc5, ⟨hcl5, hcm5⟩, hwi5, hda5, hle5, hk85, ha85, hW5, hP5⟩ := id hok5
  have hwl5 := bd_lt hwc5
  have hpl5 := bd_lt hpc5
  have hcl5l := bd_lt hcl5
  refine r_iload_n (pc := 0) hG dX9_best_0 rfl ?_
  refine r_iconst (pc := 1) hG dX9_best_1 ic_0 ?_
  refine r_iconst (pc := 2) hG dX9_best_2 ic_1 ?_
  refine cs_X9_within (pc := 3)  hG dX9_best_3 tw_1270 (c_X9_within) (by decide) (Nat.le_of_ble_eq_true rfl) ?_
  refine r_ifz_ne (pc := 6) (tgt := 16) hG dX9_best_6 (by decide) (fun c1 => ?_) (fun c1 => ?_)
  · refine r_aload_n (pc := 16) hG dX9_best_16 rfl ?_
    refine gf_X9_windows (pc := 17)  hG dX9_best_17 tw_1169 ?_
    refine r_if_ne (pc := 20) (tgt := 30) hG dX9_best_20 (by decide) (fun c2 => ?_) (fun c2 => ?_)
    · refine r_iconst (pc := 30) hG dX9_best_30 ic_0 ?_
      refine r_istore_n (pc := 31) (ls' := [_, _, _, _]) hG dX9_best_31 rfl rfl ?_
      refine r_iconst (pc := 32) hG dX9_best_32 ic_1 ?_
      refine r_istore_n (pc := 33) (ls' := [_, _, _, _]) hG dX9_best_33 rfl rfl ?_
      have lp34 : ∀ i, i ≤ (tn (M.1 5 0 0) - 1) → ∀ b34 : Int32, b34 = itN i (st_X9_best_34 M a0) 0 → J G K M 34 [some (rf K 140), some (.int a0), some (.int b34), some (.int (nI (i + 1)))] [] := by
        refine up_ind (tn (M.1 5 0 0) - 1) (fun i hi34 ih34 => ?_)
        intro b34 hg34
        have hv34 : bd b34 8 := by subst hg34; exact itN_inv (fun x : Int32 => bd x 8) i (show bd 0 8 from bd_lit (by decide)) (fun k b hk hb => by unfold st_X9_best_34; (repeat' split) <;> first | exact hb | exact (bd_nI (by omega) (Nat.le_of_ble_eq_true rfl)))
        refine r_iload_n (pc := 34) hG dX9_best_34 rfl ?_
        refine r_aload_n (pc := 35) hG dX9_best_35 rfl ?_
        refine gf_X9_windows (pc := 36)  hG dX9_best_36 tw_1169 ?_
        refine r_icmp_ge (pc := 39) (tgt := 69) hG dX9_best_39 (by decide) (fun c3 => ?_) (fun c3 => ?_)
        · have e34 : i = (tn (M.1 5 0 0) - 1) := by have := (bd_le hwc5 (by omega)).mp c3; omega
          subst hg34
          subst e34
          refine r_iload_n (pc := 69) hG dX9_best_69 rfl ?_
          refine r_if_ne (pc := 70) (tgt := 77) hG dX9_best_70 (by decide) (fun c4 => ?_) (fun c4 => ?_)
          · refine r_aload_n (pc := 77) hG dX9_best_77 rfl ?_
            refine r_iload_n (pc := 78) hG dX9_best_78 rfl ?_
            refine cv_X9_hitFrom (pc := 79)  hG dX9_best_79 tw_1487 (c_X9_hitFrom hv34 hpc5) (by decide) (Nat.le_of_ble_eq_true rfl) ?_
            refine cs_J6_bitCount_0f7a4 (pc := 82)  hG dX9_best_82 tw_1613 (c_J6_bitCount_0f7a4) (by decide) (Nat.le_of_ble_eq_true rfl) ?_
            exact hret _ _ _ _ dX9_best_85 (pair_fst (show sp_X9_best M a0 = (sp_J6_bitCount_0f7a4 (sp_X9_hitFrom M (itN (tn (M.1 5 0 0) - 1) (st_X9_best_34 M a0) 0)), M) from (by unfold sp_X9_best; exact ((if_pos c1).trans ((if_neg c2).trans (if_neg c4)))))) (pair_snd (show sp_X9_best M a0 = (sp_J6_bitCount_0f7a4 (sp_X9_hitFrom M (itN (tn (M.1 5 0 0) - 1) (st_X9_best_34 M a0) 0)), M) from (by unfold sp_X9_best; exact ((if_pos c1).trans ((if_neg c2).trans (if_neg c4))))))
          · refine r_iload_n (pc := 73) hG dX9_best_73 rfl ?_
            refine r_goto (pc := 74) (tgt := 85) hG dX9_best_74 (by decide) ?_
            exact hret _ _ _ _ dX9_best_85 (pair_fst (show sp_X9_best M a0 = (itN (tn (M.1 5 0 0) - 1) (st_X9_best_34 M a0) 0, M) from (by unfold sp_X9_best; exact ((if_pos c1).trans ((if_neg c2).trans (if_pos c4)))))) (pair_snd (show sp_X9_best M a0 = (itN (tn (M.1 5 0 0) - 1) (st_X9_best_34 M a0) 0, M) from (by unfold sp_X9_best; exact ((if_pos c1).trans ((if_neg c2).trans (if_pos c4))))))
        · have hl34 : i < (tn (M.1 5 0 0) - 1) := by have := mt (bd_le hwc5 (by omega)).mpr c3; omega
          refine r_aload_n (pc := 42) hG dX9_best_42 rfl ?_
          refine r_iload_n (pc := 43) hG dX9_best_43 rfl ?_
          refine cv_X9_hitFrom (pc := 44)  hG dX9_best_44 tw_1487 (c_X9_hitFrom (bd_nI (by omega) (Nat.le_of_ble_eq_true rfl)) hpc5) (by decide) (Nat.le_of_ble_eq_true rfl) ?_
          refine cs_J6_bitCount_0f7a4 (pc := 47)  hG dX9_best_47 tw_1613 (c_J6_bitCount_0f7a4) (by decide) (Nat.le_of_ble_eq_true rfl) ?_
          refine r_aload_n (pc := 50) hG dX9_best_50 rfl ?_
          refine r_iload_n (pc := 51) hG dX9_best_51 rfl ?_
          refine cv_X9_hitFrom (pc := 52)  hG dX9_best_52 tw_1487 (c_X9_hitFrom hv34 hpc5) (by decide) (Nat.le_of_ble_eq_true rfl) ?_
          refine cs_J6_bitCount_0f7a4 (pc := 55)  hG dX9_best_55 tw_1613 (c_J6_bitCount_0f7a4) (by decide) (Nat.le_of_ble_eq_true rfl) ?_
          refine r_icmp_le (pc := 58) (tgt := 63) hG dX9_best_58 (by decide) (fun c5 => ?_) (fun c5 => ?_)
          · refine r_iinc (pc := 63) (v := (nI (i + 1)) + 1) (ls' := [_, _, _, _]) hG dX9_best_63 rfl rfl rfl rfl ?_
            refine r_goto (pc := 66) (tgt := 34) hG dX9_best_66 (by decide) ?_
            have eN34 : b34 = st_X9_best_34 M a0 i (itN i (st_X9_best_34 M a0) 0) := by rw [← hg34]; unfold st_X9_best_34; exact Eq.symm (if_pos c5)
            refine J.wk (ls' := [some (rf K 140), some (.int a0), some (.int b34), some (.int (nI (i + 1 + 1)))]) ?_ (Eq.refl 4) (wk_s rfl (wk_s rfl (wk_s rfl (wk_s (congrArg Value.int (nI_succ _)) wk_0))))
            exact ih34 hl34 b34 eN34
          · refine r_iload_n (pc := 61) hG dX9_best_61 rfl ?_
            refine r_istore_n (pc := 62) (ls' := [_, _, _, _]) hG dX9_best_62 rfl rfl ?_
            refine r_iinc (pc := 63) (v := (nI (i + 1)) + 1) (ls' := [_, _, _, _]) hG dX9_best_63 rfl rfl rfl rfl ?_
            refine r_goto (pc := 66) (tgt := 34) hG dX9_best_66 (by decide) ?_
            have eN34 : nI (i + 1) = st_X9_best_34 M a0 i (itN i (st_X9_best_34 M a0) 0) := by rw [← hg34]; unfold st_X9_best_34; exact Eq.symm (if_neg c5)
            refine J.wk (ls' := [some (rf K 140), some (.int a0), some (.int (nI (i + 1))), some (.int (nI (i + 1 + 1)))]) ?_ (Eq.refl 4) (wk_s rfl (wk_s rfl (wk_s rfl (wk_s (congrArg Value.int (nI_succ _)) wk_0))))
            exact ih34 hl34 (nI (i + 1)) eN34
      exact (lp34 0 (Nat.zero_le _) _ rfl).wk (Eq.refl 4) (wk_s rfl (wk_s rfl (wk_s rfl (wk_s (congrArg Value.int (show nI (0 + 1) = 1 from rfl)) wk_0))))
    · refine r_aload_n (pc := 23) hG dX9_best_23 rfl ?_
      refine r_bipush (pc := 24) hG dX9_best_24 bc_m5 ?_
      refine cv_X9_no (pc := 26)  hG dX9_best_26 tw_1273 (c_X9_no (bd_lit (n := 7) (by decide))) (by decide) (Nat.le_of_ble_eq_true rfl) ?_
      exact hret _ _ _ _ dX9_best_29 (pair_fst (show sp_X9_best M a0 = ((sp_X9_no M (-5)).1, (sp_X9_no M (-5)).2) from (by unfold sp_X9_best; exact ((if_pos c1).trans (if_pos c2))))) (pair_snd (show sp_X9_best M a0 = ((sp_X9_no M (-5)).1, (sp_X9_no M (-5)).2) from (by unfold sp_X9_best; exact ((if_pos c1).trans (if_pos c2)))))
  · refine r_aload_n (pc := 9) hG dX9_best_9 rfl ?_
    refine r_bipush (pc := 10) hG dX9_best_10 bc_m2 ?_
    refine cv_X9_no (pc := 12)  hG dX9_best_12 tw_1273 (c_X9_no (bd_lit (n := 7) (by decide))) (by decide) (Nat.le_of_ble_eq_true rfl) ?_
    exact hret _ _ _ _ dX9_best_15 (pair_fst (show sp_X9_best M a0 = ((sp_X9_no M (-2)).1, (sp_X9_no M (-2)).2) from (by unfold sp_X9_best; exact (if_neg c1)))) (pair_snd (show sp_X9_best M a0 = ((sp_X9_no M (-2)).1, (sp_X9_no M (-2)).2) from (by unfold sp_X9_best; exact (if_neg c1))))

def st_X9_bed_20 (M : MT) (a0 : Int32) (i : Nat) (b20 : Int32) : Int32 :=
  if (sp_X9_landingIn M (nI (i + 1))) ≤ (sp_X9_landingIn M b20) then
    b20
  else
    nI (i + 1)
def sp_X9_bed (M : MT) (a0 : Int32) : Int32 × MT :=
  if (sp_X9_within a0 0 1) = true then
    if a0 = 0 then
      (itN (tn (M.1 5 2 0) - 1) (st_X9_bed_20 M a0) 0, M)
    else
      (sp_X9_landingIn M (itN (tn (M.1 5 2 0) - 1) (st_X9_bed_20 M a0) 0), M)
  else
    ((sp_X9_no M (-2)).1, (sp_X9_no M (-2)).2)
set_option maxRecDepth 20000 in
theorem c_X9_bed {K : KT} {M : MT} {a0 : Int32}  (hokr : OKR M) : CM K 5 yX9_bed cX9_bed 4 (some FieldType.int) [rf K 140, .int a0] M (some (.int (sp_X9_bed M a0).1)) (sp_X9_bed M a0).2 := by
  refine CM.ofI (by decide) [some (rf K 140), some (.int a0), none, none] rfl (Nat.le_of_ble_eq_true rfl) (Nat.le_of_ble_eq_true rfl) (fun G hG _ hret => ?_)
  obtain ⟨hok5, hhl, htp5⟩ := id hokr
  obtain ⟨hwc5, hpc5, ⟨hcl5, hcm5⟩, hwi5, hda5, hle5, hk85, ha85, hW5, hP5⟩ := id hok5
  have hwl5 := bd_lt hwc5
  have hpl5 := bd_lt hpc5
  have hcl5l := bd_lt hcl5
  refine r_iload_n (pc := 0) hG dX9_bed_0 rfl ?_
  refine r_iconst (pc := 1) hG dX9_bed_1 ic_0 ?_
  refine r_iconst (pc := 2) hG dX9_bed_2 ic_1 ?_
  refine cs_X9_within (pc := 3)  hG dX9_bed_3 tw_1270 (c_X9_within) (by decide) (Nat.le_of_ble_eq_true rfl) ?_
  refine r_ifz_ne (pc := 6) (tgt := 16) hG dX9_bed_6 (by decide) (fun c1 => ?_) (fun c1 => ?_)
  · refine r_iconst (pc := 16) hG dX9_bed_16 ic_0 ?_
    refine r_istore_n (pc := 17) (ls' := [_, _, _, _]) hG dX9_bed_17 rfl rfl ?_
    refine r_iconst (pc := 18) hG dX9_bed_18 ic_1 ?_
    refine r_istore_n (pc := 19) (ls' := [_, _, _, _]) hG dX9_bed_19 rfl rfl ?_
    have lp20 : ∀ i, i ≤ (tn (M.1 5 2 0) - 1) → ∀ b20 : Int32, b20 = itN i (st_X9_bed_20 M a0) 0 → J G K M 20 [some (rf K 140), some (.int a0), some (.int b20), some (.int (nI (i + 1)))] [] := by
      refine up_ind (tn (M.1 5 2 0) - 1) (fun i hi20 ih20 => ?_)
      intro b20 hg20
      refine r_iload_n (pc := 20) hG dX9_bed_20 rfl ?_
      refine r_aload_n (pc := 21) hG dX9_bed_21 rfl ?_
      refine gf_X9_n (pc := 22)  hG dX9_bed_22 tw_1166 ?_
      refine r_icmp_ge (pc := 25) (tgt := 49) hG dX9_bed_25 (by decide) (fun c2 => ?_) (fun c2 => ?_)
      · have e20 : i = (tn (M.1 5 2 0) - 1) := by have := (bd_le hcl5 (by omega)).mp c2; omega
        subst hg20
        subst e20
        refine r_iload_n (pc := 49) hG dX9_bed_49 rfl ?_
        refine r_if_ne (pc := 50) (tgt := 57) hG dX9_bed_50 (by decide) (fun c3 => ?_) (fun c3 => ?_)
        · refine r_aload_n (pc := 57) hG dX9_bed_57 rfl ?_
          refine r_iload_n (pc := 58) hG dX9_bed_58 rfl ?_
          refine cv_X9_landingIn (pc := 59)  hG dX9_bed_59 tw_1618 (c_X9_landingIn hwc5) (by decide) (Nat.le_of_ble_eq_true rfl) ?_
          exact hret _ _ _ _ dX9_bed_62 (pair_fst (show sp_X9_bed M a0 = (sp_X9_landingIn M (itN (tn (M.1 5 2 0) - 1) (st_X9_bed_20 M a0) 0), M) from (by unfold sp_X9_bed; exact ((if_pos c1).trans (if_neg c3))))) (pair_snd (show sp_X9_bed M a0 = (sp_X9_landingIn M (itN (tn (M.1 5 2 0) - 1) (st_X9_bed_20 M a0) 0), M) from (by unfold sp_X9_bed; exact ((if_pos c1).trans (if_neg c3)))))
        · refine r_iload_n (pc := 53) hG dX9_bed_53 rfl ?_
          refine r_goto (pc := 54) (tgt := 62) hG dX9_bed_54 (by decide) ?_
          exact hret _ _ _ _ dX9_bed_62 (pair_fst (show sp_X9_bed M a0 = (itN (tn (M.1 5 2 0) - 1) (st_X9_bed_20 M a0) 0, M) from (by unfold sp_X9_bed; exact ((if_pos c1).trans (if_pos c3))))) (pair_snd (show sp_X9_bed M a0 = (itN (tn (M.1 5 2 0) - 1) (st_X9_bed_20 M a0) 0, M) from (by unfold sp_X9_bed; exact ((if_pos c1).trans (if_pos c3)))))
      · have hl20 : i < (tn (M.1 5 2 0) - 1) := by have := mt (bd_le hcl5 (by omega)).mpr c2; omega
        refine r_aload_n (pc := 28) hG dX9_bed_28 rfl ?_
        refine r_iload_n (pc := 29) hG dX9_bed_29 rfl ?_
        refine cv_X9_landingIn (pc := 30)  hG dX9_bed_30 tw_1618 (c_X9_landingIn hwc5) (by decide) (Nat.le_of_ble_eq_true rfl) ?_
        refine r_aload_n (pc := 33) hG dX9_bed_33 rfl ?_
        refine r_iload_n (pc := 34) hG dX9_bed_34 rfl ?_
        refine cv_X9_landingIn (pc := 35)  hG dX9_bed_35 tw_1618 (c_X9_landingIn hwc5) (by decide) (Nat.le_of_ble_eq_true rfl) ?_
        refine r_icmp_le (pc := 38) (tgt := 43) hG dX9_bed_38 (by decide) (fun c4 => ?_) (fun c4 => ?_)
        · refine r_iinc (pc := 43) (v := (nI (i + 1)) + 1) (ls' := [_, _, _, _]) hG dX9_bed_43 rfl rfl rfl rfl ?_
          refine r_goto (pc := 46) (tgt := 20) hG dX9_bed_46 (by decide) ?_
          have eN20 : b20 = st_X9_bed_20 M a0 i (itN i (st_X9_bed_20 M a0) 0) := by rw [← hg20]; unfold st_X9_bed_20; exact Eq.symm (if_pos c4)
          refine J.wk (ls' := [some (rf K 140), some (.int a0), some (.int b20), some (.int (nI (i + 1 + 1)))]) ?_ (Eq.refl 4) (wk_s rfl (wk_s rfl (wk_s rfl (wk_s (congrArg Value.int (nI_succ _)) wk_0))))
          exact ih20 hl20 b20 eN20
        · refine r_iload_n (pc := 41) hG dX9_bed_41 rfl ?_
          refine r_istore_n (pc := 42) (ls' := [_, _, _, _]) hG dX9_bed_42 rfl rfl ?_
          refine r_iinc (pc := 43) (v := (nI (i + 1)) + 1) (ls' := [_, _, _, _]) hG dX9_bed_43 rfl rfl rfl rfl ?_
          refine r_goto (pc := 46) (tgt := 20) hG dX9_bed_46 (by decide) ?_
          have eN20 : nI (i + 1) = st_X9_bed_20 M a0 i (itN i (st_X9_bed_20 M a0) 0) := by rw [← hg20]; unfold st_X9_bed_20; exact Eq.symm (if_neg c4)
          refine J.wk (ls' := [some (rf K 140), some (.int a0), some (.int (nI (i + 1))), some (.int (nI (i + 1 + 1)))]) ?_ (Eq.refl 4) (wk_s rfl (wk_s rfl (wk_s rfl (wk_s (congrArg Value.int (nI_succ _)) wk_0))))
          exact ih20 hl20 (nI (i + 1)) eN20
    exact (lp20 0 (Nat.zero_le _) _ rfl).wk (Eq.refl 4) (wk_s rfl (wk_s rfl (wk_s rfl (wk_s (congrArg Value.int (show nI (0 + 1) = 1 from rfl)) wk_0))))
  · refine r_aload_n (pc := 9) hG dX9_bed_9 rfl ?_
    refine r_bipush (pc := 10) hG dX9_bed_10 bc_m2 ?_
    refine cv_X9_no (pc := 12)  hG dX9_bed_12 tw_1273 (c_X9_no (bd_lit (n := 7) (by decide))) (by decide) (Nat.le_of_ble_eq_true rfl) ?_
    exact hret _ _ _ _ dX9_bed_15 (pair_fst (show sp_X9_bed M a0 = ((sp_X9_no M (-2)).1, (sp_X9_no M (-2)).2) from (by unfold sp_X9_bed; exact (if_neg c1)))) (pair_snd (show sp_X9_bed M a0 = ((sp_X9_no M (-2)).1, (sp_X9_no M (-2)).2) from (by unfold sp_X9_bed; exact (if_neg c1))))

def st_X9_fondest_26 (M : MT) (a0 : Int32) (i : Nat) (b26 : Int32) : Int32 :=
  if (((sp_X9_hitFrom M a0) >>> ((nI i) &&& 31)) &&& 1) = 1 then
    if b26 = (-1) then
      nI i
    else
      if (sp_X9_fondness M a0 (nI i)) ≤ (sp_X9_fondness M a0 b26) then
        b26
      else
        nI i
  else
    b26
def sp_X9_fondest (M : MT) (a0 : Int32) : Int32 × MT :=
  if (sp_X9_isWindow M a0) = true then
    (itN (tn (M.1 5 1 0)) (st_X9_fondest_26 M a0) (-1), M)
  else
    ((sp_X9_no M (-2)).1, (sp_X9_no M (-2)).2)
set_option maxRecDepth 20000 in
theorem c_X9_fondest {K : KT} {M : MT} {a0 : Int32}  (hokr : OKR M) : CM K 7 yX9_fondest cX9_fondest 5 (some FieldType.int) [rf K 140, .int a0] M (some (.int (sp_X9_fondest M a0).1)) (sp_X9_fondest M a0).2 := by
  refine CM.ofI (by decide) [some (rf K 140), some (.int a0), none, none, none] rfl (Nat.le_of_ble_eq_true rfl) (Nat.le_of_ble_eq_true rfl) (fun G hG _ hret => ?_)
  obtain ⟨hok5, hhl, htp5⟩ := id hokr
  obtain ⟨hwc5, hpc5, ⟨hcl5, hcm5⟩, hwi5, hda5, hle5, hk85, ha85, hW5, hP5⟩ := id hok5
  have hwl5 := bd_lt hwc5
  have hpl5 := bd_lt hpc5
  have hcl5l := bd_lt hcl5
  refine r_aload_n (pc := 0) hG dX9_fondest_0 rfl ?_
  refine r_iload_n (pc := 1) hG dX9_fondest_1 rfl ?_
  refine cv_X9_isWindow (pc := 2)  hG dX9_fondest_2 tw_1430 (c_X9_isWindow) (by decide) (Nat.le_of_ble_eq_true rfl) ?_
  refine r_ifz_ne (pc := 5) (tgt := 15) hG dX9_fondest_5 (by decide) (fun c1 => ?_) (fun c1 => ?_)
  · refine r_aload_n (pc := 15) hG dX9_fondest_15 rfl ?_
    refine r_iload_n (pc := 16) hG dX9_fondest_16 rfl ?_
    refine cv_X9_hitFrom (pc := 17)  hG dX9_fondest_17 tw_1487 (c_X9_hitFrom (hasW5 hwc5 c1) hpc5) (by decide) (Nat.le_of_ble_eq_true rfl) ?_
    refine r_istore_n (pc := 20) (ls' := [_, _, _, _, _]) hG dX9_fondest_20 rfl rfl ?_
    refine r_iconst (pc := 21) hG dX9_fondest_21 ic_m1 ?_
    refine r_istore_n (pc := 22) (ls' := [_, _, _, _, _]) hG dX9_fondest_22 rfl rfl ?_
    refine r_iconst (pc := 23) hG dX9_fondest_23 ic_0 ?_
    refine r_istore (pc := 24) (ls' := [_, _, _, _, _]) hG dX9_fondest_24 rfl rfl ?_
    have hb26 : bd (M.1 5 1 0) 9 := hpc5
    have hb26l := bd_lt hb26
    have lp26 : ∀ i, i ≤ (tn (M.1 5 1 0)) → ∀ b26 : Int32, b26 = itN i (st_X9_fondest_26 M a0) (-1) → J G K M 26 [some (rf K 140), some (.int a0), some (.int (sp_X9_hitFrom M a0)), some (.int b26), some (.int (nI i))] [] := by
      refine up_ind (tn (M.1 5 1 0)) (fun i hi26 ih26 => ?_)
      intro b26 hg26
      have hv26 : b26 = -1 ∨ bd (b26) 8 := by subst hg26; exact itN_inv (fun x => x = -1 ∨ bd x 8) i (Or.inl rfl) (fun k b hk hb => by unfold st_X9_fondest_26; (repeat' split) <;> first | exact hb | exact Or.inr (bd_nI (by omega) (Nat.le_of_ble_eq_true rfl)))
      refine r_iload (pc := 26) hG dX9_fondest_26 rfl ?_
      refine r_aload_n (pc := 28) hG dX9_fondest_28 rfl ?_
      refine gf_X9_people (pc := 29)  hG dX9_fondest_29 tw_1173 ?_
      refine r_icmp_ge (pc := 32) (tgt := 75) hG dX9_fondest_32 (by decide) (fun c2 => ?_) (fun c2 => ?_)
      · have e26 : i = (tn (M.1 5 1 0)) := by have := (bd_le hb26 (by omega)).mp c2; omega
        subst hg26
        subst e26
        refine r_iload_n (pc := 75) hG dX9_fondest_75 rfl ?_
        exact hret _ _ _ _ dX9_fondest_76 (pair_fst (show sp_X9_fondest M a0 = (itN (tn (M.1 5 1 0)) (st_X9_fondest_26 M a0) (-1), M) from (by unfold sp_X9_fondest; exact (if_pos c1)))) (pair_snd (show sp_X9_fondest M a0 = (itN (tn (M.1 5 1 0)) (st_X9_fondest_26 M a0) (-1), M) from (by unfold sp_X9_fondest; exact (if_pos c1))))
      · have hl26 : i < (tn (M.1 5 1 0)) := by have := mt (bd_le hb26 (by omega)).mpr c2; omega
        refine r_iload_n (pc := 35) hG dX9_fondest_35 rfl ?_
        refine r_iload (pc := 36) hG dX9_fondest_36 rfl ?_
        refine r_ishr (pc := 38) hG dX9_fondest_38 ?_
        refine r_iconst (pc := 39) hG dX9_fondest_39 ic_1 ?_
        refine r_iand (pc := 40) hG dX9_fondest_40 ?_
        refine r_iconst (pc := 41) hG dX9_fondest_41 ic_1 ?_
        refine r_icmp_ne (pc := 42) (tgt := 69) hG dX9_fondest_42 (by decide) (fun c3 => ?_) (fun c3 => ?_)
        · refine r_iinc (pc := 69) (v := nI (i + 1)) (ls' := [_, _, _, _, _]) hG dX9_fondest_69 rfl (nI_1 _) rfl rfl ?_
          refine r_goto (pc := 72) (tgt := 26) hG dX9_fondest_72 (by decide) ?_
          have eN26 : b26 = st_X9_fondest_26 M a0 i (itN i (st_X9_fondest_26 M a0) (-1)) := by rw [← hg26]; unfold st_X9_fondest_26; exact Eq.symm (if_neg c3)
          refine J.wk (ls' := [some (rf K 140), some (.int a0), some (.int (sp_X9_hitFrom M a0)), some (.int b26), some (.int (nI (i + 1)))]) ?_ (Eq.refl 5) (wk_s rfl (wk_s rfl (wk_s rfl (wk_s rfl (wk_s rfl wk_0)))))
          exact ih26 hl26 b26 eN26
        · refine r_iload_n (pc := 45) hG dX9_fondest_45 rfl ?_
          refine r_iconst (pc := 46) hG dX9_fondest_46 ic_m1 ?_
          refine r_icmp_eq (pc := 47) (tgt := 66) hG dX9_fondest_47 (by decide) (fun c4 => ?_) (fun c4 => ?_)
          · refine r_iload (pc := 66) hG dX9_fondest_66 rfl ?_
            refine r_istore_n (pc := 68) (ls' := [_, _, _, _, _]) hG dX9_fondest_68 rfl rfl ?_
            refine r_iinc (pc := 69) (v := nI (i + 1)) (ls' := [_, _, _, _, _]) hG dX9_fondest_69 rfl (nI_1 _) rfl rfl ?_
            refine r_goto (pc := 72) (tgt := 26) hG dX9_fondest_72 (by decide) ?_
            have eN26 : nI i = st_X9_fondest_26 M a0 i (itN i (st_X9_fondest_26 M a0) (-1)) := by rw [← hg26]; unfold st_X9_fondest_26; exact Eq.symm ((if_pos c3).trans (if_pos c4))
            refine J.wk (ls' := [some (rf K 140), some (.int a0), some (.int (sp_X9_hitFrom M a0)), some (.int (nI i)), some (.int (nI (i + 1)))]) ?_ (Eq.refl 5) (wk_s rfl (wk_s rfl (wk_s rfl (wk_s rfl (wk_s rfl wk_0)))))
            exact ih26 hl26 (nI i) eN26
          · refine r_aload_n (pc := 50) hG dX9_fondest_50 rfl ?_
            refine r_iload_n (pc := 51) hG dX9_fondest_51 rfl ?_
            refine r_iload (pc := 52) hG dX9_fondest_52 rfl ?_
            refine cv_X9_fondness (pc := 54)  hG dX9_fondest_54 tw_1515 (c_X9_fondness (hasW5 hwc5 c1) (bd_nI (by omega) (Nat.le_of_ble_eq_true rfl))) (by decide) (Nat.le_of_ble_eq_true rfl) ?_
            refine r_aload_n (pc := 57) hG dX9_fondest_57 rfl ?_
            refine r_iload_n (pc := 58) hG dX9_fondest_58 rfl ?_
            refine r_iload_n (pc := 59) hG dX9_fondest_59 rfl ?_
            refine cv_X9_fondness (pc := 60)  hG dX9_fondest_60 tw_1515 (c_X9_fondness (hasW5 hwc5 c1) (Or.resolve_left hv26 c4)) (by decide) (Nat.le_of_ble_eq_true rfl) ?_
            refine r_icmp_le (pc := 63) (tgt := 69) hG dX9_fondest_63 (by decide) (fun c5 => ?_) (fun c5 => ?_)
            · refine r_iinc (pc := 69) (v := nI (i + 1)) (ls' := [_, _, _, _, _]) hG dX9_fondest_69 rfl (nI_1 _) rfl rfl ?_
              refine r_goto (pc := 72) (tgt := 26) hG dX9_fondest_72 (by decide) ?_
              have eN26 : b26 = st_X9_fondest_26 M a0 i (itN i (st_X9_fondest_26 M a0) (-1)) := by rw [← hg26]; unfold st_X9_fondest_26; exact Eq.symm ((if_pos c3).trans ((if_neg c4).trans (if_pos c5)))
              refine J.wk (ls' := [some (rf K 140), some (.int a0), some (.int (sp_X9_hitFrom M a0)), some (.int b26), some (.int (nI (i + 1)))]) ?_ (Eq.refl 5) (wk_s rfl (wk_s rfl (wk_s rfl (wk_s rfl (wk_s rfl wk_0)))))
              exact ih26 hl26 b26 eN26
            · refine r_iload (pc := 66) hG dX9_fondest_66 rfl ?_
              refine r_istore_n (pc := 68) (ls' := [_, _, _, _, _]) hG dX9_fondest_68 rfl rfl ?_
              refine r_iinc (pc := 69) (v := nI (i + 1)) (ls' := [_, _, _, _, _]) hG dX9_fondest_69 rfl (nI_1 _) rfl rfl ?_
              refine r_goto (pc := 72) (tgt := 26) hG dX9_fondest_72 (by decide) ?_
              have eN26 : nI i = st_X9_fondest_26 M a0 i (itN i (st_X9_fondest_26 M a0) (-1)) := by rw [← hg26]; unfold st_X9_fondest_26; exact Eq.symm ((if_pos c3).trans ((if_neg c4).trans (if_neg c5)))
              refine J.wk (ls' := [some (rf K 140), some (.int a0), some (.int (sp_X9_hitFrom M a0)), some (.int (nI i)), some (.int (nI (i + 1)))]) ?_ (Eq.refl 5) (wk_s rfl (wk_s rfl (wk_s rfl (wk_s rfl (wk_s rfl wk_0)))))
              exact ih26 hl26 (nI i) eN26
    exact (lp26 0 (Nat.zero_le _) _ rfl).wk (Eq.refl 5) (wk_s rfl (wk_s rfl (wk_s rfl (wk_s rfl (wk_s rfl wk_0)))))
  · refine r_aload_n (pc := 8) hG dX9_fondest_8 rfl ?_
    refine r_bipush (pc := 9) hG dX9_fondest_9 bc_m2 ?_
    refine cv_X9_no (pc := 11)  hG dX9_fondest_11 tw_1273 (c_X9_no (bd_lit (n := 7) (by decide))) (by decide) (Nat.le_of_ble_eq_true rfl) ?_
    exact hret _ _ _ _ dX9_fondest_14 (pair_fst (show sp_X9_fondest M a0 = ((sp_X9_no M (-2)).1, (sp_X9_no M (-2)).2) from (by unfold sp_X9_fondest; exact (if_neg c1)))) (pair_snd (show sp_X9_fondest M a0 = ((sp_X9_no M (-2)).1, (sp_X9_no M (-2)).2) from (by unfold sp_X9_fondest; exact (if_neg c1))))

def st_X9_admirer_19 (M : MT) (a0 : Int32) (i : Nat) (b19 : Int32) : Int32 :=
  if (((sp_X9_hitFrom M (nI i)) >>> (a0 &&& 31)) &&& 1) = 1 then
    if b19 = (-1) then
      nI i
    else
      if (sp_X9_fondness M (nI i) a0) ≤ (sp_X9_fondness M b19 a0) then
        b19
      else
        nI i
  else
    b19
def sp_X9_admirer (M : MT) (a0 : Int32) : Int32 × MT :=
  if (sp_X9_isOne M a0) = true then
    (itN (tn (M.1 5 0 0)) (st_X9_admirer_19 M a0) (-1), M)
  else
    ((sp_X9_no M (-2)).1, (sp_X9_no M (-2)).2)
set_option maxRecDepth 20000 in
theorem c_X9_admirer {K : KT} {M : MT} {a0 : Int32}  (hokr : OKR M) : CM K 7 yX9_admirer cX9_admirer 4 (some FieldType.int) [rf K 140, .int a0] M (some (.int (sp_X9_admirer M a0).1)) (sp_X9_admirer M a0).2 := by
  refine CM.ofI (by decide) [some (rf K 140), some (.int a0), none, none] rfl (Nat.le_of_ble_eq_true rfl) (Nat.le_of_ble_eq_true rfl) (fun G hG _ hret => ?_)
  obtain ⟨hok5, hhl, htp5⟩ := id hokr
  obtain ⟨hwc5, hpc5, ⟨hcl5, hcm5⟩, hwi5, hda5, hle5, hk85, ha85, hW5, hP5⟩ := id hok5
  have hwl5 := bd_lt hwc5
  have hpl5 := bd_lt hpc5
  have hcl5l := bd_lt hcl5
  refine r_aload_n (pc := 0) hG dX9_admirer_0 rfl ?_
  refine r_iload_n (pc := 1) hG dX9_admirer_1 rfl ?_
  refine cv_X9_isOne (pc := 2)  hG dX9_admirer_2 tw_1308 (c_X9_isOne) (by decide) (Nat.le_of_ble_eq_true rfl) ?_
  refine r_ifz_ne (pc := 5) (tgt := 15) hG dX9_admirer_5 (by decide) (fun c1 => ?_) (fun c1 => ?_)
  · refine r_iconst (pc := 15) hG dX9_admirer_15 ic_m1 ?_
    refine r_istore_n (pc := 16) (ls' := [_, _, _, _]) hG dX9_admirer_16 rfl rfl ?_
    refine r_iconst (pc := 17) hG dX9_admirer_17 ic_0 ?_
    refine r_istore_n (pc := 18) (ls' := [_, _, _, _]) hG dX9_admirer_18 rfl rfl ?_
    have hb19 : bd (M.1 5 0 0) 9 := hwc5
    have hb19l := bd_lt hb19
    have lp19 : ∀ i, i ≤ (tn (M.1 5 0 0)) → ∀ b19 : Int32, b19 = itN i (st_X9_admirer_19 M a0) (-1) → J G K M 19 [some (rf K 140), some (.int a0), some (.int b19), some (.int (nI i))] [] := by
      refine up_ind (tn (M.1 5 0 0)) (fun i hi19 ih19 => ?_)
      intro b19 hg19
      have hv19 : b19 = -1 ∨ bd (b19) 8 := by subst hg19; exact itN_inv (fun x => x = -1 ∨ bd x 8) i (Or.inl rfl) (fun k b hk hb => by unfold st_X9_admirer_19; (repeat' split) <;> first | exact hb | exact Or.inr (bd_nI (by omega) (Nat.le_of_ble_eq_true rfl)))
      refine r_iload_n (pc := 19) hG dX9_admirer_19 rfl ?_
      refine r_aload_n (pc := 20) hG dX9_admirer_20 rfl ?_
      refine gf_X9_windows (pc := 21)  hG dX9_admirer_21 tw_1169 ?_
      refine r_icmp_ge (pc := 24) (tgt := 68) hG dX9_admirer_24 (by decide) (fun c2 => ?_) (fun c2 => ?_)
      · have e19 : i = (tn (M.1 5 0 0)) := by have := (bd_le hb19 (by omega)).mp c2; omega
        subst hg19
        subst e19
        refine r_iload_n (pc := 68) hG dX9_admirer_68 rfl ?_
        exact hret _ _ _ _ dX9_admirer_69 (pair_fst (show sp_X9_admirer M a0 = (itN (tn (M.1 5 0 0)) (st_X9_admirer_19 M a0) (-1), M) from (by unfold sp_X9_admirer; exact (if_pos c1)))) (pair_snd (show sp_X9_admirer M a0 = (itN (tn (M.1 5 0 0)) (st_X9_admirer_19 M a0) (-1), M) from (by unfold sp_X9_admirer; exact (if_pos c1))))
      · have hl19 : i < (tn (M.1 5 0 0)) := by have := mt (bd_le hb19 (by omega)).mpr c2; omega
        refine r_aload_n (pc := 27) hG dX9_admirer_27 rfl ?_
        refine r_iload_n (pc := 28) hG dX9_admirer_28 rfl ?_
        refine cv_X9_hitFrom (pc := 29)  hG dX9_admirer_29 tw_1487 (c_X9_hitFrom (bd_nI (by omega) (Nat.le_of_ble_eq_true rfl)) hpc5) (by decide) (Nat.le_of_ble_eq_true rfl) ?_
        refine r_iload_n (pc := 32) hG dX9_admirer_32 rfl ?_
        refine r_ishr (pc := 33) hG dX9_admirer_33 ?_
        refine r_iconst (pc := 34) hG dX9_admirer_34 ic_1 ?_
        refine r_iand (pc := 35) hG dX9_admirer_35 ?_
        refine r_iconst (pc := 36) hG dX9_admirer_36 ic_1 ?_
        refine r_icmp_ne (pc := 37) (tgt := 62) hG dX9_admirer_37 (by decide) (fun c3 => ?_) (fun c3 => ?_)
        · refine r_iinc (pc := 62) (v := nI (i + 1)) (ls' := [_, _, _, _]) hG dX9_admirer_62 rfl (nI_1 _) rfl rfl ?_
          refine r_goto (pc := 65) (tgt := 19) hG dX9_admirer_65 (by decide) ?_
          have eN19 : b19 = st_X9_admirer_19 M a0 i (itN i (st_X9_admirer_19 M a0) (-1)) := by rw [← hg19]; unfold st_X9_admirer_19; exact Eq.symm (if_neg c3)
          refine J.wk (ls' := [some (rf K 140), some (.int a0), some (.int b19), some (.int (nI (i + 1)))]) ?_ (Eq.refl 4) (wk_s rfl (wk_s rfl (wk_s rfl (wk_s rfl wk_0))))
          exact ih19 hl19 b19 eN19
        · refine r_iload_n (pc := 40) hG dX9_admirer_40 rfl ?_
          refine r_iconst (pc := 41) hG dX9_admirer_41 ic_m1 ?_
          refine r_icmp_eq (pc := 42) (tgt := 60) hG dX9_admirer_42 (by decide) (fun c4 => ?_) (fun c4 => ?_)
          · refine r_iload_n (pc := 60) hG dX9_admirer_60 rfl ?_
            refine r_istore_n (pc := 61) (ls' := [_, _, _, _]) hG dX9_admirer_61 rfl rfl ?_
            refine r_iinc (pc := 62) (v := nI (i + 1)) (ls' := [_, _, _, _]) hG dX9_admirer_62 rfl (nI_1 _) rfl rfl ?_
            refine r_goto (pc := 65) (tgt := 19) hG dX9_admirer_65 (by decide) ?_
            have eN19 : nI i = st_X9_admirer_19 M a0 i (itN i (st_X9_admirer_19 M a0) (-1)) := by rw [← hg19]; unfold st_X9_admirer_19; exact Eq.symm ((if_pos c3).trans (if_pos c4))
            refine J.wk (ls' := [some (rf K 140), some (.int a0), some (.int (nI i)), some (.int (nI (i + 1)))]) ?_ (Eq.refl 4) (wk_s rfl (wk_s rfl (wk_s rfl (wk_s rfl wk_0))))
            exact ih19 hl19 (nI i) eN19
          · refine r_aload_n (pc := 45) hG dX9_admirer_45 rfl ?_
            refine r_iload_n (pc := 46) hG dX9_admirer_46 rfl ?_
            refine r_iload_n (pc := 47) hG dX9_admirer_47 rfl ?_
            refine cv_X9_fondness (pc := 48)  hG dX9_admirer_48 tw_1515 (c_X9_fondness (bd_nI (by omega) (Nat.le_of_ble_eq_true rfl)) (hasP5 hpc5 c1)) (by decide) (Nat.le_of_ble_eq_true rfl) ?_
            refine r_aload_n (pc := 51) hG dX9_admirer_51 rfl ?_
            refine r_iload_n (pc := 52) hG dX9_admirer_52 rfl ?_
            refine r_iload_n (pc := 53) hG dX9_admirer_53 rfl ?_
            refine cv_X9_fondness (pc := 54)  hG dX9_admirer_54 tw_1515 (c_X9_fondness (Or.resolve_left hv19 c4) (hasP5 hpc5 c1)) (by decide) (Nat.le_of_ble_eq_true rfl) ?_
            refine r_icmp_le (pc := 57) (tgt := 62) hG dX9_admirer_57 (by decide) (fun c5 => ?_) (fun c5 => ?_)
            · refine r_iinc (pc := 62) (v := nI (i + 1)) (ls' := [_, _, _, _]) hG dX9_admirer_62 rfl (nI_1 _) rfl rfl ?_
              refine r_goto (pc := 65) (tgt := 19) hG dX9_admirer_65 (by decide) ?_
              have eN19 : b19 = st_X9_admirer_19 M a0 i (itN i (st_X9_admirer_19 M a0) (-1)) := by rw [← hg19]; unfold st_X9_admirer_19; exact Eq.symm ((if_pos c3).trans ((if_neg c4).trans (if_pos c5)))
              refine J.wk (ls' := [some (rf K 140), some (.int a0), some (.int b19), some (.int (nI (i + 1)))]) ?_ (Eq.refl 4) (wk_s rfl (wk_s rfl (wk_s rfl (wk_s rfl wk_0))))
              exact ih19 hl19 b19 eN19
            · refine r_iload_n (pc := 60) hG dX9_admirer_60 rfl ?_
              refine r_istore_n (pc := 61) (ls' := [_, _, _, _]) hG dX9_admirer_61 rfl rfl ?_
              refine r_iinc (pc := 62) (v := nI (i + 1)) (ls' := [_, _, _, _]) hG dX9_admirer_62 rfl (nI_1 _) rfl rfl ?_
              refine r_goto (pc := 65) (tgt := 19) hG dX9_admirer_65 (by decide) ?_
              have eN19 : nI i = st_X9_admirer_19 M a0 i (itN i (st_X9_admirer_19 M a0) (-1)) := by rw [← hg19]; unfold st_X9_admirer_19; exact Eq.symm ((if_pos c3).trans ((if_neg c4).trans (if_neg c5)))
              refine J.wk (ls' := [some (rf K 140), some (.int a0), some (.int (nI i)), some (.int (nI (i + 1)))]) ?_ (Eq.refl 4) (wk_s rfl (wk_s rfl (wk_s rfl (wk_s rfl wk_0))))
              exact ih19 hl19 (nI i) eN19
    exact (lp19 0 (Nat.zero_le _) _ rfl).wk (Eq.refl 4) (wk_s rfl (wk_s rfl (wk_s rfl (wk_s rfl wk_0))))
  · refine r_aload_n (pc := 8) hG dX9_admirer_8 rfl ?_
    refine r_bipush (pc := 9) hG dX9_admirer_9 bc_m2 ?_
    refine cv_X9_no (pc := 11)  hG dX9_admirer_11 tw_1273 (c_X9_no (bd_lit (n := 7) (by decide))) (by decide) (Nat.le_of_ble_eq_true rfl) ?_
    exact hret _ _ _ _ dX9_admirer_14 (pair_fst (show sp_X9_admirer M a0 = ((sp_X9_no M (-2)).1, (sp_X9_no M (-2)).2) from (by unfold sp_X9_admirer; exact (if_neg c1)))) (pair_snd (show sp_X9_admirer M a0 = ((sp_X9_no M (-2)).1, (sp_X9_no M (-2)).2) from (by unfold sp_X9_admirer; exact (if_neg c1))))

def ps_X9_wrong_2 (M : MT) (a0 : Int32) (a1 : Int32) (i : Nat) : Bool :=
  if (sp_X9_isThrowTold M (sp_X9_toldAt M a0 (nI i))) = true then
    false
  else
    true
def sp_X9_wrong (M : MT) (a0 : Int32) (a1 : Int32) : Int32 :=
  fndN (ps_X9_wrong_2 M a0 a1) (fun i => (if (sp_X9_isThrowTold M (sp_X9_toldAt M a0 (nI i))) = true then
  (-1)
else
  nI i)) ((-1)) (tn a1) 0
set_option maxRecDepth 20000 in
theorem c_X9_wrong {K : KT} {M : MT} {a0 : Int32} {a1 : Int32}  (ha0b : bd (a0) 8) (ha1b : bd (a1) 41) : CM K 2 yX9_wrong cX9_wrong 4 (some FieldType.int) [rf K 140, .int a0, .int a1] M (some (.int (sp_X9_wrong M a0 a1))) M := by
  refine CM.ofI (by decide) [some (rf K 140), some (.int a0), some (.int a1), none] rfl (Nat.le_of_ble_eq_true rfl) (Nat.le_of_ble_eq_true rfl) (fun G hG _ hret => ?_)
  refine r_iconst (pc := 0) hG dX9_wrong_0 ic_0 ?_
  refine r_istore_n (pc := 1) (ls' := [_, _, _, _]) hG dX9_wrong_1 rfl rfl ?_
  have hb2 : bd a1 41 := ha1b
  have hb2l := bd_lt hb2
  have lp2 : ∀ i, i ≤ (tn a1) → (∀ k, k < i → ps_X9_wrong_2 M a0 a1 k = false) → J G K M 2 [some (rf K 140), some (.int a0), some (.int a1), some (.int (nI i))] [] := by
    refine up_ind (tn a1) (fun i hi2 ih2 => ?_)
    intro hp2
    refine r_iload_n (pc := 2) hG dX9_wrong_2 rfl ?_
    refine r_iload_n (pc := 3) hG dX9_wrong_3 rfl ?_
    refine r_icmp_ge (pc := 4) (tgt := 28) hG dX9_wrong_4 (by decide) (fun c1 => ?_) (fun c1 => ?_)
    · have e2 : i = (tn a1) := by have := (bd_le hb2 (by omega)).mp c1; omega
      subst e2
      refine r_iconst (pc := 28) hG dX9_wrong_28 ic_m1 ?_
      exact hret _ _ _ _ dX9_wrong_29 (Eq.symm (by unfold sp_X9_wrong; exact (fndN_none (tn a1) 0 (fun k _ hk => hp2 k (by omega))))) rfl
    · have hl2 : i < (tn a1) := by have := mt (bd_le hb2 (by omega)).mpr c1; omega
      refine r_aload_n (pc := 7) hG dX9_wrong_7 rfl ?_
      refine r_aload_n (pc := 8) hG dX9_wrong_8 rfl ?_
      refine r_iload_n (pc := 9) hG dX9_wrong_9 rfl ?_
      refine r_iload_n (pc := 10) hG dX9_wrong_10 rfl ?_
      refine cv_X9_toldAt (pc := 11)  hG dX9_wrong_11 tw_1535 (c_X9_toldAt (row_ix ha0b (by omega))) (by decide) (Nat.le_of_ble_eq_true rfl) ?_
      refine cv_X9_isThrowTold (pc := 14)  hG dX9_wrong_14 tw_1539 (c_X9_isThrowTold) (by decide) (Nat.le_of_ble_eq_true rfl) ?_
      refine r_ifz_ne (pc := 17) (tgt := 22) hG dX9_wrong_17 (by decide) (fun c2 => ?_) (fun c2 => ?_)
      · refine r_iinc (pc := 22) (v := nI (i + 1)) (ls' := [_, _, _, _]) hG dX9_wrong_22 rfl (nI_1 _) rfl rfl ?_
        refine r_goto (pc := 25) (tgt := 2) hG dX9_wrong_25 (by decide) ?_
        exact (ih2 hl2 (fun k hk => (Nat.lt_or_eq_of_le (Nat.le_of_lt_succ hk)).elim (hp2 k) (fun q => by subst q; unfold ps_X9_wrong_2; exact (if_pos c2)))).wk (Eq.refl 4) (wk_s rfl (wk_s rfl (wk_s rfl (wk_s rfl wk_0))))
      · refine r_iload_n (pc := 20) hG dX9_wrong_20 rfl ?_
        exact hret _ _ _ _ dX9_wrong_21 (Eq.symm (by unfold sp_X9_wrong; exact ((fndN_hit (tn a1) 0 i (Nat.zero_le _) (by omega) (by unfold ps_X9_wrong_2; exact (if_neg c2)) (fun k _ hk => hp2 k hk)).trans (if_neg c2)))) rfl
  exact (lp2 0 (Nat.zero_le _) (fun k hk => absurd hk (Nat.not_lt_zero k))).wk (Eq.refl 4) (wk_s rfl (wk_s rfl (wk_s rfl (wk_s rfl wk_0))))

def sp_X9_judge (M : MT) (a0 : Int32) (a1 : Int32) : Int32 × MT :=
  if (sp_X9_isShelf a0) = true then
    if (sp_X9_within a1 0 40) = true then
      if 0 ≤ (sp_X9_noTold M a0 a1) then
        (sp_X9_wrong M a0 a1, M)
      else
        ((sp_X9_no M (sp_X9_noTold M a0 a1)).1, (sp_X9_no M (sp_X9_noTold M a0 a1)).2)
    else
      ((sp_X9_no M (-2)).1, (sp_X9_no M (-2)).2)
  else
    ((sp_X9_no M (-2)).1, (sp_X9_no M (-2)).2)
set_option maxRecDepth 20000 in
theorem c_X9_judge {K : KT} {M : MT} {a0 : Int32} {a1 : Int32}  (hokr : OKR M) : CM K 4 yX9_judge cX9_judge 4 (some FieldType.int) [rf K 140, .int a0, .int a1] M (some (.int (sp_X9_judge M a0 a1).1)) (sp_X9_judge M a0 a1).2 := by
  refine CM.ofI (by decide) [some (rf K 140), some (.int a0), some (.int a1), none] rfl (Nat.le_of_ble_eq_true rfl) (Nat.le_of_ble_eq_true rfl) (fun G hG _ hret => ?_)
  obtain ⟨hok5, hhl, htp5⟩ := id hokr
  obtain ⟨hwc5, hpc5, ⟨hcl5, hcm5⟩, hwi5, hda5, hle5, hk85, ha85, hW5, hP5⟩ := id hok5
  have hwl5 := bd_lt hwc5
  have hpl5 := bd_lt hpc5
  have hcl5l := bd_lt hcl5
  refine r_iload_n (pc := 0) hG dX9_judge_0 rfl ?_
  refine cs_X9_isShelf (pc := 1)  hG dX9_judge_1 tw_1267 (c_X9_isShelf) (by decide) (Nat.le_of_ble_eq_true rfl) ?_
  refine r_ifz_eq (pc := 4) (tgt := 17) hG dX9_judge_4 (by decide) (fun c1 => ?_) (fun c1 => ?_)
  · refine r_aload_n (pc := 17) hG dX9_judge_17 rfl ?_
    refine r_bipush (pc := 18) hG dX9_judge_18 bc_m2 ?_
    refine cv_X9_no (pc := 20)  hG dX9_judge_20 tw_1273 (c_X9_no (bd_lit (n := 7) (by decide))) (by decide) (Nat.le_of_ble_eq_true rfl) ?_
    exact hret _ _ _ _ dX9_judge_23 (pair_fst (show sp_X9_judge M a0 a1 = ((sp_X9_no M (-2)).1, (sp_X9_no M (-2)).2) from (by unfold sp_X9_judge; exact (if_neg c1)))) (pair_snd (show sp_X9_judge M a0 a1 = ((sp_X9_no M (-2)).1, (sp_X9_no M (-2)).2) from (by unfold sp_X9_judge; exact (if_neg c1))))
  · refine r_iload_n (pc := 7) hG dX9_judge_7 rfl ?_
    refine r_iconst (pc := 8) hG dX9_judge_8 ic_0 ?_
    refine r_bipush (pc := 9) hG dX9_judge_9 bc_40 ?_
    refine cs_X9_within (pc := 11)  hG dX9_judge_11 tw_1270 (c_X9_within) (by decide) (Nat.le_of_ble_eq_true rfl) ?_
    refine r_ifz_ne (pc := 14) (tgt := 24) hG dX9_judge_14 (by decide) (fun c2 => ?_) (fun c2 => ?_)
    · refine r_aload_n (pc := 24) hG dX9_judge_24 rfl ?_
      refine r_iload_n (pc := 25) hG dX9_judge_25 rfl ?_
      refine r_iload_n (pc := 26) hG dX9_judge_26 rfl ?_
      refine cv_X9_noTold (pc := 27)  hG dX9_judge_27 tw_1531 (c_X9_noTold (isSh5 c1)) (by decide) (Nat.le_of_ble_eq_true rfl) ?_
      refine r_istore_n (pc := 30) (ls' := [_, _, _, _]) hG dX9_judge_30 rfl rfl ?_
      refine r_iload_n (pc := 31) hG dX9_judge_31 rfl ?_
      refine r_if_ge (pc := 32) (tgt := 43) hG dX9_judge_32 (by decide) (fun c3 => ?_) (fun c3 => ?_)
      · refine r_aload_n (pc := 43) hG dX9_judge_43 rfl ?_
        refine r_iload_n (pc := 44) hG dX9_judge_44 rfl ?_
        refine r_iload_n (pc := 45) hG dX9_judge_45 rfl ?_
        refine cv_X9_wrong (pc := 46)  hG dX9_judge_46 tw_1662 (c_X9_wrong (isSh5 c1) (wi5_bd (n := 40) c2 rfl (Nat.le_of_ble_eq_true rfl))) (by decide) (Nat.le_of_ble_eq_true rfl) ?_
        exact hret _ _ _ _ dX9_judge_49 (pair_fst (show sp_X9_judge M a0 a1 = (sp_X9_wrong M a0 a1, M) from (by unfold sp_X9_judge; exact ((if_pos c1).trans ((if_pos c2).trans (if_pos c3)))))) (pair_snd (show sp_X9_judge M a0 a1 = (sp_X9_wrong M a0 a1, M) from (by unfold sp_X9_judge; exact ((if_pos c1).trans ((if_pos c2).trans (if_pos c3))))))
      · refine r_aload_n (pc := 35) hG dX9_judge_35 rfl ?_
        refine r_iload_n (pc := 36) hG dX9_judge_36 rfl ?_
        refine cv_X9_no (pc := 37)  hG dX9_judge_37 tw_1273 (c_X9_no ntB) (by decide) (Nat.le_of_ble_eq_true rfl) ?_
        refine r_goto (pc := 40) (tgt := 49) hG dX9_judge_40 (by decide) ?_
        exact hret _ _ _ _ dX9_judge_49 (pair_fst (show sp_X9_judge M a0 a1 = ((sp_X9_no M (sp_X9_noTold M a0 a1)).1, (sp_X9_no M (sp_X9_noTold M a0 a1)).2) from (by unfold sp_X9_judge; exact ((if_pos c1).trans ((if_pos c2).trans (if_neg c3)))))) (pair_snd (show sp_X9_judge M a0 a1 = ((sp_X9_no M (sp_X9_noTold M a0 a1)).1, (sp_X9_no M (sp_X9_noTold M a0 a1)).2) from (by unfold sp_X9_judge; exact ((if_pos c1).trans ((if_pos c2).trans (if_neg c3))))))
    · refine r_aload_n (pc := 17) hG dX9_judge_17 rfl ?_
      refine r_bipush (pc := 18) hG dX9_judge_18 bc_m2 ?_
      refine cv_X9_no (pc := 20)  hG dX9_judge_20 tw_1273 (c_X9_no (bd_lit (n := 7) (by decide))) (by decide) (Nat.le_of_ble_eq_true rfl) ?_
      exact hret _ _ _ _ dX9_judge_23 (pair_fst (show sp_X9_judge M a0 a1 = ((sp_X9_no M (-2)).1, (sp_X9_no M (-2)).2) from (by unfold sp_X9_judge; exact ((if_pos c1).trans (if_neg c2))))) (pair_snd (show sp_X9_judge M a0 a1 = ((sp_X9_no M (-2)).1, (sp_X9_no M (-2)).2) from (by unfold sp_X9_judge; exact ((if_pos c1).trans (if_neg c2)))))

theorem st9_bd {a : Int32} (c : sp_X9_within a 12 16 = true) : bd (a - 10) 7 := by
  have := within_iff.mp (w98 ▸ c)
  exact st_bd this.1 this.2

def st_X9_status_91 (M : MT) (a0 : Int32) (i : Nat) (b91 : Int32) : Int32 :=
  if (M.1 5 12 i) = (-1) then
    b91
  else
    b91 + 1
def st_X9_status_132 (M : MT) (a0 : Int32) (i : Nat) (b132 : Int32) : Int32 :=
  if (M.2.1 32 i) = (-1) then
    b132
  else
    b132 + 1
def sp_X9_status (M : MT) (a0 : Int32) : Int32 × MT :=
  if a0 = 0 then
    (M.1 5 1 0, M)
  else
    if a0 = 1 then
      (M.1 5 0 0, M)
    else
      if a0 = 2 then
        (M.1 5 2 0, M)
      else
        if a0 = 3 then
          (M.1 5 3 (tn (a0 - 3)), M)
        else
          if a0 = 4 then
            (M.1 5 3 (tn (a0 - 3)), M)
          else
            if a0 = 5 then
              (M.1 5 3 (tn (a0 - 3)), M)
            else
              if a0 = 6 then
                (M.1 5 4 0, M)
              else
                if a0 = 7 then
                  (itN (tn (M.1 5 1 0)) (st_X9_status_91 M a0) 0, M)
                else
                  if a0 = 8 then
                    (M.2.1 30 0, M)
                  else
                    if a0 = 9 then
                      (M.1 5 5 0, M)
                    else
                      if a0 = 10 then
                        (itN 8 (st_X9_status_132 M a0) 0, M)
                      else
                        if (sp_X9_within a0 12 16) = true then
                          (M.2.1 34 (tn (a0 - 10)), M)
                        else
                          ((-1), M)
set_option maxRecDepth 20000 in
theorem c_X9_status {K : KT} {M : MT} {a0 : Int32}  (hokr : OKR M) : CM K 2 yX9_status cX9_status 4 (some FieldType.int) [rf K 140, .int a0] M (some (.int (sp_X9_status M a0).1)) (sp_X9_status M a0).2 := by
  refine CM.ofI (by decide) [some (rf K 140), some (.int a0), none, none] rfl (Nat.le_of_ble_eq_true rfl) (Nat.le_of_ble_eq_true rfl) (fun G hG _ hret => ?_)
  obtain ⟨hok5, hhl, htp5⟩ := id hokr
  obtain ⟨hwc5, hpc5, ⟨hcl5, hcm5⟩, hwi5, hda5, hle5, hk85, ha85, hW5, hP5⟩ := id hok5
  have hwl5 := bd_lt hwc5
  have hpl5 := bd_lt hpc5
  have hcl5l := bd_lt hcl5
  refine r_iconst (pc := 0) hG dX9_status_0 ic_0 ?_
  refine r_istore_n (pc := 1) (ls' := [_, _, _, _]) hG dX9_status_1 rfl rfl ?_
  refine r_iload_n (pc := 2) hG dX9_status_2 rfl ?_
  by_cases c1 : a0 = 0
  · refine r_tableIn (pc := 3) (tgt := 60) (off := 57) hG dX9_status_3 (by rw [c1]; decide) (by rw [c1]; decide) (by rw [c1]; rfl) (by decide) ?_
    refine r_aload_n (pc := 60) hG dX9_status_60 rfl ?_
    refine gf_X9_people (pc := 61)  hG dX9_status_61 tw_1173 ?_
    exact hret _ _ _ _ dX9_status_64 (pair_fst (show sp_X9_status M a0 = (M.1 5 1 0, M) from (by unfold sp_X9_status; exact (if_pos c1)))) (pair_snd (show sp_X9_status M a0 = (M.1 5 1 0, M) from (by unfold sp_X9_status; exact (if_pos c1))))
  · by_cases c2 : a0 = 1
    · refine r_tableIn (pc := 3) (tgt := 65) (off := 62) hG dX9_status_3 (by rw [c2]; decide) (by rw [c2]; decide) (by rw [c2]; rfl) (by decide) ?_
      refine r_aload_n (pc := 65) hG dX9_status_65 rfl ?_
      refine gf_X9_windows (pc := 66)  hG dX9_status_66 tw_1169 ?_
      exact hret _ _ _ _ dX9_status_69 (pair_fst (show sp_X9_status M a0 = (M.1 5 0 0, M) from (by unfold sp_X9_status; exact ((if_neg c1).trans (if_pos c2))))) (pair_snd (show sp_X9_status M a0 = (M.1 5 0 0, M) from (by unfold sp_X9_status; exact ((if_neg c1).trans (if_pos c2)))))
    · by_cases c3 : a0 = 2
      · refine r_tableIn (pc := 3) (tgt := 70) (off := 67) hG dX9_status_3 (by rw [c3]; decide) (by rw [c3]; decide) (by rw [c3]; rfl) (by decide) ?_
        refine r_aload_n (pc := 70) hG dX9_status_70 rfl ?_
        refine gf_X9_n (pc := 71)  hG dX9_status_71 tw_1166 ?_
        exact hret _ _ _ _ dX9_status_74 (pair_fst (show sp_X9_status M a0 = (M.1 5 2 0, M) from (by unfold sp_X9_status; exact ((if_neg c1).trans ((if_neg c2).trans (if_pos c3)))))) (pair_snd (show sp_X9_status M a0 = (M.1 5 2 0, M) from (by unfold sp_X9_status; exact ((if_neg c1).trans ((if_neg c2).trans (if_pos c3))))))
      · by_cases c4 : a0 = 3
        · refine r_tableIn (pc := 3) (tgt := 75) (off := 72) hG dX9_status_3 (by rw [c4]; decide) (by rw [c4]; decide) (by rw [c4]; rfl) (by decide) ?_
          refine r_aload_n (pc := 75) hG dX9_status_75 rfl ?_
          refine gf_X9_ways (pc := 76)  hG dX9_status_76 tw_1167 ?_
          refine r_iload_n (pc := 79) hG dX9_status_79 rfl ?_
          refine r_iconst (pc := 80) hG dX9_status_80 ic_3 ?_
          refine r_isub (pc := 81) hG dX9_status_81 ?_
          refine al_Mways (pc := 82)  hG dX9_status_82 (ix_bd (by subst c4; exact bd_lit (by decide))) ?_
          exact hret _ _ _ _ dX9_status_83 (pair_fst (show sp_X9_status M a0 = (M.1 5 3 (tn (a0 - 3)), M) from (by unfold sp_X9_status; exact ((if_neg c1).trans ((if_neg c2).trans ((if_neg c3).trans (if_pos c4))))))) (pair_snd (show sp_X9_status M a0 = (M.1 5 3 (tn (a0 - 3)), M) from (by unfold sp_X9_status; exact ((if_neg c1).trans ((if_neg c2).trans ((if_neg c3).trans (if_pos c4)))))))
        · by_cases c5 : a0 = 4
          · refine r_tableIn (pc := 3) (tgt := 75) (off := 72) hG dX9_status_3 (by rw [c5]; decide) (by rw [c5]; decide) (by rw [c5]; rfl) (by decide) ?_
            refine r_aload_n (pc := 75) hG dX9_status_75 rfl ?_
            refine gf_X9_ways (pc := 76)  hG dX9_status_76 tw_1167 ?_
            refine r_iload_n (pc := 79) hG dX9_status_79 rfl ?_
            refine r_iconst (pc := 80) hG dX9_status_80 ic_3 ?_
            refine r_isub (pc := 81) hG dX9_status_81 ?_
            refine al_Mways (pc := 82)  hG dX9_status_82 (ix_bd (by subst c5; exact bd_lit (by decide))) ?_
            exact hret _ _ _ _ dX9_status_83 (pair_fst (show sp_X9_status M a0 = (M.1 5 3 (tn (a0 - 3)), M) from (by unfold sp_X9_status; exact ((if_neg c1).trans ((if_neg c2).trans ((if_neg c3).trans ((if_neg c4).trans (if_pos c5)))))))) (pair_snd (show sp_X9_status M a0 = (M.1 5 3 (tn (a0 - 3)), M) from (by unfold sp_X9_status; exact ((if_neg c1).trans ((if_neg c2).trans ((if_neg c3).trans ((if_neg c4).trans (if_pos c5))))))))
          · by_cases c6 : a0 = 5
            · refine r_tableIn (pc := 3) (tgt := 75) (off := 72) hG dX9_status_3 (by rw [c6]; decide) (by rw [c6]; decide) (by rw [c6]; rfl) (by decide) ?_
              refine r_aload_n (pc := 75) hG dX9_status_75 rfl ?_
              refine gf_X9_ways (pc := 76)  hG dX9_status_76 tw_1167 ?_
              refine r_iload_n (pc := 79) hG dX9_status_79 rfl ?_
              refine r_iconst (pc := 80) hG dX9_status_80 ic_3 ?_
              refine r_isub (pc := 81) hG dX9_status_81 ?_
              refine al_Mways (pc := 82)  hG dX9_status_82 (ix_bd (by subst c6; exact bd_lit (by decide))) ?_
              exact hret _ _ _ _ dX9_status_83 (pair_fst (show sp_X9_status M a0 = (M.1 5 3 (tn (a0 - 3)), M) from (by unfold sp_X9_status; exact ((if_neg c1).trans ((if_neg c2).trans ((if_neg c3).trans ((if_neg c4).trans ((if_neg c5).trans (if_pos c6))))))))) (pair_snd (show sp_X9_status M a0 = (M.1 5 3 (tn (a0 - 3)), M) from (by unfold sp_X9_status; exact ((if_neg c1).trans ((if_neg c2).trans ((if_neg c3).trans ((if_neg c4).trans ((if_neg c5).trans (if_pos c6)))))))))
            · by_cases c7 : a0 = 6
              · refine r_tableIn (pc := 3) (tgt := 84) (off := 81) hG dX9_status_3 (by rw [c7]; decide) (by rw [c7]; decide) (by rw [c7]; rfl) (by decide) ?_
                refine r_aload_n (pc := 84) hG dX9_status_84 rfl ?_
                refine gf_X9_said (pc := 85)  hG dX9_status_85 tw_1168 ?_
                exact hret _ _ _ _ dX9_status_88 (pair_fst (show sp_X9_status M a0 = (M.1 5 4 0, M) from (by unfold sp_X9_status; exact ((if_neg c1).trans ((if_neg c2).trans ((if_neg c3).trans ((if_neg c4).trans ((if_neg c5).trans ((if_neg c6).trans (if_pos c7)))))))))) (pair_snd (show sp_X9_status M a0 = (M.1 5 4 0, M) from (by unfold sp_X9_status; exact ((if_neg c1).trans ((if_neg c2).trans ((if_neg c3).trans ((if_neg c4).trans ((if_neg c5).trans ((if_neg c6).trans (if_pos c7))))))))))
              · by_cases c8 : a0 = 7
                · refine r_tableIn (pc := 3) (tgt := 89) (off := 86) hG dX9_status_3 (by rw [c8]; decide) (by rw [c8]; decide) (by rw [c8]; rfl) (by decide) ?_
                  refine r_iconst (pc := 89) hG dX9_status_89 ic_0 ?_
                  refine r_istore_n (pc := 90) (ls' := [_, _, _, _]) hG dX9_status_90 rfl rfl ?_
                  have hb91 : bd (M.1 5 1 0) 9 := hpc5
                  have hb91l := bd_lt hb91
                  have lp91 : ∀ i, i ≤ (tn (M.1 5 1 0)) → ∀ b91 : Int32, b91 = itN i (st_X9_status_91 M a0) 0 → J G K M 91 [some (rf K 140), some (.int a0), some (.int b91), some (.int (nI i))] [] := by
                    refine up_ind (tn (M.1 5 1 0)) (fun i hi91 ih91 => ?_)
                    intro b91 hg91
                    refine r_iload_n (pc := 91) hG dX9_status_91 rfl ?_
                    refine r_aload_n (pc := 92) hG dX9_status_92 rfl ?_
                    refine gf_X9_people (pc := 93)  hG dX9_status_93 tw_1173 ?_
                    refine r_icmp_ge (pc := 96) (tgt := 118) hG dX9_status_96 (by decide) (fun c9 => ?_) (fun c9 => ?_)
                    · have e91 : i = (tn (M.1 5 1 0)) := by have := (bd_le hb91 (by omega)).mp c9; omega
                      subst hg91
                      subst e91
                      refine r_iload_n (pc := 118) hG dX9_status_118 rfl ?_
                      exact hret _ _ _ _ dX9_status_119 (pair_fst (show sp_X9_status M a0 = (itN (tn (M.1 5 1 0)) (st_X9_status_91 M a0) 0, M) from (by unfold sp_X9_status; exact ((if_neg c1).trans ((if_neg c2).trans ((if_neg c3).trans ((if_neg c4).trans ((if_neg c5).trans ((if_neg c6).trans ((if_neg c7).trans (if_pos c8))))))))))) (pair_snd (show sp_X9_status M a0 = (itN (tn (M.1 5 1 0)) (st_X9_status_91 M a0) 0, M) from (by unfold sp_X9_status; exact ((if_neg c1).trans ((if_neg c2).trans ((if_neg c3).trans ((if_neg c4).trans ((if_neg c5).trans ((if_neg c6).trans ((if_neg c7).trans (if_pos c8)))))))))))
                    · have hl91 : i < (tn (M.1 5 1 0)) := by have := mt (bd_le hb91 (by omega)).mpr c9; omega
                      refine r_aload_n (pc := 99) hG dX9_status_99 rfl ?_
                      refine gf_X9_rose (pc := 100)  hG dX9_status_100 tw_1177 ?_
                      refine r_iload_n (pc := 103) hG dX9_status_103 rfl ?_
                      refine al_Mrose (pc := 104)  hG dX9_status_104 (ix_nI (by omega) (Nat.le_of_ble_eq_true rfl)) ?_
                      refine r_iconst (pc := 105) hG dX9_status_105 ic_m1 ?_
                      refine r_icmp_eq (pc := 106) (tgt := 112) hG dX9_status_106 (by decide) (fun c10 => ?_) (fun c10 => ?_)
                      · refine r_iinc (pc := 112) (v := nI (i + 1)) (ls' := [_, _, _, _]) hG dX9_status_112 rfl (nI_1 _) rfl rfl ?_
                        refine r_goto (pc := 115) (tgt := 91) hG dX9_status_115 (by decide) ?_
                        have eN91 : b91 = st_X9_status_91 M a0 i (itN i (st_X9_status_91 M a0) 0) := by rw [← hg91]; unfold st_X9_status_91; exact Eq.symm (if_pos c10)
                        refine J.wk (ls' := [some (rf K 140), some (.int a0), some (.int b91), some (.int (nI (i + 1)))]) ?_ (Eq.refl 4) (wk_s rfl (wk_s rfl (wk_s rfl (wk_s rfl wk_0))))
                        exact ih91 hl91 b91 eN91
                      · refine r_iinc (pc := 109) (v := b91 + 1) (ls' := [_, _, _, _]) hG dX9_status_109 rfl rfl rfl rfl ?_
                        refine r_iinc (pc := 112) (v := nI (i + 1)) (ls' := [_, _, _, _]) hG dX9_status_112 rfl (nI_1 _) rfl rfl ?_
                        refine r_goto (pc := 115) (tgt := 91) hG dX9_status_115 (by decide) ?_
                        have eN91 : b91 + 1 = st_X9_status_91 M a0 i (itN i (st_X9_status_91 M a0) 0) := by rw [← hg91]; unfold st_X9_status_91; exact Eq.symm (if_neg c10)
                        refine J.wk (ls' := [some (rf K 140), some (.int a0), some (.int (b91 + 1)), some (.int (nI (i + 1)))]) ?_ (Eq.refl 4) (wk_s rfl (wk_s rfl (wk_s rfl (wk_s rfl wk_0))))
                        exact ih91 hl91 (b91 + 1) eN91
                  exact (lp91 0 (Nat.zero_le _) _ rfl).wk (Eq.refl 4) (wk_s rfl (wk_s rfl (wk_s rfl (wk_s rfl wk_0))))
                · by_cases c11 : a0 = 8
                  · refine r_tableIn (pc := 3) (tgt := 120) (off := 117) hG dX9_status_3 (by rw [c11]; decide) (by rw [c11]; decide) (by rw [c11]; rfl) (by decide) ?_
                    refine r_aload_n (pc := 120) hG dX9_status_120 rfl ?_
                    refine gf_X9_taped (pc := 121)  hG dX9_status_121 tw_1180 ?_
                    exact hret _ _ _ _ dX9_status_124 (pair_fst (show sp_X9_status M a0 = (M.2.1 30 0, M) from (by unfold sp_X9_status; exact ((if_neg c1).trans ((if_neg c2).trans ((if_neg c3).trans ((if_neg c4).trans ((if_neg c5).trans ((if_neg c6).trans ((if_neg c7).trans ((if_neg c8).trans (if_pos c11)))))))))))) (pair_snd (show sp_X9_status M a0 = (M.2.1 30 0, M) from (by unfold sp_X9_status; exact ((if_neg c1).trans ((if_neg c2).trans ((if_neg c3).trans ((if_neg c4).trans ((if_neg c5).trans ((if_neg c6).trans ((if_neg c7).trans ((if_neg c8).trans (if_pos c11))))))))))))
                  · by_cases c12 : a0 = 9
                    · refine r_tableIn (pc := 3) (tgt := 125) (off := 122) hG dX9_status_3 (by rw [c12]; decide) (by rw [c12]; decide) (by rw [c12]; rfl) (by decide) ?_
                      refine r_aload_n (pc := 125) hG dX9_status_125 rfl ?_
                      refine gf_X9_seed (pc := 126)  hG dX9_status_126 tw_1179 ?_
                      exact hret _ _ _ _ dX9_status_129 (pair_fst (show sp_X9_status M a0 = (M.1 5 5 0, M) from (by unfold sp_X9_status; exact ((if_neg c1).trans ((if_neg c2).trans ((if_neg c3).trans ((if_neg c4).trans ((if_neg c5).trans ((if_neg c6).trans ((if_neg c7).trans ((if_neg c8).trans ((if_neg c11).trans (if_pos c12))))))))))))) (pair_snd (show sp_X9_status M a0 = (M.1 5 5 0, M) from (by unfold sp_X9_status; exact ((if_neg c1).trans ((if_neg c2).trans ((if_neg c3).trans ((if_neg c4).trans ((if_neg c5).trans ((if_neg c6).trans ((if_neg c7).trans ((if_neg c8).trans ((if_neg c11).trans (if_pos c12)))))))))))))
                    · by_cases c13 : a0 = 10
                      · refine r_tableIn (pc := 3) (tgt := 130) (off := 127) hG dX9_status_3 (by rw [c13]; decide) (by rw [c13]; decide) (by rw [c13]; rfl) (by decide) ?_
                        refine r_iconst (pc := 130) hG dX9_status_130 ic_0 ?_
                        refine r_istore_n (pc := 131) (ls' := [_, _, _, _]) hG dX9_status_131 rfl rfl ?_
                        have lp132 : ∀ i, i ≤ 8 → ∀ b132 : Int32, b132 = itN i (st_X9_status_132 M a0) 0 → J G K M 132 [some (rf K 140), some (.int a0), some (.int b132), some (.int (nI i))] [] := by
                          refine up_ind 8 (fun i hi132 ih132 => ?_)
                          intro b132 hg132
                          refine r_iload_n (pc := 132) hG dX9_status_132 rfl ?_
                          refine r_bipush (pc := 133) hG dX9_status_133 bc_8 ?_
                          refine r_icmp_ge (pc := 135) (tgt := 157) hG dX9_status_135 (by decide) (fun c14 => ?_) (fun c14 => ?_)
                          · have e132 : i = 8 := by have := (le_nI (k := 8) (i := i) (Nat.le_of_ble_eq_true rfl) (by omega)).mp c14; omega
                            subst hg132
                            subst e132
                            refine r_iload_n (pc := 157) hG dX9_status_157 rfl ?_
                            exact hret _ _ _ _ dX9_status_158 (pair_fst (show sp_X9_status M a0 = (itN 8 (st_X9_status_132 M a0) 0, M) from (by unfold sp_X9_status; exact ((if_neg c1).trans ((if_neg c2).trans ((if_neg c3).trans ((if_neg c4).trans ((if_neg c5).trans ((if_neg c6).trans ((if_neg c7).trans ((if_neg c8).trans ((if_neg c11).trans ((if_neg c12).trans (if_pos c13)))))))))))))) (pair_snd (show sp_X9_status M a0 = (itN 8 (st_X9_status_132 M a0) 0, M) from (by unfold sp_X9_status; exact ((if_neg c1).trans ((if_neg c2).trans ((if_neg c3).trans ((if_neg c4).trans ((if_neg c5).trans ((if_neg c6).trans ((if_neg c7).trans ((if_neg c8).trans ((if_neg c11).trans ((if_neg c12).trans (if_pos c13))))))))))))))
                          · have hl132 : i < 8 := by have := mt (le_nI (k := 8) (i := i) (Nat.le_of_ble_eq_true rfl) (by omega)).mpr c14; omega
                            refine r_aload_n (pc := 138) hG dX9_status_138 rfl ?_
                            refine gf_X9_holding (pc := 139)  hG dX9_status_139 tw_1186 ?_
                            refine r_iload_n (pc := 142) hG dX9_status_142 rfl ?_
                            refine al_Mholding (pc := 143)  hG dX9_status_143 (ix_nI (by omega) (Nat.le_of_ble_eq_true rfl)) ?_
                            refine r_iconst (pc := 144) hG dX9_status_144 ic_m1 ?_
                            refine r_icmp_eq (pc := 145) (tgt := 151) hG dX9_status_145 (by decide) (fun c15 => ?_) (fun c15 => ?_)
                            · refine r_iinc (pc := 151) (v := nI (i + 1)) (ls' := [_, _, _, _]) hG dX9_status_151 rfl (nI_1 _) rfl rfl ?_
                              refine r_goto (pc := 154) (tgt := 132) hG dX9_status_154 (by decide) ?_
                              have eN132 : b132 = st_X9_status_132 M a0 i (itN i (st_X9_status_132 M a0) 0) := by rw [← hg132]; unfold st_X9_status_132; exact Eq.symm (if_pos c15)
                              refine J.wk (ls' := [some (rf K 140), some (.int a0), some (.int b132), some (.int (nI (i + 1)))]) ?_ (Eq.refl 4) (wk_s rfl (wk_s rfl (wk_s rfl (wk_s rfl wk_0))))
                              exact ih132 hl132 b132 eN132
                            · refine r_iinc (pc := 148) (v := b132 + 1) (ls' := [_, _, _, _]) hG dX9_status_148 rfl rfl rfl rfl ?_
                              refine r_iinc (pc := 151) (v := nI (i + 1)) (ls' := [_, _, _, _]) hG dX9_status_151 rfl (nI_1 _) rfl rfl ?_
                              refine r_goto (pc := 154) (tgt := 132) hG dX9_status_154 (by decide) ?_
                              have eN132 : b132 + 1 = st_X9_status_132 M a0 i (itN i (st_X9_status_132 M a0) 0) := by rw [← hg132]; unfold st_X9_status_132; exact Eq.symm (if_neg c15)
                              refine J.wk (ls' := [some (rf K 140), some (.int a0), some (.int (b132 + 1)), some (.int (nI (i + 1)))]) ?_ (Eq.refl 4) (wk_s rfl (wk_s rfl (wk_s rfl (wk_s rfl wk_0))))
                              exact ih132 hl132 (b132 + 1) eN132
                        exact (lp132 0 (Nat.zero_le _) _ rfl).wk (Eq.refl 4) (wk_s rfl (wk_s rfl (wk_s rfl (wk_s rfl wk_0))))
                      · have nc1 : Int32.toInt a0 ≠ 0 := fun q => c1 (Int32.toInt_inj.mp q)
                        have nc2 : Int32.toInt a0 ≠ 1 := fun q => c2 (Int32.toInt_inj.mp q)
                        have nc3 : Int32.toInt a0 ≠ 2 := fun q => c3 (Int32.toInt_inj.mp q)
                        have nc4 : Int32.toInt a0 ≠ 3 := fun q => c4 (Int32.toInt_inj.mp q)
                        have nc5 : Int32.toInt a0 ≠ 4 := fun q => c5 (Int32.toInt_inj.mp q)
                        have nc6 : Int32.toInt a0 ≠ 5 := fun q => c6 (Int32.toInt_inj.mp q)
                        have nc7 : Int32.toInt a0 ≠ 6 := fun q => c7 (Int32.toInt_inj.mp q)
                        have nc8 : Int32.toInt a0 ≠ 7 := fun q => c8 (Int32.toInt_inj.mp q)
                        have nc11 : Int32.toInt a0 ≠ 8 := fun q => c11 (Int32.toInt_inj.mp q)
                        have nc12 : Int32.toInt a0 ≠ 9 := fun q => c12 (Int32.toInt_inj.mp q)
                        have nc13 : Int32.toInt a0 ≠ 10 := fun q => c13 (Int32.toInt_inj.mp q)
                        refine r_tableOut (pc := 3) (tgt := 159) hG dX9_status_3 (by omega) (by decide) ?_
                        refine r_iload_n (pc := 159) hG dX9_status_159 rfl ?_
                        refine r_bipush (pc := 160) hG dX9_status_160 bc_12 ?_
                        refine r_bipush (pc := 162) hG dX9_status_162 bc_16 ?_
                        refine cs_X9_within (pc := 164)  hG dX9_status_164 tw_1270 (c_X9_within) (by decide) (Nat.le_of_ble_eq_true rfl) ?_
                        refine r_ifz_eq (pc := 167) (tgt := 182) hG dX9_status_167 (by decide) (fun c16 => ?_) (fun c16 => ?_)
                        · refine r_iconst (pc := 182) hG dX9_status_182 ic_m1 ?_
                          exact hret _ _ _ _ dX9_status_183 (pair_fst (show sp_X9_status M a0 = ((-1), M) from (by unfold sp_X9_status; exact ((if_neg c1).trans ((if_neg c2).trans ((if_neg c3).trans ((if_neg c4).trans ((if_neg c5).trans ((if_neg c6).trans ((if_neg c7).trans ((if_neg c8).trans ((if_neg c11).trans ((if_neg c12).trans ((if_neg c13).trans (if_neg c16))))))))))))))) (pair_snd (show sp_X9_status M a0 = ((-1), M) from (by unfold sp_X9_status; exact ((if_neg c1).trans ((if_neg c2).trans ((if_neg c3).trans ((if_neg c4).trans ((if_neg c5).trans ((if_neg c6).trans ((if_neg c7).trans ((if_neg c8).trans ((if_neg c11).trans ((if_neg c12).trans ((if_neg c13).trans (if_neg c16)))))))))))))))
                        · refine r_aload_n (pc := 170) hG dX9_status_170 rfl ?_
                          refine gf_X9_refusals (pc := 171)  hG dX9_status_171 tw_1189 ?_
                          refine r_iload_n (pc := 174) hG dX9_status_174 rfl ?_
                          refine r_bipush (pc := 175) hG dX9_status_175 bc_10 ?_
                          refine r_isub (pc := 177) hG dX9_status_177 ?_
                          refine al_Mrefusals (pc := 178)  hG dX9_status_178 (ix_bd (st9_bd c16)) ?_
                          refine r_goto (pc := 179) (tgt := 183) hG dX9_status_179 (by decide) ?_
                          exact hret _ _ _ _ dX9_status_183 (pair_fst (show sp_X9_status M a0 = (M.2.1 34 (tn (a0 - 10)), M) from (by unfold sp_X9_status; exact ((if_neg c1).trans ((if_neg c2).trans ((if_neg c3).trans ((if_neg c4).trans ((if_neg c5).trans ((if_neg c6).trans ((if_neg c7).trans ((if_neg c8).trans ((if_neg c11).trans ((if_neg c12).trans ((if_neg c13).trans (if_pos c16))))))))))))))) (pair_snd (show sp_X9_status M a0 = (M.2.1 34 (tn (a0 - 10)), M) from (by unfold sp_X9_status; exact ((if_neg c1).trans ((if_neg c2).trans ((if_neg c3).trans ((if_neg c4).trans ((if_neg c5).trans ((if_neg c6).trans ((if_neg c7).trans ((if_neg c8).trans ((if_neg c11).trans ((if_neg c12).trans ((if_neg c13).trans (if_pos c16)))))))))))))))
