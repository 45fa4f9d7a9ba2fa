def sp_X8_holds (M : MT) (a0 : Int32) : Int32 × MT :=
  if (sp_X8_isShelf a0) = true then
    if (sp_X4_isEmpty M (tn a0)) = true then
      ((-1), M)
    else
      if (M.2.1 9 (tn a0)) = 0 then
        (10 + (M.2.1 10 (tn a0)), M)
      else
        (M.2.1 11 (tn a0), M)
  else
    ((-1), M)
set_option maxRecDepth 20000 in
theorem c_X8_holds {K : KT} {M : MT} {a0 : Int32}  (hok0 : OKs M 0) : CM K 3 yX8_holds cX8_holds 2 (some FieldType.int) [rf K 0, .int a0] M (some (.int (sp_X8_holds M a0).1)) (sp_X8_holds M a0).2 := by
  refine CM.ofI (by decide) [some (rf K 0), some (.int a0)] rfl (Nat.le_of_ble_eq_true rfl) (Nat.le_of_ble_eq_true rfl) (fun G hG _ hret => ?_)
  obtain ⟨hwc0, hpc0, ⟨hcl0, hcm0⟩, hwi0, hda0, hle0, hk80, ha80, hW0, hP0⟩ := id hok0
  have hwl0 := bd_lt hwc0
  have hpl0 := bd_lt hpc0
  have hcl0l := bd_lt hcl0
  refine r_iload_n (pc := 0) hG dX8_holds_0 rfl ?_
  refine cs_X8_isShelf (pc := 1)  hG dX8_holds_1 tw_384 (c_X8_isShelf) (by decide) (Nat.le_of_ble_eq_true rfl) ?_
  refine r_ifz_eq (pc := 4) (tgt := 19) hG dX8_holds_4 (by decide) (fun c1 => ?_) (fun c1 => ?_)
  · refine r_iconst (pc := 19) hG dX8_holds_19 ic_m1 ?_
    exact hret _ _ _ _ dX8_holds_20 (Eq.symm (congrArg Prod.fst (show sp_X8_holds M a0 = ((-1), M) from (by unfold sp_X8_holds; exact (if_neg c1))))) (Eq.symm (congrArg Prod.snd (show sp_X8_holds M a0 = ((-1), M) from (by unfold sp_X8_holds; exact (if_neg c1)))))
  · refine r_aload_n (pc := 7) hG dX8_holds_7 rfl ?_
    refine gf_X8_shelves (pc := 8)  hG dX8_holds_8 tw_360 ?_
    refine r_iload_n (pc := 11) hG dX8_holds_11 rfl ?_
    refine aa_Xsh (pc := 12)  hG dX8_holds_12 (ix_bd (isSh c1)) ?_
    refine cv_X4_isEmpty (pc := 13) (bd_lt (isSh c1)) hG dX8_holds_13 tw_434 (c_X4_isEmpty (bd_lt (isSh c1))) (by decide) (Nat.le_of_ble_eq_true rfl) ?_
    refine r_ifz_eq (pc := 16) (tgt := 21) hG dX8_holds_16 (by decide) (fun c2 => ?_) (fun c2 => ?_)
    · refine r_aload_n (pc := 21) hG dX8_holds_21 rfl ?_
      refine gf_X8_shelves (pc := 22)  hG dX8_holds_22 tw_360 ?_
      refine r_iload_n (pc := 25) hG dX8_holds_25 rfl ?_
      refine aa_Xsh (pc := 26)  hG dX8_holds_26 (ix_bd (isSh c1)) ?_
      refine gf_X4_hasRow (pc := 27) (bd_lt (isSh c1)) hG dX8_holds_27 tw_345 ?_
      refine r_if_eq (pc := 30) (tgt := 48) hG dX8_holds_30 (by decide) (fun c3 => ?_) (fun c3 => ?_)
      · refine r_bipush (pc := 48) hG dX8_holds_48 bc_10 ?_
        refine r_aload_n (pc := 50) hG dX8_holds_50 rfl ?_
        refine gf_X8_shelves (pc := 51)  hG dX8_holds_51 tw_360 ?_
        refine r_iload_n (pc := 54) hG dX8_holds_54 rfl ?_
        refine aa_Xsh (pc := 55)  hG dX8_holds_55 (ix_bd (isSh c1)) ?_
        refine gf_X4_person (pc := 56) (bd_lt (isSh c1)) hG dX8_holds_56 tw_347 ?_
        refine r_iadd (pc := 59) hG dX8_holds_59 ?_
        exact hret _ _ _ _ dX8_holds_60 (Eq.symm (congrArg Prod.fst (show sp_X8_holds M a0 = (10 + (M.2.1 10 (tn a0)), M) from (by unfold sp_X8_holds; exact ((if_pos c1).trans ((if_neg c2).trans (if_pos c3))))))) (Eq.symm (congrArg Prod.snd (show sp_X8_holds M a0 = (10 + (M.2.1 10 (tn a0)), M) from (by unfold sp_X8_holds; exact ((if_pos c1).trans ((if_neg c2).trans (if_pos c3)))))))
      · refine r_aload_n (pc := 33) hG dX8_holds_33 rfl ?_
        refine gf_X8_shelves (pc := 34)  hG dX8_holds_34 tw_360 ?_
        refine r_iload_n (pc := 37) hG dX8_holds_37 rfl ?_
        refine aa_Xsh (pc := 38)  hG dX8_holds_38 (ix_bd (isSh c1)) ?_
        refine gf_X4_row (pc := 39) (bd_lt (isSh c1)) hG dX8_holds_39 tw_343 ?_
        refine gf_X3_sort (pc := 42) (bd_lt (isSh c1)) hG dX8_holds_42 tw_330 ?_
        refine r_goto (pc := 45) (tgt := 60) hG dX8_holds_45 (by decide) ?_
        exact hret _ _ _ _ dX8_holds_60 (Eq.symm (congrArg Prod.fst (show sp_X8_holds M a0 = (M.2.1 11 (tn a0), M) from (by unfold sp_X8_holds; exact ((if_pos c1).trans ((if_neg c2).trans (if_neg c3))))))) (Eq.symm (congrArg Prod.snd (show sp_X8_holds M a0 = (M.2.1 11 (tn a0), M) from (by unfold sp_X8_holds; exact ((if_pos c1).trans ((if_neg c2).trans (if_neg c3)))))))
    · refine r_iconst (pc := 19) hG dX8_holds_19 ic_m1 ?_
      exact hret _ _ _ _ dX8_holds_20 (Eq.symm (congrArg Prod.fst (show sp_X8_holds M a0 = ((-1), M) from (by unfold sp_X8_holds; exact ((if_pos c1).trans (if_pos c2)))))) (Eq.symm (congrArg Prod.snd (show sp_X8_holds M a0 = ((-1), M) from (by unfold sp_X8_holds; exact ((if_pos c1).trans (if_pos c2))))))

def sp_X8_wipe (M : MT) : Int32 × MT :=
  (M.2.1 6 0, u2 M 6 0 0)
set_option maxRecDepth 20000 in
theorem c_X8_wipe {K : KT} {M : MT}   (hok0 : OKs M 0) : CM K 1 yX8_wipe cX8_wipe 2 (some FieldType.int) [rf K 0] M (some (.int (sp_X8_wipe M).1)) (sp_X8_wipe M).2 := by
  refine CM.ofI (by decide) [some (rf K 0), none] rfl (Nat.le_of_ble_eq_true rfl) (Nat.le_of_ble_eq_true rfl) (fun G hG _ hret => ?_)
  obtain ⟨hwc0, hpc0, ⟨hcl0, hcm0⟩, hwi0, hda0, hle0, hk80, ha80, hW0, hP0⟩ := id hok0
  have hwl0 := bd_lt hwc0
  have hpl0 := bd_lt hpc0
  have hcl0l := bd_lt hcl0
  refine r_aload_n (pc := 0) hG dX8_wipe_0 rfl ?_
  refine gf_X8_tape (pc := 1)  hG dX8_wipe_1 tw_359 ?_
  refine gf_X6_size (pc := 4)  hG dX8_wipe_4 tw_288 ?_
  refine r_istore_n (pc := 7) (ls' := [_, _]) hG dX8_wipe_7 rfl rfl ?_
  refine r_aload_n (pc := 8) hG dX8_wipe_8 rfl ?_
  refine gf_X8_tape (pc := 9)  hG dX8_wipe_9 tw_359 ?_
  refine r_iconst (pc := 12) hG dX8_wipe_12 ic_0 ?_
  refine pf_X6_size (pc := 13)  hG dX8_wipe_13 tw_288 ?_
  refine r_iload_n (pc := 16) hG dX8_wipe_16 rfl ?_
  exact hret _ _ _ _ dX8_wipe_17 (Eq.symm (congrArg Prod.fst (show sp_X8_wipe M = (M.2.1 6 0, u2 M 6 0 0) from (by unfold sp_X8_wipe; exact rfl)))) (Eq.symm (congrArg Prod.snd (show sp_X8_wipe M = (M.2.1 6 0, u2 M 6 0 0) from (by unfold sp_X8_wipe; exact rfl))))

def sp_X8_gaps (M : MT) : Int32 × MT :=
  (sp_X5_uncaughtCells M 0, M)
set_option maxRecDepth 20000 in
theorem c_X8_gaps {K : KT} {M : MT}   (hok0 : OKs M 0) : CM K 5 yX8_gaps cX8_gaps 1 (some FieldType.int) [rf K 0] M (some (.int (sp_X8_gaps M).1)) (sp_X8_gaps M).2 := by
  refine CM.ofI (by decide) [some (rf K 0)] rfl (Nat.le_of_ble_eq_true rfl) (Nat.le_of_ble_eq_true rfl) (fun G hG _ hret => ?_)
  obtain ⟨hwc0, hpc0, ⟨hcl0, hcm0⟩, hwi0, hda0, hle0, hk80, ha80, hW0, hP0⟩ := id hok0
  have hwl0 := bd_lt hwc0
  have hpl0 := bd_lt hpc0
  have hcl0l := bd_lt hcl0
  refine r_aload_n (pc := 0) hG dX8_gaps_0 rfl ?_
  refine gf_X8_live (pc := 1)  hG dX8_gaps_1 tw_355 ?_
  refine cv_X5_uncaughtCells (pc := 4) (by omega) hG dX8_gaps_4 tw_1043 (c_X5_uncaughtCells (by omega) hok0) (by decide) (Nat.le_of_ble_eq_true rfl) ?_
  exact hret _ _ _ _ dX8_gaps_7 (Eq.symm (congrArg Prod.fst (show sp_X8_gaps M = (sp_X5_uncaughtCells M 0, M) from (by unfold sp_X8_gaps; exact rfl)))) (Eq.symm (congrArg Prod.snd (show sp_X8_gaps M = (sp_X5_uncaughtCells M 0, M) from (by unfold sp_X8_gaps; exact rfl))))

def sp_X8_seed (M : MT) (a0 : Int32) : Int32 × MT :=
  (M.1 0 5 0, u1 M 0 5 0 a0)
set_option maxRecDepth 20000 in
theorem c_X8_seed {K : KT} {M : MT} {a0 : Int32}  (hok0 : OKs M 0) : CM K 1 yX8_seed cX8_seed 3 (some FieldType.int) [rf K 0, .int a0] M (some (.int (sp_X8_seed M a0).1)) (sp_X8_seed M a0).2 := by
  refine CM.ofI (by decide) [some (rf K 0), some (.int a0), none] rfl (Nat.le_of_ble_eq_true rfl) (Nat.le_of_ble_eq_true rfl) (fun G hG _ hret => ?_)
  obtain ⟨hwc0, hpc0, ⟨hcl0, hcm0⟩, hwi0, hda0, hle0, hk80, ha80, hW0, hP0⟩ := id hok0
  have hwl0 := bd_lt hwc0
  have hpl0 := bd_lt hpc0
  have hcl0l := bd_lt hcl0
  refine r_aload_n (pc := 0) hG dX8_seed_0 rfl ?_
  refine gf_X8_live (pc := 1)  hG dX8_seed_1 tw_355 ?_
  refine gf_X5_seed (pc := 4) (by omega) hG dX8_seed_4 tw_194 ?_
  refine r_istore_n (pc := 7) (ls' := [_, _, _]) hG dX8_seed_7 rfl rfl ?_
  refine r_aload_n (pc := 8) hG dX8_seed_8 rfl ?_
  refine gf_X8_live (pc := 9)  hG dX8_seed_9 tw_355 ?_
  refine r_iload_n (pc := 12) hG dX8_seed_12 rfl ?_
  refine pf_X5_seed (pc := 13) (by omega) hG dX8_seed_13 tw_194 ?_
  refine r_iload_n (pc := 16) hG dX8_seed_16 rfl ?_
  exact hret _ _ _ _ dX8_seed_17 (Eq.symm (congrArg Prod.fst (show sp_X8_seed M a0 = (M.1 0 5 0, u1 M 0 5 0 a0) from (by unfold sp_X8_seed; exact rfl)))) (Eq.symm (congrArg Prod.snd (show sp_X8_seed M a0 = (M.1 0 5 0, u1 M 0 5 0 a0) from (by unfold sp_X8_seed; exact rfl))))
