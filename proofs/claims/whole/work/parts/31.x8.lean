def sp_X8_freshOutlook (M : MT) : MT :=
  (cpM M 2 0)
set_option maxRecDepth 20000 in
theorem c_X8_freshOutlook {K : KT} {M : MT}   (hokx : OKX M) : CM K 3 yX8_freshOutlook cX8_freshOutlook 1 (some (FieldType.object "ThrownRosesReturn$Outlook")) [rf K 0] M (some (rf K 3)) (sp_X8_freshOutlook M) := by
  refine CM.ofR (by decide) [some (rf K 0)] rfl (Nat.le_of_ble_eq_true rfl) (Nat.le_of_ble_eq_true rfl) (fun G hG _ hret => ?_)
  obtain ⟨hok0, hok1, hoa2, hoa3, hoa4, hsh, htp⟩ := id hokx
  obtain ⟨hwc0, hpc0, ⟨hcl0, hcm0⟩, hwi0, hda0, hle0, hk80, ha80, hW0, hP0⟩ := id hok0
  have hwl0 := bd_lt hwc0
  have hpl0 := bd_lt hpc0
  have hcl0l := bd_lt hcl0
  refine r_aload_n (pc := 0) hG dX8_freshOutlook_0 rfl ?_
  refine gf_X8_outlook (pc := 1)  hG dX8_freshOutlook_1 tw_357 ?_
  refine gf_X0_draft (pc := 4)  hG dX8_freshOutlook_4 tw_225 ?_
  refine r_aload_n (pc := 7) hG dX8_freshOutlook_7 rfl ?_
  refine gf_X8_live (pc := 8)  hG dX8_freshOutlook_8 tw_355 ?_
  refine cv_X5_copyFrom (pc := 11) (by omega) hG dX8_freshOutlook_11 tw_529 (c_X5_copyM (by omega) (by omega) (by decide) hok0) (by decide) (Nat.le_of_ble_eq_true rfl) ?_
  refine r_aload_n (pc := 14) hG dX8_freshOutlook_14 rfl ?_
  refine gf_X8_outlook (pc := 15)  hG dX8_freshOutlook_15 tw_357 ?_
  exact hret _ _ _ dX8_freshOutlook_18 (Eq.symm (by unfold sp_X8_freshOutlook; exact rfl))

def sp_X8_row (M : MT) (a0 : Int32) (a1 : Int32) (a2 : Int32) : Int32 × MT :=
  if (sp_X8_isShelf a0) = true then
    if (sp_X8_within a1 0 4) = true then
      if (sp_X8_within a2 0 40) = true then
        (1, sp_X4_takeRow M (tn a0) a1 a2)
      else
        ((sp_X8_refuse M (-2)).1, (sp_X8_refuse M (-2)).2)
    else
      ((sp_X8_refuse M (-2)).1, (sp_X8_refuse M (-2)).2)
  else
    ((sp_X8_refuse M (-2)).1, (sp_X8_refuse M (-2)).2)
set_option maxRecDepth 20000 in
theorem c_X8_row {K : KT} {M : MT} {a0 : Int32} {a1 : Int32} {a2 : Int32}  (hokx : OKX M) : CM K 3 yX8_row cX8_row 4 (some FieldType.int) [rf K 0, .int a0, .int a1, .int a2] M (some (.int (sp_X8_row M a0 a1 a2).1)) (sp_X8_row M a0 a1 a2).2 := by
  refine CM.ofI (by decide) [some (rf K 0), some (.int a0), some (.int a1), some (.int a2)] rfl (Nat.le_of_ble_eq_true rfl) (Nat.le_of_ble_eq_true rfl) (fun G hG _ hret => ?_)
  obtain ⟨hok0, hok1, hoa2, hoa3, hoa4, hsh, htp⟩ := id hokx
  obtain ⟨hwc0, hpc0, ⟨hcl0, hcm0⟩, hwi0, hda0, hle0, hk80, ha80, hW0, hP0⟩ := id hok0
  have hwl0 := bd_lt hwc0
  have hpl0 := bd_lt hpc0
  have hcl0l := bd_lt hcl0
  refine r_iload_n (pc := 0) hG dX8_row_0 rfl ?_
  refine cs_X8_isShelf (pc := 1)  hG dX8_row_1 tw_384 (c_X8_isShelf) (by decide) (Nat.le_of_ble_eq_true rfl) ?_
  refine r_ifz_eq (pc := 4) (tgt := 26) hG dX8_row_4 (by decide) (fun c1 => ?_) (fun c1 => ?_)
  · refine r_aload_n (pc := 26) hG dX8_row_26 rfl ?_
    refine r_bipush (pc := 27) hG dX8_row_27 bc_m2 ?_
    refine cv_X8_refuse (pc := 29)  hG dX8_row_29 tw_390 (c_X8_refuse (bd_lit (n := 7) (by decide))) (by decide) (Nat.le_of_ble_eq_true rfl) ?_
    exact hret _ _ _ _ dX8_row_32 (pair_fst (show sp_X8_row M a0 a1 a2 = ((sp_X8_refuse M (-2)).1, (sp_X8_refuse M (-2)).2) from (by unfold sp_X8_row; exact (if_neg c1)))) (pair_snd (show sp_X8_row M a0 a1 a2 = ((sp_X8_refuse M (-2)).1, (sp_X8_refuse M (-2)).2) from (by unfold sp_X8_row; exact (if_neg c1))))
  · refine r_iload_n (pc := 7) hG dX8_row_7 rfl ?_
    refine r_iconst (pc := 8) hG dX8_row_8 ic_0 ?_
    refine r_iconst (pc := 9) hG dX8_row_9 ic_4 ?_
    refine cs_X8_within (pc := 10)  hG dX8_row_10 tw_387 (c_X8_within) (by decide) (Nat.le_of_ble_eq_true rfl) ?_
    refine r_ifz_eq (pc := 13) (tgt := 26) hG dX8_row_13 (by decide) (fun c2 => ?_) (fun c2 => ?_)
    · refine r_aload_n (pc := 26) hG dX8_row_26 rfl ?_
      refine r_bipush (pc := 27) hG dX8_row_27 bc_m2 ?_
      refine cv_X8_refuse (pc := 29)  hG dX8_row_29 tw_390 (c_X8_refuse (bd_lit (n := 7) (by decide))) (by decide) (Nat.le_of_ble_eq_true rfl) ?_
      exact hret _ _ _ _ dX8_row_32 (pair_fst (show sp_X8_row M a0 a1 a2 = ((sp_X8_refuse M (-2)).1, (sp_X8_refuse M (-2)).2) from (by unfold sp_X8_row; exact ((if_pos c1).trans (if_neg c2))))) (pair_snd (show sp_X8_row M a0 a1 a2 = ((sp_X8_refuse M (-2)).1, (sp_X8_refuse M (-2)).2) from (by unfold sp_X8_row; exact ((if_pos c1).trans (if_neg c2)))))
    · refine r_iload_n (pc := 16) hG dX8_row_16 rfl ?_
      refine r_iconst (pc := 17) hG dX8_row_17 ic_0 ?_
      refine r_bipush (pc := 18) hG dX8_row_18 bc_40 ?_
      refine cs_X8_within (pc := 20)  hG dX8_row_20 tw_387 (c_X8_within) (by decide) (Nat.le_of_ble_eq_true rfl) ?_
      refine r_ifz_ne (pc := 23) (tgt := 33) hG dX8_row_23 (by decide) (fun c3 => ?_) (fun c3 => ?_)
      · refine r_aload_n (pc := 33) hG dX8_row_33 rfl ?_
        refine gf_X8_shelves (pc := 34)  hG dX8_row_34 tw_360 ?_
        refine r_iload_n (pc := 37) hG dX8_row_37 rfl ?_
        refine aa_Xsh (pc := 38)  hG dX8_row_38 (ix_bd (isSh c1)) ?_
        refine r_iload_n (pc := 39) hG dX8_row_39 rfl ?_
        refine r_iload_n (pc := 40) hG dX8_row_40 rfl ?_
        refine cv_X4_takeRow (pc := 41) (bd_lt (isSh c1)) hG dX8_row_41 tw_394 (c_X4_takeRow (bd_lt (isSh c1)) (wi_bd (n := 40) c3 rfl (Nat.le_of_ble_eq_true rfl))) (by decide) (Nat.le_of_ble_eq_true rfl) ?_
        refine r_iconst (pc := 44) hG dX8_row_44 ic_1 ?_
        exact hret _ _ _ _ dX8_row_45 (pair_fst (show sp_X8_row M a0 a1 a2 = (1, sp_X4_takeRow M (tn a0) a1 a2) from (by unfold sp_X8_row; exact ((if_pos c1).trans ((if_pos c2).trans (if_pos c3)))))) (pair_snd (show sp_X8_row M a0 a1 a2 = (1, sp_X4_takeRow M (tn a0) a1 a2) from (by unfold sp_X8_row; exact ((if_pos c1).trans ((if_pos c2).trans (if_pos c3))))))
      · refine r_aload_n (pc := 26) hG dX8_row_26 rfl ?_
        refine r_bipush (pc := 27) hG dX8_row_27 bc_m2 ?_
        refine cv_X8_refuse (pc := 29)  hG dX8_row_29 tw_390 (c_X8_refuse (bd_lit (n := 7) (by decide))) (by decide) (Nat.le_of_ble_eq_true rfl) ?_
        exact hret _ _ _ _ dX8_row_32 (pair_fst (show sp_X8_row M a0 a1 a2 = ((sp_X8_refuse M (-2)).1, (sp_X8_refuse M (-2)).2) from (by unfold sp_X8_row; exact ((if_pos c1).trans ((if_pos c2).trans (if_neg c3)))))) (pair_snd (show sp_X8_row M a0 a1 a2 = ((sp_X8_refuse M (-2)).1, (sp_X8_refuse M (-2)).2) from (by unfold sp_X8_row; exact ((if_pos c1).trans ((if_pos c2).trans (if_neg c3))))))

def sp_X8_set (M : MT) (a0 : Int32) (a1 : Int32) (a2 : Int64) : Int32 × MT :=
  if (sp_X8_rowRefusal M a0 0) = 0 then
    if (sp_X3_hasElement M (tn a0) a1) = true then
      (1, u3 M (tn a0) (tn a1) (sp_X3_fitted M (tn a0) a2))
    else
      ((sp_X8_refuse M (-2)).1, (sp_X8_refuse M (-2)).2)
  else
    ((sp_X8_refuse M (sp_X8_rowRefusal M a0 0)).1, (sp_X8_refuse M (sp_X8_rowRefusal M a0 0)).2)
set_option maxRecDepth 20000 in
theorem c_X8_set {K : KT} {M : MT} {a0 : Int32} {a1 : Int32} {a2 : Int64}  (hokx : OKX M) : CM K 4 yX8_set cX8_set 7 (some FieldType.int) [rf K 0, .int a0, .int a1, .long a2] M (some (.int (sp_X8_set M a0 a1 a2).1)) (sp_X8_set M a0 a1 a2).2 := by
  refine CM.ofI (by decide) [some (rf K 0), some (.int a0), some (.int a1), some (.long a2), none, none, none] rfl (Nat.le_of_ble_eq_true rfl) (Nat.le_of_ble_eq_true rfl) (fun G hG _ hret => ?_)
  obtain ⟨hok0, hok1, hoa2, hoa3, hoa4, hsh, htp⟩ := id hokx
  obtain ⟨hwc0, hpc0, ⟨hcl0, hcm0⟩, hwi0, hda0, hle0, hk80, ha80, hW0, hP0⟩ := id hok0
  have hwl0 := bd_lt hwc0
  have hpl0 := bd_lt hpc0
  have hcl0l := bd_lt hcl0
  refine r_aload_n (pc := 0) hG dX8_set_0 rfl ?_
  refine r_iload_n (pc := 1) hG dX8_set_1 rfl ?_
  refine r_iconst (pc := 2) hG dX8_set_2 ic_0 ?_
  refine cv_X8_rowRefusal (pc := 3)  hG dX8_set_3 tw_402 (c_X8_rowRefusal) (by decide) (Nat.le_of_ble_eq_true rfl) ?_
  refine r_istore (pc := 6) (ls' := [_, _, _, _, _, _, _]) hG dX8_set_6 rfl rfl ?_
  refine r_iload (pc := 8) hG dX8_set_8 rfl ?_
  refine r_if_eq (pc := 10) (tgt := 20) hG dX8_set_10 (by decide) (fun c1 => ?_) (fun c1 => ?_)
  · refine r_aload_n (pc := 20) hG dX8_set_20 rfl ?_
    refine gf_X8_shelves (pc := 21)  hG dX8_set_21 tw_360 ?_
    refine r_iload_n (pc := 24) hG dX8_set_24 rfl ?_
    refine aa_Xsh (pc := 25)  hG dX8_set_25 (ix_bd (rrS c1)) ?_
    refine gf_X4_row (pc := 26) (bd_lt (rrS c1)) hG dX8_set_26 tw_343 ?_
    refine r_astore (pc := 29) (ls' := [_, _, _, _, _, _, _]) hG dX8_set_29 rfl rfl ?_
    refine r_aload (pc := 31) hG dX8_set_31 rfl ?_
    refine r_iload_n (pc := 33) hG dX8_set_33 rfl ?_
    refine cv_X3_hasElement (pc := 34) (bd_lt (rrS c1)) hG dX8_set_34 tw_406 (c_X3_hasElement (bd_lt (rrS c1))) (by decide) (Nat.le_of_ble_eq_true rfl) ?_
    refine r_ifz_ne (pc := 37) (tgt := 47) hG dX8_set_37 (by decide) (fun c2 => ?_) (fun c2 => ?_)
    · refine r_aload (pc := 47) hG dX8_set_47 rfl ?_
      refine gf_X3_elements (pc := 49) (bd_lt (rrS c1)) hG dX8_set_49 tw_325 ?_
      refine r_iload_n (pc := 52) hG dX8_set_52 rfl ?_
      refine r_aload (pc := 53) hG dX8_set_53 rfl ?_
      refine r_lload_n (pc := 55) hG dX8_set_55 rfl ?_
      refine cv_X3_fitted (pc := 56) (bd_lt (rrS c1)) hG dX8_set_56 tw_411 (c_X3_fitted (bd_lt (rrS c1))) (by decide) (Nat.le_of_ble_eq_true rfl) ?_
      refine as_Ele (pc := 59) (bd_lt (rrS c1)) hG dX8_set_59 (ix_bd (hasE (hsh _ (bd_lt (rrS c1))).1 c2)) ?_
      refine r_iconst (pc := 60) hG dX8_set_60 ic_1 ?_
      exact hret _ _ _ _ dX8_set_61 (pair_fst (show sp_X8_set M a0 a1 a2 = (1, u3 M (tn a0) (tn a1) (sp_X3_fitted M (tn a0) a2)) from (by unfold sp_X8_set; exact ((if_pos c1).trans (if_pos c2))))) (pair_snd (show sp_X8_set M a0 a1 a2 = (1, u3 M (tn a0) (tn a1) (sp_X3_fitted M (tn a0) a2)) from (by unfold sp_X8_set; exact ((if_pos c1).trans (if_pos c2)))))
    · refine r_aload_n (pc := 40) hG dX8_set_40 rfl ?_
      refine r_bipush (pc := 41) hG dX8_set_41 bc_m2 ?_
      refine cv_X8_refuse (pc := 43)  hG dX8_set_43 tw_390 (c_X8_refuse (bd_lit (n := 7) (by decide))) (by decide) (Nat.le_of_ble_eq_true rfl) ?_
      exact hret _ _ _ _ dX8_set_46 (pair_fst (show sp_X8_set M a0 a1 a2 = ((sp_X8_refuse M (-2)).1, (sp_X8_refuse M (-2)).2) from (by unfold sp_X8_set; exact ((if_pos c1).trans (if_neg c2))))) (pair_snd (show sp_X8_set M a0 a1 a2 = ((sp_X8_refuse M (-2)).1, (sp_X8_refuse M (-2)).2) from (by unfold sp_X8_set; exact ((if_pos c1).trans (if_neg c2)))))
  · refine r_aload_n (pc := 13) hG dX8_set_13 rfl ?_
    refine r_iload (pc := 14) hG dX8_set_14 rfl ?_
    refine cv_X8_refuse (pc := 16)  hG dX8_set_16 tw_390 (c_X8_refuse rrB) (by decide) (Nat.le_of_ble_eq_true rfl) ?_
    exact hret _ _ _ _ dX8_set_19 (pair_fst (show sp_X8_set M a0 a1 a2 = ((sp_X8_refuse M (sp_X8_rowRefusal M a0 0)).1, (sp_X8_refuse M (sp_X8_rowRefusal M a0 0)).2) from (by unfold sp_X8_set; exact (if_neg c1)))) (pair_snd (show sp_X8_set M a0 a1 a2 = ((sp_X8_refuse M (sp_X8_rowRefusal M a0 0)).1, (sp_X8_refuse M (sp_X8_rowRefusal M a0 0)).2) from (by unfold sp_X8_set; exact (if_neg c1))))

def sp_X8_element (M : MT) (a0 : Int32) (a1 : Int32) : Int64 × MT :=
  if (sp_X8_isShelf a0) = true then
    if (M.2.1 9 (tn a0)) = 0 then
      (0, M)
    else
      if (sp_X3_hasElement M (tn a0) a1) = true then
        (M.2.2 (tn a0) (tn a1), M)
      else
        (0, M)
  else
    (0, M)
set_option maxRecDepth 20000 in
theorem c_X8_element {K : KT} {M : MT} {a0 : Int32} {a1 : Int32}  (hokx : OKX M) : CM K 3 yX8_element cX8_element 3 (some FieldType.long) [rf K 0, .int a0, .int a1] M (some (.long (sp_X8_element M a0 a1).1)) (sp_X8_element M a0 a1).2 := by
  refine CM.ofL (by decide) [some (rf K 0), some (.int a0), some (.int a1)] rfl (Nat.le_of_ble_eq_true rfl) (Nat.le_of_ble_eq_true rfl) (fun G hG _ hret => ?_)
  obtain ⟨hok0, hok1, hoa2, hoa3, hoa4, hsh, htp⟩ := id hokx
  obtain ⟨hwc0, hpc0, ⟨hcl0, hcm0⟩, hwi0, hda0, hle0, hk80, ha80, hW0, hP0⟩ := id hok0
  have hwl0 := bd_lt hwc0
  have hpl0 := bd_lt hpc0
  have hcl0l := bd_lt hcl0
  refine r_iload_n (pc := 0) hG dX8_element_0 rfl ?_
  refine cs_X8_isShelf (pc := 1)  hG dX8_element_1 tw_384 (c_X8_isShelf) (by decide) (Nat.le_of_ble_eq_true rfl) ?_
  refine r_ifz_eq (pc := 4) (tgt := 35) hG dX8_element_4 (by decide) (fun c1 => ?_) (fun c1 => ?_)
  · refine r_lconst (pc := 35) (v := 0) hG dX8_element_35 (by decide) ?_
    exact hret _ _ _ _ dX8_element_36 (pair_fst (show sp_X8_element M a0 a1 = (0, M) from (by unfold sp_X8_element; exact (if_neg c1)))) (pair_snd (show sp_X8_element M a0 a1 = (0, M) from (by unfold sp_X8_element; exact (if_neg c1))))
  · refine r_aload_n (pc := 7) hG dX8_element_7 rfl ?_
    refine gf_X8_shelves (pc := 8)  hG dX8_element_8 tw_360 ?_
    refine r_iload_n (pc := 11) hG dX8_element_11 rfl ?_
    refine aa_Xsh (pc := 12)  hG dX8_element_12 (ix_bd (isSh c1)) ?_
    refine gf_X4_hasRow (pc := 13) (bd_lt (isSh c1)) hG dX8_element_13 tw_345 ?_
    refine r_if_eq (pc := 16) (tgt := 35) hG dX8_element_16 (by decide) (fun c2 => ?_) (fun c2 => ?_)
    · refine r_lconst (pc := 35) (v := 0) hG dX8_element_35 (by decide) ?_
      exact hret _ _ _ _ dX8_element_36 (pair_fst (show sp_X8_element M a0 a1 = (0, M) from (by unfold sp_X8_element; exact ((if_pos c1).trans (if_pos c2))))) (pair_snd (show sp_X8_element M a0 a1 = (0, M) from (by unfold sp_X8_element; exact ((if_pos c1).trans (if_pos c2)))))
    · refine r_aload_n (pc := 19) hG dX8_element_19 rfl ?_
      refine gf_X8_shelves (pc := 20)  hG dX8_element_20 tw_360 ?_
      refine r_iload_n (pc := 23) hG dX8_element_23 rfl ?_
      refine aa_Xsh (pc := 24)  hG dX8_element_24 (ix_bd (isSh c1)) ?_
      refine gf_X4_row (pc := 25) (bd_lt (isSh c1)) hG dX8_element_25 tw_343 ?_
      refine r_iload_n (pc := 28) hG dX8_element_28 rfl ?_
      refine cv_X3_hasElement (pc := 29) (bd_lt (isSh c1)) hG dX8_element_29 tw_406 (c_X3_hasElement (bd_lt (isSh c1))) (by decide) (Nat.le_of_ble_eq_true rfl) ?_
      refine r_ifz_ne (pc := 32) (tgt := 37) hG dX8_element_32 (by decide) (fun c3 => ?_) (fun c3 => ?_)
      · refine r_aload_n (pc := 37) hG dX8_element_37 rfl ?_
        refine gf_X8_shelves (pc := 38)  hG dX8_element_38 tw_360 ?_
        refine r_iload_n (pc := 41) hG dX8_element_41 rfl ?_
        refine aa_Xsh (pc := 42)  hG dX8_element_42 (ix_bd (isSh c1)) ?_
        refine gf_X4_row (pc := 43) (bd_lt (isSh c1)) hG dX8_element_43 tw_343 ?_
        refine gf_X3_elements (pc := 46) (bd_lt (isSh c1)) hG dX8_element_46 tw_325 ?_
        refine r_iload_n (pc := 49) hG dX8_element_49 rfl ?_
        refine al_Ele (pc := 50) (bd_lt (isSh c1)) hG dX8_element_50 (ix_bd (hasE (hsh _ (bd_lt (isSh c1))).1 c3)) ?_
        exact hret _ _ _ _ dX8_element_51 (pair_fst (show sp_X8_element M a0 a1 = (M.2.2 (tn a0) (tn a1), M) from (by unfold sp_X8_element; exact ((if_pos c1).trans ((if_neg c2).trans (if_pos c3)))))) (pair_snd (show sp_X8_element M a0 a1 = (M.2.2 (tn a0) (tn a1), M) from (by unfold sp_X8_element; exact ((if_pos c1).trans ((if_neg c2).trans (if_pos c3))))))
      · refine r_lconst (pc := 35) (v := 0) hG dX8_element_35 (by decide) ?_
        exact hret _ _ _ _ dX8_element_36 (pair_fst (show sp_X8_element M a0 a1 = (0, M) from (by unfold sp_X8_element; exact ((if_pos c1).trans ((if_neg c2).trans (if_neg c3)))))) (pair_snd (show sp_X8_element M a0 a1 = (0, M) from (by unfold sp_X8_element; exact ((if_pos c1).trans ((if_neg c2).trans (if_neg c3))))))

def sp_X8_holds (M : MT) (a0 : Int32) : Int32 × MT :=
  if (sp_X8_isShelf a0) = true then
    if (sp_X4_isEmpty M (tn a0)) = true then
      ((-1), M)
    else
      if (M.2.1 9 (tn a0)) = 0 then
        (10 + (M.2.1 10 (tn a0)), M)
      else
        (M.2.1 11 (tn a0), M)
  else
    ((-1), M)
set_option maxRecDepth 20000 in
theorem c_X8_holds {K : KT} {M : MT} {a0 : Int32}  (hokx : OKX M) : CM K 3 yX8_holds cX8_holds 2 (some FieldType.int) [rf K 0, .int a0] M (some (.int (sp_X8_holds M a0).1)) (sp_X8_holds M a0).2 := by
  refine CM.ofI (by decide) [some (rf K 0), some (.int a0)] rfl (Nat.le_of_ble_eq_true rfl) (Nat.le_of_ble_eq_true rfl) (fun G hG _ hret => ?_)
  obtain ⟨hok0, hok1, hoa2, hoa3, hoa4, hsh, htp⟩ := id hokx
  obtain ⟨hwc0, hpc0, ⟨hcl0, hcm0⟩, hwi0, hda0, hle0, hk80, ha80, hW0, hP0⟩ := id hok0
  have hwl0 := bd_lt hwc0
  have hpl0 := bd_lt hpc0
  have hcl0l := bd_lt hcl0
  refine r_iload_n (pc := 0) hG dX8_holds_0 rfl ?_
  refine cs_X8_isShelf (pc := 1)  hG dX8_holds_1 tw_384 (c_X8_isShelf) (by decide) (Nat.le_of_ble_eq_true rfl) ?_
  refine r_ifz_eq (pc := 4) (tgt := 19) hG dX8_holds_4 (by decide) (fun c1 => ?_) (fun c1 => ?_)
  · refine r_iconst (pc := 19) hG dX8_holds_19 ic_m1 ?_
    exact hret _ _ _ _ dX8_holds_20 (pair_fst (show sp_X8_holds M a0 = ((-1), M) from (by unfold sp_X8_holds; exact (if_neg c1)))) (pair_snd (show sp_X8_holds M a0 = ((-1), M) from (by unfold sp_X8_holds; exact (if_neg c1))))
  · refine r_aload_n (pc := 7) hG dX8_holds_7 rfl ?_
    refine gf_X8_shelves (pc := 8)  hG dX8_holds_8 tw_360 ?_
    refine r_iload_n (pc := 11) hG dX8_holds_11 rfl ?_
    refine aa_Xsh (pc := 12)  hG dX8_holds_12 (ix_bd (isSh c1)) ?_
    refine cv_X4_isEmpty (pc := 13) (bd_lt (isSh c1)) hG dX8_holds_13 tw_434 (c_X4_isEmpty (bd_lt (isSh c1))) (by decide) (Nat.le_of_ble_eq_true rfl) ?_
    refine r_ifz_eq (pc := 16) (tgt := 21) hG dX8_holds_16 (by decide) (fun c2 => ?_) (fun c2 => ?_)
    · refine r_aload_n (pc := 21) hG dX8_holds_21 rfl ?_
      refine gf_X8_shelves (pc := 22)  hG dX8_holds_22 tw_360 ?_
      refine r_iload_n (pc := 25) hG dX8_holds_25 rfl ?_
      refine aa_Xsh (pc := 26)  hG dX8_holds_26 (ix_bd (isSh c1)) ?_
      refine gf_X4_hasRow (pc := 27) (bd_lt (isSh c1)) hG dX8_holds_27 tw_345 ?_
      refine r_if_eq (pc := 30) (tgt := 48) hG dX8_holds_30 (by decide) (fun c3 => ?_) (fun c3 => ?_)
      · refine r_bipush (pc := 48) hG dX8_holds_48 bc_10 ?_
        refine r_aload_n (pc := 50) hG dX8_holds_50 rfl ?_
        refine gf_X8_shelves (pc := 51)  hG dX8_holds_51 tw_360 ?_
        refine r_iload_n (pc := 54) hG dX8_holds_54 rfl ?_
        refine aa_Xsh (pc := 55)  hG dX8_holds_55 (ix_bd (isSh c1)) ?_
        refine gf_X4_person (pc := 56) (bd_lt (isSh c1)) hG dX8_holds_56 tw_347 ?_
        refine r_iadd (pc := 59) hG dX8_holds_59 ?_
        exact hret _ _ _ _ dX8_holds_60 (pair_fst (show sp_X8_holds M a0 = (10 + (M.2.1 10 (tn a0)), M) from (by unfold sp_X8_holds; exact ((if_pos c1).trans ((if_neg c2).trans (if_pos c3)))))) (pair_snd (show sp_X8_holds M a0 = (10 + (M.2.1 10 (tn a0)), M) from (by unfold sp_X8_holds; exact ((if_pos c1).trans ((if_neg c2).trans (if_pos c3))))))
      · refine r_aload_n (pc := 33) hG dX8_holds_33 rfl ?_
        refine gf_X8_shelves (pc := 34)  hG dX8_holds_34 tw_360 ?_
        refine r_iload_n (pc := 37) hG dX8_holds_37 rfl ?_
        refine aa_Xsh (pc := 38)  hG dX8_holds_38 (ix_bd (isSh c1)) ?_
        refine gf_X4_row (pc := 39) (bd_lt (isSh c1)) hG dX8_holds_39 tw_343 ?_
        refine gf_X3_sort (pc := 42) (bd_lt (isSh c1)) hG dX8_holds_42 tw_330 ?_
        refine r_goto (pc := 45) (tgt := 60) hG dX8_holds_45 (by decide) ?_
        exact hret _ _ _ _ dX8_holds_60 (pair_fst (show sp_X8_holds M a0 = (M.2.1 11 (tn a0), M) from (by unfold sp_X8_holds; exact ((if_pos c1).trans ((if_neg c2).trans (if_neg c3)))))) (pair_snd (show sp_X8_holds M a0 = (M.2.1 11 (tn a0), M) from (by unfold sp_X8_holds; exact ((if_pos c1).trans ((if_neg c2).trans (if_neg c3))))))
    · refine r_iconst (pc := 19) hG dX8_holds_19 ic_m1 ?_
      exact hret _ _ _ _ dX8_holds_20 (pair_fst (show sp_X8_holds M a0 = ((-1), M) from (by unfold sp_X8_holds; exact ((if_pos c1).trans (if_pos c2))))) (pair_snd (show sp_X8_holds M a0 = ((-1), M) from (by unfold sp_X8_holds; exact ((if_pos c1).trans (if_pos c2)))))

def sp_X8_show (M : MT) (a0 : Int32) (a1 : Int32) : Int32 × MT :=
  if (sp_X8_isShelf a0) = true then
    if a1 = (-1) then
      (1, sp_X4_takePerson M (tn a0) a1)
    else
      if (sp_X5_hasPerson M 0 a1) = true then
        (1, sp_X4_takePerson M (tn a0) a1)
      else
        ((sp_X8_refuse M (-2)).1, (sp_X8_refuse M (-2)).2)
  else
    ((sp_X8_refuse M (-2)).1, (sp_X8_refuse M (-2)).2)
set_option maxRecDepth 20000 in
theorem c_X8_show {K : KT} {M : MT} {a0 : Int32} {a1 : Int32}  (hokx : OKX M) : CM K 3 yX8_show cX8_show 3 (some FieldType.int) [rf K 0, .int a0, .int a1] M (some (.int (sp_X8_show M a0 a1).1)) (sp_X8_show M a0 a1).2 := by
  refine CM.ofI (by decide) [some (rf K 0), some (.int a0), some (.int a1)] rfl (Nat.le_of_ble_eq_true rfl) (Nat.le_of_ble_eq_true rfl) (fun G hG _ hret => ?_)
  obtain ⟨hok0, hok1, hoa2, hoa3, hoa4, hsh, htp⟩ := id hokx
  obtain ⟨hwc0, hpc0, ⟨hcl0, hcm0⟩, hwi0, hda0, hle0, hk80, ha80, hW0, hP0⟩ := id hok0
  have hwl0 := bd_lt hwc0
  have hpl0 := bd_lt hpc0
  have hcl0l := bd_lt hcl0
  refine r_iload_n (pc := 0) hG dX8_show_0 rfl ?_
  refine cs_X8_isShelf (pc := 1)  hG dX8_show_1 tw_384 (c_X8_isShelf) (by decide) (Nat.le_of_ble_eq_true rfl) ?_
  refine r_ifz_eq (pc := 4) (tgt := 23) hG dX8_show_4 (by decide) (fun c1 => ?_) (fun c1 => ?_)
  · refine r_aload_n (pc := 23) hG dX8_show_23 rfl ?_
    refine r_bipush (pc := 24) hG dX8_show_24 bc_m2 ?_
    refine cv_X8_refuse (pc := 26)  hG dX8_show_26 tw_390 (c_X8_refuse (bd_lit (n := 7) (by decide))) (by decide) (Nat.le_of_ble_eq_true rfl) ?_
    exact hret _ _ _ _ dX8_show_29 (pair_fst (show sp_X8_show M a0 a1 = ((sp_X8_refuse M (-2)).1, (sp_X8_refuse M (-2)).2) from (by unfold sp_X8_show; exact (if_neg c1)))) (pair_snd (show sp_X8_show M a0 a1 = ((sp_X8_refuse M (-2)).1, (sp_X8_refuse M (-2)).2) from (by unfold sp_X8_show; exact (if_neg c1))))
  · refine r_iload_n (pc := 7) hG dX8_show_7 rfl ?_
    refine r_iconst (pc := 8) hG dX8_show_8 ic_m1 ?_
    refine r_icmp_eq (pc := 9) (tgt := 30) hG dX8_show_9 (by decide) (fun c2 => ?_) (fun c2 => ?_)
    · refine r_aload_n (pc := 30) hG dX8_show_30 rfl ?_
      refine gf_X8_shelves (pc := 31)  hG dX8_show_31 tw_360 ?_
      refine r_iload_n (pc := 34) hG dX8_show_34 rfl ?_
      refine aa_Xsh (pc := 35)  hG dX8_show_35 (ix_bd (isSh c1)) ?_
      refine r_iload_n (pc := 36) hG dX8_show_36 rfl ?_
      refine cv_X4_takePerson (pc := 37) (bd_lt (isSh c1)) hG dX8_show_37 tw_447 (c_X4_takePerson (bd_lt (isSh c1))) (by decide) (Nat.le_of_ble_eq_true rfl) ?_
      refine r_iconst (pc := 40) hG dX8_show_40 ic_1 ?_
      exact hret _ _ _ _ dX8_show_41 (pair_fst (show sp_X8_show M a0 a1 = (1, sp_X4_takePerson M (tn a0) a1) from (by unfold sp_X8_show; exact ((if_pos c1).trans (if_pos c2))))) (pair_snd (show sp_X8_show M a0 a1 = (1, sp_X4_takePerson M (tn a0) a1) from (by unfold sp_X8_show; exact ((if_pos c1).trans (if_pos c2)))))
    · refine r_aload_n (pc := 12) hG dX8_show_12 rfl ?_
      refine gf_X8_live (pc := 13)  hG dX8_show_13 tw_355 ?_
      refine r_iload_n (pc := 16) hG dX8_show_16 rfl ?_
      refine cv_X5_hasPerson (pc := 17) (by omega) hG dX8_show_17 tw_442 (c_X5_hasPerson (by omega)) (by decide) (Nat.le_of_ble_eq_true rfl) ?_
      refine r_ifz_ne (pc := 20) (tgt := 30) hG dX8_show_20 (by decide) (fun c3 => ?_) (fun c3 => ?_)
      · refine r_aload_n (pc := 30) hG dX8_show_30 rfl ?_
        refine gf_X8_shelves (pc := 31)  hG dX8_show_31 tw_360 ?_
        refine r_iload_n (pc := 34) hG dX8_show_34 rfl ?_
        refine aa_Xsh (pc := 35)  hG dX8_show_35 (ix_bd (isSh c1)) ?_
        refine r_iload_n (pc := 36) hG dX8_show_36 rfl ?_
        refine cv_X4_takePerson (pc := 37) (bd_lt (isSh c1)) hG dX8_show_37 tw_447 (c_X4_takePerson (bd_lt (isSh c1))) (by decide) (Nat.le_of_ble_eq_true rfl) ?_
        refine r_iconst (pc := 40) hG dX8_show_40 ic_1 ?_
        exact hret _ _ _ _ dX8_show_41 (pair_fst (show sp_X8_show M a0 a1 = (1, sp_X4_takePerson M (tn a0) a1) from (by unfold sp_X8_show; exact ((if_pos c1).trans ((if_neg c2).trans (if_pos c3)))))) (pair_snd (show sp_X8_show M a0 a1 = (1, sp_X4_takePerson M (tn a0) a1) from (by unfold sp_X8_show; exact ((if_pos c1).trans ((if_neg c2).trans (if_pos c3))))))
      · refine r_aload_n (pc := 23) hG dX8_show_23 rfl ?_
        refine r_bipush (pc := 24) hG dX8_show_24 bc_m2 ?_
        refine cv_X8_refuse (pc := 26)  hG dX8_show_26 tw_390 (c_X8_refuse (bd_lit (n := 7) (by decide))) (by decide) (Nat.le_of_ble_eq_true rfl) ?_
        exact hret _ _ _ _ dX8_show_29 (pair_fst (show sp_X8_show M a0 a1 = ((sp_X8_refuse M (-2)).1, (sp_X8_refuse M (-2)).2) from (by unfold sp_X8_show; exact ((if_pos c1).trans ((if_neg c2).trans (if_neg c3)))))) (pair_snd (show sp_X8_show M a0 a1 = ((sp_X8_refuse M (-2)).1, (sp_X8_refuse M (-2)).2) from (by unfold sp_X8_show; exact ((if_pos c1).trans ((if_neg c2).trans (if_neg c3))))))

def sp_X8_says (M : MT) (a0 : Int32) (a1 : Int32) : Int32 × MT :=
  if (sp_X8_isShelf a0) = true then
    if (sp_X8_isKind a1) = true then
      if (M.2.1 9 (tn a0)) = 0 then
        if (sp_X5_hasPerson M 0 (M.2.1 10 (tn a0))) = true then
          if (sp_X2_isOf M 0 (tn (M.2.1 10 (tn a0))) a1) = true then
            if a1 = 0 then
              (M.1 0 10 (tn (M.2.1 10 (tn a0))), M)
            else
              (sp_X8_slowness (M.1 0 9 (tn (M.2.1 10 (tn a0)))) (M.1 0 10 (tn (M.2.1 10 (tn a0)))) 5, M)
          else
            ((sp_X8_refuse M (-3)).1, (sp_X8_refuse M (-3)).2)
        else
          ((sp_X8_refuse M (-4)).1, (sp_X8_refuse M (-4)).2)
      else
        ((sp_X8_refuse M (-3)).1, (sp_X8_refuse M (-3)).2)
    else
      ((sp_X8_refuse M (-2)).1, (sp_X8_refuse M (-2)).2)
  else
    ((sp_X8_refuse M (-2)).1, (sp_X8_refuse M (-2)).2)
set_option maxRecDepth 20000 in
theorem c_X8_says {K : KT} {M : MT} {a0 : Int32} {a1 : Int32}  (hokx : OKX M) : CM K 3 yX8_says cX8_says 5 (some FieldType.int) [rf K 0, .int a0, .int a1] M (some (.int (sp_X8_says M a0 a1).1)) (sp_X8_says M a0 a1).2 := by
  refine CM.ofI (by decide) [some (rf K 0), some (.int a0), some (.int a1), none, none] rfl (Nat.le_of_ble_eq_true rfl) (Nat.le_of_ble_eq_true rfl) (fun G hG _ hret => ?_)
  obtain ⟨hok0, hok1, hoa2, hoa3, hoa4, hsh, htp⟩ := id hokx
  obtain ⟨hwc0, hpc0, ⟨hcl0, hcm0⟩, hwi0, hda0, hle0, hk80, ha80, hW0, hP0⟩ := id hok0
  have hwl0 := bd_lt hwc0
  have hpl0 := bd_lt hpc0
  have hcl0l := bd_lt hcl0
  refine r_iload_n (pc := 0) hG dX8_says_0 rfl ?_
  refine cs_X8_isShelf (pc := 1)  hG dX8_says_1 tw_384 (c_X8_isShelf) (by decide) (Nat.le_of_ble_eq_true rfl) ?_
  refine r_ifz_eq (pc := 4) (tgt := 14) hG dX8_says_4 (by decide) (fun c1 => ?_) (fun c1 => ?_)
  · refine r_aload_n (pc := 14) hG dX8_says_14 rfl ?_
    refine r_bipush (pc := 15) hG dX8_says_15 bc_m2 ?_
    refine cv_X8_refuse (pc := 17)  hG dX8_says_17 tw_390 (c_X8_refuse (bd_lit (n := 7) (by decide))) (by decide) (Nat.le_of_ble_eq_true rfl) ?_
    exact hret _ _ _ _ dX8_says_20 (pair_fst (show sp_X8_says M a0 a1 = ((sp_X8_refuse M (-2)).1, (sp_X8_refuse M (-2)).2) from (by unfold sp_X8_says; exact (if_neg c1)))) (pair_snd (show sp_X8_says M a0 a1 = ((sp_X8_refuse M (-2)).1, (sp_X8_refuse M (-2)).2) from (by unfold sp_X8_says; exact (if_neg c1))))
  · refine r_iload_n (pc := 7) hG dX8_says_7 rfl ?_
    refine cs_X8_isKind (pc := 8)  hG dX8_says_8 tw_455 (c_X8_isKind) (by decide) (Nat.le_of_ble_eq_true rfl) ?_
    refine r_ifz_ne (pc := 11) (tgt := 21) hG dX8_says_11 (by decide) (fun c2 => ?_) (fun c2 => ?_)
    · refine r_aload_n (pc := 21) hG dX8_says_21 rfl ?_
      refine gf_X8_shelves (pc := 22)  hG dX8_says_22 tw_360 ?_
      refine r_iload_n (pc := 25) hG dX8_says_25 rfl ?_
      refine aa_Xsh (pc := 26)  hG dX8_says_26 (ix_bd (isSh c1)) ?_
      refine r_astore_n (pc := 27) (ls' := [_, _, _, _, _]) hG dX8_says_27 rfl rfl ?_
      refine r_aload_n (pc := 28) hG dX8_says_28 rfl ?_
      refine gf_X4_hasRow (pc := 29) (bd_lt (isSh c1)) hG dX8_says_29 tw_345 ?_
      refine r_if_eq (pc := 32) (tgt := 42) hG dX8_says_32 (by decide) (fun c3 => ?_) (fun c3 => ?_)
      · refine r_aload_n (pc := 42) hG dX8_says_42 rfl ?_
        refine gf_X8_live (pc := 43)  hG dX8_says_43 tw_355 ?_
        refine r_aload_n (pc := 46) hG dX8_says_46 rfl ?_
        refine gf_X4_person (pc := 47) (bd_lt (isSh c1)) hG dX8_says_47 tw_347 ?_
        refine cv_X5_hasPerson (pc := 50) (by omega) hG dX8_says_50 tw_442 (c_X5_hasPerson (by omega)) (by decide) (Nat.le_of_ble_eq_true rfl) ?_
        refine r_ifz_ne (pc := 53) (tgt := 63) hG dX8_says_53 (by decide) (fun c4 => ?_) (fun c4 => ?_)
        · refine r_aload_n (pc := 63) hG dX8_says_63 rfl ?_
          refine gf_X8_live (pc := 64)  hG dX8_says_64 tw_355 ?_
          refine gf_X5_people (pc := 67) (by omega) hG dX8_says_67 tw_167 ?_
          refine r_aload_n (pc := 70) hG dX8_says_70 rfl ?_
          refine gf_X4_person (pc := 71) (bd_lt (isSh c1)) hG dX8_says_71 tw_347 ?_
          refine aa_PA (pc := 74) (by omega) hG dX8_says_74 (ix_bd (hasP hpc0 c4)) ?_
          refine r_astore (pc := 75) (ls' := [_, _, _, _, _]) hG dX8_says_75 rfl rfl ?_
          refine r_aload (pc := 77) hG dX8_says_77 rfl ?_
          refine r_iload_n (pc := 79) hG dX8_says_79 rfl ?_
          refine cv_X2_isOf (pc := 80) (by omega) (bd_lt (hasP hpc0 c4)) hG dX8_says_80 tw_458 (c_X2_isOf (by omega) (bd_lt (hasP hpc0 c4)) (hk80 _ (bd_lt (hasP hpc0 c4)))) (by decide) (Nat.le_of_ble_eq_true rfl) ?_
          refine r_ifz_ne (pc := 83) (tgt := 93) hG dX8_says_83 (by decide) (fun c5 => ?_) (fun c5 => ?_)
          · refine r_iload_n (pc := 93) hG dX8_says_93 rfl ?_
            refine r_if_ne (pc := 94) (tgt := 105) hG dX8_says_94 (by decide) (fun c6 => ?_) (fun c6 => ?_)
            · refine r_aload (pc := 105) hG dX8_says_105 rfl ?_
              refine gf_X2_kind (pc := 107) (by omega) (bd_lt (hasP hpc0 c4)) hG dX8_says_107 tw_135 ?_
              refine r_aload (pc := 110) hG dX8_says_110 rfl ?_
              refine gf_X2_a (pc := 112) (by omega) (bd_lt (hasP hpc0 c4)) hG dX8_says_112 tw_138 ?_
              refine r_iconst (pc := 115) hG dX8_says_115 ic_5 ?_
              refine cs_X8_slowness (pc := 116)  hG dX8_says_116 tw_464 (c_X8_slowness) (by decide) (Nat.le_of_ble_eq_true rfl) ?_
              exact hret _ _ _ _ dX8_says_119 (pair_fst (show sp_X8_says M a0 a1 = (sp_X8_slowness (M.1 0 9 (tn (M.2.1 10 (tn a0)))) (M.1 0 10 (tn (M.2.1 10 (tn a0)))) 5, M) from (by unfold sp_X8_says; exact ((if_pos c1).trans ((if_pos c2).trans ((if_pos c3).trans ((if_pos c4).trans ((if_pos c5).trans (if_neg c6))))))))) (pair_snd (show sp_X8_says M a0 a1 = (sp_X8_slowness (M.1 0 9 (tn (M.2.1 10 (tn a0)))) (M.1 0 10 (tn (M.2.1 10 (tn a0)))) 5, M) from (by unfold sp_X8_says; exact ((if_pos c1).trans ((if_pos c2).trans ((if_pos c3).trans ((if_pos c4).trans ((if_pos c5).trans (if_neg c6)))))))))
            · refine r_aload (pc := 97) hG dX8_says_97 rfl ?_
              refine gf_X2_a (pc := 99) (by omega) (bd_lt (hasP hpc0 c4)) hG dX8_says_99 tw_138 ?_
              refine r_goto (pc := 102) (tgt := 119) hG dX8_says_102 (by decide) ?_
              exact hret _ _ _ _ dX8_says_119 (pair_fst (show sp_X8_says M a0 a1 = (M.1 0 10 (tn (M.2.1 10 (tn a0))), M) from (by unfold sp_X8_says; exact ((if_pos c1).trans ((if_pos c2).trans ((if_pos c3).trans ((if_pos c4).trans ((if_pos c5).trans (if_pos c6))))))))) (pair_snd (show sp_X8_says M a0 a1 = (M.1 0 10 (tn (M.2.1 10 (tn a0))), M) from (by unfold sp_X8_says; exact ((if_pos c1).trans ((if_pos c2).trans ((if_pos c3).trans ((if_pos c4).trans ((if_pos c5).trans (if_pos c6)))))))))
          · refine r_aload_n (pc := 86) hG dX8_says_86 rfl ?_
            refine r_bipush (pc := 87) hG dX8_says_87 bc_m3 ?_
            refine cv_X8_refuse (pc := 89)  hG dX8_says_89 tw_390 (c_X8_refuse (bd_lit (n := 7) (by decide))) (by decide) (Nat.le_of_ble_eq_true rfl) ?_
            exact hret _ _ _ _ dX8_says_92 (pair_fst (show sp_X8_says M a0 a1 = ((sp_X8_refuse M (-3)).1, (sp_X8_refuse M (-3)).2) from (by unfold sp_X8_says; exact ((if_pos c1).trans ((if_pos c2).trans ((if_pos c3).trans ((if_pos c4).trans (if_neg c5)))))))) (pair_snd (show sp_X8_says M a0 a1 = ((sp_X8_refuse M (-3)).1, (sp_X8_refuse M (-3)).2) from (by unfold sp_X8_says; exact ((if_pos c1).trans ((if_pos c2).trans ((if_pos c3).trans ((if_pos c4).trans (if_neg c5))))))))
        · refine r_aload_n (pc := 56) hG dX8_says_56 rfl ?_
          refine r_bipush (pc := 57) hG dX8_says_57 bc_m4 ?_
          refine cv_X8_refuse (pc := 59)  hG dX8_says_59 tw_390 (c_X8_refuse (bd_lit (n := 7) (by decide))) (by decide) (Nat.le_of_ble_eq_true rfl) ?_
          exact hret _ _ _ _ dX8_says_62 (pair_fst (show sp_X8_says M a0 a1 = ((sp_X8_refuse M (-4)).1, (sp_X8_refuse M (-4)).2) from (by unfold sp_X8_says; exact ((if_pos c1).trans ((if_pos c2).trans ((if_pos c3).trans (if_neg c4))))))) (pair_snd (show sp_X8_says M a0 a1 = ((sp_X8_refuse M (-4)).1, (sp_X8_refuse M (-4)).2) from (by unfold sp_X8_says; exact ((if_pos c1).trans ((if_pos c2).trans ((if_pos c3).trans (if_neg c4)))))))
      · refine r_aload_n (pc := 35) hG dX8_says_35 rfl ?_
        refine r_bipush (pc := 36) hG dX8_says_36 bc_m3 ?_
        refine cv_X8_refuse (pc := 38)  hG dX8_says_38 tw_390 (c_X8_refuse (bd_lit (n := 7) (by decide))) (by decide) (Nat.le_of_ble_eq_true rfl) ?_
        exact hret _ _ _ _ dX8_says_41 (pair_fst (show sp_X8_says M a0 a1 = ((sp_X8_refuse M (-3)).1, (sp_X8_refuse M (-3)).2) from (by unfold sp_X8_says; exact ((if_pos c1).trans ((if_pos c2).trans (if_neg c3)))))) (pair_snd (show sp_X8_says M a0 a1 = ((sp_X8_refuse M (-3)).1, (sp_X8_refuse M (-3)).2) from (by unfold sp_X8_says; exact ((if_pos c1).trans ((if_pos c2).trans (if_neg c3))))))
    · refine r_aload_n (pc := 14) hG dX8_says_14 rfl ?_
      refine r_bipush (pc := 15) hG dX8_says_15 bc_m2 ?_
      refine cv_X8_refuse (pc := 17)  hG dX8_says_17 tw_390 (c_X8_refuse (bd_lit (n := 7) (by decide))) (by decide) (Nat.le_of_ble_eq_true rfl) ?_
      exact hret _ _ _ _ dX8_says_20 (pair_fst (show sp_X8_says M a0 a1 = ((sp_X8_refuse M (-2)).1, (sp_X8_refuse M (-2)).2) from (by unfold sp_X8_says; exact ((if_pos c1).trans (if_neg c2))))) (pair_snd (show sp_X8_says M a0 a1 = ((sp_X8_refuse M (-2)).1, (sp_X8_refuse M (-2)).2) from (by unfold sp_X8_says; exact ((if_pos c1).trans (if_neg c2)))))

def sp_X8_paves (M : MT) (a0 : Int32) : Int32 × MT :=
  if (sp_X8_within a0 (M.1 0 2 0) 30) = true then
    (M.1 0 2 0, u1 M 0 2 0 a0)
  else
    ((sp_X8_refuse M (-2)).1, (sp_X8_refuse M (-2)).2)
set_option maxRecDepth 20000 in
theorem c_X8_paves {K : KT} {M : MT} {a0 : Int32}  (hokx : OKX M) : CM K 2 yX8_paves cX8_paves 3 (some FieldType.int) [rf K 0, .int a0] M (some (.int (sp_X8_paves M a0).1)) (sp_X8_paves M a0).2 := by
  refine CM.ofI (by decide) [some (rf K 0), some (.int a0), none] rfl (Nat.le_of_ble_eq_true rfl) (Nat.le_of_ble_eq_true rfl) (fun G hG _ hret => ?_)
  obtain ⟨hok0, hok1, hoa2, hoa3, hoa4, hsh, htp⟩ := id hokx
  obtain ⟨hwc0, hpc0, ⟨hcl0, hcm0⟩, hwi0, hda0, hle0, hk80, ha80, hW0, hP0⟩ := id hok0
  have hwl0 := bd_lt hwc0
  have hpl0 := bd_lt hpc0
  have hcl0l := bd_lt hcl0
  refine r_iload_n (pc := 0) hG dX8_paves_0 rfl ?_
  refine r_aload_n (pc := 1) hG dX8_paves_1 rfl ?_
  refine gf_X8_live (pc := 2)  hG dX8_paves_2 tw_355 ?_
  refine gf_X5_cells (pc := 5) (by omega) hG dX8_paves_5 tw_179 ?_
  refine r_bipush (pc := 8) hG dX8_paves_8 bc_30 ?_
  refine cs_X8_within (pc := 10)  hG dX8_paves_10 tw_387 (c_X8_within) (by decide) (Nat.le_of_ble_eq_true rfl) ?_
  refine r_ifz_ne (pc := 13) (tgt := 23) hG dX8_paves_13 (by decide) (fun c1 => ?_) (fun c1 => ?_)
  · refine r_aload_n (pc := 23) hG dX8_paves_23 rfl ?_
    refine gf_X8_live (pc := 24)  hG dX8_paves_24 tw_355 ?_
    refine gf_X5_cells (pc := 27) (by omega) hG dX8_paves_27 tw_179 ?_
    refine r_istore_n (pc := 30) (ls' := [_, _, _]) hG dX8_paves_30 rfl rfl ?_
    refine r_aload_n (pc := 31) hG dX8_paves_31 rfl ?_
    refine gf_X8_live (pc := 32)  hG dX8_paves_32 tw_355 ?_
    refine r_iload_n (pc := 35) hG dX8_paves_35 rfl ?_
    refine pf_X5_cells (pc := 36) (by omega) hG dX8_paves_36 tw_179 ?_
    refine r_iload_n (pc := 39) hG dX8_paves_39 rfl ?_
    exact hret _ _ _ _ dX8_paves_40 (pair_fst (show sp_X8_paves M a0 = (M.1 0 2 0, u1 M 0 2 0 a0) from (by unfold sp_X8_paves; exact (if_pos c1)))) (pair_snd (show sp_X8_paves M a0 = (M.1 0 2 0, u1 M 0 2 0 a0) from (by unfold sp_X8_paves; exact (if_pos c1))))
  · refine r_aload_n (pc := 16) hG dX8_paves_16 rfl ?_
    refine r_bipush (pc := 17) hG dX8_paves_17 bc_m2 ?_
    refine cv_X8_refuse (pc := 19)  hG dX8_paves_19 tw_390 (c_X8_refuse (bd_lit (n := 7) (by decide))) (by decide) (Nat.le_of_ble_eq_true rfl) ?_
    exact hret _ _ _ _ dX8_paves_22 (pair_fst (show sp_X8_paves M a0 = ((sp_X8_refuse M (-2)).1, (sp_X8_refuse M (-2)).2) from (by unfold sp_X8_paves; exact (if_neg c1)))) (pair_snd (show sp_X8_paves M a0 = ((sp_X8_refuse M (-2)).1, (sp_X8_refuse M (-2)).2) from (by unfold sp_X8_paves; exact (if_neg c1))))

def sp_X8_window (M : MT) (a0 : Int32) (a1 : Int32) (a2 : Int32) : Int32 × MT :=
  if (sp_X5_hasCell M 0 a0) = true then
    if (sp_X8_within a1 1 5) = true then
      if (sp_X8_isThorns a2) = true then
        if (sp_X5_hasRoomForWindow M 0) = true then
          ((sp_X5_addWindow M 0 a0 a1 a2).1, (sp_X5_addWindow M 0 a0 a1 a2).2)
        else
          ((sp_X8_refuse M (-6)).1, (sp_X8_refuse M (-6)).2)
      else
        ((sp_X8_refuse M (-2)).1, (sp_X8_refuse M (-2)).2)
    else
      ((sp_X8_refuse M (-2)).1, (sp_X8_refuse M (-2)).2)
  else
    ((sp_X8_refuse M (-2)).1, (sp_X8_refuse M (-2)).2)
set_option maxRecDepth 20000 in
theorem c_X8_window {K : KT} {M : MT} {a0 : Int32} {a1 : Int32} {a2 : Int32}  (hokx : OKX M) : CM K 3 yX8_window cX8_window 4 (some FieldType.int) [rf K 0, .int a0, .int a1, .int a2] M (some (.int (sp_X8_window M a0 a1 a2).1)) (sp_X8_window M a0 a1 a2).2 := by
  refine CM.ofI (by decide) [some (rf K 0), some (.int a0), some (.int a1), some (.int a2)] rfl (Nat.le_of_ble_eq_true rfl) (Nat.le_of_ble_eq_true rfl) (fun G hG _ hret => ?_)
  obtain ⟨hok0, hok1, hoa2, hoa3, hoa4, hsh, htp⟩ := id hokx
  obtain ⟨hwc0, hpc0, ⟨hcl0, hcm0⟩, hwi0, hda0, hle0, hk80, ha80, hW0, hP0⟩ := id hok0
  have hwl0 := bd_lt hwc0
  have hpl0 := bd_lt hpc0
  have hcl0l := bd_lt hcl0
  refine r_aload_n (pc := 0) hG dX8_window_0 rfl ?_
  refine gf_X8_live (pc := 1)  hG dX8_window_1 tw_355 ?_
  refine r_iload_n (pc := 4) hG dX8_window_4 rfl ?_
  refine cv_X5_hasCell (pc := 5) (by omega) hG dX8_window_5 tw_475 (c_X5_hasCell (by omega)) (by decide) (Nat.le_of_ble_eq_true rfl) ?_
  refine r_ifz_eq (pc := 8) (tgt := 27) hG dX8_window_8 (by decide) (fun c1 => ?_) (fun c1 => ?_)
  · refine r_aload_n (pc := 27) hG dX8_window_27 rfl ?_
    refine r_bipush (pc := 28) hG dX8_window_28 bc_m2 ?_
    refine cv_X8_refuse (pc := 30)  hG dX8_window_30 tw_390 (c_X8_refuse (bd_lit (n := 7) (by decide))) (by decide) (Nat.le_of_ble_eq_true rfl) ?_
    exact hret _ _ _ _ dX8_window_33 (pair_fst (show sp_X8_window M a0 a1 a2 = ((sp_X8_refuse M (-2)).1, (sp_X8_refuse M (-2)).2) from (by unfold sp_X8_window; exact (if_neg c1)))) (pair_snd (show sp_X8_window M a0 a1 a2 = ((sp_X8_refuse M (-2)).1, (sp_X8_refuse M (-2)).2) from (by unfold sp_X8_window; exact (if_neg c1))))
  · refine r_iload_n (pc := 11) hG dX8_window_11 rfl ?_
    refine r_iconst (pc := 12) hG dX8_window_12 ic_1 ?_
    refine r_iconst (pc := 13) hG dX8_window_13 ic_5 ?_
    refine cs_X8_within (pc := 14)  hG dX8_window_14 tw_387 (c_X8_within) (by decide) (Nat.le_of_ble_eq_true rfl) ?_
    refine r_ifz_eq (pc := 17) (tgt := 27) hG dX8_window_17 (by decide) (fun c2 => ?_) (fun c2 => ?_)
    · refine r_aload_n (pc := 27) hG dX8_window_27 rfl ?_
      refine r_bipush (pc := 28) hG dX8_window_28 bc_m2 ?_
      refine cv_X8_refuse (pc := 30)  hG dX8_window_30 tw_390 (c_X8_refuse (bd_lit (n := 7) (by decide))) (by decide) (Nat.le_of_ble_eq_true rfl) ?_
      exact hret _ _ _ _ dX8_window_33 (pair_fst (show sp_X8_window M a0 a1 a2 = ((sp_X8_refuse M (-2)).1, (sp_X8_refuse M (-2)).2) from (by unfold sp_X8_window; exact ((if_pos c1).trans (if_neg c2))))) (pair_snd (show sp_X8_window M a0 a1 a2 = ((sp_X8_refuse M (-2)).1, (sp_X8_refuse M (-2)).2) from (by unfold sp_X8_window; exact ((if_pos c1).trans (if_neg c2)))))
    · refine r_iload_n (pc := 20) hG dX8_window_20 rfl ?_
      refine cs_X8_isThorns (pc := 21)  hG dX8_window_21 tw_479 (c_X8_isThorns) (by decide) (Nat.le_of_ble_eq_true rfl) ?_
      refine r_ifz_ne (pc := 24) (tgt := 34) hG dX8_window_24 (by decide) (fun c3 => ?_) (fun c3 => ?_)
      · refine r_aload_n (pc := 34) hG dX8_window_34 rfl ?_
        refine gf_X8_live (pc := 35)  hG dX8_window_35 tw_355 ?_
        refine cv_X5_hasRoomForWindow (pc := 38) (by omega) hG dX8_window_38 tw_482 (c_X5_hasRoomForWindow (by omega)) (by decide) (Nat.le_of_ble_eq_true rfl) ?_
        refine r_ifz_ne (pc := 41) (tgt := 51) hG dX8_window_41 (by decide) (fun c4 => ?_) (fun c4 => ?_)
        · refine r_aload_n (pc := 51) hG dX8_window_51 rfl ?_
          refine gf_X8_live (pc := 52)  hG dX8_window_52 tw_355 ?_
          refine r_iload_n (pc := 55) hG dX8_window_55 rfl ?_
          refine r_iload_n (pc := 56) hG dX8_window_56 rfl ?_
          refine r_iload_n (pc := 57) hG dX8_window_57 rfl ?_
          refine cv_X5_addWindow (pc := 58) (by omega) hG dX8_window_58 tw_486 (c_X5_addWindow (by omega) (roomW hwc0 c4)) (by decide) (Nat.le_of_ble_eq_true rfl) ?_
          exact hret _ _ _ _ dX8_window_61 (pair_fst (show sp_X8_window M a0 a1 a2 = ((sp_X5_addWindow M 0 a0 a1 a2).1, (sp_X5_addWindow M 0 a0 a1 a2).2) from (by unfold sp_X8_window; exact ((if_pos c1).trans ((if_pos c2).trans ((if_pos c3).trans (if_pos c4))))))) (pair_snd (show sp_X8_window M a0 a1 a2 = ((sp_X5_addWindow M 0 a0 a1 a2).1, (sp_X5_addWindow M 0 a0 a1 a2).2) from (by unfold sp_X8_window; exact ((if_pos c1).trans ((if_pos c2).trans ((if_pos c3).trans (if_pos c4)))))))
        · refine r_aload_n (pc := 44) hG dX8_window_44 rfl ?_
          refine r_bipush (pc := 45) hG dX8_window_45 bc_m6 ?_
          refine cv_X8_refuse (pc := 47)  hG dX8_window_47 tw_390 (c_X8_refuse (bd_lit (n := 7) (by decide))) (by decide) (Nat.le_of_ble_eq_true rfl) ?_
          exact hret _ _ _ _ dX8_window_50 (pair_fst (show sp_X8_window M a0 a1 a2 = ((sp_X8_refuse M (-6)).1, (sp_X8_refuse M (-6)).2) from (by unfold sp_X8_window; exact ((if_pos c1).trans ((if_pos c2).trans ((if_pos c3).trans (if_neg c4))))))) (pair_snd (show sp_X8_window M a0 a1 a2 = ((sp_X8_refuse M (-6)).1, (sp_X8_refuse M (-6)).2) from (by unfold sp_X8_window; exact ((if_pos c1).trans ((if_pos c2).trans ((if_pos c3).trans (if_neg c4)))))))
      · refine r_aload_n (pc := 27) hG dX8_window_27 rfl ?_
        refine r_bipush (pc := 28) hG dX8_window_28 bc_m2 ?_
        refine cv_X8_refuse (pc := 30)  hG dX8_window_30 tw_390 (c_X8_refuse (bd_lit (n := 7) (by decide))) (by decide) (Nat.le_of_ble_eq_true rfl) ?_
        exact hret _ _ _ _ dX8_window_33 (pair_fst (show sp_X8_window M a0 a1 a2 = ((sp_X8_refuse M (-2)).1, (sp_X8_refuse M (-2)).2) from (by unfold sp_X8_window; exact ((if_pos c1).trans ((if_pos c2).trans (if_neg c3)))))) (pair_snd (show sp_X8_window M a0 a1 a2 = ((sp_X8_refuse M (-2)).1, (sp_X8_refuse M (-2)).2) from (by unfold sp_X8_window; exact ((if_pos c1).trans ((if_pos c2).trans (if_neg c3))))))

def sp_X8_person (M : MT) (a0 : Int32) (a1 : Int32) (a2 : Int32) : Int32 × MT :=
  if (sp_X8_isKind a0) = true then
    if (sp_X8_within a1 0 9) = true then
      if (sp_X5_hasCell M 0 a2) = true then
        if (sp_X5_hasRoomForPerson M 0) = true then
          ((sp_X5_addPerson M 0 a0 a1 a2).1, (sp_X5_addPerson M 0 a0 a1 a2).2)
        else
          ((sp_X8_refuse M (-6)).1, (sp_X8_refuse M (-6)).2)
      else
        ((sp_X8_refuse M (-2)).1, (sp_X8_refuse M (-2)).2)
    else
      ((sp_X8_refuse M (-2)).1, (sp_X8_refuse M (-2)).2)
  else
    ((sp_X8_refuse M (-2)).1, (sp_X8_refuse M (-2)).2)
set_option maxRecDepth 20000 in
theorem c_X8_person {K : KT} {M : MT} {a0 : Int32} {a1 : Int32} {a2 : Int32}  (hokx : OKX M) : CM K 3 yX8_person cX8_person 4 (some FieldType.int) [rf K 0, .int a0, .int a1, .int a2] M (some (.int (sp_X8_person M a0 a1 a2).1)) (sp_X8_person M a0 a1 a2).2 := by
  refine CM.ofI (by decide) [some (rf K 0), some (.int a0), some (.int a1), some (.int a2)] rfl (Nat.le_of_ble_eq_true rfl) (Nat.le_of_ble_eq_true rfl) (fun G hG _ hret => ?_)
  obtain ⟨hok0, hok1, hoa2, hoa3, hoa4, hsh, htp⟩ := id hokx
  obtain ⟨hwc0, hpc0, ⟨hcl0, hcm0⟩, hwi0, hda0, hle0, hk80, ha80, hW0, hP0⟩ := id hok0
  have hwl0 := bd_lt hwc0
  have hpl0 := bd_lt hpc0
  have hcl0l := bd_lt hcl0
  refine r_iload_n (pc := 0) hG dX8_person_0 rfl ?_
  refine cs_X8_isKind (pc := 1)  hG dX8_person_1 tw_455 (c_X8_isKind) (by decide) (Nat.le_of_ble_eq_true rfl) ?_
  refine r_ifz_eq (pc := 4) (tgt := 28) hG dX8_person_4 (by decide) (fun c1 => ?_) (fun c1 => ?_)
  · refine r_aload_n (pc := 28) hG dX8_person_28 rfl ?_
    refine r_bipush (pc := 29) hG dX8_person_29 bc_m2 ?_
    refine cv_X8_refuse (pc := 31)  hG dX8_person_31 tw_390 (c_X8_refuse (bd_lit (n := 7) (by decide))) (by decide) (Nat.le_of_ble_eq_true rfl) ?_
    exact hret _ _ _ _ dX8_person_34 (pair_fst (show sp_X8_person M a0 a1 a2 = ((sp_X8_refuse M (-2)).1, (sp_X8_refuse M (-2)).2) from (by unfold sp_X8_person; exact (if_neg c1)))) (pair_snd (show sp_X8_person M a0 a1 a2 = ((sp_X8_refuse M (-2)).1, (sp_X8_refuse M (-2)).2) from (by unfold sp_X8_person; exact (if_neg c1))))
  · refine r_iload_n (pc := 7) hG dX8_person_7 rfl ?_
    refine r_iconst (pc := 8) hG dX8_person_8 ic_0 ?_
    refine r_bipush (pc := 9) hG dX8_person_9 bc_9 ?_
    refine cs_X8_within (pc := 11)  hG dX8_person_11 tw_387 (c_X8_within) (by decide) (Nat.le_of_ble_eq_true rfl) ?_
    refine r_ifz_eq (pc := 14) (tgt := 28) hG dX8_person_14 (by decide) (fun c2 => ?_) (fun c2 => ?_)
    · refine r_aload_n (pc := 28) hG dX8_person_28 rfl ?_
      refine r_bipush (pc := 29) hG dX8_person_29 bc_m2 ?_
      refine cv_X8_refuse (pc := 31)  hG dX8_person_31 tw_390 (c_X8_refuse (bd_lit (n := 7) (by decide))) (by decide) (Nat.le_of_ble_eq_true rfl) ?_
      exact hret _ _ _ _ dX8_person_34 (pair_fst (show sp_X8_person M a0 a1 a2 = ((sp_X8_refuse M (-2)).1, (sp_X8_refuse M (-2)).2) from (by unfold sp_X8_person; exact ((if_pos c1).trans (if_neg c2))))) (pair_snd (show sp_X8_person M a0 a1 a2 = ((sp_X8_refuse M (-2)).1, (sp_X8_refuse M (-2)).2) from (by unfold sp_X8_person; exact ((if_pos c1).trans (if_neg c2)))))
    · refine r_aload_n (pc := 17) hG dX8_person_17 rfl ?_
      refine gf_X8_live (pc := 18)  hG dX8_person_18 tw_355 ?_
      refine r_iload_n (pc := 21) hG dX8_person_21 rfl ?_
      refine cv_X5_hasCell (pc := 22) (by omega) hG dX8_person_22 tw_475 (c_X5_hasCell (by omega)) (by decide) (Nat.le_of_ble_eq_true rfl) ?_
      refine r_ifz_ne (pc := 25) (tgt := 35) hG dX8_person_25 (by decide) (fun c3 => ?_) (fun c3 => ?_)
      · refine r_aload_n (pc := 35) hG dX8_person_35 rfl ?_
        refine gf_X8_live (pc := 36)  hG dX8_person_36 tw_355 ?_
        refine cv_X5_hasRoomForPerson (pc := 39) (by omega) hG dX8_person_39 tw_494 (c_X5_hasRoomForPerson (by omega)) (by decide) (Nat.le_of_ble_eq_true rfl) ?_
        refine r_ifz_ne (pc := 42) (tgt := 52) hG dX8_person_42 (by decide) (fun c4 => ?_) (fun c4 => ?_)
        · refine r_aload_n (pc := 52) hG dX8_person_52 rfl ?_
          refine gf_X8_live (pc := 53)  hG dX8_person_53 tw_355 ?_
          refine r_iload_n (pc := 56) hG dX8_person_56 rfl ?_
          refine r_iload_n (pc := 57) hG dX8_person_57 rfl ?_
          refine r_iload_n (pc := 58) hG dX8_person_58 rfl ?_
          refine cv_X5_addPerson (pc := 59) (by omega) hG dX8_person_59 tw_498 (c_X5_addPerson (by omega) (roomP hpc0 c4)) (by decide) (Nat.le_of_ble_eq_true rfl) ?_
          exact hret _ _ _ _ dX8_person_62 (pair_fst (show sp_X8_person M a0 a1 a2 = ((sp_X5_addPerson M 0 a0 a1 a2).1, (sp_X5_addPerson M 0 a0 a1 a2).2) from (by unfold sp_X8_person; exact ((if_pos c1).trans ((if_pos c2).trans ((if_pos c3).trans (if_pos c4))))))) (pair_snd (show sp_X8_person M a0 a1 a2 = ((sp_X5_addPerson M 0 a0 a1 a2).1, (sp_X5_addPerson M 0 a0 a1 a2).2) from (by unfold sp_X8_person; exact ((if_pos c1).trans ((if_pos c2).trans ((if_pos c3).trans (if_pos c4)))))))
        · refine r_aload_n (pc := 45) hG dX8_person_45 rfl ?_
          refine r_bipush (pc := 46) hG dX8_person_46 bc_m6 ?_
          refine cv_X8_refuse (pc := 48)  hG dX8_person_48 tw_390 (c_X8_refuse (bd_lit (n := 7) (by decide))) (by decide) (Nat.le_of_ble_eq_true rfl) ?_
          exact hret _ _ _ _ dX8_person_51 (pair_fst (show sp_X8_person M a0 a1 a2 = ((sp_X8_refuse M (-6)).1, (sp_X8_refuse M (-6)).2) from (by unfold sp_X8_person; exact ((if_pos c1).trans ((if_pos c2).trans ((if_pos c3).trans (if_neg c4))))))) (pair_snd (show sp_X8_person M a0 a1 a2 = ((sp_X8_refuse M (-6)).1, (sp_X8_refuse M (-6)).2) from (by unfold sp_X8_person; exact ((if_pos c1).trans ((if_pos c2).trans ((if_pos c3).trans (if_neg c4)))))))
      · refine r_aload_n (pc := 28) hG dX8_person_28 rfl ?_
        refine r_bipush (pc := 29) hG dX8_person_29 bc_m2 ?_
        refine cv_X8_refuse (pc := 31)  hG dX8_person_31 tw_390 (c_X8_refuse (bd_lit (n := 7) (by decide))) (by decide) (Nat.le_of_ble_eq_true rfl) ?_
        exact hret _ _ _ _ dX8_person_34 (pair_fst (show sp_X8_person M a0 a1 a2 = ((sp_X8_refuse M (-2)).1, (sp_X8_refuse M (-2)).2) from (by unfold sp_X8_person; exact ((if_pos c1).trans ((if_pos c2).trans (if_neg c3)))))) (pair_snd (show sp_X8_person M a0 a1 a2 = ((sp_X8_refuse M (-2)).1, (sp_X8_refuse M (-2)).2) from (by unfold sp_X8_person; exact ((if_pos c1).trans ((if_pos c2).trans (if_neg c3))))))

def sp_X8_put (M : MT) (a0 : Int32) (a1 : Int32) : Int32 × MT :=
  if (sp_X5_hasPerson M 0 a0) = true then
    if (sp_X5_hasCell M 0 a1) = true then
      (M.1 0 11 (tn a0), u1 M 0 11 (tn a0) a1)
    else
      ((sp_X8_refuse M (-2)).1, (sp_X8_refuse M (-2)).2)
  else
    ((sp_X8_refuse M (-2)).1, (sp_X8_refuse M (-2)).2)
set_option maxRecDepth 20000 in
theorem c_X8_put {K : KT} {M : MT} {a0 : Int32} {a1 : Int32}  (hokx : OKX M) : CM K 3 yX8_put cX8_put 4 (some FieldType.int) [rf K 0, .int a0, .int a1] M (some (.int (sp_X8_put M a0 a1).1)) (sp_X8_put M a0 a1).2 := by
  refine CM.ofI (by decide) [some (rf K 0), some (.int a0), some (.int a1), none] rfl (Nat.le_of_ble_eq_true rfl) (Nat.le_of_ble_eq_true rfl) (fun G hG _ hret => ?_)
  obtain ⟨hok0, hok1, hoa2, hoa3, hoa4, hsh, htp⟩ := id hokx
  obtain ⟨hwc0, hpc0, ⟨hcl0, hcm0⟩, hwi0, hda0, hle0, hk80, ha80, hW0, hP0⟩ := id hok0
  have hwl0 := bd_lt hwc0
  have hpl0 := bd_lt hpc0
  have hcl0l := bd_lt hcl0
  refine r_aload_n (pc := 0) hG dX8_put_0 rfl ?_
  refine gf_X8_live (pc := 1)  hG dX8_put_1 tw_355 ?_
  refine r_iload_n (pc := 4) hG dX8_put_4 rfl ?_
  refine cv_X5_hasPerson (pc := 5) (by omega) hG dX8_put_5 tw_442 (c_X5_hasPerson (by omega)) (by decide) (Nat.le_of_ble_eq_true rfl) ?_
  refine r_ifz_eq (pc := 8) (tgt := 22) hG dX8_put_8 (by decide) (fun c1 => ?_) (fun c1 => ?_)
  · refine r_aload_n (pc := 22) hG dX8_put_22 rfl ?_
    refine r_bipush (pc := 23) hG dX8_put_23 bc_m2 ?_
    refine cv_X8_refuse (pc := 25)  hG dX8_put_25 tw_390 (c_X8_refuse (bd_lit (n := 7) (by decide))) (by decide) (Nat.le_of_ble_eq_true rfl) ?_
    exact hret _ _ _ _ dX8_put_28 (pair_fst (show sp_X8_put M a0 a1 = ((sp_X8_refuse M (-2)).1, (sp_X8_refuse M (-2)).2) from (by unfold sp_X8_put; exact (if_neg c1)))) (pair_snd (show sp_X8_put M a0 a1 = ((sp_X8_refuse M (-2)).1, (sp_X8_refuse M (-2)).2) from (by unfold sp_X8_put; exact (if_neg c1))))
  · refine r_aload_n (pc := 11) hG dX8_put_11 rfl ?_
    refine gf_X8_live (pc := 12)  hG dX8_put_12 tw_355 ?_
    refine r_iload_n (pc := 15) hG dX8_put_15 rfl ?_
    refine cv_X5_hasCell (pc := 16) (by omega) hG dX8_put_16 tw_475 (c_X5_hasCell (by omega)) (by decide) (Nat.le_of_ble_eq_true rfl) ?_
    refine r_ifz_ne (pc := 19) (tgt := 29) hG dX8_put_19 (by decide) (fun c2 => ?_) (fun c2 => ?_)
    · refine r_aload_n (pc := 29) hG dX8_put_29 rfl ?_
      refine gf_X8_live (pc := 30)  hG dX8_put_30 tw_355 ?_
      refine gf_X5_people (pc := 33) (by omega) hG dX8_put_33 tw_167 ?_
      refine r_iload_n (pc := 36) hG dX8_put_36 rfl ?_
      refine aa_PA (pc := 37) (by omega) hG dX8_put_37 (ix_bd (hasP hpc0 c1)) ?_
      refine gf_X2_at (pc := 38) (by omega) (bd_lt (hasP hpc0 c1)) hG dX8_put_38 tw_143 ?_
      refine r_istore_n (pc := 41) (ls' := [_, _, _, _]) hG dX8_put_41 rfl rfl ?_
      refine r_aload_n (pc := 42) hG dX8_put_42 rfl ?_
      refine gf_X8_live (pc := 43)  hG dX8_put_43 tw_355 ?_
      refine gf_X5_people (pc := 46) (by omega) hG dX8_put_46 tw_167 ?_
      refine r_iload_n (pc := 49) hG dX8_put_49 rfl ?_
      refine aa_PA (pc := 50) (by omega) hG dX8_put_50 (ix_bd (hasP hpc0 c1)) ?_
      refine r_iload_n (pc := 51) hG dX8_put_51 rfl ?_
      refine pf_X2_at (pc := 52) (by omega) (bd_lt (hasP hpc0 c1)) hG dX8_put_52 tw_143 ?_
      refine r_iload_n (pc := 55) hG dX8_put_55 rfl ?_
      exact hret _ _ _ _ dX8_put_56 (pair_fst (show sp_X8_put M a0 a1 = (M.1 0 11 (tn a0), u1 M 0 11 (tn a0) a1) from (by unfold sp_X8_put; exact ((if_pos c1).trans (if_pos c2))))) (pair_snd (show sp_X8_put M a0 a1 = (M.1 0 11 (tn a0), u1 M 0 11 (tn a0) a1) from (by unfold sp_X8_put; exact ((if_pos c1).trans (if_pos c2)))))
    · refine r_aload_n (pc := 22) hG dX8_put_22 rfl ?_
      refine r_bipush (pc := 23) hG dX8_put_23 bc_m2 ?_
      refine cv_X8_refuse (pc := 25)  hG dX8_put_25 tw_390 (c_X8_refuse (bd_lit (n := 7) (by decide))) (by decide) (Nat.le_of_ble_eq_true rfl) ?_
      exact hret _ _ _ _ dX8_put_28 (pair_fst (show sp_X8_put M a0 a1 = ((sp_X8_refuse M (-2)).1, (sp_X8_refuse M (-2)).2) from (by unfold sp_X8_put; exact ((if_pos c1).trans (if_neg c2))))) (pair_snd (show sp_X8_put M a0 a1 = ((sp_X8_refuse M (-2)).1, (sp_X8_refuse M (-2)).2) from (by unfold sp_X8_put; exact ((if_pos c1).trans (if_neg c2)))))

def sp_X8_tell (M : MT) (a0 : Int32) (a1 : Int32) : Int32 × MT :=
  if (sp_X8_isWhat a0 2) = true then
    if a0 = 0 then
      if (sp_X8_within a1 0 10) = true then
        if a0 = 0 then
          (M.1 0 3 0, u1 M 0 3 0 a1)
        else
          if a0 = 1 then
            (M.1 0 3 1, u1 M 0 3 1 a1)
          else
            (M.1 0 3 2, u1 M 0 3 2 a1)
      else
        ((sp_X8_refuse M (-2)).1, (sp_X8_refuse M (-2)).2)
    else
      if (sp_X8_within a1 0 999) = true then
        if a0 = 0 then
          (M.1 0 3 0, u1 M 0 3 0 a1)
        else
          if a0 = 1 then
            (M.1 0 3 1, u1 M 0 3 1 a1)
          else
            (M.1 0 3 2, u1 M 0 3 2 a1)
      else
        ((sp_X8_refuse M (-2)).1, (sp_X8_refuse M (-2)).2)
  else
    ((sp_X8_refuse M (-2)).1, (sp_X8_refuse M (-2)).2)
set_option maxRecDepth 20000 in
theorem c_X8_tell {K : KT} {M : MT} {a0 : Int32} {a1 : Int32}  (hokx : OKX M) : CM K 3 yX8_tell cX8_tell 4 (some FieldType.int) [rf K 0, .int a0, .int a1] M (some (.int (sp_X8_tell M a0 a1).1)) (sp_X8_tell M a0 a1).2 := by
  refine CM.ofI (by decide) [some (rf K 0), some (.int a0), some (.int a1), none] rfl (Nat.le_of_ble_eq_true rfl) (Nat.le_of_ble_eq_true rfl) (fun G hG _ hret => ?_)
  obtain ⟨hok0, hok1, hoa2, hoa3, hoa4, hsh, htp⟩ := id hokx
  obtain ⟨hwc0, hpc0, ⟨hcl0, hcm0⟩, hwi0, hda0, hle0, hk80, ha80, hW0, hP0⟩ := id hok0
  have hwl0 := bd_lt hwc0
  have hpl0 := bd_lt hpc0
  have hcl0l := bd_lt hcl0
  refine r_iload_n (pc := 0) hG dX8_tell_0 rfl ?_
  refine r_iconst (pc := 1) hG dX8_tell_1 ic_2 ?_
  refine cs_X8_isWhat (pc := 2)  hG dX8_tell_2 tw_514 (c_X8_isWhat) (by decide) (Nat.le_of_ble_eq_true rfl) ?_
  refine r_ifz_eq (pc := 5) (tgt := 28) hG dX8_tell_5 (by decide) (fun c1 => ?_) (fun c1 => ?_)
  · refine r_aload_n (pc := 28) hG dX8_tell_28 rfl ?_
    refine r_bipush (pc := 29) hG dX8_tell_29 bc_m2 ?_
    refine cv_X8_refuse (pc := 31)  hG dX8_tell_31 tw_390 (c_X8_refuse (bd_lit (n := 7) (by decide))) (by decide) (Nat.le_of_ble_eq_true rfl) ?_
    exact hret _ _ _ _ dX8_tell_34 (pair_fst (show sp_X8_tell M a0 a1 = ((sp_X8_refuse M (-2)).1, (sp_X8_refuse M (-2)).2) from (by unfold sp_X8_tell; exact (if_neg c1)))) (pair_snd (show sp_X8_tell M a0 a1 = ((sp_X8_refuse M (-2)).1, (sp_X8_refuse M (-2)).2) from (by unfold sp_X8_tell; exact (if_neg c1))))
  · refine r_iload_n (pc := 8) hG dX8_tell_8 rfl ?_
    refine r_iconst (pc := 9) hG dX8_tell_9 ic_0 ?_
    refine r_iload_n (pc := 10) hG dX8_tell_10 rfl ?_
    refine r_if_ne (pc := 11) (tgt := 19) hG dX8_tell_11 (by decide) (fun c2 => ?_) (fun c2 => ?_)
    · refine r_sipush (pc := 19) hG dX8_tell_19 sc_999 ?_
      refine cs_X8_within (pc := 22)  hG dX8_tell_22 tw_387 (c_X8_within) (by decide) (Nat.le_of_ble_eq_true rfl) ?_
      refine r_ifz_ne (pc := 25) (tgt := 35) hG dX8_tell_25 (by decide) (fun c3 => ?_) (fun c3 => ?_)
      · refine r_iload_n (pc := 35) hG dX8_tell_35 rfl ?_
        refine r_if_ne (pc := 36) (tgt := 58) hG dX8_tell_36 (by decide) (fun c4 => ?_) (fun c4 => ?_)
        · refine r_iload_n (pc := 58) hG dX8_tell_58 rfl ?_
          refine r_iconst (pc := 59) hG dX8_tell_59 ic_1 ?_
          refine r_icmp_ne (pc := 60) (tgt := 82) hG dX8_tell_60 (by decide) (fun c5 => ?_) (fun c5 => ?_)
          · refine r_aload_n (pc := 82) hG dX8_tell_82 rfl ?_
            refine gf_X8_live (pc := 83)  hG dX8_tell_83 tw_355 ?_
            refine gf_X5_lent (pc := 86) (by omega) hG dX8_tell_86 tw_189 ?_
            refine r_istore_n (pc := 89) (ls' := [_, _, _, _]) hG dX8_tell_89 rfl rfl ?_
            refine r_aload_n (pc := 90) hG dX8_tell_90 rfl ?_
            refine gf_X8_live (pc := 91)  hG dX8_tell_91 tw_355 ?_
            refine r_iload_n (pc := 94) hG dX8_tell_94 rfl ?_
            refine pf_X5_lent (pc := 95) (by omega) hG dX8_tell_95 tw_189 ?_
            refine r_iload_n (pc := 98) hG dX8_tell_98 rfl ?_
            exact hret _ _ _ _ dX8_tell_99 (pair_fst (show sp_X8_tell M a0 a1 = (M.1 0 3 2, u1 M 0 3 2 a1) from (by unfold sp_X8_tell; exact ((if_pos c1).trans ((if_neg c2).trans ((if_pos c3).trans ((if_neg c4).trans (if_neg c5)))))))) (pair_snd (show sp_X8_tell M a0 a1 = (M.1 0 3 2, u1 M 0 3 2 a1) from (by unfold sp_X8_tell; exact ((if_pos c1).trans ((if_neg c2).trans ((if_pos c3).trans ((if_neg c4).trans (if_neg c5))))))))
          · refine r_aload_n (pc := 63) hG dX8_tell_63 rfl ?_
            refine gf_X8_live (pc := 64)  hG dX8_tell_64 tw_355 ?_
            refine gf_X5_day (pc := 67) (by omega) hG dX8_tell_67 tw_186 ?_
            refine r_istore_n (pc := 70) (ls' := [_, _, _, _]) hG dX8_tell_70 rfl rfl ?_
            refine r_aload_n (pc := 71) hG dX8_tell_71 rfl ?_
            refine gf_X8_live (pc := 72)  hG dX8_tell_72 tw_355 ?_
            refine r_iload_n (pc := 75) hG dX8_tell_75 rfl ?_
            refine pf_X5_day (pc := 76) (by omega) hG dX8_tell_76 tw_186 ?_
            refine r_goto (pc := 79) (tgt := 98) hG dX8_tell_79 (by decide) ?_
            refine r_iload_n (pc := 98) hG dX8_tell_98 rfl ?_
            exact hret _ _ _ _ dX8_tell_99 (pair_fst (show sp_X8_tell M a0 a1 = (M.1 0 3 1, u1 M 0 3 1 a1) from (by unfold sp_X8_tell; exact ((if_pos c1).trans ((if_neg c2).trans ((if_pos c3).trans ((if_neg c4).trans (if_pos c5)))))))) (pair_snd (show sp_X8_tell M a0 a1 = (M.1 0 3 1, u1 M 0 3 1 a1) from (by unfold sp_X8_tell; exact ((if_pos c1).trans ((if_neg c2).trans ((if_pos c3).trans ((if_neg c4).trans (if_pos c5))))))))
        · refine r_aload_n (pc := 39) hG dX8_tell_39 rfl ?_
          refine gf_X8_live (pc := 40)  hG dX8_tell_40 tw_355 ?_
          refine gf_X5_wind (pc := 43) (by omega) hG dX8_tell_43 tw_183 ?_
          refine r_istore_n (pc := 46) (ls' := [_, _, _, _]) hG dX8_tell_46 rfl rfl ?_
          refine r_aload_n (pc := 47) hG dX8_tell_47 rfl ?_
          refine gf_X8_live (pc := 48)  hG dX8_tell_48 tw_355 ?_
          refine r_iload_n (pc := 51) hG dX8_tell_51 rfl ?_
          refine pf_X5_wind (pc := 52) (by omega) hG dX8_tell_52 tw_183 ?_
          refine r_goto (pc := 55) (tgt := 98) hG dX8_tell_55 (by decide) ?_
          refine r_iload_n (pc := 98) hG dX8_tell_98 rfl ?_
          exact hret _ _ _ _ dX8_tell_99 (pair_fst (show sp_X8_tell M a0 a1 = (M.1 0 3 0, u1 M 0 3 0 a1) from (by unfold sp_X8_tell; exact ((if_pos c1).trans ((if_neg c2).trans ((if_pos c3).trans (if_pos c4))))))) (pair_snd (show sp_X8_tell M a0 a1 = (M.1 0 3 0, u1 M 0 3 0 a1) from (by unfold sp_X8_tell; exact ((if_pos c1).trans ((if_neg c2).trans ((if_pos c3).trans (if_pos c4)))))))
      · refine r_aload_n (pc := 28) hG dX8_tell_28 rfl ?_
        refine r_bipush (pc := 29) hG dX8_tell_29 bc_m2 ?_
        refine cv_X8_refuse (pc := 31)  hG dX8_tell_31 tw_390 (c_X8_refuse (bd_lit (n := 7) (by decide))) (by decide) (Nat.le_of_ble_eq_true rfl) ?_
        exact hret _ _ _ _ dX8_tell_34 (pair_fst (show sp_X8_tell M a0 a1 = ((sp_X8_refuse M (-2)).1, (sp_X8_refuse M (-2)).2) from (by unfold sp_X8_tell; exact ((if_pos c1).trans ((if_neg c2).trans (if_neg c3)))))) (pair_snd (show sp_X8_tell M a0 a1 = ((sp_X8_refuse M (-2)).1, (sp_X8_refuse M (-2)).2) from (by unfold sp_X8_tell; exact ((if_pos c1).trans ((if_neg c2).trans (if_neg c3))))))
    · refine r_bipush (pc := 14) hG dX8_tell_14 bc_10 ?_
      refine r_goto (pc := 16) (tgt := 22) hG dX8_tell_16 (by decide) ?_
      refine cs_X8_within (pc := 22)  hG dX8_tell_22 tw_387 (c_X8_within) (by decide) (Nat.le_of_ble_eq_true rfl) ?_
      refine r_ifz_ne (pc := 25) (tgt := 35) hG dX8_tell_25 (by decide) (fun c6 => ?_) (fun c6 => ?_)
      · refine r_iload_n (pc := 35) hG dX8_tell_35 rfl ?_
        refine r_if_ne (pc := 36) (tgt := 58) hG dX8_tell_36 (by decide) (fun c7 => ?_) (fun c7 => ?_)
        · refine r_iload_n (pc := 58) hG dX8_tell_58 rfl ?_
          refine r_iconst (pc := 59) hG dX8_tell_59 ic_1 ?_
          refine r_icmp_ne (pc := 60) (tgt := 82) hG dX8_tell_60 (by decide) (fun c8 => ?_) (fun c8 => ?_)
          · refine r_aload_n (pc := 82) hG dX8_tell_82 rfl ?_
            refine gf_X8_live (pc := 83)  hG dX8_tell_83 tw_355 ?_
            refine gf_X5_lent (pc := 86) (by omega) hG dX8_tell_86 tw_189 ?_
            refine r_istore_n (pc := 89) (ls' := [_, _, _, _]) hG dX8_tell_89 rfl rfl ?_
            refine r_aload_n (pc := 90) hG dX8_tell_90 rfl ?_
            refine gf_X8_live (pc := 91)  hG dX8_tell_91 tw_355 ?_
            refine r_iload_n (pc := 94) hG dX8_tell_94 rfl ?_
            refine pf_X5_lent (pc := 95) (by omega) hG dX8_tell_95 tw_189 ?_
            refine r_iload_n (pc := 98) hG dX8_tell_98 rfl ?_
            exact hret _ _ _ _ dX8_tell_99 (pair_fst (show sp_X8_tell M a0 a1 = (M.1 0 3 2, u1 M 0 3 2 a1) from (by unfold sp_X8_tell; exact ((if_pos c1).trans ((if_pos c2).trans ((if_pos c6).trans ((if_neg c7).trans (if_neg c8)))))))) (pair_snd (show sp_X8_tell M a0 a1 = (M.1 0 3 2, u1 M 0 3 2 a1) from (by unfold sp_X8_tell; exact ((if_pos c1).trans ((if_pos c2).trans ((if_pos c6).trans ((if_neg c7).trans (if_neg c8))))))))
          · refine r_aload_n (pc := 63) hG dX8_tell_63 rfl ?_
            refine gf_X8_live (pc := 64)  hG dX8_tell_64 tw_355 ?_
            refine gf_X5_day (pc := 67) (by omega) hG dX8_tell_67 tw_186 ?_
            refine r_istore_n (pc := 70) (ls' := [_, _, _, _]) hG dX8_tell_70 rfl rfl ?_
            refine r_aload_n (pc := 71) hG dX8_tell_71 rfl ?_
            refine gf_X8_live (pc := 72)  hG dX8_tell_72 tw_355 ?_
            refine r_iload_n (pc := 75) hG dX8_tell_75 rfl ?_
            refine pf_X5_day (pc := 76) (by omega) hG dX8_tell_76 tw_186 ?_
            refine r_goto (pc := 79) (tgt := 98) hG dX8_tell_79 (by decide) ?_
            refine r_iload_n (pc := 98) hG dX8_tell_98 rfl ?_
            exact hret _ _ _ _ dX8_tell_99 (pair_fst (show sp_X8_tell M a0 a1 = (M.1 0 3 1, u1 M 0 3 1 a1) from (by unfold sp_X8_tell; exact ((if_pos c1).trans ((if_pos c2).trans ((if_pos c6).trans ((if_neg c7).trans (if_pos c8)))))))) (pair_snd (show sp_X8_tell M a0 a1 = (M.1 0 3 1, u1 M 0 3 1 a1) from (by unfold sp_X8_tell; exact ((if_pos c1).trans ((if_pos c2).trans ((if_pos c6).trans ((if_neg c7).trans (if_pos c8))))))))
        · refine r_aload_n (pc := 39) hG dX8_tell_39 rfl ?_
          refine gf_X8_live (pc := 40)  hG dX8_tell_40 tw_355 ?_
          refine gf_X5_wind (pc := 43) (by omega) hG dX8_tell_43 tw_183 ?_
          refine r_istore_n (pc := 46) (ls' := [_, _, _, _]) hG dX8_tell_46 rfl rfl ?_
          refine r_aload_n (pc := 47) hG dX8_tell_47 rfl ?_
          refine gf_X8_live (pc := 48)  hG dX8_tell_48 tw_355 ?_
          refine r_iload_n (pc := 51) hG dX8_tell_51 rfl ?_
          refine pf_X5_wind (pc := 52) (by omega) hG dX8_tell_52 tw_183 ?_
          refine r_goto (pc := 55) (tgt := 98) hG dX8_tell_55 (by decide) ?_
          refine r_iload_n (pc := 98) hG dX8_tell_98 rfl ?_
          exact hret _ _ _ _ dX8_tell_99 (pair_fst (show sp_X8_tell M a0 a1 = (M.1 0 3 0, u1 M 0 3 0 a1) from (by unfold sp_X8_tell; exact ((if_pos c1).trans ((if_pos c2).trans ((if_pos c6).trans (if_pos c7))))))) (pair_snd (show sp_X8_tell M a0 a1 = (M.1 0 3 0, u1 M 0 3 0 a1) from (by unfold sp_X8_tell; exact ((if_pos c1).trans ((if_pos c2).trans ((if_pos c6).trans (if_pos c7)))))))
      · refine r_aload_n (pc := 28) hG dX8_tell_28 rfl ?_
        refine r_bipush (pc := 29) hG dX8_tell_29 bc_m2 ?_
        refine cv_X8_refuse (pc := 31)  hG dX8_tell_31 tw_390 (c_X8_refuse (bd_lit (n := 7) (by decide))) (by decide) (Nat.le_of_ble_eq_true rfl) ?_
        exact hret _ _ _ _ dX8_tell_34 (pair_fst (show sp_X8_tell M a0 a1 = ((sp_X8_refuse M (-2)).1, (sp_X8_refuse M (-2)).2) from (by unfold sp_X8_tell; exact ((if_pos c1).trans ((if_pos c2).trans (if_neg c6)))))) (pair_snd (show sp_X8_tell M a0 a1 = ((sp_X8_refuse M (-2)).1, (sp_X8_refuse M (-2)).2) from (by unfold sp_X8_tell; exact ((if_pos c1).trans ((if_pos c2).trans (if_neg c6))))))

def sp_X8_feed (M : MT) (a0 : Int32) : Int32 × MT :=
  if (sp_X8_within a0 0 255) = true then
    if (M.2.1 6 0) < 250 then
      (((M.2.1 6 0) + 1), u2 (u2 M 7 (tn (M.2.1 6 0)) a0) 6 0 ((M.2.1 6 0) + 1))
    else
      ((sp_X8_refuse M (-6)).1, (sp_X8_refuse M (-6)).2)
  else
    ((sp_X8_refuse M (-2)).1, (sp_X8_refuse M (-2)).2)
set_option maxRecDepth 20000 in
theorem c_X8_feed {K : KT} {M : MT} {a0 : Int32}  (hokx : OKX M) : CM K 2 yX8_feed cX8_feed 2 (some FieldType.int) [rf K 0, .int a0] M (some (.int (sp_X8_feed M a0).1)) (sp_X8_feed M a0).2 := by
  refine CM.ofI (by decide) [some (rf K 0), some (.int a0)] rfl (Nat.le_of_ble_eq_true rfl) (Nat.le_of_ble_eq_true rfl) (fun G hG _ hret => ?_)
  obtain ⟨hok0, hok1, hoa2, hoa3, hoa4, hsh, htp⟩ := id hokx
  obtain ⟨hwc0, hpc0, ⟨hcl0, hcm0⟩, hwi0, hda0, hle0, hk80, ha80, hW0, hP0⟩ := id hok0
  have hwl0 := bd_lt hwc0
  have hpl0 := bd_lt hpc0
  have hcl0l := bd_lt hcl0
  refine r_iload_n (pc := 0) hG dX8_feed_0 rfl ?_
  refine r_iconst (pc := 1) hG dX8_feed_1 ic_0 ?_
  refine r_sipush (pc := 2) hG dX8_feed_2 sc_255 ?_
  refine cs_X8_within (pc := 5)  hG dX8_feed_5 tw_387 (c_X8_within) (by decide) (Nat.le_of_ble_eq_true rfl) ?_
  refine r_ifz_ne (pc := 8) (tgt := 18) hG dX8_feed_8 (by decide) (fun c1 => ?_) (fun c1 => ?_)
  · refine r_aload_n (pc := 18) hG dX8_feed_18 rfl ?_
    refine gf_X8_tape (pc := 19)  hG dX8_feed_19 tw_359 ?_
    refine gf_X6_size (pc := 22)  hG dX8_feed_22 tw_288 ?_
    refine r_sipush (pc := 25) hG dX8_feed_25 sc_250 ?_
    refine r_icmp_lt (pc := 28) (tgt := 38) hG dX8_feed_28 (by decide) (fun c2 => ?_) (fun c2 => ?_)
    · refine r_aload_n (pc := 38) hG dX8_feed_38 rfl ?_
      refine gf_X8_tape (pc := 39)  hG dX8_feed_39 tw_359 ?_
      refine gf_X6_letters (pc := 42)  hG dX8_feed_42 tw_286 ?_
      refine r_aload_n (pc := 45) hG dX8_feed_45 rfl ?_
      refine gf_X8_tape (pc := 46)  hG dX8_feed_46 tw_359 ?_
      refine gf_X6_size (pc := 49)  hG dX8_feed_49 tw_288 ?_
      refine r_iload_n (pc := 52) hG dX8_feed_52 rfl ?_
      refine as_Let (pc := 53)  hG dX8_feed_53 (ix_bd (feed_bd htp (Int32.not_le.mpr c2))) ?_
      refine r_aload_n (pc := 54) hG dX8_feed_54 rfl ?_
      refine gf_X8_tape (pc := 55)  hG dX8_feed_55 tw_359 ?_
      refine r_dup (pc := 58) hG dX8_feed_58 rfl ?_
      refine gf_X6_size (pc := 59)  hG dX8_feed_59 tw_288 ?_
      refine r_iconst (pc := 62) hG dX8_feed_62 ic_1 ?_
      refine r_iadd (pc := 63) hG dX8_feed_63 ?_
      refine pf_X6_size (pc := 64)  hG dX8_feed_64 tw_288 ?_
      refine r_aload_n (pc := 67) hG dX8_feed_67 rfl ?_
      refine gf_X8_tape (pc := 68)  hG dX8_feed_68 tw_359 ?_
      refine gf_X6_size (pc := 71)  hG dX8_feed_71 tw_288 ?_
      exact hret _ _ _ _ dX8_feed_74 (pair_fst (show sp_X8_feed M a0 = (((M.2.1 6 0) + 1), u2 (u2 M 7 (tn (M.2.1 6 0)) a0) 6 0 ((M.2.1 6 0) + 1)) from (by unfold sp_X8_feed; exact ((if_pos c1).trans (if_pos c2))))) (pair_snd (show sp_X8_feed M a0 = (((M.2.1 6 0) + 1), u2 (u2 M 7 (tn (M.2.1 6 0)) a0) 6 0 ((M.2.1 6 0) + 1)) from (by unfold sp_X8_feed; exact ((if_pos c1).trans (if_pos c2)))))
    · refine r_aload_n (pc := 31) hG dX8_feed_31 rfl ?_
      refine r_bipush (pc := 32) hG dX8_feed_32 bc_m6 ?_
      refine cv_X8_refuse (pc := 34)  hG dX8_feed_34 tw_390 (c_X8_refuse (bd_lit (n := 7) (by decide))) (by decide) (Nat.le_of_ble_eq_true rfl) ?_
      exact hret _ _ _ _ dX8_feed_37 (pair_fst (show sp_X8_feed M a0 = ((sp_X8_refuse M (-6)).1, (sp_X8_refuse M (-6)).2) from (by unfold sp_X8_feed; exact ((if_pos c1).trans (if_neg c2))))) (pair_snd (show sp_X8_feed M a0 = ((sp_X8_refuse M (-6)).1, (sp_X8_refuse M (-6)).2) from (by unfold sp_X8_feed; exact ((if_pos c1).trans (if_neg c2)))))
  · refine r_aload_n (pc := 11) hG dX8_feed_11 rfl ?_
    refine r_bipush (pc := 12) hG dX8_feed_12 bc_m2 ?_
    refine cv_X8_refuse (pc := 14)  hG dX8_feed_14 tw_390 (c_X8_refuse (bd_lit (n := 7) (by decide))) (by decide) (Nat.le_of_ble_eq_true rfl) ?_
    exact hret _ _ _ _ dX8_feed_17 (pair_fst (show sp_X8_feed M a0 = ((sp_X8_refuse M (-2)).1, (sp_X8_refuse M (-2)).2) from (by unfold sp_X8_feed; exact (if_neg c1)))) (pair_snd (show sp_X8_feed M a0 = ((sp_X8_refuse M (-2)).1, (sp_X8_refuse M (-2)).2) from (by unfold sp_X8_feed; exact (if_neg c1))))

def sp_X8_wipe (M : MT) : Int32 × MT :=
  (M.2.1 6 0, u2 M 6 0 0)
set_option maxRecDepth 20000 in
theorem c_X8_wipe {K : KT} {M : MT}   (hokx : OKX M) : CM K 1 yX8_wipe cX8_wipe 2 (some FieldType.int) [rf K 0] M (some (.int (sp_X8_wipe M).1)) (sp_X8_wipe M).2 := by
  refine CM.ofI (by decide) [some (rf K 0), none] rfl (Nat.le_of_ble_eq_true rfl) (Nat.le_of_ble_eq_true rfl) (fun G hG _ hret => ?_)
  obtain ⟨hok0, hok1, hoa2, hoa3, hoa4, hsh, htp⟩ := id hokx
  obtain ⟨hwc0, hpc0, ⟨hcl0, hcm0⟩, hwi0, hda0, hle0, hk80, ha80, hW0, hP0⟩ := id hok0
  have hwl0 := bd_lt hwc0
  have hpl0 := bd_lt hpc0
  have hcl0l := bd_lt hcl0
  refine r_aload_n (pc := 0) hG dX8_wipe_0 rfl ?_
  refine gf_X8_tape (pc := 1)  hG dX8_wipe_1 tw_359 ?_
  refine gf_X6_size (pc := 4)  hG dX8_wipe_4 tw_288 ?_
  refine r_istore_n (pc := 7) (ls' := [_, _]) hG dX8_wipe_7 rfl rfl ?_
  refine r_aload_n (pc := 8) hG dX8_wipe_8 rfl ?_
  refine gf_X8_tape (pc := 9)  hG dX8_wipe_9 tw_359 ?_
  refine r_iconst (pc := 12) hG dX8_wipe_12 ic_0 ?_
  refine pf_X6_size (pc := 13)  hG dX8_wipe_13 tw_288 ?_
  refine r_iload_n (pc := 16) hG dX8_wipe_16 rfl ?_
  exact hret _ _ _ _ dX8_wipe_17 (pair_fst (show sp_X8_wipe M = (M.2.1 6 0, u2 M 6 0 0) from (by unfold sp_X8_wipe; exact rfl))) (pair_snd (show sp_X8_wipe M = (M.2.1 6 0, u2 M 6 0 0) from (by unfold sp_X8_wipe; exact rfl)))

def sp_X8_personOf (M : MT) (a0 : Int32) (a1 : Int32) : Int32 × MT :=
  if (sp_X5_hasPerson M 0 a0) = true then
    if (sp_X8_isWhat a1 5) = true then
      if a1 = 0 then
        (M.1 0 9 (tn a0), M)
      else
        if a1 = 1 then
          (M.1 0 10 (tn a0), M)
        else
          if a1 = 2 then
            (M.1 0 11 (tn a0), M)
          else
            if a1 = 3 then
              (M.1 0 12 (tn a0), M)
            else
              if a1 = 4 then
                (M.1 0 13 (tn a0), M)
              else
                (sp_X2_reach M 0 (tn a0), M)
    else
      ((sp_X8_refuse M (-2)).1, (sp_X8_refuse M (-2)).2)
  else
    ((sp_X8_refuse M (-2)).1, (sp_X8_refuse M (-2)).2)
set_option maxRecDepth 20000 in
theorem c_X8_personOf {K : KT} {M : MT} {a0 : Int32} {a1 : Int32}  (hokx : OKX M) : CM K 3 yX8_personOf cX8_personOf 4 (some FieldType.int) [rf K 0, .int a0, .int a1] M (some (.int (sp_X8_personOf M a0 a1).1)) (sp_X8_personOf M a0 a1).2 := by
  refine CM.ofI (by decide) [some (rf K 0), some (.int a0), some (.int a1), none] rfl (Nat.le_of_ble_eq_true rfl) (Nat.le_of_ble_eq_true rfl) (fun G hG _ hret => ?_)
  obtain ⟨hok0, hok1, hoa2, hoa3, hoa4, hsh, htp⟩ := id hokx
  obtain ⟨hwc0, hpc0, ⟨hcl0, hcm0⟩, hwi0, hda0, hle0, hk80, ha80, hW0, hP0⟩ := id hok0
  have hwl0 := bd_lt hwc0
  have hpl0 := bd_lt hpc0
  have hcl0l := bd_lt hcl0
  refine r_aload_n (pc := 0) hG dX8_personOf_0 rfl ?_
  refine gf_X8_live (pc := 1)  hG dX8_personOf_1 tw_355 ?_
  refine r_iload_n (pc := 4) hG dX8_personOf_4 rfl ?_
  refine cv_X5_hasPerson (pc := 5) (by omega) hG dX8_personOf_5 tw_442 (c_X5_hasPerson (by omega)) (by decide) (Nat.le_of_ble_eq_true rfl) ?_
  refine r_ifz_eq (pc := 8) (tgt := 19) hG dX8_personOf_8 (by decide) (fun c1 => ?_) (fun c1 => ?_)
  · refine r_aload_n (pc := 19) hG dX8_personOf_19 rfl ?_
    refine r_bipush (pc := 20) hG dX8_personOf_20 bc_m2 ?_
    refine cv_X8_refuse (pc := 22)  hG dX8_personOf_22 tw_390 (c_X8_refuse (bd_lit (n := 7) (by decide))) (by decide) (Nat.le_of_ble_eq_true rfl) ?_
    exact hret _ _ _ _ dX8_personOf_25 (pair_fst (show sp_X8_personOf M a0 a1 = ((sp_X8_refuse M (-2)).1, (sp_X8_refuse M (-2)).2) from (by unfold sp_X8_personOf; exact (if_neg c1)))) (pair_snd (show sp_X8_personOf M a0 a1 = ((sp_X8_refuse M (-2)).1, (sp_X8_refuse M (-2)).2) from (by unfold sp_X8_personOf; exact (if_neg c1))))
  · refine r_iload_n (pc := 11) hG dX8_personOf_11 rfl ?_
    refine r_iconst (pc := 12) hG dX8_personOf_12 ic_5 ?_
    refine cs_X8_isWhat (pc := 13)  hG dX8_personOf_13 tw_514 (c_X8_isWhat) (by decide) (Nat.le_of_ble_eq_true rfl) ?_
    refine r_ifz_ne (pc := 16) (tgt := 26) hG dX8_personOf_16 (by decide) (fun c2 => ?_) (fun c2 => ?_)
    · refine r_aload_n (pc := 26) hG dX8_personOf_26 rfl ?_
      refine gf_X8_live (pc := 27)  hG dX8_personOf_27 tw_355 ?_
      refine gf_X5_people (pc := 30) (by omega) hG dX8_personOf_30 tw_167 ?_
      refine r_iload_n (pc := 33) hG dX8_personOf_33 rfl ?_
      refine aa_PA (pc := 34) (by omega) hG dX8_personOf_34 (ix_bd (hasP hpc0 c1)) ?_
      refine r_astore_n (pc := 35) (ls' := [_, _, _, _]) hG dX8_personOf_35 rfl rfl ?_
      refine r_iload_n (pc := 36) hG dX8_personOf_36 rfl ?_
      by_cases c3 : a1 = 0
      · refine r_tableIn (pc := 37) (tgt := 72) (off := 35) hG dX8_personOf_37 (by rw [c3]; decide) (by rw [c3]; decide) (by rw [c3]; rfl) (by decide) ?_
        refine r_aload_n (pc := 72) hG dX8_personOf_72 rfl ?_
        refine gf_X2_kind (pc := 73) (by omega) (bd_lt (hasP hpc0 c1)) hG dX8_personOf_73 tw_135 ?_
        exact hret _ _ _ _ dX8_personOf_76 (pair_fst (show sp_X8_personOf M a0 a1 = (M.1 0 9 (tn a0), M) from (by unfold sp_X8_personOf; exact ((if_pos c1).trans ((if_pos c2).trans (if_pos c3)))))) (pair_snd (show sp_X8_personOf M a0 a1 = (M.1 0 9 (tn a0), M) from (by unfold sp_X8_personOf; exact ((if_pos c1).trans ((if_pos c2).trans (if_pos c3))))))
      · by_cases c4 : a1 = 1
        · refine r_tableIn (pc := 37) (tgt := 77) (off := 40) hG dX8_personOf_37 (by rw [c4]; decide) (by rw [c4]; decide) (by rw [c4]; rfl) (by decide) ?_
          refine r_aload_n (pc := 77) hG dX8_personOf_77 rfl ?_
          refine gf_X2_a (pc := 78) (by omega) (bd_lt (hasP hpc0 c1)) hG dX8_personOf_78 tw_138 ?_
          exact hret _ _ _ _ dX8_personOf_81 (pair_fst (show sp_X8_personOf M a0 a1 = (M.1 0 10 (tn a0), M) from (by unfold sp_X8_personOf; exact ((if_pos c1).trans ((if_pos c2).trans ((if_neg c3).trans (if_pos c4))))))) (pair_snd (show sp_X8_personOf M a0 a1 = (M.1 0 10 (tn a0), M) from (by unfold sp_X8_personOf; exact ((if_pos c1).trans ((if_pos c2).trans ((if_neg c3).trans (if_pos c4)))))))
        · by_cases c5 : a1 = 2
          · refine r_tableIn (pc := 37) (tgt := 82) (off := 45) hG dX8_personOf_37 (by rw [c5]; decide) (by rw [c5]; decide) (by rw [c5]; rfl) (by decide) ?_
            refine r_aload_n (pc := 82) hG dX8_personOf_82 rfl ?_
            refine gf_X2_at (pc := 83) (by omega) (bd_lt (hasP hpc0 c1)) hG dX8_personOf_83 tw_143 ?_
            exact hret _ _ _ _ dX8_personOf_86 (pair_fst (show sp_X8_personOf M a0 a1 = (M.1 0 11 (tn a0), M) from (by unfold sp_X8_personOf; exact ((if_pos c1).trans ((if_pos c2).trans ((if_neg c3).trans ((if_neg c4).trans (if_pos c5)))))))) (pair_snd (show sp_X8_personOf M a0 a1 = (M.1 0 11 (tn a0), M) from (by unfold sp_X8_personOf; exact ((if_pos c1).trans ((if_pos c2).trans ((if_neg c3).trans ((if_neg c4).trans (if_pos c5))))))))
          · by_cases c6 : a1 = 3
            · refine r_tableIn (pc := 37) (tgt := 87) (off := 50) hG dX8_personOf_37 (by rw [c6]; decide) (by rw [c6]; decide) (by rw [c6]; rfl) (by decide) ?_
              refine r_aload_n (pc := 87) hG dX8_personOf_87 rfl ?_
              refine gf_X2_rose (pc := 88) (by omega) (bd_lt (hasP hpc0 c1)) hG dX8_personOf_88 tw_147 ?_
              exact hret _ _ _ _ dX8_personOf_91 (pair_fst (show sp_X8_personOf M a0 a1 = (M.1 0 12 (tn a0), M) from (by unfold sp_X8_personOf; exact ((if_pos c1).trans ((if_pos c2).trans ((if_neg c3).trans ((if_neg c4).trans ((if_neg c5).trans (if_pos c6))))))))) (pair_snd (show sp_X8_personOf M a0 a1 = (M.1 0 12 (tn a0), M) from (by unfold sp_X8_personOf; exact ((if_pos c1).trans ((if_pos c2).trans ((if_neg c3).trans ((if_neg c4).trans ((if_neg c5).trans (if_pos c6)))))))))
            · by_cases c7 : a1 = 4
              · refine r_tableIn (pc := 37) (tgt := 92) (off := 55) hG dX8_personOf_37 (by rw [c7]; decide) (by rw [c7]; decide) (by rw [c7]; rfl) (by decide) ?_
                refine r_aload_n (pc := 92) hG dX8_personOf_92 rfl ?_
                refine gf_X2_due (pc := 93) (by omega) (bd_lt (hasP hpc0 c1)) hG dX8_personOf_93 tw_149 ?_
                exact hret _ _ _ _ dX8_personOf_96 (pair_fst (show sp_X8_personOf M a0 a1 = (M.1 0 13 (tn a0), M) from (by unfold sp_X8_personOf; exact ((if_pos c1).trans ((if_pos c2).trans ((if_neg c3).trans ((if_neg c4).trans ((if_neg c5).trans ((if_neg c6).trans (if_pos c7)))))))))) (pair_snd (show sp_X8_personOf M a0 a1 = (M.1 0 13 (tn a0), M) from (by unfold sp_X8_personOf; exact ((if_pos c1).trans ((if_pos c2).trans ((if_neg c3).trans ((if_neg c4).trans ((if_neg c5).trans ((if_neg c6).trans (if_pos c7))))))))))
              · have nc3 : Int32.toInt a1 ≠ 0 := fun q => c3 (Int32.toInt_inj.mp q)
                have nc4 : Int32.toInt a1 ≠ 1 := fun q => c4 (Int32.toInt_inj.mp q)
                have nc5 : Int32.toInt a1 ≠ 2 := fun q => c5 (Int32.toInt_inj.mp q)
                have nc6 : Int32.toInt a1 ≠ 3 := fun q => c6 (Int32.toInt_inj.mp q)
                have nc7 : Int32.toInt a1 ≠ 4 := fun q => c7 (Int32.toInt_inj.mp q)
                refine r_tableOut (pc := 37) (tgt := 97) hG dX8_personOf_37 (by omega) (by decide) ?_
                refine r_aload_n (pc := 97) hG dX8_personOf_97 rfl ?_
                refine cv_X2_reach (pc := 98) (by omega) (bd_lt (hasP hpc0 c1)) hG dX8_personOf_98 tw_659 (c_X2_reach (by omega) (bd_lt (hasP hpc0 c1)) (hk80 _ (bd_lt (hasP hpc0 c1)))) (by decide) (Nat.le_of_ble_eq_true rfl) ?_
                exact hret _ _ _ _ dX8_personOf_101 (pair_fst (show sp_X8_personOf M a0 a1 = (sp_X2_reach M 0 (tn a0), M) from (by unfold sp_X8_personOf; exact ((if_pos c1).trans ((if_pos c2).trans ((if_neg c3).trans ((if_neg c4).trans ((if_neg c5).trans ((if_neg c6).trans (if_neg c7)))))))))) (pair_snd (show sp_X8_personOf M a0 a1 = (sp_X2_reach M 0 (tn a0), M) from (by unfold sp_X8_personOf; exact ((if_pos c1).trans ((if_pos c2).trans ((if_neg c3).trans ((if_neg c4).trans ((if_neg c5).trans ((if_neg c6).trans (if_neg c7))))))))))
    · refine r_aload_n (pc := 19) hG dX8_personOf_19 rfl ?_
      refine r_bipush (pc := 20) hG dX8_personOf_20 bc_m2 ?_
      refine cv_X8_refuse (pc := 22)  hG dX8_personOf_22 tw_390 (c_X8_refuse (bd_lit (n := 7) (by decide))) (by decide) (Nat.le_of_ble_eq_true rfl) ?_
      exact hret _ _ _ _ dX8_personOf_25 (pair_fst (show sp_X8_personOf M a0 a1 = ((sp_X8_refuse M (-2)).1, (sp_X8_refuse M (-2)).2) from (by unfold sp_X8_personOf; exact ((if_pos c1).trans (if_neg c2))))) (pair_snd (show sp_X8_personOf M a0 a1 = ((sp_X8_refuse M (-2)).1, (sp_X8_refuse M (-2)).2) from (by unfold sp_X8_personOf; exact ((if_pos c1).trans (if_neg c2)))))

def sp_X8_windowOf (M : MT) (a0 : Int32) (a1 : Int32) : Int32 × MT :=
  if (sp_X5_hasWindow M 0 a0) = true then
    if (sp_X8_isWhat a1 2) = true then
      if a1 = 0 then
        (M.1 0 6 (tn a0), M)
      else
        if a1 = 1 then
          (M.1 0 7 (tn a0), M)
        else
          (M.1 0 8 (tn a0), M)
    else
      ((sp_X8_refuse M (-2)).1, (sp_X8_refuse M (-2)).2)
  else
    ((sp_X8_refuse M (-2)).1, (sp_X8_refuse M (-2)).2)
set_option maxRecDepth 20000 in
theorem c_X8_windowOf {K : KT} {M : MT} {a0 : Int32} {a1 : Int32}  (hokx : OKX M) : CM K 3 yX8_windowOf cX8_windowOf 4 (some FieldType.int) [rf K 0, .int a0, .int a1] M (some (.int (sp_X8_windowOf M a0 a1).1)) (sp_X8_windowOf M a0 a1).2 := by
  refine CM.ofI (by decide) [some (rf K 0), some (.int a0), some (.int a1), none] rfl (Nat.le_of_ble_eq_true rfl) (Nat.le_of_ble_eq_true rfl) (fun G hG _ hret => ?_)
  obtain ⟨hok0, hok1, hoa2, hoa3, hoa4, hsh, htp⟩ := id hokx
  obtain ⟨hwc0, hpc0, ⟨hcl0, hcm0⟩, hwi0, hda0, hle0, hk80, ha80, hW0, hP0⟩ := id hok0
  have hwl0 := bd_lt hwc0
  have hpl0 := bd_lt hpc0
  have hcl0l := bd_lt hcl0
  refine r_aload_n (pc := 0) hG dX8_windowOf_0 rfl ?_
  refine gf_X8_live (pc := 1)  hG dX8_windowOf_1 tw_355 ?_
  refine r_iload_n (pc := 4) hG dX8_windowOf_4 rfl ?_
  refine cv_X5_hasWindow (pc := 5) (by omega) hG dX8_windowOf_5 tw_669 (c_X5_hasWindow (by omega)) (by decide) (Nat.le_of_ble_eq_true rfl) ?_
  refine r_ifz_eq (pc := 8) (tgt := 19) hG dX8_windowOf_8 (by decide) (fun c1 => ?_) (fun c1 => ?_)
  · refine r_aload_n (pc := 19) hG dX8_windowOf_19 rfl ?_
    refine r_bipush (pc := 20) hG dX8_windowOf_20 bc_m2 ?_
    refine cv_X8_refuse (pc := 22)  hG dX8_windowOf_22 tw_390 (c_X8_refuse (bd_lit (n := 7) (by decide))) (by decide) (Nat.le_of_ble_eq_true rfl) ?_
    exact hret _ _ _ _ dX8_windowOf_25 (pair_fst (show sp_X8_windowOf M a0 a1 = ((sp_X8_refuse M (-2)).1, (sp_X8_refuse M (-2)).2) from (by unfold sp_X8_windowOf; exact (if_neg c1)))) (pair_snd (show sp_X8_windowOf M a0 a1 = ((sp_X8_refuse M (-2)).1, (sp_X8_refuse M (-2)).2) from (by unfold sp_X8_windowOf; exact (if_neg c1))))
  · refine r_iload_n (pc := 11) hG dX8_windowOf_11 rfl ?_
    refine r_iconst (pc := 12) hG dX8_windowOf_12 ic_2 ?_
    refine cs_X8_isWhat (pc := 13)  hG dX8_windowOf_13 tw_514 (c_X8_isWhat) (by decide) (Nat.le_of_ble_eq_true rfl) ?_
    refine r_ifz_ne (pc := 16) (tgt := 26) hG dX8_windowOf_16 (by decide) (fun c2 => ?_) (fun c2 => ?_)
    · refine r_aload_n (pc := 26) hG dX8_windowOf_26 rfl ?_
      refine gf_X8_live (pc := 27)  hG dX8_windowOf_27 tw_355 ?_
      refine gf_X5_windows (pc := 30) (by omega) hG dX8_windowOf_30 tw_163 ?_
      refine r_iload_n (pc := 33) hG dX8_windowOf_33 rfl ?_
      refine aa_WA (pc := 34) (by omega) hG dX8_windowOf_34 (ix_bd (hasW hwc0 c1)) ?_
      refine r_astore_n (pc := 35) (ls' := [_, _, _, _]) hG dX8_windowOf_35 rfl rfl ?_
      refine r_iload_n (pc := 36) hG dX8_windowOf_36 rfl ?_
      refine r_if_ne (pc := 37) (tgt := 45) hG dX8_windowOf_37 (by decide) (fun c3 => ?_) (fun c3 => ?_)
      · refine r_iload_n (pc := 45) hG dX8_windowOf_45 rfl ?_
        refine r_iconst (pc := 46) hG dX8_windowOf_46 ic_1 ?_
        refine r_icmp_ne (pc := 47) (tgt := 57) hG dX8_windowOf_47 (by decide) (fun c4 => ?_) (fun c4 => ?_)
        · refine r_aload_n (pc := 57) hG dX8_windowOf_57 rfl ?_
          refine gf_X7_thorns (pc := 58) (by omega) (bd_lt (hasW hwc0 c1)) hG dX8_windowOf_58 tw_121 ?_
          exact hret _ _ _ _ dX8_windowOf_61 (pair_fst (show sp_X8_windowOf M a0 a1 = (M.1 0 8 (tn a0), M) from (by unfold sp_X8_windowOf; exact ((if_pos c1).trans ((if_pos c2).trans ((if_neg c3).trans (if_neg c4))))))) (pair_snd (show sp_X8_windowOf M a0 a1 = (M.1 0 8 (tn a0), M) from (by unfold sp_X8_windowOf; exact ((if_pos c1).trans ((if_pos c2).trans ((if_neg c3).trans (if_neg c4)))))))
        · refine r_aload_n (pc := 50) hG dX8_windowOf_50 rfl ?_
          refine gf_X7_floor (pc := 51) (by omega) (bd_lt (hasW hwc0 c1)) hG dX8_windowOf_51 tw_118 ?_
          refine r_goto (pc := 54) (tgt := 61) hG dX8_windowOf_54 (by decide) ?_
          exact hret _ _ _ _ dX8_windowOf_61 (pair_fst (show sp_X8_windowOf M a0 a1 = (M.1 0 7 (tn a0), M) from (by unfold sp_X8_windowOf; exact ((if_pos c1).trans ((if_pos c2).trans ((if_neg c3).trans (if_pos c4))))))) (pair_snd (show sp_X8_windowOf M a0 a1 = (M.1 0 7 (tn a0), M) from (by unfold sp_X8_windowOf; exact ((if_pos c1).trans ((if_pos c2).trans ((if_neg c3).trans (if_pos c4)))))))
      · refine r_aload_n (pc := 40) hG dX8_windowOf_40 rfl ?_
        refine gf_X7_cell (pc := 41) (by omega) (bd_lt (hasW hwc0 c1)) hG dX8_windowOf_41 tw_115 ?_
        exact hret _ _ _ _ dX8_windowOf_44 (pair_fst (show sp_X8_windowOf M a0 a1 = (M.1 0 6 (tn a0), M) from (by unfold sp_X8_windowOf; exact ((if_pos c1).trans ((if_pos c2).trans (if_pos c3)))))) (pair_snd (show sp_X8_windowOf M a0 a1 = (M.1 0 6 (tn a0), M) from (by unfold sp_X8_windowOf; exact ((if_pos c1).trans ((if_pos c2).trans (if_pos c3))))))
    · refine r_aload_n (pc := 19) hG dX8_windowOf_19 rfl ?_
      refine r_bipush (pc := 20) hG dX8_windowOf_20 bc_m2 ?_
      refine cv_X8_refuse (pc := 22)  hG dX8_windowOf_22 tw_390 (c_X8_refuse (bd_lit (n := 7) (by decide))) (by decide) (Nat.le_of_ble_eq_true rfl) ?_
      exact hret _ _ _ _ dX8_windowOf_25 (pair_fst (show sp_X8_windowOf M a0 a1 = ((sp_X8_refuse M (-2)).1, (sp_X8_refuse M (-2)).2) from (by unfold sp_X8_windowOf; exact ((if_pos c1).trans (if_neg c2))))) (pair_snd (show sp_X8_windowOf M a0 a1 = ((sp_X8_refuse M (-2)).1, (sp_X8_refuse M (-2)).2) from (by unfold sp_X8_windowOf; exact ((if_pos c1).trans (if_neg c2)))))

def sp_X8_lands (M : MT) (a0 : Int32) (a1 : Int32) (a2 : Int32) : Int32 × MT :=
  if (sp_X8_isThrow M a0 a1 a2) = true then
    (sp_X5_landing M 0 a0 a1 a2, M)
  else
    ((sp_X8_refuse M (-2)).1, (sp_X8_refuse M (-2)).2)
set_option maxRecDepth 20000 in
theorem c_X8_lands {K : KT} {M : MT} {a0 : Int32} {a1 : Int32} {a2 : Int32}  (hokx : OKX M) : CM K 4 yX8_lands cX8_lands 4 (some FieldType.int) [rf K 0, .int a0, .int a1, .int a2] M (some (.int (sp_X8_lands M a0 a1 a2).1)) (sp_X8_lands M a0 a1 a2).2 := by
  refine CM.ofI (by decide) [some (rf K 0), some (.int a0), some (.int a1), some (.int a2)] rfl (Nat.le_of_ble_eq_true rfl) (Nat.le_of_ble_eq_true rfl) (fun G hG _ hret => ?_)
  obtain ⟨hok0, hok1, hoa2, hoa3, hoa4, hsh, htp⟩ := id hokx
  obtain ⟨hwc0, hpc0, ⟨hcl0, hcm0⟩, hwi0, hda0, hle0, hk80, ha80, hW0, hP0⟩ := id hok0
  have hwl0 := bd_lt hwc0
  have hpl0 := bd_lt hpc0
  have hcl0l := bd_lt hcl0
  refine r_aload_n (pc := 0) hG dX8_lands_0 rfl ?_
  refine r_iload_n (pc := 1) hG dX8_lands_1 rfl ?_
  refine r_iload_n (pc := 2) hG dX8_lands_2 rfl ?_
  refine r_iload_n (pc := 3) hG dX8_lands_3 rfl ?_
  refine cv_X8_isThrow (pc := 4)  hG dX8_lands_4 tw_677 (c_X8_isThrow) (by decide) (Nat.le_of_ble_eq_true rfl) ?_
  refine r_ifz_eq (pc := 7) (tgt := 23) hG dX8_lands_7 (by decide) (fun c1 => ?_) (fun c1 => ?_)
  · refine r_aload_n (pc := 23) hG dX8_lands_23 rfl ?_
    refine r_bipush (pc := 24) hG dX8_lands_24 bc_m2 ?_
    refine cv_X8_refuse (pc := 26)  hG dX8_lands_26 tw_390 (c_X8_refuse (bd_lit (n := 7) (by decide))) (by decide) (Nat.le_of_ble_eq_true rfl) ?_
    exact hret _ _ _ _ dX8_lands_29 (pair_fst (show sp_X8_lands M a0 a1 a2 = ((sp_X8_refuse M (-2)).1, (sp_X8_refuse M (-2)).2) from (by unfold sp_X8_lands; exact (if_neg c1)))) (pair_snd (show sp_X8_lands M a0 a1 a2 = ((sp_X8_refuse M (-2)).1, (sp_X8_refuse M (-2)).2) from (by unfold sp_X8_lands; exact (if_neg c1))))
  · refine r_aload_n (pc := 10) hG dX8_lands_10 rfl ?_
    refine gf_X8_live (pc := 11)  hG dX8_lands_11 tw_355 ?_
    refine r_iload_n (pc := 14) hG dX8_lands_14 rfl ?_
    refine r_iload_n (pc := 15) hG dX8_lands_15 rfl ?_
    refine r_iload_n (pc := 16) hG dX8_lands_16 rfl ?_
    refine cv_X5_landing (pc := 17) (by omega) hG dX8_lands_17 tw_681 (c_X5_landing (by omega) (isThr hwc0 c1)) (by decide) (Nat.le_of_ble_eq_true rfl) ?_
    refine r_goto (pc := 20) (tgt := 29) hG dX8_lands_20 (by decide) ?_
    exact hret _ _ _ _ dX8_lands_29 (pair_fst (show sp_X8_lands M a0 a1 a2 = (sp_X5_landing M 0 a0 a1 a2, M) from (by unfold sp_X8_lands; exact (if_pos c1)))) (pair_snd (show sp_X8_lands M a0 a1 a2 = (sp_X5_landing M 0 a0 a1 a2, M) from (by unfold sp_X8_lands; exact (if_pos c1))))

def sp_X8_caught (M : MT) (a0 : Int32) (a1 : Int32) (a2 : Int32) : Int32 × MT :=
  if (sp_X8_isThrow M a0 a1 a2) = true then
    (sp_X5_catcherOf M 0 a0 a1 a2, M)
  else
    ((sp_X8_refuse M (-2)).1, (sp_X8_refuse M (-2)).2)
set_option maxRecDepth 20000 in
theorem c_X8_caught {K : KT} {M : MT} {a0 : Int32} {a1 : Int32} {a2 : Int32}  (hokx : OKX M) : CM K 5 yX8_caught cX8_caught 4 (some FieldType.int) [rf K 0, .int a0, .int a1, .int a2] M (some (.int (sp_X8_caught M a0 a1 a2).1)) (sp_X8_caught M a0 a1 a2).2 := by
  refine CM.ofI (by decide) [some (rf K 0), some (.int a0), some (.int a1), some (.int a2)] rfl (Nat.le_of_ble_eq_true rfl) (Nat.le_of_ble_eq_true rfl) (fun G hG _ hret => ?_)
  obtain ⟨hok0, hok1, hoa2, hoa3, hoa4, hsh, htp⟩ := id hokx
  obtain ⟨hwc0, hpc0, ⟨hcl0, hcm0⟩, hwi0, hda0, hle0, hk80, ha80, hW0, hP0⟩ := id hok0
  have hwl0 := bd_lt hwc0
  have hpl0 := bd_lt hpc0
  have hcl0l := bd_lt hcl0
  refine r_aload_n (pc := 0) hG dX8_caught_0 rfl ?_
  refine r_iload_n (pc := 1) hG dX8_caught_1 rfl ?_
  refine r_iload_n (pc := 2) hG dX8_caught_2 rfl ?_
  refine r_iload_n (pc := 3) hG dX8_caught_3 rfl ?_
  refine cv_X8_isThrow (pc := 4)  hG dX8_caught_4 tw_677 (c_X8_isThrow) (by decide) (Nat.le_of_ble_eq_true rfl) ?_
  refine r_ifz_eq (pc := 7) (tgt := 23) hG dX8_caught_7 (by decide) (fun c1 => ?_) (fun c1 => ?_)
  · refine r_aload_n (pc := 23) hG dX8_caught_23 rfl ?_
    refine r_bipush (pc := 24) hG dX8_caught_24 bc_m2 ?_
    refine cv_X8_refuse (pc := 26)  hG dX8_caught_26 tw_390 (c_X8_refuse (bd_lit (n := 7) (by decide))) (by decide) (Nat.le_of_ble_eq_true rfl) ?_
    exact hret _ _ _ _ dX8_caught_29 (pair_fst (show sp_X8_caught M a0 a1 a2 = ((sp_X8_refuse M (-2)).1, (sp_X8_refuse M (-2)).2) from (by unfold sp_X8_caught; exact (if_neg c1)))) (pair_snd (show sp_X8_caught M a0 a1 a2 = ((sp_X8_refuse M (-2)).1, (sp_X8_refuse M (-2)).2) from (by unfold sp_X8_caught; exact (if_neg c1))))
  · refine r_aload_n (pc := 10) hG dX8_caught_10 rfl ?_
    refine gf_X8_live (pc := 11)  hG dX8_caught_11 tw_355 ?_
    refine r_iload_n (pc := 14) hG dX8_caught_14 rfl ?_
    refine r_iload_n (pc := 15) hG dX8_caught_15 rfl ?_
    refine r_iload_n (pc := 16) hG dX8_caught_16 rfl ?_
    refine cv_X5_catcherOf (pc := 17) (by omega) hG dX8_caught_17 tw_690 (c_X5_catcherOf (by omega) (isThr hwc0 c1) hok0) (by decide) (Nat.le_of_ble_eq_true rfl) ?_
    refine r_goto (pc := 20) (tgt := 29) hG dX8_caught_20 (by decide) ?_
    exact hret _ _ _ _ dX8_caught_29 (pair_fst (show sp_X8_caught M a0 a1 a2 = (sp_X5_catcherOf M 0 a0 a1 a2, M) from (by unfold sp_X8_caught; exact (if_pos c1)))) (pair_snd (show sp_X8_caught M a0 a1 a2 = (sp_X5_catcherOf M 0 a0 a1 a2, M) from (by unfold sp_X8_caught; exact (if_pos c1))))

def sp_X8_slow (M : MT) (a0 : Int32) (a1 : Int32) : Int32 × MT :=
  if (sp_X8_isCouple M a0 a1) = true then
    (sp_X5_slowOf M 0 a0 a1, M)
  else
    ((sp_X8_refuse M (-2)).1, (sp_X8_refuse M (-2)).2)
set_option maxRecDepth 20000 in
theorem c_X8_slow {K : KT} {M : MT} {a0 : Int32} {a1 : Int32}  (hokx : OKX M) : CM K 4 yX8_slow cX8_slow 3 (some FieldType.int) [rf K 0, .int a0, .int a1] M (some (.int (sp_X8_slow M a0 a1).1)) (sp_X8_slow M a0 a1).2 := by
  refine CM.ofI (by decide) [some (rf K 0), some (.int a0), some (.int a1)] rfl (Nat.le_of_ble_eq_true rfl) (Nat.le_of_ble_eq_true rfl) (fun G hG _ hret => ?_)
  obtain ⟨hok0, hok1, hoa2, hoa3, hoa4, hsh, htp⟩ := id hokx
  obtain ⟨hwc0, hpc0, ⟨hcl0, hcm0⟩, hwi0, hda0, hle0, hk80, ha80, hW0, hP0⟩ := id hok0
  have hwl0 := bd_lt hwc0
  have hpl0 := bd_lt hpc0
  have hcl0l := bd_lt hcl0
  refine r_aload_n (pc := 0) hG dX8_slow_0 rfl ?_
  refine r_iload_n (pc := 1) hG dX8_slow_1 rfl ?_
  refine r_iload_n (pc := 2) hG dX8_slow_2 rfl ?_
  refine cv_X8_isCouple (pc := 3)  hG dX8_slow_3 tw_719 (c_X8_isCouple) (by decide) (Nat.le_of_ble_eq_true rfl) ?_
  refine r_ifz_eq (pc := 6) (tgt := 21) hG dX8_slow_6 (by decide) (fun c1 => ?_) (fun c1 => ?_)
  · refine r_aload_n (pc := 21) hG dX8_slow_21 rfl ?_
    refine r_bipush (pc := 22) hG dX8_slow_22 bc_m2 ?_
    refine cv_X8_refuse (pc := 24)  hG dX8_slow_24 tw_390 (c_X8_refuse (bd_lit (n := 7) (by decide))) (by decide) (Nat.le_of_ble_eq_true rfl) ?_
    exact hret _ _ _ _ dX8_slow_27 (pair_fst (show sp_X8_slow M a0 a1 = ((sp_X8_refuse M (-2)).1, (sp_X8_refuse M (-2)).2) from (by unfold sp_X8_slow; exact (if_neg c1)))) (pair_snd (show sp_X8_slow M a0 a1 = ((sp_X8_refuse M (-2)).1, (sp_X8_refuse M (-2)).2) from (by unfold sp_X8_slow; exact (if_neg c1))))
  · refine r_aload_n (pc := 9) hG dX8_slow_9 rfl ?_
    refine gf_X8_live (pc := 10)  hG dX8_slow_10 tw_355 ?_
    refine r_iload_n (pc := 13) hG dX8_slow_13 rfl ?_
    refine r_iload_n (pc := 14) hG dX8_slow_14 rfl ?_
    refine cv_X5_slowOf (pc := 15) (by omega) hG dX8_slow_15 tw_723 (c_X5_slowOf (by omega) (isCpP hpc0 c1) (isCpW hwc0 c1)) (by decide) (Nat.le_of_ble_eq_true rfl) ?_
    refine r_goto (pc := 18) (tgt := 27) hG dX8_slow_18 (by decide) ?_
    exact hret _ _ _ _ dX8_slow_27 (pair_fst (show sp_X8_slow M a0 a1 = (sp_X5_slowOf M 0 a0 a1, M) from (by unfold sp_X8_slow; exact (if_pos c1)))) (pair_snd (show sp_X8_slow M a0 a1 = (sp_X5_slowOf M 0 a0 a1, M) from (by unfold sp_X8_slow; exact (if_pos c1))))

def sp_X8_comes (M : MT) (a0 : Int32) (a1 : Int32) : Int32 × MT :=
  if (sp_X8_isCouple M a0 a1) = true then
    if (sp_X5_dueDay M 0 a0 a1) = (-1) then
      (0, M)
    else
      (1, M)
  else
    ((sp_X8_refuse M (-2)).1, (sp_X8_refuse M (-2)).2)
set_option maxRecDepth 20000 in
theorem c_X8_comes {K : KT} {M : MT} {a0 : Int32} {a1 : Int32}  (hokx : OKX M) : CM K 5 yX8_comes cX8_comes 3 (some FieldType.int) [rf K 0, .int a0, .int a1] M (some (.int (sp_X8_comes M a0 a1).1)) (sp_X8_comes M a0 a1).2 := by
  refine CM.ofI (by decide) [some (rf K 0), some (.int a0), some (.int a1)] rfl (Nat.le_of_ble_eq_true rfl) (Nat.le_of_ble_eq_true rfl) (fun G hG _ hret => ?_)
  obtain ⟨hok0, hok1, hoa2, hoa3, hoa4, hsh, htp⟩ := id hokx
  obtain ⟨hwc0, hpc0, ⟨hcl0, hcm0⟩, hwi0, hda0, hle0, hk80, ha80, hW0, hP0⟩ := id hok0
  have hwl0 := bd_lt hwc0
  have hpl0 := bd_lt hpc0
  have hcl0l := bd_lt hcl0
  refine r_aload_n (pc := 0) hG dX8_comes_0 rfl ?_
  refine r_iload_n (pc := 1) hG dX8_comes_1 rfl ?_
  refine r_iload_n (pc := 2) hG dX8_comes_2 rfl ?_
  refine cv_X8_isCouple (pc := 3)  hG dX8_comes_3 tw_719 (c_X8_isCouple) (by decide) (Nat.le_of_ble_eq_true rfl) ?_
  refine r_ifz_ne (pc := 6) (tgt := 16) hG dX8_comes_6 (by decide) (fun c1 => ?_) (fun c1 => ?_)
  · refine r_aload_n (pc := 16) hG dX8_comes_16 rfl ?_
    refine gf_X8_live (pc := 17)  hG dX8_comes_17 tw_355 ?_
    refine r_iload_n (pc := 20) hG dX8_comes_20 rfl ?_
    refine r_iload_n (pc := 21) hG dX8_comes_21 rfl ?_
    refine cv_X5_dueDay (pc := 22) (by omega) hG dX8_comes_22 tw_732 (c_X5_dueDay (by omega) (isCpP hpc0 c1) (isCpW hwc0 c1)) (by decide) (Nat.le_of_ble_eq_true rfl) ?_
    refine r_iconst (pc := 25) hG dX8_comes_25 ic_m1 ?_
    refine r_icmp_eq (pc := 26) (tgt := 33) hG dX8_comes_26 (by decide) (fun c2 => ?_) (fun c2 => ?_)
    · refine r_iconst (pc := 33) hG dX8_comes_33 ic_0 ?_
      exact hret _ _ _ _ dX8_comes_34 (pair_fst (show sp_X8_comes M a0 a1 = (0, M) from (by unfold sp_X8_comes; exact ((if_pos c1).trans (if_pos c2))))) (pair_snd (show sp_X8_comes M a0 a1 = (0, M) from (by unfold sp_X8_comes; exact ((if_pos c1).trans (if_pos c2)))))
    · refine r_iconst (pc := 29) hG dX8_comes_29 ic_1 ?_
      refine r_goto (pc := 30) (tgt := 34) hG dX8_comes_30 (by decide) ?_
      exact hret _ _ _ _ dX8_comes_34 (pair_fst (show sp_X8_comes M a0 a1 = (1, M) from (by unfold sp_X8_comes; exact ((if_pos c1).trans (if_neg c2))))) (pair_snd (show sp_X8_comes M a0 a1 = (1, M) from (by unfold sp_X8_comes; exact ((if_pos c1).trans (if_neg c2)))))
  · refine r_aload_n (pc := 9) hG dX8_comes_9 rfl ?_
    refine r_bipush (pc := 10) hG dX8_comes_10 bc_m2 ?_
    refine cv_X8_refuse (pc := 12)  hG dX8_comes_12 tw_390 (c_X8_refuse (bd_lit (n := 7) (by decide))) (by decide) (Nat.le_of_ble_eq_true rfl) ?_
    exact hret _ _ _ _ dX8_comes_15 (pair_fst (show sp_X8_comes M a0 a1 = ((sp_X8_refuse M (-2)).1, (sp_X8_refuse M (-2)).2) from (by unfold sp_X8_comes; exact (if_neg c1)))) (pair_snd (show sp_X8_comes M a0 a1 = ((sp_X8_refuse M (-2)).1, (sp_X8_refuse M (-2)).2) from (by unfold sp_X8_comes; exact (if_neg c1))))

def sp_X8_throwsFor (M : MT) (a0 : Int32) (a1 : Int32) (a2 : Int32) : Int32 × MT :=
  if (sp_X8_isCouple M a0 a1) = true then
    if (sp_X8_isWhat a2 2) = true then
      if a2 = 0 then
        (sp_X5_countThrows M 0 a0 a1, M)
      else
        if (sp_X5_firstThrow M 0 a0 a1) = (-1) then
          ((-1), M)
        else
          if a2 = 1 then
            ((sp_X5_firstThrow M 0 a0 a1) / 10, M)
          else
            (irm (sp_X5_firstThrow M 0 a0 a1) 10, M)
    else
      ((sp_X8_refuse M (-2)).1, (sp_X8_refuse M (-2)).2)
  else
    ((sp_X8_refuse M (-2)).1, (sp_X8_refuse M (-2)).2)
set_option maxRecDepth 20000 in
theorem c_X8_throwsFor {K : KT} {M : MT} {a0 : Int32} {a1 : Int32} {a2 : Int32}  (hokx : OKX M) : CM K 6 yX8_throwsFor cX8_throwsFor 5 (some FieldType.int) [rf K 0, .int a0, .int a1, .int a2] M (some (.int (sp_X8_throwsFor M a0 a1 a2).1)) (sp_X8_throwsFor M a0 a1 a2).2 := by
  refine CM.ofI (by decide) [some (rf K 0), some (.int a0), some (.int a1), some (.int a2), none] rfl (Nat.le_of_ble_eq_true rfl) (Nat.le_of_ble_eq_true rfl) (fun G hG _ hret => ?_)
  obtain ⟨hok0, hok1, hoa2, hoa3, hoa4, hsh, htp⟩ := id hokx
  obtain ⟨hwc0, hpc0, ⟨hcl0, hcm0⟩, hwi0, hda0, hle0, hk80, ha80, hW0, hP0⟩ := id hok0
  have hwl0 := bd_lt hwc0
  have hpl0 := bd_lt hpc0
  have hcl0l := bd_lt hcl0
  refine r_aload_n (pc := 0) hG dX8_throwsFor_0 rfl ?_
  refine r_iload_n (pc := 1) hG dX8_throwsFor_1 rfl ?_
  refine r_iload_n (pc := 2) hG dX8_throwsFor_2 rfl ?_
  refine cv_X8_isCouple (pc := 3)  hG dX8_throwsFor_3 tw_719 (c_X8_isCouple) (by decide) (Nat.le_of_ble_eq_true rfl) ?_
  refine r_ifz_eq (pc := 6) (tgt := 17) hG dX8_throwsFor_6 (by decide) (fun c1 => ?_) (fun c1 => ?_)
  · refine r_aload_n (pc := 17) hG dX8_throwsFor_17 rfl ?_
    refine r_bipush (pc := 18) hG dX8_throwsFor_18 bc_m2 ?_
    refine cv_X8_refuse (pc := 20)  hG dX8_throwsFor_20 tw_390 (c_X8_refuse (bd_lit (n := 7) (by decide))) (by decide) (Nat.le_of_ble_eq_true rfl) ?_
    exact hret _ _ _ _ dX8_throwsFor_23 (pair_fst (show sp_X8_throwsFor M a0 a1 a2 = ((sp_X8_refuse M (-2)).1, (sp_X8_refuse M (-2)).2) from (by unfold sp_X8_throwsFor; exact (if_neg c1)))) (pair_snd (show sp_X8_throwsFor M a0 a1 a2 = ((sp_X8_refuse M (-2)).1, (sp_X8_refuse M (-2)).2) from (by unfold sp_X8_throwsFor; exact (if_neg c1))))
  · refine r_iload_n (pc := 9) hG dX8_throwsFor_9 rfl ?_
    refine r_iconst (pc := 10) hG dX8_throwsFor_10 ic_2 ?_
    refine cs_X8_isWhat (pc := 11)  hG dX8_throwsFor_11 tw_514 (c_X8_isWhat) (by decide) (Nat.le_of_ble_eq_true rfl) ?_
    refine r_ifz_ne (pc := 14) (tgt := 24) hG dX8_throwsFor_14 (by decide) (fun c2 => ?_) (fun c2 => ?_)
    · refine r_iload_n (pc := 24) hG dX8_throwsFor_24 rfl ?_
      refine r_if_ne (pc := 25) (tgt := 38) hG dX8_throwsFor_25 (by decide) (fun c3 => ?_) (fun c3 => ?_)
      · refine r_aload_n (pc := 38) hG dX8_throwsFor_38 rfl ?_
        refine gf_X8_live (pc := 39)  hG dX8_throwsFor_39 tw_355 ?_
        refine r_iload_n (pc := 42) hG dX8_throwsFor_42 rfl ?_
        refine r_iload_n (pc := 43) hG dX8_throwsFor_43 rfl ?_
        refine cv_X5_firstThrow (pc := 44) (by omega) hG dX8_throwsFor_44 tw_751 (c_X5_firstThrow (by omega) (isCpW hwc0 c1) hok0) (by decide) (Nat.le_of_ble_eq_true rfl) ?_
        refine r_istore (pc := 47) (ls' := [_, _, _, _, _]) hG dX8_throwsFor_47 rfl rfl ?_
        refine r_iload (pc := 49) hG dX8_throwsFor_49 rfl ?_
        refine r_iconst (pc := 51) hG dX8_throwsFor_51 ic_m1 ?_
        refine r_icmp_ne (pc := 52) (tgt := 57) hG dX8_throwsFor_52 (by decide) (fun c4 => ?_) (fun c4 => ?_)
        · refine r_iload_n (pc := 57) hG dX8_throwsFor_57 rfl ?_
          refine r_iconst (pc := 58) hG dX8_throwsFor_58 ic_1 ?_
          refine r_icmp_ne (pc := 59) (tgt := 70) hG dX8_throwsFor_59 (by decide) (fun c5 => ?_) (fun c5 => ?_)
          · refine r_iload (pc := 70) hG dX8_throwsFor_70 rfl ?_
            refine r_bipush (pc := 72) hG dX8_throwsFor_72 bc_10 ?_
            refine r_irem (pc := 74) hG dX8_throwsFor_74 (by decide) ?_
            exact hret _ _ _ _ dX8_throwsFor_75 (pair_fst (show sp_X8_throwsFor M a0 a1 a2 = (irm (sp_X5_firstThrow M 0 a0 a1) 10, M) from (by unfold sp_X8_throwsFor; exact ((if_pos c1).trans ((if_pos c2).trans ((if_neg c3).trans ((if_neg c4).trans (if_neg c5)))))))) (pair_snd (show sp_X8_throwsFor M a0 a1 a2 = (irm (sp_X5_firstThrow M 0 a0 a1) 10, M) from (by unfold sp_X8_throwsFor; exact ((if_pos c1).trans ((if_pos c2).trans ((if_neg c3).trans ((if_neg c4).trans (if_neg c5))))))))
          · refine r_iload (pc := 62) hG dX8_throwsFor_62 rfl ?_
            refine r_bipush (pc := 64) hG dX8_throwsFor_64 bc_10 ?_
            refine r_idiv (pc := 66) hG dX8_throwsFor_66 (by decide) ?_
            refine r_goto (pc := 67) (tgt := 75) hG dX8_throwsFor_67 (by decide) ?_
            exact hret _ _ _ _ dX8_throwsFor_75 (pair_fst (show sp_X8_throwsFor M a0 a1 a2 = ((sp_X5_firstThrow M 0 a0 a1) / 10, M) from (by unfold sp_X8_throwsFor; exact ((if_pos c1).trans ((if_pos c2).trans ((if_neg c3).trans ((if_neg c4).trans (if_pos c5)))))))) (pair_snd (show sp_X8_throwsFor M a0 a1 a2 = ((sp_X5_firstThrow M 0 a0 a1) / 10, M) from (by unfold sp_X8_throwsFor; exact ((if_pos c1).trans ((if_pos c2).trans ((if_neg c3).trans ((if_neg c4).trans (if_pos c5))))))))
        · refine r_iconst (pc := 55) hG dX8_throwsFor_55 ic_m1 ?_
          exact hret _ _ _ _ dX8_throwsFor_56 (pair_fst (show sp_X8_throwsFor M a0 a1 a2 = ((-1), M) from (by unfold sp_X8_throwsFor; exact ((if_pos c1).trans ((if_pos c2).trans ((if_neg c3).trans (if_pos c4))))))) (pair_snd (show sp_X8_throwsFor M a0 a1 a2 = ((-1), M) from (by unfold sp_X8_throwsFor; exact ((if_pos c1).trans ((if_pos c2).trans ((if_neg c3).trans (if_pos c4)))))))
      · refine r_aload_n (pc := 28) hG dX8_throwsFor_28 rfl ?_
        refine gf_X8_live (pc := 29)  hG dX8_throwsFor_29 tw_355 ?_
        refine r_iload_n (pc := 32) hG dX8_throwsFor_32 rfl ?_
        refine r_iload_n (pc := 33) hG dX8_throwsFor_33 rfl ?_
        refine cv_X5_countThrows (pc := 34) (by omega) hG dX8_throwsFor_34 tw_746 (c_X5_countThrows (by omega) (isCpW hwc0 c1) hok0) (by decide) (Nat.le_of_ble_eq_true rfl) ?_
        exact hret _ _ _ _ dX8_throwsFor_37 (pair_fst (show sp_X8_throwsFor M a0 a1 a2 = (sp_X5_countThrows M 0 a0 a1, M) from (by unfold sp_X8_throwsFor; exact ((if_pos c1).trans ((if_pos c2).trans (if_pos c3)))))) (pair_snd (show sp_X8_throwsFor M a0 a1 a2 = (sp_X5_countThrows M 0 a0 a1, M) from (by unfold sp_X8_throwsFor; exact ((if_pos c1).trans ((if_pos c2).trans (if_pos c3))))))
    · refine r_aload_n (pc := 17) hG dX8_throwsFor_17 rfl ?_
      refine r_bipush (pc := 18) hG dX8_throwsFor_18 bc_m2 ?_
      refine cv_X8_refuse (pc := 20)  hG dX8_throwsFor_20 tw_390 (c_X8_refuse (bd_lit (n := 7) (by decide))) (by decide) (Nat.le_of_ble_eq_true rfl) ?_
      exact hret _ _ _ _ dX8_throwsFor_23 (pair_fst (show sp_X8_throwsFor M a0 a1 a2 = ((sp_X8_refuse M (-2)).1, (sp_X8_refuse M (-2)).2) from (by unfold sp_X8_throwsFor; exact ((if_pos c1).trans (if_neg c2))))) (pair_snd (show sp_X8_throwsFor M a0 a1 a2 = ((sp_X8_refuse M (-2)).1, (sp_X8_refuse M (-2)).2) from (by unfold sp_X8_throwsFor; exact ((if_pos c1).trans (if_neg c2)))))

def sp_X8_hit (M : MT) (a0 : Int32) : Int32 × MT :=
  if (sp_X5_hasWindow M 0 a0) = true then
    (sp_X5_peopleHit M 0 a0, M)
  else
    ((sp_X8_refuse M (-2)).1, (sp_X8_refuse M (-2)).2)
set_option maxRecDepth 20000 in
theorem c_X8_hit {K : KT} {M : MT} {a0 : Int32}  (hokx : OKX M) : CM K 6 yX8_hit cX8_hit 2 (some FieldType.int) [rf K 0, .int a0] M (some (.int (sp_X8_hit M a0).1)) (sp_X8_hit M a0).2 := by
  refine CM.ofI (by decide) [some (rf K 0), some (.int a0)] rfl (Nat.le_of_ble_eq_true rfl) (Nat.le_of_ble_eq_true rfl) (fun G hG _ hret => ?_)
  obtain ⟨hok0, hok1, hoa2, hoa3, hoa4, hsh, htp⟩ := id hokx
  obtain ⟨hwc0, hpc0, ⟨hcl0, hcm0⟩, hwi0, hda0, hle0, hk80, ha80, hW0, hP0⟩ := id hok0
  have hwl0 := bd_lt hwc0
  have hpl0 := bd_lt hpc0
  have hcl0l := bd_lt hcl0
  refine r_aload_n (pc := 0) hG dX8_hit_0 rfl ?_
  refine gf_X8_live (pc := 1)  hG dX8_hit_1 tw_355 ?_
  refine r_iload_n (pc := 4) hG dX8_hit_4 rfl ?_
  refine cv_X5_hasWindow (pc := 5) (by omega) hG dX8_hit_5 tw_669 (c_X5_hasWindow (by omega)) (by decide) (Nat.le_of_ble_eq_true rfl) ?_
  refine r_ifz_eq (pc := 8) (tgt := 22) hG dX8_hit_8 (by decide) (fun c1 => ?_) (fun c1 => ?_)
  · refine r_aload_n (pc := 22) hG dX8_hit_22 rfl ?_
    refine r_bipush (pc := 23) hG dX8_hit_23 bc_m2 ?_
    refine cv_X8_refuse (pc := 25)  hG dX8_hit_25 tw_390 (c_X8_refuse (bd_lit (n := 7) (by decide))) (by decide) (Nat.le_of_ble_eq_true rfl) ?_
    exact hret _ _ _ _ dX8_hit_28 (pair_fst (show sp_X8_hit M a0 = ((sp_X8_refuse M (-2)).1, (sp_X8_refuse M (-2)).2) from (by unfold sp_X8_hit; exact (if_neg c1)))) (pair_snd (show sp_X8_hit M a0 = ((sp_X8_refuse M (-2)).1, (sp_X8_refuse M (-2)).2) from (by unfold sp_X8_hit; exact (if_neg c1))))
  · refine r_aload_n (pc := 11) hG dX8_hit_11 rfl ?_
    refine gf_X8_live (pc := 12)  hG dX8_hit_12 tw_355 ?_
    refine r_iload_n (pc := 15) hG dX8_hit_15 rfl ?_
    refine cv_X5_peopleHit (pc := 16) (by omega) hG dX8_hit_16 tw_759 (c_X5_peopleHit (by omega) (hasW hwc0 c1) hok0) (by decide) (Nat.le_of_ble_eq_true rfl) ?_
    refine r_goto (pc := 19) (tgt := 28) hG dX8_hit_19 (by decide) ?_
    exact hret _ _ _ _ dX8_hit_28 (pair_fst (show sp_X8_hit M a0 = (sp_X5_peopleHit M 0 a0, M) from (by unfold sp_X8_hit; exact (if_pos c1)))) (pair_snd (show sp_X8_hit M a0 = (sp_X5_peopleHit M 0 a0, M) from (by unfold sp_X8_hit; exact (if_pos c1))))

def sp_X8_whose (M : MT) (a0 : Int32) (a1 : Int32) (a2 : Int32) : Int32 × MT :=
  if (sp_X5_hasPerson M 0 a0) = true then
    if (sp_X8_isThorns a1) = true then
      if (sp_X8_isWhat a2 2) = true then
        if a2 = 0 then
          (sp_X5_windowsWithin M 0 a0 a1, M)
        else
          if a2 = 1 then
            (sp_X5_floorsTogether M 0 (sp_X5_windowsWithin M 0 a0 a1), M)
          else
            (sp_X5_lowestOf M 0 (sp_X5_windowsWithin M 0 a0 a1), M)
      else
        ((sp_X8_refuse M (-2)).1, (sp_X8_refuse M (-2)).2)
    else
      ((sp_X8_refuse M (-2)).1, (sp_X8_refuse M (-2)).2)
  else
    ((sp_X8_refuse M (-2)).1, (sp_X8_refuse M (-2)).2)
set_option maxRecDepth 20000 in
theorem c_X8_whose {K : KT} {M : MT} {a0 : Int32} {a1 : Int32} {a2 : Int32}  (hokx : OKX M) : CM K 7 yX8_whose cX8_whose 5 (some FieldType.int) [rf K 0, .int a0, .int a1, .int a2] M (some (.int (sp_X8_whose M a0 a1 a2).1)) (sp_X8_whose M a0 a1 a2).2 := by
  refine CM.ofI (by decide) [some (rf K 0), some (.int a0), some (.int a1), some (.int a2), none] rfl (Nat.le_of_ble_eq_true rfl) (Nat.le_of_ble_eq_true rfl) (fun G hG _ hret => ?_)
  obtain ⟨hok0, hok1, hoa2, hoa3, hoa4, hsh, htp⟩ := id hokx
  obtain ⟨hwc0, hpc0, ⟨hcl0, hcm0⟩, hwi0, hda0, hle0, hk80, ha80, hW0, hP0⟩ := id hok0
  have hwl0 := bd_lt hwc0
  have hpl0 := bd_lt hpc0
  have hcl0l := bd_lt hcl0
  refine r_aload_n (pc := 0) hG dX8_whose_0 rfl ?_
  refine gf_X8_live (pc := 1)  hG dX8_whose_1 tw_355 ?_
  refine r_iload_n (pc := 4) hG dX8_whose_4 rfl ?_
  refine cv_X5_hasPerson (pc := 5) (by omega) hG dX8_whose_5 tw_442 (c_X5_hasPerson (by omega)) (by decide) (Nat.le_of_ble_eq_true rfl) ?_
  refine r_ifz_eq (pc := 8) (tgt := 26) hG dX8_whose_8 (by decide) (fun c1 => ?_) (fun c1 => ?_)
  · refine r_aload_n (pc := 26) hG dX8_whose_26 rfl ?_
    refine r_bipush (pc := 27) hG dX8_whose_27 bc_m2 ?_
    refine cv_X8_refuse (pc := 29)  hG dX8_whose_29 tw_390 (c_X8_refuse (bd_lit (n := 7) (by decide))) (by decide) (Nat.le_of_ble_eq_true rfl) ?_
    exact hret _ _ _ _ dX8_whose_32 (pair_fst (show sp_X8_whose M a0 a1 a2 = ((sp_X8_refuse M (-2)).1, (sp_X8_refuse M (-2)).2) from (by unfold sp_X8_whose; exact (if_neg c1)))) (pair_snd (show sp_X8_whose M a0 a1 a2 = ((sp_X8_refuse M (-2)).1, (sp_X8_refuse M (-2)).2) from (by unfold sp_X8_whose; exact (if_neg c1))))
  · refine r_iload_n (pc := 11) hG dX8_whose_11 rfl ?_
    refine cs_X8_isThorns (pc := 12)  hG dX8_whose_12 tw_479 (c_X8_isThorns) (by decide) (Nat.le_of_ble_eq_true rfl) ?_
    refine r_ifz_eq (pc := 15) (tgt := 26) hG dX8_whose_15 (by decide) (fun c2 => ?_) (fun c2 => ?_)
    · refine r_aload_n (pc := 26) hG dX8_whose_26 rfl ?_
      refine r_bipush (pc := 27) hG dX8_whose_27 bc_m2 ?_
      refine cv_X8_refuse (pc := 29)  hG dX8_whose_29 tw_390 (c_X8_refuse (bd_lit (n := 7) (by decide))) (by decide) (Nat.le_of_ble_eq_true rfl) ?_
      exact hret _ _ _ _ dX8_whose_32 (pair_fst (show sp_X8_whose M a0 a1 a2 = ((sp_X8_refuse M (-2)).1, (sp_X8_refuse M (-2)).2) from (by unfold sp_X8_whose; exact ((if_pos c1).trans (if_neg c2))))) (pair_snd (show sp_X8_whose M a0 a1 a2 = ((sp_X8_refuse M (-2)).1, (sp_X8_refuse M (-2)).2) from (by unfold sp_X8_whose; exact ((if_pos c1).trans (if_neg c2)))))
    · refine r_iload_n (pc := 18) hG dX8_whose_18 rfl ?_
      refine r_iconst (pc := 19) hG dX8_whose_19 ic_2 ?_
      refine cs_X8_isWhat (pc := 20)  hG dX8_whose_20 tw_514 (c_X8_isWhat) (by decide) (Nat.le_of_ble_eq_true rfl) ?_
      refine r_ifz_ne (pc := 23) (tgt := 33) hG dX8_whose_23 (by decide) (fun c3 => ?_) (fun c3 => ?_)
      · refine r_aload_n (pc := 33) hG dX8_whose_33 rfl ?_
        refine gf_X8_live (pc := 34)  hG dX8_whose_34 tw_355 ?_
        refine r_iload_n (pc := 37) hG dX8_whose_37 rfl ?_
        refine r_iload_n (pc := 38) hG dX8_whose_38 rfl ?_
        refine cv_X5_windowsWithin (pc := 39) (by omega) hG dX8_whose_39 tw_790 (c_X5_windowsWithin (by omega) (hasP hpc0 c1) hok0) (by decide) (Nat.le_of_ble_eq_true rfl) ?_
        refine r_istore (pc := 42) (ls' := [_, _, _, _, _]) hG dX8_whose_42 rfl rfl ?_
        refine r_iload_n (pc := 44) hG dX8_whose_44 rfl ?_
        refine r_if_ne (pc := 45) (tgt := 51) hG dX8_whose_45 (by decide) (fun c4 => ?_) (fun c4 => ?_)
        · refine r_iload_n (pc := 51) hG dX8_whose_51 rfl ?_
          refine r_iconst (pc := 52) hG dX8_whose_52 ic_1 ?_
          refine r_icmp_ne (pc := 53) (tgt := 68) hG dX8_whose_53 (by decide) (fun c5 => ?_) (fun c5 => ?_)
          · refine r_aload_n (pc := 68) hG dX8_whose_68 rfl ?_
            refine gf_X8_live (pc := 69)  hG dX8_whose_69 tw_355 ?_
            refine r_iload (pc := 72) hG dX8_whose_72 rfl ?_
            refine cv_X5_lowestOf (pc := 74) (by omega) hG dX8_whose_74 tw_806 (c_X5_lowestOf (by omega) hok0) (by decide) (Nat.le_of_ble_eq_true rfl) ?_
            exact hret _ _ _ _ dX8_whose_77 (pair_fst (show sp_X8_whose M a0 a1 a2 = (sp_X5_lowestOf M 0 (sp_X5_windowsWithin M 0 a0 a1), M) from (by unfold sp_X8_whose; exact ((if_pos c1).trans ((if_pos c2).trans ((if_pos c3).trans ((if_neg c4).trans (if_neg c5)))))))) (pair_snd (show sp_X8_whose M a0 a1 a2 = (sp_X5_lowestOf M 0 (sp_X5_windowsWithin M 0 a0 a1), M) from (by unfold sp_X8_whose; exact ((if_pos c1).trans ((if_pos c2).trans ((if_pos c3).trans ((if_neg c4).trans (if_neg c5))))))))
          · refine r_aload_n (pc := 56) hG dX8_whose_56 rfl ?_
            refine gf_X8_live (pc := 57)  hG dX8_whose_57 tw_355 ?_
            refine r_iload (pc := 60) hG dX8_whose_60 rfl ?_
            refine cv_X5_floorsTogether (pc := 62) (by omega) hG dX8_whose_62 tw_802 (c_X5_floorsTogether (by omega) hok0) (by decide) (Nat.le_of_ble_eq_true rfl) ?_
            refine r_goto (pc := 65) (tgt := 77) hG dX8_whose_65 (by decide) ?_
            exact hret _ _ _ _ dX8_whose_77 (pair_fst (show sp_X8_whose M a0 a1 a2 = (sp_X5_floorsTogether M 0 (sp_X5_windowsWithin M 0 a0 a1), M) from (by unfold sp_X8_whose; exact ((if_pos c1).trans ((if_pos c2).trans ((if_pos c3).trans ((if_neg c4).trans (if_pos c5)))))))) (pair_snd (show sp_X8_whose M a0 a1 a2 = (sp_X5_floorsTogether M 0 (sp_X5_windowsWithin M 0 a0 a1), M) from (by unfold sp_X8_whose; exact ((if_pos c1).trans ((if_pos c2).trans ((if_pos c3).trans ((if_neg c4).trans (if_pos c5))))))))
        · refine r_iload (pc := 48) hG dX8_whose_48 rfl ?_
          exact hret _ _ _ _ dX8_whose_50 (pair_fst (show sp_X8_whose M a0 a1 a2 = (sp_X5_windowsWithin M 0 a0 a1, M) from (by unfold sp_X8_whose; exact ((if_pos c1).trans ((if_pos c2).trans ((if_pos c3).trans (if_pos c4))))))) (pair_snd (show sp_X8_whose M a0 a1 a2 = (sp_X5_windowsWithin M 0 a0 a1, M) from (by unfold sp_X8_whose; exact ((if_pos c1).trans ((if_pos c2).trans ((if_pos c3).trans (if_pos c4)))))))
      · refine r_aload_n (pc := 26) hG dX8_whose_26 rfl ?_
        refine r_bipush (pc := 27) hG dX8_whose_27 bc_m2 ?_
        refine cv_X8_refuse (pc := 29)  hG dX8_whose_29 tw_390 (c_X8_refuse (bd_lit (n := 7) (by decide))) (by decide) (Nat.le_of_ble_eq_true rfl) ?_
        exact hret _ _ _ _ dX8_whose_32 (pair_fst (show sp_X8_whose M a0 a1 a2 = ((sp_X8_refuse M (-2)).1, (sp_X8_refuse M (-2)).2) from (by unfold sp_X8_whose; exact ((if_pos c1).trans ((if_pos c2).trans (if_neg c3)))))) (pair_snd (show sp_X8_whose M a0 a1 a2 = ((sp_X8_refuse M (-2)).1, (sp_X8_refuse M (-2)).2) from (by unfold sp_X8_whose; exact ((if_pos c1).trans ((if_pos c2).trans (if_neg c3))))))

def sp_X8_fond (M : MT) (a0 : Int32) (a1 : Int32) : Int32 × MT :=
  if (sp_X8_isCouple M a1 a0) = true then
    (sp_X5_fondness M 0 a0 a1, M)
  else
    ((sp_X8_refuse M (-2)).1, (sp_X8_refuse M (-2)).2)
set_option maxRecDepth 20000 in
theorem c_X8_fond {K : KT} {M : MT} {a0 : Int32} {a1 : Int32}  (hokx : OKX M) : CM K 4 yX8_fond cX8_fond 3 (some FieldType.int) [rf K 0, .int a0, .int a1] M (some (.int (sp_X8_fond M a0 a1).1)) (sp_X8_fond M a0 a1).2 := by
  refine CM.ofI (by decide) [some (rf K 0), some (.int a0), some (.int a1)] rfl (Nat.le_of_ble_eq_true rfl) (Nat.le_of_ble_eq_true rfl) (fun G hG _ hret => ?_)
  obtain ⟨hok0, hok1, hoa2, hoa3, hoa4, hsh, htp⟩ := id hokx
  obtain ⟨hwc0, hpc0, ⟨hcl0, hcm0⟩, hwi0, hda0, hle0, hk80, ha80, hW0, hP0⟩ := id hok0
  have hwl0 := bd_lt hwc0
  have hpl0 := bd_lt hpc0
  have hcl0l := bd_lt hcl0
  refine r_aload_n (pc := 0) hG dX8_fond_0 rfl ?_
  refine r_iload_n (pc := 1) hG dX8_fond_1 rfl ?_
  refine r_iload_n (pc := 2) hG dX8_fond_2 rfl ?_
  refine cv_X8_isCouple (pc := 3)  hG dX8_fond_3 tw_719 (c_X8_isCouple) (by decide) (Nat.le_of_ble_eq_true rfl) ?_
  refine r_ifz_eq (pc := 6) (tgt := 21) hG dX8_fond_6 (by decide) (fun c1 => ?_) (fun c1 => ?_)
  · refine r_aload_n (pc := 21) hG dX8_fond_21 rfl ?_
    refine r_bipush (pc := 22) hG dX8_fond_22 bc_m2 ?_
    refine cv_X8_refuse (pc := 24)  hG dX8_fond_24 tw_390 (c_X8_refuse (bd_lit (n := 7) (by decide))) (by decide) (Nat.le_of_ble_eq_true rfl) ?_
    exact hret _ _ _ _ dX8_fond_27 (pair_fst (show sp_X8_fond M a0 a1 = ((sp_X8_refuse M (-2)).1, (sp_X8_refuse M (-2)).2) from (by unfold sp_X8_fond; exact (if_neg c1)))) (pair_snd (show sp_X8_fond M a0 a1 = ((sp_X8_refuse M (-2)).1, (sp_X8_refuse M (-2)).2) from (by unfold sp_X8_fond; exact (if_neg c1))))
  · refine r_aload_n (pc := 9) hG dX8_fond_9 rfl ?_
    refine gf_X8_live (pc := 10)  hG dX8_fond_10 tw_355 ?_
    refine r_iload_n (pc := 13) hG dX8_fond_13 rfl ?_
    refine r_iload_n (pc := 14) hG dX8_fond_14 rfl ?_
    refine cv_X5_fondness (pc := 15) (by omega) hG dX8_fond_15 tw_814 (c_X5_fondness (by omega) (isCpW hwc0 c1) (isCpP hpc0 c1)) (by decide) (Nat.le_of_ble_eq_true rfl) ?_
    refine r_goto (pc := 18) (tgt := 27) hG dX8_fond_18 (by decide) ?_
    exact hret _ _ _ _ dX8_fond_27 (pair_fst (show sp_X8_fond M a0 a1 = (sp_X5_fondness M 0 a0 a1, M) from (by unfold sp_X8_fond; exact (if_pos c1)))) (pair_snd (show sp_X8_fond M a0 a1 = (sp_X5_fondness M 0 a0 a1, M) from (by unfold sp_X8_fond; exact (if_pos c1))))

def sp_X8_queue (M : MT) (a0 : Int32) (a1 : Int32) : Int32 × MT :=
  if (sp_X5_hasWindow M 0 a0) = true then
    if (sp_X8_within a1 0 999) = true then
      (sp_X5_queueLength M 0 a0 a1, M)
    else
      ((sp_X8_refuse M (-2)).1, (sp_X8_refuse M (-2)).2)
  else
    ((sp_X8_refuse M (-2)).1, (sp_X8_refuse M (-2)).2)
set_option maxRecDepth 20000 in
theorem c_X8_queue {K : KT} {M : MT} {a0 : Int32} {a1 : Int32}  (hokx : OKX M) : CM K 3 yX8_queue cX8_queue 3 (some FieldType.int) [rf K 0, .int a0, .int a1] M (some (.int (sp_X8_queue M a0 a1).1)) (sp_X8_queue M a0 a1).2 := by
  refine CM.ofI (by decide) [some (rf K 0), some (.int a0), some (.int a1)] rfl (Nat.le_of_ble_eq_true rfl) (Nat.le_of_ble_eq_true rfl) (fun G hG _ hret => ?_)
  obtain ⟨hok0, hok1, hoa2, hoa3, hoa4, hsh, htp⟩ := id hokx
  obtain ⟨hwc0, hpc0, ⟨hcl0, hcm0⟩, hwi0, hda0, hle0, hk80, ha80, hW0, hP0⟩ := id hok0
  have hwl0 := bd_lt hwc0
  have hpl0 := bd_lt hpc0
  have hcl0l := bd_lt hcl0
  refine r_aload_n (pc := 0) hG dX8_queue_0 rfl ?_
  refine gf_X8_live (pc := 1)  hG dX8_queue_1 tw_355 ?_
  refine r_iload_n (pc := 4) hG dX8_queue_4 rfl ?_
  refine cv_X5_hasWindow (pc := 5) (by omega) hG dX8_queue_5 tw_669 (c_X5_hasWindow (by omega)) (by decide) (Nat.le_of_ble_eq_true rfl) ?_
  refine r_ifz_eq (pc := 8) (tgt := 22) hG dX8_queue_8 (by decide) (fun c1 => ?_) (fun c1 => ?_)
  · refine r_aload_n (pc := 22) hG dX8_queue_22 rfl ?_
    refine r_bipush (pc := 23) hG dX8_queue_23 bc_m2 ?_
    refine cv_X8_refuse (pc := 25)  hG dX8_queue_25 tw_390 (c_X8_refuse (bd_lit (n := 7) (by decide))) (by decide) (Nat.le_of_ble_eq_true rfl) ?_
    exact hret _ _ _ _ dX8_queue_28 (pair_fst (show sp_X8_queue M a0 a1 = ((sp_X8_refuse M (-2)).1, (sp_X8_refuse M (-2)).2) from (by unfold sp_X8_queue; exact (if_neg c1)))) (pair_snd (show sp_X8_queue M a0 a1 = ((sp_X8_refuse M (-2)).1, (sp_X8_refuse M (-2)).2) from (by unfold sp_X8_queue; exact (if_neg c1))))
  · refine r_iload_n (pc := 11) hG dX8_queue_11 rfl ?_
    refine r_iconst (pc := 12) hG dX8_queue_12 ic_0 ?_
    refine r_sipush (pc := 13) hG dX8_queue_13 sc_999 ?_
    refine cs_X8_within (pc := 16)  hG dX8_queue_16 tw_387 (c_X8_within) (by decide) (Nat.le_of_ble_eq_true rfl) ?_
    refine r_ifz_ne (pc := 19) (tgt := 29) hG dX8_queue_19 (by decide) (fun c2 => ?_) (fun c2 => ?_)
    · refine r_aload_n (pc := 29) hG dX8_queue_29 rfl ?_
      refine gf_X8_live (pc := 30)  hG dX8_queue_30 tw_355 ?_
      refine r_iload_n (pc := 33) hG dX8_queue_33 rfl ?_
      refine r_iload_n (pc := 34) hG dX8_queue_34 rfl ?_
      refine cv_X5_queueLength (pc := 35) (by omega) hG dX8_queue_35 tw_925 (c_X5_queueLength (by omega) hok0) (by decide) (Nat.le_of_ble_eq_true rfl) ?_
      exact hret _ _ _ _ dX8_queue_38 (pair_fst (show sp_X8_queue M a0 a1 = (sp_X5_queueLength M 0 a0 a1, M) from (by unfold sp_X8_queue; exact ((if_pos c1).trans (if_pos c2))))) (pair_snd (show sp_X8_queue M a0 a1 = (sp_X5_queueLength M 0 a0 a1, M) from (by unfold sp_X8_queue; exact ((if_pos c1).trans (if_pos c2)))))
    · refine r_aload_n (pc := 22) hG dX8_queue_22 rfl ?_
      refine r_bipush (pc := 23) hG dX8_queue_23 bc_m2 ?_
      refine cv_X8_refuse (pc := 25)  hG dX8_queue_25 tw_390 (c_X8_refuse (bd_lit (n := 7) (by decide))) (by decide) (Nat.le_of_ble_eq_true rfl) ?_
      exact hret _ _ _ _ dX8_queue_28 (pair_fst (show sp_X8_queue M a0 a1 = ((sp_X8_refuse M (-2)).1, (sp_X8_refuse M (-2)).2) from (by unfold sp_X8_queue; exact ((if_pos c1).trans (if_neg c2))))) (pair_snd (show sp_X8_queue M a0 a1 = ((sp_X8_refuse M (-2)).1, (sp_X8_refuse M (-2)).2) from (by unfold sp_X8_queue; exact ((if_pos c1).trans (if_neg c2)))))

def sp_X8_longest (M : MT) (a0 : Int32) : Int32 × MT :=
  if (sp_X8_isWhat a0 2) = true then
    if (sp_X5_longestWaiter M 0) = (-1) then
      if a0 = 0 then
        (0, M)
      else
        ((-1), M)
    else
      if a0 = 0 then
        (sp_X5_queueLength M 0 (M.1 0 12 (tn (sp_X5_longestWaiter M 0))) (M.1 0 13 (tn (sp_X5_longestWaiter M 0))), M)
      else
        if a0 = 1 then
          (M.1 0 13 (tn (sp_X5_longestWaiter M 0)), M)
        else
          (M.1 0 12 (tn (sp_X5_longestWaiter M 0)), M)
  else
    ((sp_X8_refuse M (-2)).1, (sp_X8_refuse M (-2)).2)
set_option maxRecDepth 20000 in
theorem c_X8_longest {K : KT} {M : MT} {a0 : Int32}  (hokx : OKX M) : CM K 4 yX8_longest cX8_longest 4 (some FieldType.int) [rf K 0, .int a0] M (some (.int (sp_X8_longest M a0).1)) (sp_X8_longest M a0).2 := by
  refine CM.ofI (by decide) [some (rf K 0), some (.int a0), none, none] rfl (Nat.le_of_ble_eq_true rfl) (Nat.le_of_ble_eq_true rfl) (fun G hG _ hret => ?_)
  obtain ⟨hok0, hok1, hoa2, hoa3, hoa4, hsh, htp⟩ := id hokx
  obtain ⟨hwc0, hpc0, ⟨hcl0, hcm0⟩, hwi0, hda0, hle0, hk80, ha80, hW0, hP0⟩ := id hok0
  have hwl0 := bd_lt hwc0
  have hpl0 := bd_lt hpc0
  have hcl0l := bd_lt hcl0
  refine r_iload_n (pc := 0) hG dX8_longest_0 rfl ?_
  refine r_iconst (pc := 1) hG dX8_longest_1 ic_2 ?_
  refine cs_X8_isWhat (pc := 2)  hG dX8_longest_2 tw_514 (c_X8_isWhat) (by decide) (Nat.le_of_ble_eq_true rfl) ?_
  refine r_ifz_ne (pc := 5) (tgt := 15) hG dX8_longest_5 (by decide) (fun c1 => ?_) (fun c1 => ?_)
  · refine r_aload_n (pc := 15) hG dX8_longest_15 rfl ?_
    refine gf_X8_live (pc := 16)  hG dX8_longest_16 tw_355 ?_
    refine cv_X5_longestWaiter (pc := 19) (by omega) hG dX8_longest_19 tw_933 (c_X5_longestWaiter (by omega) hok0) (by decide) (Nat.le_of_ble_eq_true rfl) ?_
    refine r_istore_n (pc := 22) (ls' := [_, _, _, _]) hG dX8_longest_22 rfl rfl ?_
    refine r_iload_n (pc := 23) hG dX8_longest_23 rfl ?_
    refine r_iconst (pc := 24) hG dX8_longest_24 ic_m1 ?_
    refine r_icmp_ne (pc := 25) (tgt := 38) hG dX8_longest_25 (by decide) (fun c2 => ?_) (fun c2 => ?_)
    · refine r_aload_n (pc := 38) hG dX8_longest_38 rfl ?_
      refine gf_X8_live (pc := 39)  hG dX8_longest_39 tw_355 ?_
      refine gf_X5_people (pc := 42) (by omega) hG dX8_longest_42 tw_167 ?_
      refine r_iload_n (pc := 45) hG dX8_longest_45 rfl ?_
      refine aa_PA (pc := 46) (by omega) hG dX8_longest_46 (ix_bd (lw_bd hpc0 c2)) ?_
      refine r_astore_n (pc := 47) (ls' := [_, _, _, _]) hG dX8_longest_47 rfl rfl ?_
      refine r_iload_n (pc := 48) hG dX8_longest_48 rfl ?_
      refine r_if_ne (pc := 49) (tgt := 68) hG dX8_longest_49 (by decide) (fun c3 => ?_) (fun c3 => ?_)
      · refine r_iload_n (pc := 68) hG dX8_longest_68 rfl ?_
        refine r_iconst (pc := 69) hG dX8_longest_69 ic_1 ?_
        refine r_icmp_ne (pc := 70) (tgt := 80) hG dX8_longest_70 (by decide) (fun c4 => ?_) (fun c4 => ?_)
        · refine r_aload_n (pc := 80) hG dX8_longest_80 rfl ?_
          refine gf_X2_rose (pc := 81) (by omega) (bd_lt (lw_bd hpc0 c2)) hG dX8_longest_81 tw_147 ?_
          exact hret _ _ _ _ dX8_longest_84 (pair_fst (show sp_X8_longest M a0 = (M.1 0 12 (tn (sp_X5_longestWaiter M 0)), M) from (by unfold sp_X8_longest; exact ((if_pos c1).trans ((if_neg c2).trans ((if_neg c3).trans (if_neg c4))))))) (pair_snd (show sp_X8_longest M a0 = (M.1 0 12 (tn (sp_X5_longestWaiter M 0)), M) from (by unfold sp_X8_longest; exact ((if_pos c1).trans ((if_neg c2).trans ((if_neg c3).trans (if_neg c4)))))))
        · refine r_aload_n (pc := 73) hG dX8_longest_73 rfl ?_
          refine gf_X2_due (pc := 74) (by omega) (bd_lt (lw_bd hpc0 c2)) hG dX8_longest_74 tw_149 ?_
          refine r_goto (pc := 77) (tgt := 84) hG dX8_longest_77 (by decide) ?_
          exact hret _ _ _ _ dX8_longest_84 (pair_fst (show sp_X8_longest M a0 = (M.1 0 13 (tn (sp_X5_longestWaiter M 0)), M) from (by unfold sp_X8_longest; exact ((if_pos c1).trans ((if_neg c2).trans ((if_neg c3).trans (if_pos c4))))))) (pair_snd (show sp_X8_longest M a0 = (M.1 0 13 (tn (sp_X5_longestWaiter M 0)), M) from (by unfold sp_X8_longest; exact ((if_pos c1).trans ((if_neg c2).trans ((if_neg c3).trans (if_pos c4)))))))
      · refine r_aload_n (pc := 52) hG dX8_longest_52 rfl ?_
        refine gf_X8_live (pc := 53)  hG dX8_longest_53 tw_355 ?_
        refine r_aload_n (pc := 56) hG dX8_longest_56 rfl ?_
        refine gf_X2_rose (pc := 57) (by omega) (bd_lt (lw_bd hpc0 c2)) hG dX8_longest_57 tw_147 ?_
        refine r_aload_n (pc := 60) hG dX8_longest_60 rfl ?_
        refine gf_X2_due (pc := 61) (by omega) (bd_lt (lw_bd hpc0 c2)) hG dX8_longest_61 tw_149 ?_
        refine cv_X5_queueLength (pc := 64) (by omega) hG dX8_longest_64 tw_925 (c_X5_queueLength (by omega) hok0) (by decide) (Nat.le_of_ble_eq_true rfl) ?_
        exact hret _ _ _ _ dX8_longest_67 (pair_fst (show sp_X8_longest M a0 = (sp_X5_queueLength M 0 (M.1 0 12 (tn (sp_X5_longestWaiter M 0))) (M.1 0 13 (tn (sp_X5_longestWaiter M 0))), M) from (by unfold sp_X8_longest; exact ((if_pos c1).trans ((if_neg c2).trans (if_pos c3)))))) (pair_snd (show sp_X8_longest M a0 = (sp_X5_queueLength M 0 (M.1 0 12 (tn (sp_X5_longestWaiter M 0))) (M.1 0 13 (tn (sp_X5_longestWaiter M 0))), M) from (by unfold sp_X8_longest; exact ((if_pos c1).trans ((if_neg c2).trans (if_pos c3))))))
    · refine r_iload_n (pc := 28) hG dX8_longest_28 rfl ?_
      refine r_if_ne (pc := 29) (tgt := 36) hG dX8_longest_29 (by decide) (fun c5 => ?_) (fun c5 => ?_)
      · refine r_iconst (pc := 36) hG dX8_longest_36 ic_m1 ?_
        exact hret _ _ _ _ dX8_longest_37 (pair_fst (show sp_X8_longest M a0 = ((-1), M) from (by unfold sp_X8_longest; exact ((if_pos c1).trans ((if_pos c2).trans (if_neg c5)))))) (pair_snd (show sp_X8_longest M a0 = ((-1), M) from (by unfold sp_X8_longest; exact ((if_pos c1).trans ((if_pos c2).trans (if_neg c5))))))
      · refine r_iconst (pc := 32) hG dX8_longest_32 ic_0 ?_
        refine r_goto (pc := 33) (tgt := 37) hG dX8_longest_33 (by decide) ?_
        exact hret _ _ _ _ dX8_longest_37 (pair_fst (show sp_X8_longest M a0 = (0, M) from (by unfold sp_X8_longest; exact ((if_pos c1).trans ((if_pos c2).trans (if_pos c5)))))) (pair_snd (show sp_X8_longest M a0 = (0, M) from (by unfold sp_X8_longest; exact ((if_pos c1).trans ((if_pos c2).trans (if_pos c5))))))
  · refine r_aload_n (pc := 8) hG dX8_longest_8 rfl ?_
    refine r_bipush (pc := 9) hG dX8_longest_9 bc_m2 ?_
    refine cv_X8_refuse (pc := 11)  hG dX8_longest_11 tw_390 (c_X8_refuse (bd_lit (n := 7) (by decide))) (by decide) (Nat.le_of_ble_eq_true rfl) ?_
    exact hret _ _ _ _ dX8_longest_14 (pair_fst (show sp_X8_longest M a0 = ((sp_X8_refuse M (-2)).1, (sp_X8_refuse M (-2)).2) from (by unfold sp_X8_longest; exact (if_neg c1)))) (pair_snd (show sp_X8_longest M a0 = ((sp_X8_refuse M (-2)).1, (sp_X8_refuse M (-2)).2) from (by unfold sp_X8_longest; exact (if_neg c1))))

def sp_X8_rival (M : MT) (a0 : Int32) (a1 : Int32) (a2 : Int32) (a3 : Int32) : Int32 × MT :=
  if (sp_X5_hasPerson M 0 a0) = true then
    if (sp_X8_isThrow M a1 a2 a3) = true then
      (sp_X5_catcherBut M 0 a0 (sp_X5_landing M 0 a1 a2 a3), M)
    else
      ((sp_X8_refuse M (-2)).1, (sp_X8_refuse M (-2)).2)
  else
    ((sp_X8_refuse M (-2)).1, (sp_X8_refuse M (-2)).2)
set_option maxRecDepth 20000 in
theorem c_X8_rival {K : KT} {M : MT} {a0 : Int32} {a1 : Int32} {a2 : Int32} {a3 : Int32}  (hokx : OKX M) : CM K 4 yX8_rival cX8_rival 5 (some FieldType.int) [rf K 0, .int a0, .int a1, .int a2, .int a3] M (some (.int (sp_X8_rival M a0 a1 a2 a3).1)) (sp_X8_rival M a0 a1 a2 a3).2 := by
  refine CM.ofI (by decide) [some (rf K 0), some (.int a0), some (.int a1), some (.int a2), some (.int a3)] rfl (Nat.le_of_ble_eq_true rfl) (Nat.le_of_ble_eq_true rfl) (fun G hG _ hret => ?_)
  obtain ⟨hok0, hok1, hoa2, hoa3, hoa4, hsh, htp⟩ := id hokx
  obtain ⟨hwc0, hpc0, ⟨hcl0, hcm0⟩, hwi0, hda0, hle0, hk80, ha80, hW0, hP0⟩ := id hok0
  have hwl0 := bd_lt hwc0
  have hpl0 := bd_lt hpc0
  have hcl0l := bd_lt hcl0
  refine r_aload_n (pc := 0) hG dX8_rival_0 rfl ?_
  refine gf_X8_live (pc := 1)  hG dX8_rival_1 tw_355 ?_
  refine r_iload_n (pc := 4) hG dX8_rival_4 rfl ?_
  refine cv_X5_hasPerson (pc := 5) (by omega) hG dX8_rival_5 tw_442 (c_X5_hasPerson (by omega)) (by decide) (Nat.le_of_ble_eq_true rfl) ?_
  refine r_ifz_eq (pc := 8) (tgt := 22) hG dX8_rival_8 (by decide) (fun c1 => ?_) (fun c1 => ?_)
  · refine r_aload_n (pc := 22) hG dX8_rival_22 rfl ?_
    refine r_bipush (pc := 23) hG dX8_rival_23 bc_m2 ?_
    refine cv_X8_refuse (pc := 25)  hG dX8_rival_25 tw_390 (c_X8_refuse (bd_lit (n := 7) (by decide))) (by decide) (Nat.le_of_ble_eq_true rfl) ?_
    exact hret _ _ _ _ dX8_rival_28 (pair_fst (show sp_X8_rival M a0 a1 a2 a3 = ((sp_X8_refuse M (-2)).1, (sp_X8_refuse M (-2)).2) from (by unfold sp_X8_rival; exact (if_neg c1)))) (pair_snd (show sp_X8_rival M a0 a1 a2 a3 = ((sp_X8_refuse M (-2)).1, (sp_X8_refuse M (-2)).2) from (by unfold sp_X8_rival; exact (if_neg c1))))
  · refine r_aload_n (pc := 11) hG dX8_rival_11 rfl ?_
    refine r_iload_n (pc := 12) hG dX8_rival_12 rfl ?_
    refine r_iload_n (pc := 13) hG dX8_rival_13 rfl ?_
    refine r_iload (pc := 14) hG dX8_rival_14 rfl ?_
    refine cv_X8_isThrow (pc := 16)  hG dX8_rival_16 tw_677 (c_X8_isThrow) (by decide) (Nat.le_of_ble_eq_true rfl) ?_
    refine r_ifz_ne (pc := 19) (tgt := 29) hG dX8_rival_19 (by decide) (fun c2 => ?_) (fun c2 => ?_)
    · refine r_aload_n (pc := 29) hG dX8_rival_29 rfl ?_
      refine gf_X8_live (pc := 30)  hG dX8_rival_30 tw_355 ?_
      refine r_iload_n (pc := 33) hG dX8_rival_33 rfl ?_
      refine r_aload_n (pc := 34) hG dX8_rival_34 rfl ?_
      refine gf_X8_live (pc := 35)  hG dX8_rival_35 tw_355 ?_
      refine r_iload_n (pc := 38) hG dX8_rival_38 rfl ?_
      refine r_iload_n (pc := 39) hG dX8_rival_39 rfl ?_
      refine r_iload (pc := 40) hG dX8_rival_40 rfl ?_
      refine cv_X5_landing (pc := 42) (by omega) hG dX8_rival_42 tw_681 (c_X5_landing (by omega) (isThr hwc0 c2)) (by decide) (Nat.le_of_ble_eq_true rfl) ?_
      refine cv_X5_catcherBut (pc := 45) (by omega) hG dX8_rival_45 tw_963 (c_X5_catcherBut (by omega) hok0) (by decide) (Nat.le_of_ble_eq_true rfl) ?_
      exact hret _ _ _ _ dX8_rival_48 (pair_fst (show sp_X8_rival M a0 a1 a2 a3 = (sp_X5_catcherBut M 0 a0 (sp_X5_landing M 0 a1 a2 a3), M) from (by unfold sp_X8_rival; exact ((if_pos c1).trans (if_pos c2))))) (pair_snd (show sp_X8_rival M a0 a1 a2 a3 = (sp_X5_catcherBut M 0 a0 (sp_X5_landing M 0 a1 a2 a3), M) from (by unfold sp_X8_rival; exact ((if_pos c1).trans (if_pos c2)))))
    · refine r_aload_n (pc := 22) hG dX8_rival_22 rfl ?_
      refine r_bipush (pc := 23) hG dX8_rival_23 bc_m2 ?_
      refine cv_X8_refuse (pc := 25)  hG dX8_rival_25 tw_390 (c_X8_refuse (bd_lit (n := 7) (by decide))) (by decide) (Nat.le_of_ble_eq_true rfl) ?_
      exact hret _ _ _ _ dX8_rival_28 (pair_fst (show sp_X8_rival M a0 a1 a2 a3 = ((sp_X8_refuse M (-2)).1, (sp_X8_refuse M (-2)).2) from (by unfold sp_X8_rival; exact ((if_pos c1).trans (if_neg c2))))) (pair_snd (show sp_X8_rival M a0 a1 a2 a3 = ((sp_X8_refuse M (-2)).1, (sp_X8_refuse M (-2)).2) from (by unfold sp_X8_rival; exact ((if_pos c1).trans (if_neg c2)))))

def sp_X8_having (M : MT) (a0 : Int32) : Int32 × MT :=
  if (sp_X8_isWhat a0 2) = true then
    if a0 = 2 then
      (sp_X5_dueOn M 0 (sp_X5_firstDue M 0), M)
    else
      if a0 = 1 then
        (sp_X5_roseBearers M 0 1, M)
      else
        (sp_X5_roseBearers M 0 0, M)
  else
    ((sp_X8_refuse M (-2)).1, (sp_X8_refuse M (-2)).2)
set_option maxRecDepth 20000 in
theorem c_X8_having {K : KT} {M : MT} {a0 : Int32}  (hokx : OKX M) : CM K 3 yX8_having cX8_having 2 (some FieldType.int) [rf K 0, .int a0] M (some (.int (sp_X8_having M a0).1)) (sp_X8_having M a0).2 := by
  refine CM.ofI (by decide) [some (rf K 0), some (.int a0)] rfl (Nat.le_of_ble_eq_true rfl) (Nat.le_of_ble_eq_true rfl) (fun G hG _ hret => ?_)
  obtain ⟨hok0, hok1, hoa2, hoa3, hoa4, hsh, htp⟩ := id hokx
  obtain ⟨hwc0, hpc0, ⟨hcl0, hcm0⟩, hwi0, hda0, hle0, hk80, ha80, hW0, hP0⟩ := id hok0
  have hwl0 := bd_lt hwc0
  have hpl0 := bd_lt hpc0
  have hcl0l := bd_lt hcl0
  refine r_iload_n (pc := 0) hG dX8_having_0 rfl ?_
  refine r_iconst (pc := 1) hG dX8_having_1 ic_2 ?_
  refine cs_X8_isWhat (pc := 2)  hG dX8_having_2 tw_514 (c_X8_isWhat) (by decide) (Nat.le_of_ble_eq_true rfl) ?_
  refine r_ifz_ne (pc := 5) (tgt := 15) hG dX8_having_5 (by decide) (fun c1 => ?_) (fun c1 => ?_)
  · refine r_iload_n (pc := 15) hG dX8_having_15 rfl ?_
    refine r_iconst (pc := 16) hG dX8_having_16 ic_2 ?_
    refine r_icmp_ne (pc := 17) (tgt := 37) hG dX8_having_17 (by decide) (fun c2 => ?_) (fun c2 => ?_)
    · refine r_aload_n (pc := 37) hG dX8_having_37 rfl ?_
      refine gf_X8_live (pc := 38)  hG dX8_having_38 tw_355 ?_
      refine r_iload_n (pc := 41) hG dX8_having_41 rfl ?_
      refine r_iconst (pc := 42) hG dX8_having_42 ic_1 ?_
      refine r_icmp_ne (pc := 43) (tgt := 50) hG dX8_having_43 (by decide) (fun c3 => ?_) (fun c3 => ?_)
      · refine r_iconst (pc := 50) hG dX8_having_50 ic_0 ?_
        refine cv_X5_roseBearers (pc := 51) (by omega) hG dX8_having_51 tw_976 (c_X5_roseBearers (by omega) hok0) (by decide) (Nat.le_of_ble_eq_true rfl) ?_
        exact hret _ _ _ _ dX8_having_54 (pair_fst (show sp_X8_having M a0 = (sp_X5_roseBearers M 0 0, M) from (by unfold sp_X8_having; exact ((if_pos c1).trans ((if_neg c2).trans (if_neg c3)))))) (pair_snd (show sp_X8_having M a0 = (sp_X5_roseBearers M 0 0, M) from (by unfold sp_X8_having; exact ((if_pos c1).trans ((if_neg c2).trans (if_neg c3))))))
      · refine r_iconst (pc := 46) hG dX8_having_46 ic_1 ?_
        refine r_goto (pc := 47) (tgt := 51) hG dX8_having_47 (by decide) ?_
        refine cv_X5_roseBearers (pc := 51) (by omega) hG dX8_having_51 tw_976 (c_X5_roseBearers (by omega) hok0) (by decide) (Nat.le_of_ble_eq_true rfl) ?_
        exact hret _ _ _ _ dX8_having_54 (pair_fst (show sp_X8_having M a0 = (sp_X5_roseBearers M 0 1, M) from (by unfold sp_X8_having; exact ((if_pos c1).trans ((if_neg c2).trans (if_pos c3)))))) (pair_snd (show sp_X8_having M a0 = (sp_X5_roseBearers M 0 1, M) from (by unfold sp_X8_having; exact ((if_pos c1).trans ((if_neg c2).trans (if_pos c3))))))
    · refine r_aload_n (pc := 20) hG dX8_having_20 rfl ?_
      refine gf_X8_live (pc := 21)  hG dX8_having_21 tw_355 ?_
      refine r_aload_n (pc := 24) hG dX8_having_24 rfl ?_
      refine gf_X8_live (pc := 25)  hG dX8_having_25 tw_355 ?_
      refine cv_X5_firstDue (pc := 28) (by omega) hG dX8_having_28 tw_968 (c_X5_firstDue (by omega) hok0) (by decide) (Nat.le_of_ble_eq_true rfl) ?_
      refine cv_X5_dueOn (pc := 31) (by omega) hG dX8_having_31 tw_972 (c_X5_dueOn (by omega) hok0) (by decide) (Nat.le_of_ble_eq_true rfl) ?_
      refine r_goto (pc := 34) (tgt := 54) hG dX8_having_34 (by decide) ?_
      exact hret _ _ _ _ dX8_having_54 (pair_fst (show sp_X8_having M a0 = (sp_X5_dueOn M 0 (sp_X5_firstDue M 0), M) from (by unfold sp_X8_having; exact ((if_pos c1).trans (if_pos c2))))) (pair_snd (show sp_X8_having M a0 = (sp_X5_dueOn M 0 (sp_X5_firstDue M 0), M) from (by unfold sp_X8_having; exact ((if_pos c1).trans (if_pos c2)))))
  · refine r_aload_n (pc := 8) hG dX8_having_8 rfl ?_
    refine r_bipush (pc := 9) hG dX8_having_9 bc_m2 ?_
    refine cv_X8_refuse (pc := 11)  hG dX8_having_11 tw_390 (c_X8_refuse (bd_lit (n := 7) (by decide))) (by decide) (Nat.le_of_ble_eq_true rfl) ?_
    exact hret _ _ _ _ dX8_having_14 (pair_fst (show sp_X8_having M a0 = ((sp_X8_refuse M (-2)).1, (sp_X8_refuse M (-2)).2) from (by unfold sp_X8_having; exact (if_neg c1)))) (pair_snd (show sp_X8_having M a0 = ((sp_X8_refuse M (-2)).1, (sp_X8_refuse M (-2)).2) from (by unfold sp_X8_having; exact (if_neg c1))))

def sp_X8_due (M : MT) (a0 : Int32) : Int32 × MT :=
  if (sp_X8_isWhat a0 1) = true then
    if a0 = 0 then
      (sp_X5_firstDue M 0, M)
    else
      (sp_X5_lastDue M 0, M)
  else
    ((sp_X8_refuse M (-2)).1, (sp_X8_refuse M (-2)).2)
set_option maxRecDepth 20000 in
theorem c_X8_due {K : KT} {M : MT} {a0 : Int32}  (hokx : OKX M) : CM K 3 yX8_due cX8_due 2 (some FieldType.int) [rf K 0, .int a0] M (some (.int (sp_X8_due M a0).1)) (sp_X8_due M a0).2 := by
  refine CM.ofI (by decide) [some (rf K 0), some (.int a0)] rfl (Nat.le_of_ble_eq_true rfl) (Nat.le_of_ble_eq_true rfl) (fun G hG _ hret => ?_)
  obtain ⟨hok0, hok1, hoa2, hoa3, hoa4, hsh, htp⟩ := id hokx
  obtain ⟨hwc0, hpc0, ⟨hcl0, hcm0⟩, hwi0, hda0, hle0, hk80, ha80, hW0, hP0⟩ := id hok0
  have hwl0 := bd_lt hwc0
  have hpl0 := bd_lt hpc0
  have hcl0l := bd_lt hcl0
  refine r_iload_n (pc := 0) hG dX8_due_0 rfl ?_
  refine r_iconst (pc := 1) hG dX8_due_1 ic_1 ?_
  refine cs_X8_isWhat (pc := 2)  hG dX8_due_2 tw_514 (c_X8_isWhat) (by decide) (Nat.le_of_ble_eq_true rfl) ?_
  refine r_ifz_ne (pc := 5) (tgt := 15) hG dX8_due_5 (by decide) (fun c1 => ?_) (fun c1 => ?_)
  · refine r_iload_n (pc := 15) hG dX8_due_15 rfl ?_
    refine r_if_ne (pc := 16) (tgt := 29) hG dX8_due_16 (by decide) (fun c2 => ?_) (fun c2 => ?_)
    · refine r_aload_n (pc := 29) hG dX8_due_29 rfl ?_
      refine gf_X8_live (pc := 30)  hG dX8_due_30 tw_355 ?_
      refine cv_X5_lastDue (pc := 33) (by omega) hG dX8_due_33 tw_984 (c_X5_lastDue (by omega) hok0) (by decide) (Nat.le_of_ble_eq_true rfl) ?_
      exact hret _ _ _ _ dX8_due_36 (pair_fst (show sp_X8_due M a0 = (sp_X5_lastDue M 0, M) from (by unfold sp_X8_due; exact ((if_pos c1).trans (if_neg c2))))) (pair_snd (show sp_X8_due M a0 = (sp_X5_lastDue M 0, M) from (by unfold sp_X8_due; exact ((if_pos c1).trans (if_neg c2)))))
    · refine r_aload_n (pc := 19) hG dX8_due_19 rfl ?_
      refine gf_X8_live (pc := 20)  hG dX8_due_20 tw_355 ?_
      refine cv_X5_firstDue (pc := 23) (by omega) hG dX8_due_23 tw_968 (c_X5_firstDue (by omega) hok0) (by decide) (Nat.le_of_ble_eq_true rfl) ?_
      refine r_goto (pc := 26) (tgt := 36) hG dX8_due_26 (by decide) ?_
      exact hret _ _ _ _ dX8_due_36 (pair_fst (show sp_X8_due M a0 = (sp_X5_firstDue M 0, M) from (by unfold sp_X8_due; exact ((if_pos c1).trans (if_pos c2))))) (pair_snd (show sp_X8_due M a0 = (sp_X5_firstDue M 0, M) from (by unfold sp_X8_due; exact ((if_pos c1).trans (if_pos c2)))))
  · refine r_aload_n (pc := 8) hG dX8_due_8 rfl ?_
    refine r_bipush (pc := 9) hG dX8_due_9 bc_m2 ?_
    refine cv_X8_refuse (pc := 11)  hG dX8_due_11 tw_390 (c_X8_refuse (bd_lit (n := 7) (by decide))) (by decide) (Nat.le_of_ble_eq_true rfl) ?_
    exact hret _ _ _ _ dX8_due_14 (pair_fst (show sp_X8_due M a0 = ((sp_X8_refuse M (-2)).1, (sp_X8_refuse M (-2)).2) from (by unfold sp_X8_due; exact (if_neg c1)))) (pair_snd (show sp_X8_due M a0 = ((sp_X8_refuse M (-2)).1, (sp_X8_refuse M (-2)).2) from (by unfold sp_X8_due; exact (if_neg c1))))

def sp_X8_lentFor (M : MT) (a0 : Int32) (a1 : Int32) : Int32 × MT :=
  if (sp_X8_isCouple M a0 a1) = true then
    (sp_X5_dayBack M 0 a0 a1, M)
  else
    ((sp_X8_refuse M (-2)).1, (sp_X8_refuse M (-2)).2)
set_option maxRecDepth 20000 in
theorem c_X8_lentFor {K : KT} {M : MT} {a0 : Int32} {a1 : Int32}  (hokx : OKX M) : CM K 4 yX8_lentFor cX8_lentFor 3 (some FieldType.int) [rf K 0, .int a0, .int a1] M (some (.int (sp_X8_lentFor M a0 a1).1)) (sp_X8_lentFor M a0 a1).2 := by
  refine CM.ofI (by decide) [some (rf K 0), some (.int a0), some (.int a1)] rfl (Nat.le_of_ble_eq_true rfl) (Nat.le_of_ble_eq_true rfl) (fun G hG _ hret => ?_)
  obtain ⟨hok0, hok1, hoa2, hoa3, hoa4, hsh, htp⟩ := id hokx
  obtain ⟨hwc0, hpc0, ⟨hcl0, hcm0⟩, hwi0, hda0, hle0, hk80, ha80, hW0, hP0⟩ := id hok0
  have hwl0 := bd_lt hwc0
  have hpl0 := bd_lt hpc0
  have hcl0l := bd_lt hcl0
  refine r_aload_n (pc := 0) hG dX8_lentFor_0 rfl ?_
  refine r_iload_n (pc := 1) hG dX8_lentFor_1 rfl ?_
  refine r_iload_n (pc := 2) hG dX8_lentFor_2 rfl ?_
  refine cv_X8_isCouple (pc := 3)  hG dX8_lentFor_3 tw_719 (c_X8_isCouple) (by decide) (Nat.le_of_ble_eq_true rfl) ?_
  refine r_ifz_eq (pc := 6) (tgt := 21) hG dX8_lentFor_6 (by decide) (fun c1 => ?_) (fun c1 => ?_)
  · refine r_aload_n (pc := 21) hG dX8_lentFor_21 rfl ?_
    refine r_bipush (pc := 22) hG dX8_lentFor_22 bc_m2 ?_
    refine cv_X8_refuse (pc := 24)  hG dX8_lentFor_24 tw_390 (c_X8_refuse (bd_lit (n := 7) (by decide))) (by decide) (Nat.le_of_ble_eq_true rfl) ?_
    exact hret _ _ _ _ dX8_lentFor_27 (pair_fst (show sp_X8_lentFor M a0 a1 = ((sp_X8_refuse M (-2)).1, (sp_X8_refuse M (-2)).2) from (by unfold sp_X8_lentFor; exact (if_neg c1)))) (pair_snd (show sp_X8_lentFor M a0 a1 = ((sp_X8_refuse M (-2)).1, (sp_X8_refuse M (-2)).2) from (by unfold sp_X8_lentFor; exact (if_neg c1))))
  · refine r_aload_n (pc := 9) hG dX8_lentFor_9 rfl ?_
    refine gf_X8_live (pc := 10)  hG dX8_lentFor_10 tw_355 ?_
    refine r_iload_n (pc := 13) hG dX8_lentFor_13 rfl ?_
    refine r_iload_n (pc := 14) hG dX8_lentFor_14 rfl ?_
    refine cv_X5_dayBack (pc := 15) (by omega) hG dX8_lentFor_15 tw_993 (c_X5_dayBack (by omega) (isCpP hpc0 c1) (isCpW hwc0 c1)) (by decide) (Nat.le_of_ble_eq_true rfl) ?_
    refine r_goto (pc := 18) (tgt := 27) hG dX8_lentFor_18 (by decide) ?_
    exact hret _ _ _ _ dX8_lentFor_27 (pair_fst (show sp_X8_lentFor M a0 a1 = (sp_X5_dayBack M 0 a0 a1, M) from (by unfold sp_X8_lentFor; exact (if_pos c1)))) (pair_snd (show sp_X8_lentFor M a0 a1 = (sp_X5_dayBack M 0 a0 a1, M) from (by unfold sp_X8_lentFor; exact (if_pos c1))))

def sp_X8_best (M : MT) (a0 : Int32) : Int32 × MT :=
  if (sp_X8_isWhat a0 1) = true then
    if (M.1 0 0 0) = 0 then
      ((sp_X8_refuse M (-5)).1, (sp_X8_refuse M (-5)).2)
    else
      if a0 = 0 then
        (sp_X5_bestWindow M 0, M)
      else
        (sp_J6_bitCount_0f7a4 (sp_X5_peopleHit M 0 (sp_X5_bestWindow M 0)), M)
  else
    ((sp_X8_refuse M (-2)).1, (sp_X8_refuse M (-2)).2)
set_option maxRecDepth 20000 in
theorem c_X8_best {K : KT} {M : MT} {a0 : Int32}  (hokx : OKX M) : CM K 7 yX8_best cX8_best 3 (some FieldType.int) [rf K 0, .int a0] M (some (.int (sp_X8_best M a0).1)) (sp_X8_best M a0).2 := by
  refine CM.ofI (by decide) [some (rf K 0), some (.int a0), none] rfl (Nat.le_of_ble_eq_true rfl) (Nat.le_of_ble_eq_true rfl) (fun G hG _ hret => ?_)
  obtain ⟨hok0, hok1, hoa2, hoa3, hoa4, hsh, htp⟩ := id hokx
  obtain ⟨hwc0, hpc0, ⟨hcl0, hcm0⟩, hwi0, hda0, hle0, hk80, ha80, hW0, hP0⟩ := id hok0
  have hwl0 := bd_lt hwc0
  have hpl0 := bd_lt hpc0
  have hcl0l := bd_lt hcl0
  refine r_iload_n (pc := 0) hG dX8_best_0 rfl ?_
  refine r_iconst (pc := 1) hG dX8_best_1 ic_1 ?_
  refine cs_X8_isWhat (pc := 2)  hG dX8_best_2 tw_514 (c_X8_isWhat) (by decide) (Nat.le_of_ble_eq_true rfl) ?_
  refine r_ifz_ne (pc := 5) (tgt := 15) hG dX8_best_5 (by decide) (fun c1 => ?_) (fun c1 => ?_)
  · refine r_aload_n (pc := 15) hG dX8_best_15 rfl ?_
    refine gf_X8_live (pc := 16)  hG dX8_best_16 tw_355 ?_
    refine gf_X5_windowCount (pc := 19) (by omega) hG dX8_best_19 tw_172 ?_
    refine r_if_ne (pc := 22) (tgt := 32) hG dX8_best_22 (by decide) (fun c2 => ?_) (fun c2 => ?_)
    · refine r_aload_n (pc := 32) hG dX8_best_32 rfl ?_
      refine gf_X8_live (pc := 33)  hG dX8_best_33 tw_355 ?_
      refine cv_X5_bestWindow (pc := 36) (by omega) hG dX8_best_36 tw_998 (c_X5_bestWindow (by omega) hok0) (by decide) (Nat.le_of_ble_eq_true rfl) ?_
      refine r_istore_n (pc := 39) (ls' := [_, _, _]) hG dX8_best_39 rfl rfl ?_
      refine r_iload_n (pc := 40) hG dX8_best_40 rfl ?_
      refine r_if_ne (pc := 41) (tgt := 48) hG dX8_best_41 (by decide) (fun c3 => ?_) (fun c3 => ?_)
      · refine r_aload_n (pc := 48) hG dX8_best_48 rfl ?_
        refine gf_X8_live (pc := 49)  hG dX8_best_49 tw_355 ?_
        refine r_iload_n (pc := 52) hG dX8_best_52 rfl ?_
        refine cv_X5_peopleHit (pc := 53) (by omega) hG dX8_best_53 tw_759 (c_X5_peopleHit (by omega) (bw_bd hwc0 hpc0 c2) hok0) (by decide) (Nat.le_of_ble_eq_true rfl) ?_
        refine cs_J6_bitCount_0f7a4 (pc := 56)  hG dX8_best_56 tw_1009 (c_J6_bitCount_0f7a4) (by decide) (Nat.le_of_ble_eq_true rfl) ?_
        exact hret _ _ _ _ dX8_best_59 (pair_fst (show sp_X8_best M a0 = (sp_J6_bitCount_0f7a4 (sp_X5_peopleHit M 0 (sp_X5_bestWindow M 0)), M) from (by unfold sp_X8_best; exact ((if_pos c1).trans ((if_neg c2).trans (if_neg c3)))))) (pair_snd (show sp_X8_best M a0 = (sp_J6_bitCount_0f7a4 (sp_X5_peopleHit M 0 (sp_X5_bestWindow M 0)), M) from (by unfold sp_X8_best; exact ((if_pos c1).trans ((if_neg c2).trans (if_neg c3))))))
      · refine r_iload_n (pc := 44) hG dX8_best_44 rfl ?_
        refine r_goto (pc := 45) (tgt := 59) hG dX8_best_45 (by decide) ?_
        exact hret _ _ _ _ dX8_best_59 (pair_fst (show sp_X8_best M a0 = (sp_X5_bestWindow M 0, M) from (by unfold sp_X8_best; exact ((if_pos c1).trans ((if_neg c2).trans (if_pos c3)))))) (pair_snd (show sp_X8_best M a0 = (sp_X5_bestWindow M 0, M) from (by unfold sp_X8_best; exact ((if_pos c1).trans ((if_neg c2).trans (if_pos c3))))))
    · refine r_aload_n (pc := 25) hG dX8_best_25 rfl ?_
      refine r_bipush (pc := 26) hG dX8_best_26 bc_m5 ?_
      refine cv_X8_refuse (pc := 28)  hG dX8_best_28 tw_390 (c_X8_refuse (bd_lit (n := 7) (by decide))) (by decide) (Nat.le_of_ble_eq_true rfl) ?_
      exact hret _ _ _ _ dX8_best_31 (pair_fst (show sp_X8_best M a0 = ((sp_X8_refuse M (-5)).1, (sp_X8_refuse M (-5)).2) from (by unfold sp_X8_best; exact ((if_pos c1).trans (if_pos c2))))) (pair_snd (show sp_X8_best M a0 = ((sp_X8_refuse M (-5)).1, (sp_X8_refuse M (-5)).2) from (by unfold sp_X8_best; exact ((if_pos c1).trans (if_pos c2)))))
  · refine r_aload_n (pc := 8) hG dX8_best_8 rfl ?_
    refine r_bipush (pc := 9) hG dX8_best_9 bc_m2 ?_
    refine cv_X8_refuse (pc := 11)  hG dX8_best_11 tw_390 (c_X8_refuse (bd_lit (n := 7) (by decide))) (by decide) (Nat.le_of_ble_eq_true rfl) ?_
    exact hret _ _ _ _ dX8_best_14 (pair_fst (show sp_X8_best M a0 = ((sp_X8_refuse M (-2)).1, (sp_X8_refuse M (-2)).2) from (by unfold sp_X8_best; exact (if_neg c1)))) (pair_snd (show sp_X8_best M a0 = ((sp_X8_refuse M (-2)).1, (sp_X8_refuse M (-2)).2) from (by unfold sp_X8_best; exact (if_neg c1))))

def sp_X8_off (M : MT) (a0 : Int32) : Int32 × MT :=
  if (sp_X5_hasWindow M 0 a0) = true then
    (sp_X5_countLandings M 0 a0 (-1), M)
  else
    ((sp_X8_refuse M (-2)).1, (sp_X8_refuse M (-2)).2)
set_option maxRecDepth 20000 in
theorem c_X8_off {K : KT} {M : MT} {a0 : Int32}  (hokx : OKX M) : CM K 5 yX8_off cX8_off 2 (some FieldType.int) [rf K 0, .int a0] M (some (.int (sp_X8_off M a0).1)) (sp_X8_off M a0).2 := by
  refine CM.ofI (by decide) [some (rf K 0), some (.int a0)] rfl (Nat.le_of_ble_eq_true rfl) (Nat.le_of_ble_eq_true rfl) (fun G hG _ hret => ?_)
  obtain ⟨hok0, hok1, hoa2, hoa3, hoa4, hsh, htp⟩ := id hokx
  obtain ⟨hwc0, hpc0, ⟨hcl0, hcm0⟩, hwi0, hda0, hle0, hk80, ha80, hW0, hP0⟩ := id hok0
  have hwl0 := bd_lt hwc0
  have hpl0 := bd_lt hpc0
  have hcl0l := bd_lt hcl0
  refine r_aload_n (pc := 0) hG dX8_off_0 rfl ?_
  refine gf_X8_live (pc := 1)  hG dX8_off_1 tw_355 ?_
  refine r_iload_n (pc := 4) hG dX8_off_4 rfl ?_
  refine cv_X5_hasWindow (pc := 5) (by omega) hG dX8_off_5 tw_669 (c_X5_hasWindow (by omega)) (by decide) (Nat.le_of_ble_eq_true rfl) ?_
  refine r_ifz_eq (pc := 8) (tgt := 23) hG dX8_off_8 (by decide) (fun c1 => ?_) (fun c1 => ?_)
  · refine r_aload_n (pc := 23) hG dX8_off_23 rfl ?_
    refine r_bipush (pc := 24) hG dX8_off_24 bc_m2 ?_
    refine cv_X8_refuse (pc := 26)  hG dX8_off_26 tw_390 (c_X8_refuse (bd_lit (n := 7) (by decide))) (by decide) (Nat.le_of_ble_eq_true rfl) ?_
    exact hret _ _ _ _ dX8_off_29 (pair_fst (show sp_X8_off M a0 = ((sp_X8_refuse M (-2)).1, (sp_X8_refuse M (-2)).2) from (by unfold sp_X8_off; exact (if_neg c1)))) (pair_snd (show sp_X8_off M a0 = ((sp_X8_refuse M (-2)).1, (sp_X8_refuse M (-2)).2) from (by unfold sp_X8_off; exact (if_neg c1))))
  · refine r_aload_n (pc := 11) hG dX8_off_11 rfl ?_
    refine gf_X8_live (pc := 12)  hG dX8_off_12 tw_355 ?_
    refine r_iload_n (pc := 15) hG dX8_off_15 rfl ?_
    refine r_iconst (pc := 16) hG dX8_off_16 ic_m1 ?_
    refine cv_X5_countLandings (pc := 17) (by omega) hG dX8_off_17 tw_1026 (c_X5_countLandings (by omega) (hasW hwc0 c1)) (by decide) (Nat.le_of_ble_eq_true rfl) ?_
    refine r_goto (pc := 20) (tgt := 29) hG dX8_off_20 (by decide) ?_
    exact hret _ _ _ _ dX8_off_29 (pair_fst (show sp_X8_off M a0 = (sp_X5_countLandings M 0 a0 (-1), M) from (by unfold sp_X8_off; exact (if_pos c1)))) (pair_snd (show sp_X8_off M a0 = (sp_X5_countLandings M 0 a0 (-1), M) from (by unfold sp_X8_off; exact (if_pos c1))))

def sp_X8_catches (M : MT) (a0 : Int32) : Int32 × MT :=
  if (sp_X5_hasCell M 0 a0) = true then
    (sp_X5_catcherBut M 0 (-1) a0, M)
  else
    ((sp_X8_refuse M (-2)).1, (sp_X8_refuse M (-2)).2)
set_option maxRecDepth 20000 in
theorem c_X8_catches {K : KT} {M : MT} {a0 : Int32}  (hokx : OKX M) : CM K 4 yX8_catches cX8_catches 2 (some FieldType.int) [rf K 0, .int a0] M (some (.int (sp_X8_catches M a0).1)) (sp_X8_catches M a0).2 := by
  refine CM.ofI (by decide) [some (rf K 0), some (.int a0)] rfl (Nat.le_of_ble_eq_true rfl) (Nat.le_of_ble_eq_true rfl) (fun G hG _ hret => ?_)
  obtain ⟨hok0, hok1, hoa2, hoa3, hoa4, hsh, htp⟩ := id hokx
  obtain ⟨hwc0, hpc0, ⟨hcl0, hcm0⟩, hwi0, hda0, hle0, hk80, ha80, hW0, hP0⟩ := id hok0
  have hwl0 := bd_lt hwc0
  have hpl0 := bd_lt hpc0
  have hcl0l := bd_lt hcl0
  refine r_aload_n (pc := 0) hG dX8_catches_0 rfl ?_
  refine gf_X8_live (pc := 1)  hG dX8_catches_1 tw_355 ?_
  refine r_iload_n (pc := 4) hG dX8_catches_4 rfl ?_
  refine cv_X5_hasCell (pc := 5) (by omega) hG dX8_catches_5 tw_475 (c_X5_hasCell (by omega)) (by decide) (Nat.le_of_ble_eq_true rfl) ?_
  refine r_ifz_eq (pc := 8) (tgt := 23) hG dX8_catches_8 (by decide) (fun c1 => ?_) (fun c1 => ?_)
  · refine r_aload_n (pc := 23) hG dX8_catches_23 rfl ?_
    refine r_bipush (pc := 24) hG dX8_catches_24 bc_m2 ?_
    refine cv_X8_refuse (pc := 26)  hG dX8_catches_26 tw_390 (c_X8_refuse (bd_lit (n := 7) (by decide))) (by decide) (Nat.le_of_ble_eq_true rfl) ?_
    exact hret _ _ _ _ dX8_catches_29 (pair_fst (show sp_X8_catches M a0 = ((sp_X8_refuse M (-2)).1, (sp_X8_refuse M (-2)).2) from (by unfold sp_X8_catches; exact (if_neg c1)))) (pair_snd (show sp_X8_catches M a0 = ((sp_X8_refuse M (-2)).1, (sp_X8_refuse M (-2)).2) from (by unfold sp_X8_catches; exact (if_neg c1))))
  · refine r_aload_n (pc := 11) hG dX8_catches_11 rfl ?_
    refine gf_X8_live (pc := 12)  hG dX8_catches_12 tw_355 ?_
    refine r_iconst (pc := 15) hG dX8_catches_15 ic_m1 ?_
    refine r_iload_n (pc := 16) hG dX8_catches_16 rfl ?_
    refine cv_X5_catcherBut (pc := 17) (by omega) hG dX8_catches_17 tw_963 (c_X5_catcherBut (by omega) hok0) (by decide) (Nat.le_of_ble_eq_true rfl) ?_
    refine r_goto (pc := 20) (tgt := 29) hG dX8_catches_20 (by decide) ?_
    exact hret _ _ _ _ dX8_catches_29 (pair_fst (show sp_X8_catches M a0 = (sp_X5_catcherBut M 0 (-1) a0, M) from (by unfold sp_X8_catches; exact (if_pos c1)))) (pair_snd (show sp_X8_catches M a0 = (sp_X5_catcherBut M 0 (-1) a0, M) from (by unfold sp_X8_catches; exact (if_pos c1))))

def sp_X8_gaps (M : MT) : Int32 × MT :=
  (sp_X5_uncaughtCells M 0, M)
set_option maxRecDepth 20000 in
theorem c_X8_gaps {K : KT} {M : MT}   (hokx : OKX M) : CM K 5 yX8_gaps cX8_gaps 1 (some FieldType.int) [rf K 0] M (some (.int (sp_X8_gaps M).1)) (sp_X8_gaps M).2 := by
  refine CM.ofI (by decide) [some (rf K 0)] rfl (Nat.le_of_ble_eq_true rfl) (Nat.le_of_ble_eq_true rfl) (fun G hG _ hret => ?_)
  obtain ⟨hok0, hok1, hoa2, hoa3, hoa4, hsh, htp⟩ := id hokx
  obtain ⟨hwc0, hpc0, ⟨hcl0, hcm0⟩, hwi0, hda0, hle0, hk80, ha80, hW0, hP0⟩ := id hok0
  have hwl0 := bd_lt hwc0
  have hpl0 := bd_lt hpc0
  have hcl0l := bd_lt hcl0
  refine r_aload_n (pc := 0) hG dX8_gaps_0 rfl ?_
  refine gf_X8_live (pc := 1)  hG dX8_gaps_1 tw_355 ?_
  refine cv_X5_uncaughtCells (pc := 4) (by omega) hG dX8_gaps_4 tw_1043 (c_X5_uncaughtCells (by omega) hok0) (by decide) (Nat.le_of_ble_eq_true rfl) ?_
  exact hret _ _ _ _ dX8_gaps_7 (pair_fst (show sp_X8_gaps M = (sp_X5_uncaughtCells M 0, M) from (by unfold sp_X8_gaps; exact rfl))) (pair_snd (show sp_X8_gaps M = (sp_X5_uncaughtCells M 0, M) from (by unfold sp_X8_gaps; exact rfl)))

def sp_X8_between (M : MT) (a0 : Int32) (a1 : Int32) : Int32 × MT :=
  if (sp_X5_hasWindow M 0 a0) = true then
    if (sp_X5_hasWindow M 0 a1) = true then
      ((sp_X5_openCells M 0 a0) &&& (sp_X5_openCells M 0 a1), M)
    else
      ((sp_X8_refuse M (-2)).1, (sp_X8_refuse M (-2)).2)
  else
    ((sp_X8_refuse M (-2)).1, (sp_X8_refuse M (-2)).2)
set_option maxRecDepth 20000 in
theorem c_X8_between {K : KT} {M : MT} {a0 : Int32} {a1 : Int32}  (hokx : OKX M) : CM K 5 yX8_between cX8_between 3 (some FieldType.int) [rf K 0, .int a0, .int a1] M (some (.int (sp_X8_between M a0 a1).1)) (sp_X8_between M a0 a1).2 := by
  refine CM.ofI (by decide) [some (rf K 0), some (.int a0), some (.int a1)] rfl (Nat.le_of_ble_eq_true rfl) (Nat.le_of_ble_eq_true rfl) (fun G hG _ hret => ?_)
  obtain ⟨hok0, hok1, hoa2, hoa3, hoa4, hsh, htp⟩ := id hokx
  obtain ⟨hwc0, hpc0, ⟨hcl0, hcm0⟩, hwi0, hda0, hle0, hk80, ha80, hW0, hP0⟩ := id hok0
  have hwl0 := bd_lt hwc0
  have hpl0 := bd_lt hpc0
  have hcl0l := bd_lt hcl0
  refine r_aload_n (pc := 0) hG dX8_between_0 rfl ?_
  refine gf_X8_live (pc := 1)  hG dX8_between_1 tw_355 ?_
  refine r_iload_n (pc := 4) hG dX8_between_4 rfl ?_
  refine cv_X5_hasWindow (pc := 5) (by omega) hG dX8_between_5 tw_669 (c_X5_hasWindow (by omega)) (by decide) (Nat.le_of_ble_eq_true rfl) ?_
  refine r_ifz_eq (pc := 8) (tgt := 22) hG dX8_between_8 (by decide) (fun c1 => ?_) (fun c1 => ?_)
  · refine r_aload_n (pc := 22) hG dX8_between_22 rfl ?_
    refine r_bipush (pc := 23) hG dX8_between_23 bc_m2 ?_
    refine cv_X8_refuse (pc := 25)  hG dX8_between_25 tw_390 (c_X8_refuse (bd_lit (n := 7) (by decide))) (by decide) (Nat.le_of_ble_eq_true rfl) ?_
    exact hret _ _ _ _ dX8_between_28 (pair_fst (show sp_X8_between M a0 a1 = ((sp_X8_refuse M (-2)).1, (sp_X8_refuse M (-2)).2) from (by unfold sp_X8_between; exact (if_neg c1)))) (pair_snd (show sp_X8_between M a0 a1 = ((sp_X8_refuse M (-2)).1, (sp_X8_refuse M (-2)).2) from (by unfold sp_X8_between; exact (if_neg c1))))
  · refine r_aload_n (pc := 11) hG dX8_between_11 rfl ?_
    refine gf_X8_live (pc := 12)  hG dX8_between_12 tw_355 ?_
    refine r_iload_n (pc := 15) hG dX8_between_15 rfl ?_
    refine cv_X5_hasWindow (pc := 16) (by omega) hG dX8_between_16 tw_669 (c_X5_hasWindow (by omega)) (by decide) (Nat.le_of_ble_eq_true rfl) ?_
    refine r_ifz_ne (pc := 19) (tgt := 29) hG dX8_between_19 (by decide) (fun c2 => ?_) (fun c2 => ?_)
    · refine r_aload_n (pc := 29) hG dX8_between_29 rfl ?_
      refine gf_X8_live (pc := 30)  hG dX8_between_30 tw_355 ?_
      refine r_iload_n (pc := 33) hG dX8_between_33 rfl ?_
      refine cv_X5_openCells (pc := 34) (by omega) hG dX8_between_34 tw_776 (c_X5_openCells (by omega) (hasW hwc0 c1)) (by decide) (Nat.le_of_ble_eq_true rfl) ?_
      refine r_aload_n (pc := 37) hG dX8_between_37 rfl ?_
      refine gf_X8_live (pc := 38)  hG dX8_between_38 tw_355 ?_
      refine r_iload_n (pc := 41) hG dX8_between_41 rfl ?_
      refine cv_X5_openCells (pc := 42) (by omega) hG dX8_between_42 tw_776 (c_X5_openCells (by omega) (hasW hwc0 c2)) (by decide) (Nat.le_of_ble_eq_true rfl) ?_
      refine r_iand (pc := 45) hG dX8_between_45 ?_
      exact hret _ _ _ _ dX8_between_46 (pair_fst (show sp_X8_between M a0 a1 = ((sp_X5_openCells M 0 a0) &&& (sp_X5_openCells M 0 a1), M) from (by unfold sp_X8_between; exact ((if_pos c1).trans (if_pos c2))))) (pair_snd (show sp_X8_between M a0 a1 = ((sp_X5_openCells M 0 a0) &&& (sp_X5_openCells M 0 a1), M) from (by unfold sp_X8_between; exact ((if_pos c1).trans (if_pos c2)))))
    · refine r_aload_n (pc := 22) hG dX8_between_22 rfl ?_
      refine r_bipush (pc := 23) hG dX8_between_23 bc_m2 ?_
      refine cv_X8_refuse (pc := 25)  hG dX8_between_25 tw_390 (c_X8_refuse (bd_lit (n := 7) (by decide))) (by decide) (Nat.le_of_ble_eq_true rfl) ?_
      exact hret _ _ _ _ dX8_between_28 (pair_fst (show sp_X8_between M a0 a1 = ((sp_X8_refuse M (-2)).1, (sp_X8_refuse M (-2)).2) from (by unfold sp_X8_between; exact ((if_pos c1).trans (if_neg c2))))) (pair_snd (show sp_X8_between M a0 a1 = ((sp_X8_refuse M (-2)).1, (sp_X8_refuse M (-2)).2) from (by unfold sp_X8_between; exact ((if_pos c1).trans (if_neg c2)))))

def sp_X8_fondest (M : MT) (a0 : Int32) : Int32 × MT :=
  if (sp_X5_hasWindow M 0 a0) = true then
    (sp_X5_fondestPerson M 0 a0, M)
  else
    ((sp_X8_refuse M (-2)).1, (sp_X8_refuse M (-2)).2)
set_option maxRecDepth 20000 in
theorem c_X8_fondest {K : KT} {M : MT} {a0 : Int32}  (hokx : OKX M) : CM K 7 yX8_fondest cX8_fondest 2 (some FieldType.int) [rf K 0, .int a0] M (some (.int (sp_X8_fondest M a0).1)) (sp_X8_fondest M a0).2 := by
  refine CM.ofI (by decide) [some (rf K 0), some (.int a0)] rfl (Nat.le_of_ble_eq_true rfl) (Nat.le_of_ble_eq_true rfl) (fun G hG _ hret => ?_)
  obtain ⟨hok0, hok1, hoa2, hoa3, hoa4, hsh, htp⟩ := id hokx
  obtain ⟨hwc0, hpc0, ⟨hcl0, hcm0⟩, hwi0, hda0, hle0, hk80, ha80, hW0, hP0⟩ := id hok0
  have hwl0 := bd_lt hwc0
  have hpl0 := bd_lt hpc0
  have hcl0l := bd_lt hcl0
  refine r_aload_n (pc := 0) hG dX8_fondest_0 rfl ?_
  refine gf_X8_live (pc := 1)  hG dX8_fondest_1 tw_355 ?_
  refine r_iload_n (pc := 4) hG dX8_fondest_4 rfl ?_
  refine cv_X5_hasWindow (pc := 5) (by omega) hG dX8_fondest_5 tw_669 (c_X5_hasWindow (by omega)) (by decide) (Nat.le_of_ble_eq_true rfl) ?_
  refine r_ifz_eq (pc := 8) (tgt := 22) hG dX8_fondest_8 (by decide) (fun c1 => ?_) (fun c1 => ?_)
  · refine r_aload_n (pc := 22) hG dX8_fondest_22 rfl ?_
    refine r_bipush (pc := 23) hG dX8_fondest_23 bc_m2 ?_
    refine cv_X8_refuse (pc := 25)  hG dX8_fondest_25 tw_390 (c_X8_refuse (bd_lit (n := 7) (by decide))) (by decide) (Nat.le_of_ble_eq_true rfl) ?_
    exact hret _ _ _ _ dX8_fondest_28 (pair_fst (show sp_X8_fondest M a0 = ((sp_X8_refuse M (-2)).1, (sp_X8_refuse M (-2)).2) from (by unfold sp_X8_fondest; exact (if_neg c1)))) (pair_snd (show sp_X8_fondest M a0 = ((sp_X8_refuse M (-2)).1, (sp_X8_refuse M (-2)).2) from (by unfold sp_X8_fondest; exact (if_neg c1))))
  · refine r_aload_n (pc := 11) hG dX8_fondest_11 rfl ?_
    refine gf_X8_live (pc := 12)  hG dX8_fondest_12 tw_355 ?_
    refine r_iload_n (pc := 15) hG dX8_fondest_15 rfl ?_
    refine cv_X5_fondestPerson (pc := 16) (by omega) hG dX8_fondest_16 tw_1055 (c_X5_fondestPerson (by omega) (hasW hwc0 c1) hok0) (by decide) (Nat.le_of_ble_eq_true rfl) ?_
    refine r_goto (pc := 19) (tgt := 28) hG dX8_fondest_19 (by decide) ?_
    exact hret _ _ _ _ dX8_fondest_28 (pair_fst (show sp_X8_fondest M a0 = (sp_X5_fondestPerson M 0 a0, M) from (by unfold sp_X8_fondest; exact (if_pos c1)))) (pair_snd (show sp_X8_fondest M a0 = (sp_X5_fondestPerson M 0 a0, M) from (by unfold sp_X8_fondest; exact (if_pos c1))))

def sp_X8_admirer (M : MT) (a0 : Int32) : Int32 × MT :=
  if (sp_X5_hasPerson M 0 a0) = true then
    (sp_X5_fondestWindow M 0 a0, M)
  else
    ((sp_X8_refuse M (-2)).1, (sp_X8_refuse M (-2)).2)
set_option maxRecDepth 20000 in
theorem c_X8_admirer {K : KT} {M : MT} {a0 : Int32}  (hokx : OKX M) : CM K 7 yX8_admirer cX8_admirer 2 (some FieldType.int) [rf K 0, .int a0] M (some (.int (sp_X8_admirer M a0).1)) (sp_X8_admirer M a0).2 := by
  refine CM.ofI (by decide) [some (rf K 0), some (.int a0)] rfl (Nat.le_of_ble_eq_true rfl) (Nat.le_of_ble_eq_true rfl) (fun G hG _ hret => ?_)
  obtain ⟨hok0, hok1, hoa2, hoa3, hoa4, hsh, htp⟩ := id hokx
  obtain ⟨hwc0, hpc0, ⟨hcl0, hcm0⟩, hwi0, hda0, hle0, hk80, ha80, hW0, hP0⟩ := id hok0
  have hwl0 := bd_lt hwc0
  have hpl0 := bd_lt hpc0
  have hcl0l := bd_lt hcl0
  refine r_aload_n (pc := 0) hG dX8_admirer_0 rfl ?_
  refine gf_X8_live (pc := 1)  hG dX8_admirer_1 tw_355 ?_
  refine r_iload_n (pc := 4) hG dX8_admirer_4 rfl ?_
  refine cv_X5_hasPerson (pc := 5) (by omega) hG dX8_admirer_5 tw_442 (c_X5_hasPerson (by omega)) (by decide) (Nat.le_of_ble_eq_true rfl) ?_
  refine r_ifz_eq (pc := 8) (tgt := 22) hG dX8_admirer_8 (by decide) (fun c1 => ?_) (fun c1 => ?_)
  · refine r_aload_n (pc := 22) hG dX8_admirer_22 rfl ?_
    refine r_bipush (pc := 23) hG dX8_admirer_23 bc_m2 ?_
    refine cv_X8_refuse (pc := 25)  hG dX8_admirer_25 tw_390 (c_X8_refuse (bd_lit (n := 7) (by decide))) (by decide) (Nat.le_of_ble_eq_true rfl) ?_
    exact hret _ _ _ _ dX8_admirer_28 (pair_fst (show sp_X8_admirer M a0 = ((sp_X8_refuse M (-2)).1, (sp_X8_refuse M (-2)).2) from (by unfold sp_X8_admirer; exact (if_neg c1)))) (pair_snd (show sp_X8_admirer M a0 = ((sp_X8_refuse M (-2)).1, (sp_X8_refuse M (-2)).2) from (by unfold sp_X8_admirer; exact (if_neg c1))))
  · refine r_aload_n (pc := 11) hG dX8_admirer_11 rfl ?_
    refine gf_X8_live (pc := 12)  hG dX8_admirer_12 tw_355 ?_
    refine r_iload_n (pc := 15) hG dX8_admirer_15 rfl ?_
    refine cv_X5_fondestWindow (pc := 16) (by omega) hG dX8_admirer_16 tw_1064 (c_X5_fondestWindow (by omega) (hasP hpc0 c1) hok0) (by decide) (Nat.le_of_ble_eq_true rfl) ?_
    refine r_goto (pc := 19) (tgt := 28) hG dX8_admirer_19 (by decide) ?_
    exact hret _ _ _ _ dX8_admirer_28 (pair_fst (show sp_X8_admirer M a0 = (sp_X5_fondestWindow M 0 a0, M) from (by unfold sp_X8_admirer; exact (if_pos c1)))) (pair_snd (show sp_X8_admirer M a0 = (sp_X5_fondestWindow M 0 a0, M) from (by unfold sp_X8_admirer; exact (if_pos c1))))

def sp_X8_reached (M : MT) (a0 : Int32) : Int32 × MT :=
  if (sp_X5_hasCell M 0 a0) = true then
    (sp_X5_peopleReaching M 0 a0, M)
  else
    ((sp_X8_refuse M (-2)).1, (sp_X8_refuse M (-2)).2)
set_option maxRecDepth 20000 in
theorem c_X8_reached {K : KT} {M : MT} {a0 : Int32}  (hokx : OKX M) : CM K 4 yX8_reached cX8_reached 2 (some FieldType.int) [rf K 0, .int a0] M (some (.int (sp_X8_reached M a0).1)) (sp_X8_reached M a0).2 := by
  refine CM.ofI (by decide) [some (rf K 0), some (.int a0)] rfl (Nat.le_of_ble_eq_true rfl) (Nat.le_of_ble_eq_true rfl) (fun G hG _ hret => ?_)
  obtain ⟨hok0, hok1, hoa2, hoa3, hoa4, hsh, htp⟩ := id hokx
  obtain ⟨hwc0, hpc0, ⟨hcl0, hcm0⟩, hwi0, hda0, hle0, hk80, ha80, hW0, hP0⟩ := id hok0
  have hwl0 := bd_lt hwc0
  have hpl0 := bd_lt hpc0
  have hcl0l := bd_lt hcl0
  refine r_aload_n (pc := 0) hG dX8_reached_0 rfl ?_
  refine gf_X8_live (pc := 1)  hG dX8_reached_1 tw_355 ?_
  refine r_iload_n (pc := 4) hG dX8_reached_4 rfl ?_
  refine cv_X5_hasCell (pc := 5) (by omega) hG dX8_reached_5 tw_475 (c_X5_hasCell (by omega)) (by decide) (Nat.le_of_ble_eq_true rfl) ?_
  refine r_ifz_eq (pc := 8) (tgt := 22) hG dX8_reached_8 (by decide) (fun c1 => ?_) (fun c1 => ?_)
  · refine r_aload_n (pc := 22) hG dX8_reached_22 rfl ?_
    refine r_bipush (pc := 23) hG dX8_reached_23 bc_m2 ?_
    refine cv_X8_refuse (pc := 25)  hG dX8_reached_25 tw_390 (c_X8_refuse (bd_lit (n := 7) (by decide))) (by decide) (Nat.le_of_ble_eq_true rfl) ?_
    exact hret _ _ _ _ dX8_reached_28 (pair_fst (show sp_X8_reached M a0 = ((sp_X8_refuse M (-2)).1, (sp_X8_refuse M (-2)).2) from (by unfold sp_X8_reached; exact (if_neg c1)))) (pair_snd (show sp_X8_reached M a0 = ((sp_X8_refuse M (-2)).1, (sp_X8_refuse M (-2)).2) from (by unfold sp_X8_reached; exact (if_neg c1))))
  · refine r_aload_n (pc := 11) hG dX8_reached_11 rfl ?_
    refine gf_X8_live (pc := 12)  hG dX8_reached_12 tw_355 ?_
    refine r_iload_n (pc := 15) hG dX8_reached_15 rfl ?_
    refine cv_X5_peopleReaching (pc := 16) (by omega) hG dX8_reached_16 tw_1072 (c_X5_peopleReaching (by omega) hok0) (by decide) (Nat.le_of_ble_eq_true rfl) ?_
    refine r_goto (pc := 19) (tgt := 28) hG dX8_reached_19 (by decide) ?_
    exact hret _ _ _ _ dX8_reached_28 (pair_fst (show sp_X8_reached M a0 = (sp_X5_peopleReaching M 0 a0, M) from (by unfold sp_X8_reached; exact (if_pos c1)))) (pair_snd (show sp_X8_reached M a0 = (sp_X5_peopleReaching M 0 a0, M) from (by unfold sp_X8_reached; exact (if_pos c1))))

def sp_X8_late (M : MT) (a0 : Int32) : Int32 × MT :=
  if (sp_X5_hasPerson M 0 a0) = true then
    (sp_X5_windowsTooLate M 0 a0, M)
  else
    ((sp_X8_refuse M (-2)).1, (sp_X8_refuse M (-2)).2)
set_option maxRecDepth 20000 in
theorem c_X8_late {K : KT} {M : MT} {a0 : Int32}  (hokx : OKX M) : CM K 6 yX8_late cX8_late 2 (some FieldType.int) [rf K 0, .int a0] M (some (.int (sp_X8_late M a0).1)) (sp_X8_late M a0).2 := by
  refine CM.ofI (by decide) [some (rf K 0), some (.int a0)] rfl (Nat.le_of_ble_eq_true rfl) (Nat.le_of_ble_eq_true rfl) (fun G hG _ hret => ?_)
  obtain ⟨hok0, hok1, hoa2, hoa3, hoa4, hsh, htp⟩ := id hokx
  obtain ⟨hwc0, hpc0, ⟨hcl0, hcm0⟩, hwi0, hda0, hle0, hk80, ha80, hW0, hP0⟩ := id hok0
  have hwl0 := bd_lt hwc0
  have hpl0 := bd_lt hpc0
  have hcl0l := bd_lt hcl0
  refine r_aload_n (pc := 0) hG dX8_late_0 rfl ?_
  refine gf_X8_live (pc := 1)  hG dX8_late_1 tw_355 ?_
  refine r_iload_n (pc := 4) hG dX8_late_4 rfl ?_
  refine cv_X5_hasPerson (pc := 5) (by omega) hG dX8_late_5 tw_442 (c_X5_hasPerson (by omega)) (by decide) (Nat.le_of_ble_eq_true rfl) ?_
  refine r_ifz_eq (pc := 8) (tgt := 22) hG dX8_late_8 (by decide) (fun c1 => ?_) (fun c1 => ?_)
  · refine r_aload_n (pc := 22) hG dX8_late_22 rfl ?_
    refine r_bipush (pc := 23) hG dX8_late_23 bc_m2 ?_
    refine cv_X8_refuse (pc := 25)  hG dX8_late_25 tw_390 (c_X8_refuse (bd_lit (n := 7) (by decide))) (by decide) (Nat.le_of_ble_eq_true rfl) ?_
    exact hret _ _ _ _ dX8_late_28 (pair_fst (show sp_X8_late M a0 = ((sp_X8_refuse M (-2)).1, (sp_X8_refuse M (-2)).2) from (by unfold sp_X8_late; exact (if_neg c1)))) (pair_snd (show sp_X8_late M a0 = ((sp_X8_refuse M (-2)).1, (sp_X8_refuse M (-2)).2) from (by unfold sp_X8_late; exact (if_neg c1))))
  · refine r_aload_n (pc := 11) hG dX8_late_11 rfl ?_
    refine gf_X8_live (pc := 12)  hG dX8_late_12 tw_355 ?_
    refine r_iload_n (pc := 15) hG dX8_late_15 rfl ?_
    refine cv_X5_windowsTooLate (pc := 16) (by omega) hG dX8_late_16 tw_1080 (c_X5_windowsTooLate (by omega) (hasP hpc0 c1) hok0) (by decide) (Nat.le_of_ble_eq_true rfl) ?_
    refine r_goto (pc := 19) (tgt := 28) hG dX8_late_19 (by decide) ?_
    exact hret _ _ _ _ dX8_late_28 (pair_fst (show sp_X8_late M a0 = (sp_X5_windowsTooLate M 0 a0, M) from (by unfold sp_X8_late; exact (if_pos c1)))) (pair_snd (show sp_X8_late M a0 = (sp_X5_windowsTooLate M 0 a0, M) from (by unfold sp_X8_late; exact (if_pos c1))))

def sp_X8_ofKind (M : MT) (a0 : Int32) : Int32 × MT :=
  if (sp_X8_isKind a0) = true then
    (sp_X5_countKind M 0 a0, M)
  else
    ((sp_X8_refuse M (-2)).1, (sp_X8_refuse M (-2)).2)
set_option maxRecDepth 20000 in
theorem c_X8_ofKind {K : KT} {M : MT} {a0 : Int32}  (hokx : OKX M) : CM K 3 yX8_ofKind cX8_ofKind 2 (some FieldType.int) [rf K 0, .int a0] M (some (.int (sp_X8_ofKind M a0).1)) (sp_X8_ofKind M a0).2 := by
  refine CM.ofI (by decide) [some (rf K 0), some (.int a0)] rfl (Nat.le_of_ble_eq_true rfl) (Nat.le_of_ble_eq_true rfl) (fun G hG _ hret => ?_)
  obtain ⟨hok0, hok1, hoa2, hoa3, hoa4, hsh, htp⟩ := id hokx
  obtain ⟨hwc0, hpc0, ⟨hcl0, hcm0⟩, hwi0, hda0, hle0, hk80, ha80, hW0, hP0⟩ := id hok0
  have hwl0 := bd_lt hwc0
  have hpl0 := bd_lt hpc0
  have hcl0l := bd_lt hcl0
  refine r_iload_n (pc := 0) hG dX8_ofKind_0 rfl ?_
  refine cs_X8_isKind (pc := 1)  hG dX8_ofKind_1 tw_455 (c_X8_isKind) (by decide) (Nat.le_of_ble_eq_true rfl) ?_
  refine r_ifz_eq (pc := 4) (tgt := 18) hG dX8_ofKind_4 (by decide) (fun c1 => ?_) (fun c1 => ?_)
  · refine r_aload_n (pc := 18) hG dX8_ofKind_18 rfl ?_
    refine r_bipush (pc := 19) hG dX8_ofKind_19 bc_m2 ?_
    refine cv_X8_refuse (pc := 21)  hG dX8_ofKind_21 tw_390 (c_X8_refuse (bd_lit (n := 7) (by decide))) (by decide) (Nat.le_of_ble_eq_true rfl) ?_
    exact hret _ _ _ _ dX8_ofKind_24 (pair_fst (show sp_X8_ofKind M a0 = ((sp_X8_refuse M (-2)).1, (sp_X8_refuse M (-2)).2) from (by unfold sp_X8_ofKind; exact (if_neg c1)))) (pair_snd (show sp_X8_ofKind M a0 = ((sp_X8_refuse M (-2)).1, (sp_X8_refuse M (-2)).2) from (by unfold sp_X8_ofKind; exact (if_neg c1))))
  · refine r_aload_n (pc := 7) hG dX8_ofKind_7 rfl ?_
    refine gf_X8_live (pc := 8)  hG dX8_ofKind_8 tw_355 ?_
    refine r_iload_n (pc := 11) hG dX8_ofKind_11 rfl ?_
    refine cv_X5_countKind (pc := 12) (by omega) hG dX8_ofKind_12 tw_1089 (c_X5_countKind (by omega) hok0) (by decide) (Nat.le_of_ble_eq_true rfl) ?_
    refine r_goto (pc := 15) (tgt := 24) hG dX8_ofKind_15 (by decide) ?_
    exact hret _ _ _ _ dX8_ofKind_24 (pair_fst (show sp_X8_ofKind M a0 = (sp_X5_countKind M 0 a0, M) from (by unfold sp_X8_ofKind; exact (if_pos c1)))) (pair_snd (show sp_X8_ofKind M a0 = (sp_X5_countKind M 0 a0, M) from (by unfold sp_X8_ofKind; exact (if_pos c1))))

def sp_X8_judge (M : MT) (a0 : Int32) (a1 : Int32) : Int32 × MT :=
  if (sp_X8_within a1 0 40) = true then
    if (sp_X8_rowRefusal M a0 a1) = 0 then
      (sp_X5_firstWrong M 0 (tn a0) a1 1, M)
    else
      ((sp_X8_refuse M (sp_X8_rowRefusal M a0 a1)).1, (sp_X8_refuse M (sp_X8_rowRefusal M a0 a1)).2)
  else
    ((sp_X8_refuse M (-2)).1, (sp_X8_refuse M (-2)).2)
set_option maxRecDepth 20000 in
theorem c_X8_judge {K : KT} {M : MT} {a0 : Int32} {a1 : Int32}  (hokx : OKX M) : CM K 4 yX8_judge cX8_judge 4 (some FieldType.int) [rf K 0, .int a0, .int a1] M (some (.int (sp_X8_judge M a0 a1).1)) (sp_X8_judge M a0 a1).2 := by
  refine CM.ofI (by decide) [some (rf K 0), some (.int a0), some (.int a1), none] rfl (Nat.le_of_ble_eq_true rfl) (Nat.le_of_ble_eq_true rfl) (fun G hG _ hret => ?_)
  obtain ⟨hok0, hok1, hoa2, hoa3, hoa4, hsh, htp⟩ := id hokx
  obtain ⟨hwc0, hpc0, ⟨hcl0, hcm0⟩, hwi0, hda0, hle0, hk80, ha80, hW0, hP0⟩ := id hok0
  have hwl0 := bd_lt hwc0
  have hpl0 := bd_lt hpc0
  have hcl0l := bd_lt hcl0
  refine r_iload_n (pc := 0) hG dX8_judge_0 rfl ?_
  refine r_iconst (pc := 1) hG dX8_judge_1 ic_0 ?_
  refine r_bipush (pc := 2) hG dX8_judge_2 bc_40 ?_
  refine cs_X8_within (pc := 4)  hG dX8_judge_4 tw_387 (c_X8_within) (by decide) (Nat.le_of_ble_eq_true rfl) ?_
  refine r_ifz_ne (pc := 7) (tgt := 17) hG dX8_judge_7 (by decide) (fun c1 => ?_) (fun c1 => ?_)
  · refine r_aload_n (pc := 17) hG dX8_judge_17 rfl ?_
    refine r_iload_n (pc := 18) hG dX8_judge_18 rfl ?_
    refine r_iload_n (pc := 19) hG dX8_judge_19 rfl ?_
    refine cv_X8_rowRefusal (pc := 20)  hG dX8_judge_20 tw_402 (c_X8_rowRefusal) (by decide) (Nat.le_of_ble_eq_true rfl) ?_
    refine r_istore_n (pc := 23) (ls' := [_, _, _, _]) hG dX8_judge_23 rfl rfl ?_
    refine r_iload_n (pc := 24) hG dX8_judge_24 rfl ?_
    refine r_if_eq (pc := 25) (tgt := 34) hG dX8_judge_25 (by decide) (fun c2 => ?_) (fun c2 => ?_)
    · refine r_aload_n (pc := 34) hG dX8_judge_34 rfl ?_
      refine gf_X8_live (pc := 35)  hG dX8_judge_35 tw_355 ?_
      refine r_aload_n (pc := 38) hG dX8_judge_38 rfl ?_
      refine gf_X8_shelves (pc := 39)  hG dX8_judge_39 tw_360 ?_
      refine r_iload_n (pc := 42) hG dX8_judge_42 rfl ?_
      refine aa_Xsh (pc := 43)  hG dX8_judge_43 (ix_bd (rrS c2)) ?_
      refine gf_X4_row (pc := 44) (bd_lt (rrS c2)) hG dX8_judge_44 tw_343 ?_
      refine r_iload_n (pc := 47) hG dX8_judge_47 rfl ?_
      refine r_iconst (pc := 48) hG dX8_judge_48 ic_1 ?_
      refine cv_X5_firstWrong (pc := 49) (by omega) hG dX8_judge_49 tw_866 (c_X5_firstWrong (by omega) (bd_lt (rrS c2)) (wi_bd (n := 40) c1 rfl (Nat.le_of_ble_eq_true rfl)) (mul1_bd (wi_bd (n := 40) c1 rfl (Nat.le_of_ble_eq_true rfl)))) (by decide) (Nat.le_of_ble_eq_true rfl) ?_
      exact hret _ _ _ _ dX8_judge_52 (pair_fst (show sp_X8_judge M a0 a1 = (sp_X5_firstWrong M 0 (tn a0) a1 1, M) from (by unfold sp_X8_judge; exact ((if_pos c1).trans (if_pos c2))))) (pair_snd (show sp_X8_judge M a0 a1 = (sp_X5_firstWrong M 0 (tn a0) a1 1, M) from (by unfold sp_X8_judge; exact ((if_pos c1).trans (if_pos c2)))))
    · refine r_aload_n (pc := 28) hG dX8_judge_28 rfl ?_
      refine r_iload_n (pc := 29) hG dX8_judge_29 rfl ?_
      refine cv_X8_refuse (pc := 30)  hG dX8_judge_30 tw_390 (c_X8_refuse rrB) (by decide) (Nat.le_of_ble_eq_true rfl) ?_
      exact hret _ _ _ _ dX8_judge_33 (pair_fst (show sp_X8_judge M a0 a1 = ((sp_X8_refuse M (sp_X8_rowRefusal M a0 a1)).1, (sp_X8_refuse M (sp_X8_rowRefusal M a0 a1)).2) from (by unfold sp_X8_judge; exact ((if_pos c1).trans (if_neg c2))))) (pair_snd (show sp_X8_judge M a0 a1 = ((sp_X8_refuse M (sp_X8_rowRefusal M a0 a1)).1, (sp_X8_refuse M (sp_X8_rowRefusal M a0 a1)).2) from (by unfold sp_X8_judge; exact ((if_pos c1).trans (if_neg c2)))))
  · refine r_aload_n (pc := 10) hG dX8_judge_10 rfl ?_
    refine r_bipush (pc := 11) hG dX8_judge_11 bc_m2 ?_
    refine cv_X8_refuse (pc := 13)  hG dX8_judge_13 tw_390 (c_X8_refuse (bd_lit (n := 7) (by decide))) (by decide) (Nat.le_of_ble_eq_true rfl) ?_
    exact hret _ _ _ _ dX8_judge_16 (pair_fst (show sp_X8_judge M a0 a1 = ((sp_X8_refuse M (-2)).1, (sp_X8_refuse M (-2)).2) from (by unfold sp_X8_judge; exact (if_neg c1)))) (pair_snd (show sp_X8_judge M a0 a1 = ((sp_X8_refuse M (-2)).1, (sp_X8_refuse M (-2)).2) from (by unfold sp_X8_judge; exact (if_neg c1))))

def sp_X8_thrown (M : MT) (a0 : Int32) (a1 : Int32) (a2 : Int32) : Int32 × MT :=
  if (sp_X8_isThrow M a0 a1 a2) = true then
    ((sp_X5_throwRose M 0 a0 a1 a2).1, (sp_X5_throwRose M 0 a0 a1 a2).2)
  else
    ((sp_X8_refuse M (-2)).1, (sp_X8_refuse M (-2)).2)
set_option maxRecDepth 20000 in
theorem c_X8_thrown {K : KT} {M : MT} {a0 : Int32} {a1 : Int32} {a2 : Int32}  (hokx : OKX M) : CM K 6 yX8_thrown cX8_thrown 4 (some FieldType.int) [rf K 0, .int a0, .int a1, .int a2] M (some (.int (sp_X8_thrown M a0 a1 a2).1)) (sp_X8_thrown M a0 a1 a2).2 := by
  refine CM.ofI (by decide) [some (rf K 0), some (.int a0), some (.int a1), some (.int a2)] rfl (Nat.le_of_ble_eq_true rfl) (Nat.le_of_ble_eq_true rfl) (fun G hG _ hret => ?_)
  obtain ⟨hok0, hok1, hoa2, hoa3, hoa4, hsh, htp⟩ := id hokx
  obtain ⟨hwc0, hpc0, ⟨hcl0, hcm0⟩, hwi0, hda0, hle0, hk80, ha80, hW0, hP0⟩ := id hok0
  have hwl0 := bd_lt hwc0
  have hpl0 := bd_lt hpc0
  have hcl0l := bd_lt hcl0
  refine r_aload_n (pc := 0) hG dX8_thrown_0 rfl ?_
  refine r_iload_n (pc := 1) hG dX8_thrown_1 rfl ?_
  refine r_iload_n (pc := 2) hG dX8_thrown_2 rfl ?_
  refine r_iload_n (pc := 3) hG dX8_thrown_3 rfl ?_
  refine cv_X8_isThrow (pc := 4)  hG dX8_thrown_4 tw_677 (c_X8_isThrow) (by decide) (Nat.le_of_ble_eq_true rfl) ?_
  refine r_ifz_eq (pc := 7) (tgt := 23) hG dX8_thrown_7 (by decide) (fun c1 => ?_) (fun c1 => ?_)
  · refine r_aload_n (pc := 23) hG dX8_thrown_23 rfl ?_
    refine r_bipush (pc := 24) hG dX8_thrown_24 bc_m2 ?_
    refine cv_X8_refuse (pc := 26)  hG dX8_thrown_26 tw_390 (c_X8_refuse (bd_lit (n := 7) (by decide))) (by decide) (Nat.le_of_ble_eq_true rfl) ?_
    exact hret _ _ _ _ dX8_thrown_29 (pair_fst (show sp_X8_thrown M a0 a1 a2 = ((sp_X8_refuse M (-2)).1, (sp_X8_refuse M (-2)).2) from (by unfold sp_X8_thrown; exact (if_neg c1)))) (pair_snd (show sp_X8_thrown M a0 a1 a2 = ((sp_X8_refuse M (-2)).1, (sp_X8_refuse M (-2)).2) from (by unfold sp_X8_thrown; exact (if_neg c1))))
  · refine r_aload_n (pc := 10) hG dX8_thrown_10 rfl ?_
    refine gf_X8_live (pc := 11)  hG dX8_thrown_11 tw_355 ?_
    refine r_iload_n (pc := 14) hG dX8_thrown_14 rfl ?_
    refine r_iload_n (pc := 15) hG dX8_thrown_15 rfl ?_
    refine r_iload_n (pc := 16) hG dX8_thrown_16 rfl ?_
    refine cv_X5_throwRose (pc := 17) (by omega) hG dX8_thrown_17 tw_1113 (c_X5_throwRose (by omega) (isThr hwc0 c1) hok0) (by decide) (Nat.le_of_ble_eq_true rfl) ?_
    refine r_goto (pc := 20) (tgt := 29) hG dX8_thrown_20 (by decide) ?_
    exact hret _ _ _ _ dX8_thrown_29 (pair_fst (show sp_X8_thrown M a0 a1 a2 = ((sp_X5_throwRose M 0 a0 a1 a2).1, (sp_X5_throwRose M 0 a0 a1 a2).2) from (by unfold sp_X8_thrown; exact (if_pos c1)))) (pair_snd (show sp_X8_thrown M a0 a1 a2 = ((sp_X5_throwRose M 0 a0 a1 a2).1, (sp_X5_throwRose M 0 a0 a1 a2).2) from (by unfold sp_X8_thrown; exact (if_pos c1))))

def sp_X8_seed (M : MT) (a0 : Int32) : Int32 × MT :=
  (M.1 0 5 0, u1 M 0 5 0 a0)
set_option maxRecDepth 20000 in
theorem c_X8_seed {K : KT} {M : MT} {a0 : Int32}  (hokx : OKX M) : CM K 1 yX8_seed cX8_seed 3 (some FieldType.int) [rf K 0, .int a0] M (some (.int (sp_X8_seed M a0).1)) (sp_X8_seed M a0).2 := by
  refine CM.ofI (by decide) [some (rf K 0), some (.int a0), none] rfl (Nat.le_of_ble_eq_true rfl) (Nat.le_of_ble_eq_true rfl) (fun G hG _ hret => ?_)
  obtain ⟨hok0, hok1, hoa2, hoa3, hoa4, hsh, htp⟩ := id hokx
  obtain ⟨hwc0, hpc0, ⟨hcl0, hcm0⟩, hwi0, hda0, hle0, hk80, ha80, hW0, hP0⟩ := id hok0
  have hwl0 := bd_lt hwc0
  have hpl0 := bd_lt hpc0
  have hcl0l := bd_lt hcl0
  refine r_aload_n (pc := 0) hG dX8_seed_0 rfl ?_
  refine gf_X8_live (pc := 1)  hG dX8_seed_1 tw_355 ?_
  refine gf_X5_seed (pc := 4) (by omega) hG dX8_seed_4 tw_194 ?_
  refine r_istore_n (pc := 7) (ls' := [_, _, _]) hG dX8_seed_7 rfl rfl ?_
  refine r_aload_n (pc := 8) hG dX8_seed_8 rfl ?_
  refine gf_X8_live (pc := 9)  hG dX8_seed_9 tw_355 ?_
  refine r_iload_n (pc := 12) hG dX8_seed_12 rfl ?_
  refine pf_X5_seed (pc := 13) (by omega) hG dX8_seed_13 tw_194 ?_
  refine r_iload_n (pc := 16) hG dX8_seed_16 rfl ?_
  exact hret _ _ _ _ dX8_seed_17 (pair_fst (show sp_X8_seed M a0 = (M.1 0 5 0, u1 M 0 5 0 a0) from (by unfold sp_X8_seed; exact rfl))) (pair_snd (show sp_X8_seed M a0 = (M.1 0 5 0, u1 M 0 5 0 a0) from (by unfold sp_X8_seed; exact rfl)))

def sp_X8_image (M : MT) : Int32 × MT :=
  (1, u2 (cpM M 1 0) 0 0 1)
set_option maxRecDepth 20000 in
theorem c_X8_image {K : KT} {M : MT}   (hokx : OKX M) : CM K 3 yX8_image cX8_image 1 (some FieldType.int) [rf K 0] M (some (.int (sp_X8_image M).1)) (sp_X8_image M).2 := by
  refine CM.ofI (by decide) [some (rf K 0)] rfl (Nat.le_of_ble_eq_true rfl) (Nat.le_of_ble_eq_true rfl) (fun G hG _ hret => ?_)
  obtain ⟨hok0, hok1, hoa2, hoa3, hoa4, hsh, htp⟩ := id hokx
  obtain ⟨hwc0, hpc0, ⟨hcl0, hcm0⟩, hwi0, hda0, hle0, hk80, ha80, hW0, hP0⟩ := id hok0
  have hwl0 := bd_lt hwc0
  have hpl0 := bd_lt hpc0
  have hcl0l := bd_lt hcl0
  refine r_aload_n (pc := 0) hG dX8_image_0 rfl ?_
  refine gf_X8_kept (pc := 1)  hG dX8_image_1 tw_356 ?_
  refine r_aload_n (pc := 4) hG dX8_image_4 rfl ?_
  refine gf_X8_live (pc := 5)  hG dX8_image_5 tw_355 ?_
  refine cv_X5_copyFrom (pc := 8) (by omega) hG dX8_image_8 tw_529 (c_X5_copyM (by omega) (by omega) (by decide) hok0) (by decide) (Nat.le_of_ble_eq_true rfl) ?_
  refine r_aload_n (pc := 11) hG dX8_image_11 rfl ?_
  refine r_iconst (pc := 12) hG dX8_image_12 ic_1 ?_
  refine pf_X8_somethingKept (pc := 13) (by decide)  hG dX8_image_13 tw_362 ?_
  refine r_iconst (pc := 16) hG dX8_image_16 ic_1 ?_
  exact hret _ _ _ _ dX8_image_17 (pair_fst (show sp_X8_image M = (1, u2 (cpM M 1 0) 0 0 1) from (by unfold sp_X8_image; exact rfl))) (pair_snd (show sp_X8_image M = (1, u2 (cpM M 1 0) 0 0 1) from (by unfold sp_X8_image; exact rfl)))

def sp_X8_open (M : MT) (a0 : Int32) (a1 : Int32) : Int32 × MT :=
  if (sp_X5_hasWindow M 0 a0) = true then
    if (sp_X8_isWhat a1 1) = true then
      if a1 = 0 then
        (sp_X5_openCells M 0 a0, M)
      else
        ((sp_X0_cellsAstray (cpM M 2 0) a0).1, (sp_X0_cellsAstray (cpM M 2 0) a0).2)
    else
      ((sp_X8_refuse M (-2)).1, (sp_X8_refuse M (-2)).2)
  else
    ((sp_X8_refuse M (-2)).1, (sp_X8_refuse M (-2)).2)
set_option maxRecDepth 20000 in
theorem c_X8_open {K : KT} {M : MT} {a0 : Int32} {a1 : Int32}  (hokx : OKX M) : CM K 6 yX8_open cX8_open 3 (some FieldType.int) [rf K 0, .int a0, .int a1] M (some (.int (sp_X8_open M a0 a1).1)) (sp_X8_open M a0 a1).2 := by
  refine CM.ofI (by decide) [some (rf K 0), some (.int a0), some (.int a1)] rfl (Nat.le_of_ble_eq_true rfl) (Nat.le_of_ble_eq_true rfl) (fun G hG _ hret => ?_)
  obtain ⟨hok0, hok1, hoa2, hoa3, hoa4, hsh, htp⟩ := id hokx
  obtain ⟨hwc0, hpc0, ⟨hcl0, hcm0⟩, hwi0, hda0, hle0, hk80, ha80, hW0, hP0⟩ := id hok0
  have hwl0 := bd_lt hwc0
  have hpl0 := bd_lt hpc0
  have hcl0l := bd_lt hcl0
  refine r_aload_n (pc := 0) hG dX8_open_0 rfl ?_
  refine gf_X8_live (pc := 1)  hG dX8_open_1 tw_355 ?_
  refine r_iload_n (pc := 4) hG dX8_open_4 rfl ?_
  refine cv_X5_hasWindow (pc := 5) (by omega) hG dX8_open_5 tw_669 (c_X5_hasWindow (by omega)) (by decide) (Nat.le_of_ble_eq_true rfl) ?_
  refine r_ifz_eq (pc := 8) (tgt := 19) hG dX8_open_8 (by decide) (fun c1 => ?_) (fun c1 => ?_)
  · refine r_aload_n (pc := 19) hG dX8_open_19 rfl ?_
    refine r_bipush (pc := 20) hG dX8_open_20 bc_m2 ?_
    refine cv_X8_refuse (pc := 22)  hG dX8_open_22 tw_390 (c_X8_refuse (bd_lit (n := 7) (by decide))) (by decide) (Nat.le_of_ble_eq_true rfl) ?_
    exact hret _ _ _ _ dX8_open_25 (pair_fst (show sp_X8_open M a0 a1 = ((sp_X8_refuse M (-2)).1, (sp_X8_refuse M (-2)).2) from (by unfold sp_X8_open; exact (if_neg c1)))) (pair_snd (show sp_X8_open M a0 a1 = ((sp_X8_refuse M (-2)).1, (sp_X8_refuse M (-2)).2) from (by unfold sp_X8_open; exact (if_neg c1))))
  · refine r_iload_n (pc := 11) hG dX8_open_11 rfl ?_
    refine r_iconst (pc := 12) hG dX8_open_12 ic_1 ?_
    refine cs_X8_isWhat (pc := 13)  hG dX8_open_13 tw_514 (c_X8_isWhat) (by decide) (Nat.le_of_ble_eq_true rfl) ?_
    refine r_ifz_ne (pc := 16) (tgt := 26) hG dX8_open_16 (by decide) (fun c2 => ?_) (fun c2 => ?_)
    · refine r_iload_n (pc := 26) hG dX8_open_26 rfl ?_
      refine r_if_ne (pc := 27) (tgt := 41) hG dX8_open_27 (by decide) (fun c3 => ?_) (fun c3 => ?_)
      · refine r_aload_n (pc := 41) hG dX8_open_41 rfl ?_
        refine cv_X8_freshOutlook (pc := 42)  hG dX8_open_42 tw_777 (c_X8_freshOutlook hokx) (by decide) (Nat.le_of_ble_eq_true rfl) ?_
        refine r_iload_n (pc := 45) hG dX8_open_45 rfl ?_
        refine cv_X0_cellsAstray (pc := 46)  hG dX8_open_46 tw_781 (c_X0_cellsAstray (hasW hwc0 c1)) (by decide) (Nat.le_of_ble_eq_true rfl) ?_
        exact hret _ _ _ _ dX8_open_49 (pair_fst (show sp_X8_open M a0 a1 = ((sp_X0_cellsAstray (cpM M 2 0) a0).1, (sp_X0_cellsAstray (cpM M 2 0) a0).2) from (by unfold sp_X8_open; exact ((if_pos c1).trans ((if_pos c2).trans (if_neg c3)))))) (pair_snd (show sp_X8_open M a0 a1 = ((sp_X0_cellsAstray (cpM M 2 0) a0).1, (sp_X0_cellsAstray (cpM M 2 0) a0).2) from (by unfold sp_X8_open; exact ((if_pos c1).trans ((if_pos c2).trans (if_neg c3))))))
      · refine r_aload_n (pc := 30) hG dX8_open_30 rfl ?_
        refine gf_X8_live (pc := 31)  hG dX8_open_31 tw_355 ?_
        refine r_iload_n (pc := 34) hG dX8_open_34 rfl ?_
        refine cv_X5_openCells (pc := 35) (by omega) hG dX8_open_35 tw_776 (c_X5_openCells (by omega) (hasW hwc0 c1)) (by decide) (Nat.le_of_ble_eq_true rfl) ?_
        refine r_goto (pc := 38) (tgt := 49) hG dX8_open_38 (by decide) ?_
        exact hret _ _ _ _ dX8_open_49 (pair_fst (show sp_X8_open M a0 a1 = (sp_X5_openCells M 0 a0, M) from (by unfold sp_X8_open; exact ((if_pos c1).trans ((if_pos c2).trans (if_pos c3)))))) (pair_snd (show sp_X8_open M a0 a1 = (sp_X5_openCells M 0 a0, M) from (by unfold sp_X8_open; exact ((if_pos c1).trans ((if_pos c2).trans (if_pos c3))))))
    · refine r_aload_n (pc := 19) hG dX8_open_19 rfl ?_
      refine r_bipush (pc := 20) hG dX8_open_20 bc_m2 ?_
      refine cv_X8_refuse (pc := 22)  hG dX8_open_22 tw_390 (c_X8_refuse (bd_lit (n := 7) (by decide))) (by decide) (Nat.le_of_ble_eq_true rfl) ?_
      exact hret _ _ _ _ dX8_open_25 (pair_fst (show sp_X8_open M a0 a1 = ((sp_X8_refuse M (-2)).1, (sp_X8_refuse M (-2)).2) from (by unfold sp_X8_open; exact ((if_pos c1).trans (if_neg c2))))) (pair_snd (show sp_X8_open M a0 a1 = ((sp_X8_refuse M (-2)).1, (sp_X8_refuse M (-2)).2) from (by unfold sp_X8_open; exact ((if_pos c1).trans (if_neg c2)))))

def sp_X8_chance (M : MT) (a0 : Int32) (a1 : Int32) (a2 : Int32) (a3 : Int32) : Int32 × MT :=
  if (sp_X5_hasPerson M 0 a0) = true then
    if (sp_X8_isThrow M a1 a2 a3) = true then
      ((((sp_X0_countWinds (cpM M 2 0) a0 a1 a2 a3).1) * 1000000) / 11, (sp_X0_countWinds (cpM M 2 0) a0 a1 a2 a3).2)
    else
      ((sp_X8_refuse M (-2)).1, (sp_X8_refuse M (-2)).2)
  else
    ((sp_X8_refuse M (-2)).1, (sp_X8_refuse M (-2)).2)
set_option maxRecDepth 20000 in
theorem c_X8_chance {K : KT} {M : MT} {a0 : Int32} {a1 : Int32} {a2 : Int32} {a3 : Int32}  (hokx : OKX M) : CM K 6 yX8_chance cX8_chance 5 (some FieldType.int) [rf K 0, .int a0, .int a1, .int a2, .int a3] M (some (.int (sp_X8_chance M a0 a1 a2 a3).1)) (sp_X8_chance M a0 a1 a2 a3).2 := by
  refine CM.ofI (by decide) [some (rf K 0), some (.int a0), some (.int a1), some (.int a2), some (.int a3)] rfl (Nat.le_of_ble_eq_true rfl) (Nat.le_of_ble_eq_true rfl) (fun G hG _ hret => ?_)
  obtain ⟨hok0, hok1, hoa2, hoa3, hoa4, hsh, htp⟩ := id hokx
  obtain ⟨hwc0, hpc0, ⟨hcl0, hcm0⟩, hwi0, hda0, hle0, hk80, ha80, hW0, hP0⟩ := id hok0
  have hwl0 := bd_lt hwc0
  have hpl0 := bd_lt hpc0
  have hcl0l := bd_lt hcl0
  refine r_aload_n (pc := 0) hG dX8_chance_0 rfl ?_
  refine gf_X8_live (pc := 1)  hG dX8_chance_1 tw_355 ?_
  refine r_iload_n (pc := 4) hG dX8_chance_4 rfl ?_
  refine cv_X5_hasPerson (pc := 5) (by omega) hG dX8_chance_5 tw_442 (c_X5_hasPerson (by omega)) (by decide) (Nat.le_of_ble_eq_true rfl) ?_
  refine r_ifz_eq (pc := 8) (tgt := 22) hG dX8_chance_8 (by decide) (fun c1 => ?_) (fun c1 => ?_)
  · refine r_aload_n (pc := 22) hG dX8_chance_22 rfl ?_
    refine r_bipush (pc := 23) hG dX8_chance_23 bc_m2 ?_
    refine cv_X8_refuse (pc := 25)  hG dX8_chance_25 tw_390 (c_X8_refuse (bd_lit (n := 7) (by decide))) (by decide) (Nat.le_of_ble_eq_true rfl) ?_
    exact hret _ _ _ _ dX8_chance_28 (pair_fst (show sp_X8_chance M a0 a1 a2 a3 = ((sp_X8_refuse M (-2)).1, (sp_X8_refuse M (-2)).2) from (by unfold sp_X8_chance; exact (if_neg c1)))) (pair_snd (show sp_X8_chance M a0 a1 a2 a3 = ((sp_X8_refuse M (-2)).1, (sp_X8_refuse M (-2)).2) from (by unfold sp_X8_chance; exact (if_neg c1))))
  · refine r_aload_n (pc := 11) hG dX8_chance_11 rfl ?_
    refine r_iload_n (pc := 12) hG dX8_chance_12 rfl ?_
    refine r_iload_n (pc := 13) hG dX8_chance_13 rfl ?_
    refine r_iload (pc := 14) hG dX8_chance_14 rfl ?_
    refine cv_X8_isThrow (pc := 16)  hG dX8_chance_16 tw_677 (c_X8_isThrow) (by decide) (Nat.le_of_ble_eq_true rfl) ?_
    refine r_ifz_ne (pc := 19) (tgt := 29) hG dX8_chance_19 (by decide) (fun c2 => ?_) (fun c2 => ?_)
    · refine r_aload_n (pc := 29) hG dX8_chance_29 rfl ?_
      refine cv_X8_freshOutlook (pc := 30)  hG dX8_chance_30 tw_777 (c_X8_freshOutlook hokx) (by decide) (Nat.le_of_ble_eq_true rfl) ?_
      refine r_iload_n (pc := 33) hG dX8_chance_33 rfl ?_
      refine r_iload_n (pc := 34) hG dX8_chance_34 rfl ?_
      refine r_iload_n (pc := 35) hG dX8_chance_35 rfl ?_
      refine r_iload (pc := 36) hG dX8_chance_36 rfl ?_
      refine cv_X0_countWinds (pc := 38)  hG dX8_chance_38 tw_906 (c_X0_countWinds (isThr hwc0 c2) (OKs_copy2 (by decide) hok0 hoa2)) (by decide) (Nat.le_of_ble_eq_true rfl) ?_
      refine r_ldc_w (pc := 41) hG dX8_chance_41 tw_911 ?_
      refine r_imul (pc := 44) hG dX8_chance_44 ?_
      refine r_bipush (pc := 45) hG dX8_chance_45 bc_11 ?_
      refine r_idiv (pc := 47) hG dX8_chance_47 (by decide) ?_
      exact hret _ _ _ _ dX8_chance_48 (pair_fst (show sp_X8_chance M a0 a1 a2 a3 = ((((sp_X0_countWinds (cpM M 2 0) a0 a1 a2 a3).1) * 1000000) / 11, (sp_X0_countWinds (cpM M 2 0) a0 a1 a2 a3).2) from (by unfold sp_X8_chance; exact ((if_pos c1).trans (if_pos c2))))) (pair_snd (show sp_X8_chance M a0 a1 a2 a3 = ((((sp_X0_countWinds (cpM M 2 0) a0 a1 a2 a3).1) * 1000000) / 11, (sp_X0_countWinds (cpM M 2 0) a0 a1 a2 a3).2) from (by unfold sp_X8_chance; exact ((if_pos c1).trans (if_pos c2)))))
    · refine r_aload_n (pc := 22) hG dX8_chance_22 rfl ?_
      refine r_bipush (pc := 23) hG dX8_chance_23 bc_m2 ?_
      refine cv_X8_refuse (pc := 25)  hG dX8_chance_25 tw_390 (c_X8_refuse (bd_lit (n := 7) (by decide))) (by decide) (Nat.le_of_ble_eq_true rfl) ?_
      exact hret _ _ _ _ dX8_chance_28 (pair_fst (show sp_X8_chance M a0 a1 a2 a3 = ((sp_X8_refuse M (-2)).1, (sp_X8_refuse M (-2)).2) from (by unfold sp_X8_chance; exact ((if_pos c1).trans (if_neg c2))))) (pair_snd (show sp_X8_chance M a0 a1 a2 a3 = ((sp_X8_refuse M (-2)).1, (sp_X8_refuse M (-2)).2) from (by unfold sp_X8_chance; exact ((if_pos c1).trans (if_neg c2)))))

def sp_X8_safest (M : MT) (a0 : Int32) (a1 : Int32) : Int32 × MT :=
  if (sp_X8_isCouple M a0 a1) = true then
    ((sp_X0_safestThrow (cpM M 2 0) a0 a1).1, (sp_X0_safestThrow (cpM M 2 0) a0 a1).2)
  else
    ((sp_X8_refuse M (-2)).1, (sp_X8_refuse M (-2)).2)
set_option maxRecDepth 20000 in
theorem c_X8_safest {K : KT} {M : MT} {a0 : Int32} {a1 : Int32}  (hokx : OKX M) : CM K 7 yX8_safest cX8_safest 3 (some FieldType.int) [rf K 0, .int a0, .int a1] M (some (.int (sp_X8_safest M a0 a1).1)) (sp_X8_safest M a0 a1).2 := by
  refine CM.ofI (by decide) [some (rf K 0), some (.int a0), some (.int a1)] rfl (Nat.le_of_ble_eq_true rfl) (Nat.le_of_ble_eq_true rfl) (fun G hG _ hret => ?_)
  obtain ⟨hok0, hok1, hoa2, hoa3, hoa4, hsh, htp⟩ := id hokx
  obtain ⟨hwc0, hpc0, ⟨hcl0, hcm0⟩, hwi0, hda0, hle0, hk80, ha80, hW0, hP0⟩ := id hok0
  have hwl0 := bd_lt hwc0
  have hpl0 := bd_lt hpc0
  have hcl0l := bd_lt hcl0
  refine r_aload_n (pc := 0) hG dX8_safest_0 rfl ?_
  refine r_iload_n (pc := 1) hG dX8_safest_1 rfl ?_
  refine r_iload_n (pc := 2) hG dX8_safest_2 rfl ?_
  refine cv_X8_isCouple (pc := 3)  hG dX8_safest_3 tw_719 (c_X8_isCouple) (by decide) (Nat.le_of_ble_eq_true rfl) ?_
  refine r_ifz_eq (pc := 6) (tgt := 21) hG dX8_safest_6 (by decide) (fun c1 => ?_) (fun c1 => ?_)
  · refine r_aload_n (pc := 21) hG dX8_safest_21 rfl ?_
    refine r_bipush (pc := 22) hG dX8_safest_22 bc_m2 ?_
    refine cv_X8_refuse (pc := 24)  hG dX8_safest_24 tw_390 (c_X8_refuse (bd_lit (n := 7) (by decide))) (by decide) (Nat.le_of_ble_eq_true rfl) ?_
    exact hret _ _ _ _ dX8_safest_27 (pair_fst (show sp_X8_safest M a0 a1 = ((sp_X8_refuse M (-2)).1, (sp_X8_refuse M (-2)).2) from (by unfold sp_X8_safest; exact (if_neg c1)))) (pair_snd (show sp_X8_safest M a0 a1 = ((sp_X8_refuse M (-2)).1, (sp_X8_refuse M (-2)).2) from (by unfold sp_X8_safest; exact (if_neg c1))))
  · refine r_aload_n (pc := 9) hG dX8_safest_9 rfl ?_
    refine cv_X8_freshOutlook (pc := 10)  hG dX8_safest_10 tw_777 (c_X8_freshOutlook hokx) (by decide) (Nat.le_of_ble_eq_true rfl) ?_
    refine r_iload_n (pc := 13) hG dX8_safest_13 rfl ?_
    refine r_iload_n (pc := 14) hG dX8_safest_14 rfl ?_
    refine cv_X0_safestThrow (pc := 15)  hG dX8_safest_15 tw_916 (c_X0_safestThrow (isCpW hwc0 c1) (OKs_copy2 (by decide) hok0 hoa2)) (by decide) (Nat.le_of_ble_eq_true rfl) ?_
    refine r_goto (pc := 18) (tgt := 27) hG dX8_safest_18 (by decide) ?_
    exact hret _ _ _ _ dX8_safest_27 (pair_fst (show sp_X8_safest M a0 a1 = ((sp_X0_safestThrow (cpM M 2 0) a0 a1).1, (sp_X0_safestThrow (cpM M 2 0) a0 a1).2) from (by unfold sp_X8_safest; exact (if_pos c1)))) (pair_snd (show sp_X8_safest M a0 a1 = ((sp_X0_safestThrow (cpM M 2 0) a0 a1).1, (sp_X0_safestThrow (cpM M 2 0) a0 a1).2) from (by unfold sp_X8_safest; exact (if_pos c1))))

def sp_X8_windFor (M : MT) (a0 : Int32) (a1 : Int32) (a2 : Int32) (a3 : Int32) : Int32 × MT :=
  if (sp_X5_hasPerson M 0 a0) = true then
    if (sp_X8_isThrow M a1 a2 a3) = true then
      ((sp_X0_leastWind (cpM M 2 0) a0 a1 a2 a3).1, (sp_X0_leastWind (cpM M 2 0) a0 a1 a2 a3).2)
    else
      ((sp_X8_refuse M (-2)).1, (sp_X8_refuse M (-2)).2)
  else
    ((sp_X8_refuse M (-2)).1, (sp_X8_refuse M (-2)).2)
set_option maxRecDepth 20000 in
theorem c_X8_windFor {K : KT} {M : MT} {a0 : Int32} {a1 : Int32} {a2 : Int32} {a3 : Int32}  (hokx : OKX M) : CM K 6 yX8_windFor cX8_windFor 5 (some FieldType.int) [rf K 0, .int a0, .int a1, .int a2, .int a3] M (some (.int (sp_X8_windFor M a0 a1 a2 a3).1)) (sp_X8_windFor M a0 a1 a2 a3).2 := by
  refine CM.ofI (by decide) [some (rf K 0), some (.int a0), some (.int a1), some (.int a2), some (.int a3)] rfl (Nat.le_of_ble_eq_true rfl) (Nat.le_of_ble_eq_true rfl) (fun G hG _ hret => ?_)
  obtain ⟨hok0, hok1, hoa2, hoa3, hoa4, hsh, htp⟩ := id hokx
  obtain ⟨hwc0, hpc0, ⟨hcl0, hcm0⟩, hwi0, hda0, hle0, hk80, ha80, hW0, hP0⟩ := id hok0
  have hwl0 := bd_lt hwc0
  have hpl0 := bd_lt hpc0
  have hcl0l := bd_lt hcl0
  refine r_aload_n (pc := 0) hG dX8_windFor_0 rfl ?_
  refine gf_X8_live (pc := 1)  hG dX8_windFor_1 tw_355 ?_
  refine r_iload_n (pc := 4) hG dX8_windFor_4 rfl ?_
  refine cv_X5_hasPerson (pc := 5) (by omega) hG dX8_windFor_5 tw_442 (c_X5_hasPerson (by omega)) (by decide) (Nat.le_of_ble_eq_true rfl) ?_
  refine r_ifz_eq (pc := 8) (tgt := 22) hG dX8_windFor_8 (by decide) (fun c1 => ?_) (fun c1 => ?_)
  · refine r_aload_n (pc := 22) hG dX8_windFor_22 rfl ?_
    refine r_bipush (pc := 23) hG dX8_windFor_23 bc_m2 ?_
    refine cv_X8_refuse (pc := 25)  hG dX8_windFor_25 tw_390 (c_X8_refuse (bd_lit (n := 7) (by decide))) (by decide) (Nat.le_of_ble_eq_true rfl) ?_
    exact hret _ _ _ _ dX8_windFor_28 (pair_fst (show sp_X8_windFor M a0 a1 a2 a3 = ((sp_X8_refuse M (-2)).1, (sp_X8_refuse M (-2)).2) from (by unfold sp_X8_windFor; exact (if_neg c1)))) (pair_snd (show sp_X8_windFor M a0 a1 a2 a3 = ((sp_X8_refuse M (-2)).1, (sp_X8_refuse M (-2)).2) from (by unfold sp_X8_windFor; exact (if_neg c1))))
  · refine r_aload_n (pc := 11) hG dX8_windFor_11 rfl ?_
    refine r_iload_n (pc := 12) hG dX8_windFor_12 rfl ?_
    refine r_iload_n (pc := 13) hG dX8_windFor_13 rfl ?_
    refine r_iload (pc := 14) hG dX8_windFor_14 rfl ?_
    refine cv_X8_isThrow (pc := 16)  hG dX8_windFor_16 tw_677 (c_X8_isThrow) (by decide) (Nat.le_of_ble_eq_true rfl) ?_
    refine r_ifz_ne (pc := 19) (tgt := 29) hG dX8_windFor_19 (by decide) (fun c2 => ?_) (fun c2 => ?_)
    · refine r_aload_n (pc := 29) hG dX8_windFor_29 rfl ?_
      refine cv_X8_freshOutlook (pc := 30)  hG dX8_windFor_30 tw_777 (c_X8_freshOutlook hokx) (by decide) (Nat.le_of_ble_eq_true rfl) ?_
      refine r_iload_n (pc := 33) hG dX8_windFor_33 rfl ?_
      refine r_iload_n (pc := 34) hG dX8_windFor_34 rfl ?_
      refine r_iload_n (pc := 35) hG dX8_windFor_35 rfl ?_
      refine r_iload (pc := 36) hG dX8_windFor_36 rfl ?_
      refine cv_X0_leastWind (pc := 38)  hG dX8_windFor_38 tw_1031 (c_X0_leastWind (isThr hwc0 c2) (OKs_copy2 (by decide) hok0 hoa2)) (by decide) (Nat.le_of_ble_eq_true rfl) ?_
      exact hret _ _ _ _ dX8_windFor_41 (pair_fst (show sp_X8_windFor M a0 a1 a2 a3 = ((sp_X0_leastWind (cpM M 2 0) a0 a1 a2 a3).1, (sp_X0_leastWind (cpM M 2 0) a0 a1 a2 a3).2) from (by unfold sp_X8_windFor; exact ((if_pos c1).trans (if_pos c2))))) (pair_snd (show sp_X8_windFor M a0 a1 a2 a3 = ((sp_X0_leastWind (cpM M 2 0) a0 a1 a2 a3).1, (sp_X0_leastWind (cpM M 2 0) a0 a1 a2 a3).2) from (by unfold sp_X8_windFor; exact ((if_pos c1).trans (if_pos c2)))))
    · refine r_aload_n (pc := 22) hG dX8_windFor_22 rfl ?_
      refine r_bipush (pc := 23) hG dX8_windFor_23 bc_m2 ?_
      refine cv_X8_refuse (pc := 25)  hG dX8_windFor_25 tw_390 (c_X8_refuse (bd_lit (n := 7) (by decide))) (by decide) (Nat.le_of_ble_eq_true rfl) ?_
      exact hret _ _ _ _ dX8_windFor_28 (pair_fst (show sp_X8_windFor M a0 a1 a2 a3 = ((sp_X8_refuse M (-2)).1, (sp_X8_refuse M (-2)).2) from (by unfold sp_X8_windFor; exact ((if_pos c1).trans (if_neg c2))))) (pair_snd (show sp_X8_windFor M a0 a1 a2 a3 = ((sp_X8_refuse M (-2)).1, (sp_X8_refuse M (-2)).2) from (by unfold sp_X8_windFor; exact ((if_pos c1).trans (if_neg c2)))))

def sp_X8_status (M : MT) (a0 : Int32) : Int32 × MT :=
  if a0 < 12 then
    if a0 = 0 then
      (M.1 0 1 0, M)
    else
      if a0 = 1 then
        (M.1 0 0 0, M)
      else
        if a0 = 2 then
          (M.1 0 2 0, M)
        else
          if a0 = 3 then
            (M.1 0 3 0, M)
          else
            if a0 = 4 then
              (M.1 0 3 1, M)
            else
              if a0 = 5 then
                (M.1 0 3 2, M)
              else
                if a0 = 6 then
                  (M.1 0 4 0, M)
                else
                  if a0 = 7 then
                    (sp_J6_bitCount_0f7a4 (sp_X5_roseBearers M 0 0), M)
                  else
                    if a0 = 8 then
                      (M.2.1 6 0, M)
                    else
                      if a0 = 9 then
                        (M.1 0 5 0, M)
                      else
                        if a0 = 10 then
                          (sp_X8_countFilledShelves M, M)
                        else
                          ((-1), M)
  else
    if 16 < a0 then
      if a0 = 0 then
        (M.1 0 1 0, M)
      else
        if a0 = 1 then
          (M.1 0 0 0, M)
        else
          if a0 = 2 then
            (M.1 0 2 0, M)
          else
            if a0 = 3 then
              (M.1 0 3 0, M)
            else
              if a0 = 4 then
                (M.1 0 3 1, M)
              else
                if a0 = 5 then
                  (M.1 0 3 2, M)
                else
                  if a0 = 6 then
                    (M.1 0 4 0, M)
                  else
                    if a0 = 7 then
                      (sp_J6_bitCount_0f7a4 (sp_X5_roseBearers M 0 0), M)
                    else
                      if a0 = 8 then
                        (M.2.1 6 0, M)
                      else
                        if a0 = 9 then
                          (M.1 0 5 0, M)
                        else
                          if a0 = 10 then
                            (sp_X8_countFilledShelves M, M)
                          else
                            ((-1), M)
    else
      (M.2.1 1 (tn (a0 - 10)), M)
set_option maxRecDepth 20000 in
theorem c_X8_status {K : KT} {M : MT} {a0 : Int32}  (hokx : OKX M) : CM K 3 yX8_status cX8_status 2 (some FieldType.int) [rf K 0, .int a0] M (some (.int (sp_X8_status M a0).1)) (sp_X8_status M a0).2 := by
  refine CM.ofI (by decide) [some (rf K 0), some (.int a0)] rfl (Nat.le_of_ble_eq_true rfl) (Nat.le_of_ble_eq_true rfl) (fun G hG _ hret => ?_)
  obtain ⟨hok0, hok1, hoa2, hoa3, hoa4, hsh, htp⟩ := id hokx
  obtain ⟨hwc0, hpc0, ⟨hcl0, hcm0⟩, hwi0, hda0, hle0, hk80, ha80, hW0, hP0⟩ := id hok0
  have hwl0 := bd_lt hwc0
  have hpl0 := bd_lt hpc0
  have hcl0l := bd_lt hcl0
  refine r_iload_n (pc := 0) hG dX8_status_0 rfl ?_
  refine r_bipush (pc := 1) hG dX8_status_1 bc_12 ?_
  refine r_icmp_lt (pc := 3) (tgt := 22) hG dX8_status_3 (by decide) (fun c1 => ?_) (fun c1 => ?_)
  · refine r_iload_n (pc := 22) hG dX8_status_22 rfl ?_
    by_cases c2 : a0 = 0
    · refine r_tableIn (pc := 23) (tgt := 80) (off := 57) hG dX8_status_23 (by rw [c2]; decide) (by rw [c2]; decide) (by rw [c2]; rfl) (by decide) ?_
      refine r_aload_n (pc := 80) hG dX8_status_80 rfl ?_
      refine gf_X8_live (pc := 81)  hG dX8_status_81 tw_355 ?_
      refine gf_X5_personCount (pc := 84) (by omega) hG dX8_status_84 tw_176 ?_
      exact hret _ _ _ _ dX8_status_87 (pair_fst (show sp_X8_status M a0 = (M.1 0 1 0, M) from (by unfold sp_X8_status; exact ((if_pos c1).trans (if_pos c2))))) (pair_snd (show sp_X8_status M a0 = (M.1 0 1 0, M) from (by unfold sp_X8_status; exact ((if_pos c1).trans (if_pos c2)))))
    · by_cases c3 : a0 = 1
      · refine r_tableIn (pc := 23) (tgt := 88) (off := 65) hG dX8_status_23 (by rw [c3]; decide) (by rw [c3]; decide) (by rw [c3]; rfl) (by decide) ?_
        refine r_aload_n (pc := 88) hG dX8_status_88 rfl ?_
        refine gf_X8_live (pc := 89)  hG dX8_status_89 tw_355 ?_
        refine gf_X5_windowCount (pc := 92) (by omega) hG dX8_status_92 tw_172 ?_
        exact hret _ _ _ _ dX8_status_95 (pair_fst (show sp_X8_status M a0 = (M.1 0 0 0, M) from (by unfold sp_X8_status; exact ((if_pos c1).trans ((if_neg c2).trans (if_pos c3)))))) (pair_snd (show sp_X8_status M a0 = (M.1 0 0 0, M) from (by unfold sp_X8_status; exact ((if_pos c1).trans ((if_neg c2).trans (if_pos c3))))))
      · by_cases c4 : a0 = 2
        · refine r_tableIn (pc := 23) (tgt := 96) (off := 73) hG dX8_status_23 (by rw [c4]; decide) (by rw [c4]; decide) (by rw [c4]; rfl) (by decide) ?_
          refine r_aload_n (pc := 96) hG dX8_status_96 rfl ?_
          refine gf_X8_live (pc := 97)  hG dX8_status_97 tw_355 ?_
          refine gf_X5_cells (pc := 100) (by omega) hG dX8_status_100 tw_179 ?_
          exact hret _ _ _ _ dX8_status_103 (pair_fst (show sp_X8_status M a0 = (M.1 0 2 0, M) from (by unfold sp_X8_status; exact ((if_pos c1).trans ((if_neg c2).trans ((if_neg c3).trans (if_pos c4))))))) (pair_snd (show sp_X8_status M a0 = (M.1 0 2 0, M) from (by unfold sp_X8_status; exact ((if_pos c1).trans ((if_neg c2).trans ((if_neg c3).trans (if_pos c4)))))))
        · by_cases c5 : a0 = 3
          · refine r_tableIn (pc := 23) (tgt := 104) (off := 81) hG dX8_status_23 (by rw [c5]; decide) (by rw [c5]; decide) (by rw [c5]; rfl) (by decide) ?_
            refine r_aload_n (pc := 104) hG dX8_status_104 rfl ?_
            refine gf_X8_live (pc := 105)  hG dX8_status_105 tw_355 ?_
            refine gf_X5_wind (pc := 108) (by omega) hG dX8_status_108 tw_183 ?_
            exact hret _ _ _ _ dX8_status_111 (pair_fst (show sp_X8_status M a0 = (M.1 0 3 0, M) from (by unfold sp_X8_status; exact ((if_pos c1).trans ((if_neg c2).trans ((if_neg c3).trans ((if_neg c4).trans (if_pos c5)))))))) (pair_snd (show sp_X8_status M a0 = (M.1 0 3 0, M) from (by unfold sp_X8_status; exact ((if_pos c1).trans ((if_neg c2).trans ((if_neg c3).trans ((if_neg c4).trans (if_pos c5))))))))
          · by_cases c6 : a0 = 4
            · refine r_tableIn (pc := 23) (tgt := 112) (off := 89) hG dX8_status_23 (by rw [c6]; decide) (by rw [c6]; decide) (by rw [c6]; rfl) (by decide) ?_
              refine r_aload_n (pc := 112) hG dX8_status_112 rfl ?_
              refine gf_X8_live (pc := 113)  hG dX8_status_113 tw_355 ?_
              refine gf_X5_day (pc := 116) (by omega) hG dX8_status_116 tw_186 ?_
              exact hret _ _ _ _ dX8_status_119 (pair_fst (show sp_X8_status M a0 = (M.1 0 3 1, M) from (by unfold sp_X8_status; exact ((if_pos c1).trans ((if_neg c2).trans ((if_neg c3).trans ((if_neg c4).trans ((if_neg c5).trans (if_pos c6))))))))) (pair_snd (show sp_X8_status M a0 = (M.1 0 3 1, M) from (by unfold sp_X8_status; exact ((if_pos c1).trans ((if_neg c2).trans ((if_neg c3).trans ((if_neg c4).trans ((if_neg c5).trans (if_pos c6)))))))))
            · by_cases c7 : a0 = 5
              · refine r_tableIn (pc := 23) (tgt := 120) (off := 97) hG dX8_status_23 (by rw [c7]; decide) (by rw [c7]; decide) (by rw [c7]; rfl) (by decide) ?_
                refine r_aload_n (pc := 120) hG dX8_status_120 rfl ?_
                refine gf_X8_live (pc := 121)  hG dX8_status_121 tw_355 ?_
                refine gf_X5_lent (pc := 124) (by omega) hG dX8_status_124 tw_189 ?_
                exact hret _ _ _ _ dX8_status_127 (pair_fst (show sp_X8_status M a0 = (M.1 0 3 2, M) from (by unfold sp_X8_status; exact ((if_pos c1).trans ((if_neg c2).trans ((if_neg c3).trans ((if_neg c4).trans ((if_neg c5).trans ((if_neg c6).trans (if_pos c7)))))))))) (pair_snd (show sp_X8_status M a0 = (M.1 0 3 2, M) from (by unfold sp_X8_status; exact ((if_pos c1).trans ((if_neg c2).trans ((if_neg c3).trans ((if_neg c4).trans ((if_neg c5).trans ((if_neg c6).trans (if_pos c7))))))))))
              · by_cases c8 : a0 = 6
                · refine r_tableIn (pc := 23) (tgt := 128) (off := 105) hG dX8_status_23 (by rw [c8]; decide) (by rw [c8]; decide) (by rw [c8]; rfl) (by decide) ?_
                  refine r_aload_n (pc := 128) hG dX8_status_128 rfl ?_
                  refine gf_X8_live (pc := 129)  hG dX8_status_129 tw_355 ?_
                  refine gf_X5_said (pc := 132) (by omega) hG dX8_status_132 tw_192 ?_
                  exact hret _ _ _ _ dX8_status_135 (pair_fst (show sp_X8_status M a0 = (M.1 0 4 0, M) from (by unfold sp_X8_status; exact ((if_pos c1).trans ((if_neg c2).trans ((if_neg c3).trans ((if_neg c4).trans ((if_neg c5).trans ((if_neg c6).trans ((if_neg c7).trans (if_pos c8))))))))))) (pair_snd (show sp_X8_status M a0 = (M.1 0 4 0, M) from (by unfold sp_X8_status; exact ((if_pos c1).trans ((if_neg c2).trans ((if_neg c3).trans ((if_neg c4).trans ((if_neg c5).trans ((if_neg c6).trans ((if_neg c7).trans (if_pos c8)))))))))))
                · by_cases c9 : a0 = 7
                  · refine r_tableIn (pc := 23) (tgt := 136) (off := 113) hG dX8_status_23 (by rw [c9]; decide) (by rw [c9]; decide) (by rw [c9]; rfl) (by decide) ?_
                    refine r_aload_n (pc := 136) hG dX8_status_136 rfl ?_
                    refine gf_X8_live (pc := 137)  hG dX8_status_137 tw_355 ?_
                    refine r_iconst (pc := 140) hG dX8_status_140 ic_0 ?_
                    refine cv_X5_roseBearers (pc := 141) (by omega) hG dX8_status_141 tw_976 (c_X5_roseBearers (by omega) hok0) (by decide) (Nat.le_of_ble_eq_true rfl) ?_
                    refine cs_J6_bitCount_0f7a4 (pc := 144)  hG dX8_status_144 tw_1009 (c_J6_bitCount_0f7a4) (by decide) (Nat.le_of_ble_eq_true rfl) ?_
                    exact hret _ _ _ _ dX8_status_147 (pair_fst (show sp_X8_status M a0 = (sp_J6_bitCount_0f7a4 (sp_X5_roseBearers M 0 0), M) from (by unfold sp_X8_status; exact ((if_pos c1).trans ((if_neg c2).trans ((if_neg c3).trans ((if_neg c4).trans ((if_neg c5).trans ((if_neg c6).trans ((if_neg c7).trans ((if_neg c8).trans (if_pos c9)))))))))))) (pair_snd (show sp_X8_status M a0 = (sp_J6_bitCount_0f7a4 (sp_X5_roseBearers M 0 0), M) from (by unfold sp_X8_status; exact ((if_pos c1).trans ((if_neg c2).trans ((if_neg c3).trans ((if_neg c4).trans ((if_neg c5).trans ((if_neg c6).trans ((if_neg c7).trans ((if_neg c8).trans (if_pos c9))))))))))))
                  · by_cases c10 : a0 = 8
                    · refine r_tableIn (pc := 23) (tgt := 148) (off := 125) hG dX8_status_23 (by rw [c10]; decide) (by rw [c10]; decide) (by rw [c10]; rfl) (by decide) ?_
                      refine r_aload_n (pc := 148) hG dX8_status_148 rfl ?_
                      refine gf_X8_tape (pc := 149)  hG dX8_status_149 tw_359 ?_
                      refine gf_X6_size (pc := 152)  hG dX8_status_152 tw_288 ?_
                      exact hret _ _ _ _ dX8_status_155 (pair_fst (show sp_X8_status M a0 = (M.2.1 6 0, M) from (by unfold sp_X8_status; exact ((if_pos c1).trans ((if_neg c2).trans ((if_neg c3).trans ((if_neg c4).trans ((if_neg c5).trans ((if_neg c6).trans ((if_neg c7).trans ((if_neg c8).trans ((if_neg c9).trans (if_pos c10))))))))))))) (pair_snd (show sp_X8_status M a0 = (M.2.1 6 0, M) from (by unfold sp_X8_status; exact ((if_pos c1).trans ((if_neg c2).trans ((if_neg c3).trans ((if_neg c4).trans ((if_neg c5).trans ((if_neg c6).trans ((if_neg c7).trans ((if_neg c8).trans ((if_neg c9).trans (if_pos c10)))))))))))))
                    · by_cases c11 : a0 = 9
                      · refine r_tableIn (pc := 23) (tgt := 156) (off := 133) hG dX8_status_23 (by rw [c11]; decide) (by rw [c11]; decide) (by rw [c11]; rfl) (by decide) ?_
                        refine r_aload_n (pc := 156) hG dX8_status_156 rfl ?_
                        refine gf_X8_live (pc := 157)  hG dX8_status_157 tw_355 ?_
                        refine gf_X5_seed (pc := 160) (by omega) hG dX8_status_160 tw_194 ?_
                        exact hret _ _ _ _ dX8_status_163 (pair_fst (show sp_X8_status M a0 = (M.1 0 5 0, M) from (by unfold sp_X8_status; exact ((if_pos c1).trans ((if_neg c2).trans ((if_neg c3).trans ((if_neg c4).trans ((if_neg c5).trans ((if_neg c6).trans ((if_neg c7).trans ((if_neg c8).trans ((if_neg c9).trans ((if_neg c10).trans (if_pos c11)))))))))))))) (pair_snd (show sp_X8_status M a0 = (M.1 0 5 0, M) from (by unfold sp_X8_status; exact ((if_pos c1).trans ((if_neg c2).trans ((if_neg c3).trans ((if_neg c4).trans ((if_neg c5).trans ((if_neg c6).trans ((if_neg c7).trans ((if_neg c8).trans ((if_neg c9).trans ((if_neg c10).trans (if_pos c11))))))))))))))
                      · by_cases c12 : a0 = 10
                        · refine r_tableIn (pc := 23) (tgt := 164) (off := 141) hG dX8_status_23 (by rw [c12]; decide) (by rw [c12]; decide) (by rw [c12]; rfl) (by decide) ?_
                          refine r_aload_n (pc := 164) hG dX8_status_164 rfl ?_
                          refine cv_X8_countFilledShelves (pc := 165)  hG dX8_status_165 tw_1156 (c_X8_countFilledShelves) (by decide) (Nat.le_of_ble_eq_true rfl) ?_
                          exact hret _ _ _ _ dX8_status_168 (pair_fst (show sp_X8_status M a0 = (sp_X8_countFilledShelves M, M) from (by unfold sp_X8_status; exact ((if_pos c1).trans ((if_neg c2).trans ((if_neg c3).trans ((if_neg c4).trans ((if_neg c5).trans ((if_neg c6).trans ((if_neg c7).trans ((if_neg c8).trans ((if_neg c9).trans ((if_neg c10).trans ((if_neg c11).trans (if_pos c12))))))))))))))) (pair_snd (show sp_X8_status M a0 = (sp_X8_countFilledShelves M, M) from (by unfold sp_X8_status; exact ((if_pos c1).trans ((if_neg c2).trans ((if_neg c3).trans ((if_neg c4).trans ((if_neg c5).trans ((if_neg c6).trans ((if_neg c7).trans ((if_neg c8).trans ((if_neg c9).trans ((if_neg c10).trans ((if_neg c11).trans (if_pos c12)))))))))))))))
                        · have nc2 : Int32.toInt a0 ≠ 0 := fun q => c2 (Int32.toInt_inj.mp q)
                          have nc3 : Int32.toInt a0 ≠ 1 := fun q => c3 (Int32.toInt_inj.mp q)
                          have nc4 : Int32.toInt a0 ≠ 2 := fun q => c4 (Int32.toInt_inj.mp q)
                          have nc5 : Int32.toInt a0 ≠ 3 := fun q => c5 (Int32.toInt_inj.mp q)
                          have nc6 : Int32.toInt a0 ≠ 4 := fun q => c6 (Int32.toInt_inj.mp q)
                          have nc7 : Int32.toInt a0 ≠ 5 := fun q => c7 (Int32.toInt_inj.mp q)
                          have nc8 : Int32.toInt a0 ≠ 6 := fun q => c8 (Int32.toInt_inj.mp q)
                          have nc9 : Int32.toInt a0 ≠ 7 := fun q => c9 (Int32.toInt_inj.mp q)
                          have nc10 : Int32.toInt a0 ≠ 8 := fun q => c10 (Int32.toInt_inj.mp q)
                          have nc11 : Int32.toInt a0 ≠ 9 := fun q => c11 (Int32.toInt_inj.mp q)
                          have nc12 : Int32.toInt a0 ≠ 10 := fun q => c12 (Int32.toInt_inj.mp q)
                          refine r_tableOut (pc := 23) (tgt := 169) hG dX8_status_23 (by omega) (by decide) ?_
                          refine r_iconst (pc := 169) hG dX8_status_169 ic_m1 ?_
                          exact hret _ _ _ _ dX8_status_170 (pair_fst (show sp_X8_status M a0 = ((-1), M) from (by unfold sp_X8_status; exact ((if_pos c1).trans ((if_neg c2).trans ((if_neg c3).trans ((if_neg c4).trans ((if_neg c5).trans ((if_neg c6).trans ((if_neg c7).trans ((if_neg c8).trans ((if_neg c9).trans ((if_neg c10).trans ((if_neg c11).trans (if_neg c12))))))))))))))) (pair_snd (show sp_X8_status M a0 = ((-1), M) from (by unfold sp_X8_status; exact ((if_pos c1).trans ((if_neg c2).trans ((if_neg c3).trans ((if_neg c4).trans ((if_neg c5).trans ((if_neg c6).trans ((if_neg c7).trans ((if_neg c8).trans ((if_neg c9).trans ((if_neg c10).trans ((if_neg c11).trans (if_neg c12)))))))))))))))
  · refine r_iload_n (pc := 6) hG dX8_status_6 rfl ?_
    refine r_bipush (pc := 7) hG dX8_status_7 bc_16 ?_
    refine r_icmp_gt (pc := 9) (tgt := 22) hG dX8_status_9 (by decide) (fun c13 => ?_) (fun c13 => ?_)
    · refine r_iload_n (pc := 22) hG dX8_status_22 rfl ?_
      by_cases c14 : a0 = 0
      · refine r_tableIn (pc := 23) (tgt := 80) (off := 57) hG dX8_status_23 (by rw [c14]; decide) (by rw [c14]; decide) (by rw [c14]; rfl) (by decide) ?_
        refine r_aload_n (pc := 80) hG dX8_status_80 rfl ?_
        refine gf_X8_live (pc := 81)  hG dX8_status_81 tw_355 ?_
        refine gf_X5_personCount (pc := 84) (by omega) hG dX8_status_84 tw_176 ?_
        exact hret _ _ _ _ dX8_status_87 (pair_fst (show sp_X8_status M a0 = (M.1 0 1 0, M) from (by unfold sp_X8_status; exact ((if_neg c1).trans ((if_pos c13).trans (if_pos c14)))))) (pair_snd (show sp_X8_status M a0 = (M.1 0 1 0, M) from (by unfold sp_X8_status; exact ((if_neg c1).trans ((if_pos c13).trans (if_pos c14))))))
      · by_cases c15 : a0 = 1
        · refine r_tableIn (pc := 23) (tgt := 88) (off := 65) hG dX8_status_23 (by rw [c15]; decide) (by rw [c15]; decide) (by rw [c15]; rfl) (by decide) ?_
          refine r_aload_n (pc := 88) hG dX8_status_88 rfl ?_
          refine gf_X8_live (pc := 89)  hG dX8_status_89 tw_355 ?_
          refine gf_X5_windowCount (pc := 92) (by omega) hG dX8_status_92 tw_172 ?_
          exact hret _ _ _ _ dX8_status_95 (pair_fst (show sp_X8_status M a0 = (M.1 0 0 0, M) from (by unfold sp_X8_status; exact ((if_neg c1).trans ((if_pos c13).trans ((if_neg c14).trans (if_pos c15))))))) (pair_snd (show sp_X8_status M a0 = (M.1 0 0 0, M) from (by unfold sp_X8_status; exact ((if_neg c1).trans ((if_pos c13).trans ((if_neg c14).trans (if_pos c15)))))))
        · by_cases c16 : a0 = 2
          · refine r_tableIn (pc := 23) (tgt := 96) (off := 73) hG dX8_status_23 (by rw [c16]; decide) (by rw [c16]; decide) (by rw [c16]; rfl) (by decide) ?_
            refine r_aload_n (pc := 96) hG dX8_status_96 rfl ?_
            refine gf_X8_live (pc := 97)  hG dX8_status_97 tw_355 ?_
            refine gf_X5_cells (pc := 100) (by omega) hG dX8_status_100 tw_179 ?_
            exact hret _ _ _ _ dX8_status_103 (pair_fst (show sp_X8_status M a0 = (M.1 0 2 0, M) from (by unfold sp_X8_status; exact ((if_neg c1).trans ((if_pos c13).trans ((if_neg c14).trans ((if_neg c15).trans (if_pos c16)))))))) (pair_snd (show sp_X8_status M a0 = (M.1 0 2 0, M) from (by unfold sp_X8_status; exact ((if_neg c1).trans ((if_pos c13).trans ((if_neg c14).trans ((if_neg c15).trans (if_pos c16))))))))
          · by_cases c17 : a0 = 3
            · refine r_tableIn (pc := 23) (tgt := 104) (off := 81) hG dX8_status_23 (by rw [c17]; decide) (by rw [c17]; decide) (by rw [c17]; rfl) (by decide) ?_
              refine r_aload_n (pc := 104) hG dX8_status_104 rfl ?_
              refine gf_X8_live (pc := 105)  hG dX8_status_105 tw_355 ?_
              refine gf_X5_wind (pc := 108) (by omega) hG dX8_status_108 tw_183 ?_
              exact hret _ _ _ _ dX8_status_111 (pair_fst (show sp_X8_status M a0 = (M.1 0 3 0, M) from (by unfold sp_X8_status; exact ((if_neg c1).trans ((if_pos c13).trans ((if_neg c14).trans ((if_neg c15).trans ((if_neg c16).trans (if_pos c17))))))))) (pair_snd (show sp_X8_status M a0 = (M.1 0 3 0, M) from (by unfold sp_X8_status; exact ((if_neg c1).trans ((if_pos c13).trans ((if_neg c14).trans ((if_neg c15).trans ((if_neg c16).trans (if_pos c17)))))))))
            · by_cases c18 : a0 = 4
              · refine r_tableIn (pc := 23) (tgt := 112) (off := 89) hG dX8_status_23 (by rw [c18]; decide) (by rw [c18]; decide) (by rw [c18]; rfl) (by decide) ?_
                refine r_aload_n (pc := 112) hG dX8_status_112 rfl ?_
                refine gf_X8_live (pc := 113)  hG dX8_status_113 tw_355 ?_
                refine gf_X5_day (pc := 116) (by omega) hG dX8_status_116 tw_186 ?_
                exact hret _ _ _ _ dX8_status_119 (pair_fst (show sp_X8_status M a0 = (M.1 0 3 1, M) from (by unfold sp_X8_status; exact ((if_neg c1).trans ((if_pos c13).trans ((if_neg c14).trans ((if_neg c15).trans ((if_neg c16).trans ((if_neg c17).trans (if_pos c18)))))))))) (pair_snd (show sp_X8_status M a0 = (M.1 0 3 1, M) from (by unfold sp_X8_status; exact ((if_neg c1).trans ((if_pos c13).trans ((if_neg c14).trans ((if_neg c15).trans ((if_neg c16).trans ((if_neg c17).trans (if_pos c18))))))))))
              · by_cases c19 : a0 = 5
                · refine r_tableIn (pc := 23) (tgt := 120) (off := 97) hG dX8_status_23 (by rw [c19]; decide) (by rw [c19]; decide) (by rw [c19]; rfl) (by decide) ?_
                  refine r_aload_n (pc := 120) hG dX8_status_120 rfl ?_
                  refine gf_X8_live (pc := 121)  hG dX8_status_121 tw_355 ?_
                  refine gf_X5_lent (pc := 124) (by omega) hG dX8_status_124 tw_189 ?_
                  exact hret _ _ _ _ dX8_status_127 (pair_fst (show sp_X8_status M a0 = (M.1 0 3 2, M) from (by unfold sp_X8_status; exact ((if_neg c1).trans ((if_pos c13).trans ((if_neg c14).trans ((if_neg c15).trans ((if_neg c16).trans ((if_neg c17).trans ((if_neg c18).trans (if_pos c19))))))))))) (pair_snd (show sp_X8_status M a0 = (M.1 0 3 2, M) from (by unfold sp_X8_status; exact ((if_neg c1).trans ((if_pos c13).trans ((if_neg c14).trans ((if_neg c15).trans ((if_neg c16).trans ((if_neg c17).trans ((if_neg c18).trans (if_pos c19)))))))))))
                · by_cases c20 : a0 = 6
                  · refine r_tableIn (pc := 23) (tgt := 128) (off := 105) hG dX8_status_23 (by rw [c20]; decide) (by rw [c20]; decide) (by rw [c20]; rfl) (by decide) ?_
                    refine r_aload_n (pc := 128) hG dX8_status_128 rfl ?_
                    refine gf_X8_live (pc := 129)  hG dX8_status_129 tw_355 ?_
                    refine gf_X5_said (pc := 132) (by omega) hG dX8_status_132 tw_192 ?_
                    exact hret _ _ _ _ dX8_status_135 (pair_fst (show sp_X8_status M a0 = (M.1 0 4 0, M) from (by unfold sp_X8_status; exact ((if_neg c1).trans ((if_pos c13).trans ((if_neg c14).trans ((if_neg c15).trans ((if_neg c16).trans ((if_neg c17).trans ((if_neg c18).trans ((if_neg c19).trans (if_pos c20)))))))))))) (pair_snd (show sp_X8_status M a0 = (M.1 0 4 0, M) from (by unfold sp_X8_status; exact ((if_neg c1).trans ((if_pos c13).trans ((if_neg c14).trans ((if_neg c15).trans ((if_neg c16).trans ((if_neg c17).trans ((if_neg c18).trans ((if_neg c19).trans (if_pos c20))))))))))))
                  · by_cases c21 : a0 = 7
                    · refine r_tableIn (pc := 23) (tgt := 136) (off := 113) hG dX8_status_23 (by rw [c21]; decide) (by rw [c21]; decide) (by rw [c21]; rfl) (by decide) ?_
                      refine r_aload_n (pc := 136) hG dX8_status_136 rfl ?_
                      refine gf_X8_live (pc := 137)  hG dX8_status_137 tw_355 ?_
                      refine r_iconst (pc := 140) hG dX8_status_140 ic_0 ?_
                      refine cv_X5_roseBearers (pc := 141) (by omega) hG dX8_status_141 tw_976 (c_X5_roseBearers (by omega) hok0) (by decide) (Nat.le_of_ble_eq_true rfl) ?_
                      refine cs_J6_bitCount_0f7a4 (pc := 144)  hG dX8_status_144 tw_1009 (c_J6_bitCount_0f7a4) (by decide) (Nat.le_of_ble_eq_true rfl) ?_
                      exact hret _ _ _ _ dX8_status_147 (pair_fst (show sp_X8_status M a0 = (sp_J6_bitCount_0f7a4 (sp_X5_roseBearers M 0 0), M) from (by unfold sp_X8_status; exact ((if_neg c1).trans ((if_pos c13).trans ((if_neg c14).trans ((if_neg c15).trans ((if_neg c16).trans ((if_neg c17).trans ((if_neg c18).trans ((if_neg c19).trans ((if_neg c20).trans (if_pos c21))))))))))))) (pair_snd (show sp_X8_status M a0 = (sp_J6_bitCount_0f7a4 (sp_X5_roseBearers M 0 0), M) from (by unfold sp_X8_status; exact ((if_neg c1).trans ((if_pos c13).trans ((if_neg c14).trans ((if_neg c15).trans ((if_neg c16).trans ((if_neg c17).trans ((if_neg c18).trans ((if_neg c19).trans ((if_neg c20).trans (if_pos c21)))))))))))))
                    · by_cases c22 : a0 = 8
                      · refine r_tableIn (pc := 23) (tgt := 148) (off := 125) hG dX8_status_23 (by rw [c22]; decide) (by rw [c22]; decide) (by rw [c22]; rfl) (by decide) ?_
                        refine r_aload_n (pc := 148) hG dX8_status_148 rfl ?_
                        refine gf_X8_tape (pc := 149)  hG dX8_status_149 tw_359 ?_
                        refine gf_X6_size (pc := 152)  hG dX8_status_152 tw_288 ?_
                        exact hret _ _ _ _ dX8_status_155 (pair_fst (show sp_X8_status M a0 = (M.2.1 6 0, M) from (by unfold sp_X8_status; exact ((if_neg c1).trans ((if_pos c13).trans ((if_neg c14).trans ((if_neg c15).trans ((if_neg c16).trans ((if_neg c17).trans ((if_neg c18).trans ((if_neg c19).trans ((if_neg c20).trans ((if_neg c21).trans (if_pos c22)))))))))))))) (pair_snd (show sp_X8_status M a0 = (M.2.1 6 0, M) from (by unfold sp_X8_status; exact ((if_neg c1).trans ((if_pos c13).trans ((if_neg c14).trans ((if_neg c15).trans ((if_neg c16).trans ((if_neg c17).trans ((if_neg c18).trans ((if_neg c19).trans ((if_neg c20).trans ((if_neg c21).trans (if_pos c22))))))))))))))
                      · by_cases c23 : a0 = 9
                        · refine r_tableIn (pc := 23) (tgt := 156) (off := 133) hG dX8_status_23 (by rw [c23]; decide) (by rw [c23]; decide) (by rw [c23]; rfl) (by decide) ?_
                          refine r_aload_n (pc := 156) hG dX8_status_156 rfl ?_
                          refine gf_X8_live (pc := 157)  hG dX8_status_157 tw_355 ?_
                          refine gf_X5_seed (pc := 160) (by omega) hG dX8_status_160 tw_194 ?_
                          exact hret _ _ _ _ dX8_status_163 (pair_fst (show sp_X8_status M a0 = (M.1 0 5 0, M) from (by unfold sp_X8_status; exact ((if_neg c1).trans ((if_pos c13).trans ((if_neg c14).trans ((if_neg c15).trans ((if_neg c16).trans ((if_neg c17).trans ((if_neg c18).trans ((if_neg c19).trans ((if_neg c20).trans ((if_neg c21).trans ((if_neg c22).trans (if_pos c23))))))))))))))) (pair_snd (show sp_X8_status M a0 = (M.1 0 5 0, M) from (by unfold sp_X8_status; exact ((if_neg c1).trans ((if_pos c13).trans ((if_neg c14).trans ((if_neg c15).trans ((if_neg c16).trans ((if_neg c17).trans ((if_neg c18).trans ((if_neg c19).trans ((if_neg c20).trans ((if_neg c21).trans ((if_neg c22).trans (if_pos c23)))))))))))))))
                        · by_cases c24 : a0 = 10
                          · refine r_tableIn (pc := 23) (tgt := 164) (off := 141) hG dX8_status_23 (by rw [c24]; decide) (by rw [c24]; decide) (by rw [c24]; rfl) (by decide) ?_
                            refine r_aload_n (pc := 164) hG dX8_status_164 rfl ?_
                            refine cv_X8_countFilledShelves (pc := 165)  hG dX8_status_165 tw_1156 (c_X8_countFilledShelves) (by decide) (Nat.le_of_ble_eq_true rfl) ?_
                            exact hret _ _ _ _ dX8_status_168 (pair_fst (show sp_X8_status M a0 = (sp_X8_countFilledShelves M, M) from (by unfold sp_X8_status; exact ((if_neg c1).trans ((if_pos c13).trans ((if_neg c14).trans ((if_neg c15).trans ((if_neg c16).trans ((if_neg c17).trans ((if_neg c18).trans ((if_neg c19).trans ((if_neg c20).trans ((if_neg c21).trans ((if_neg c22).trans ((if_neg c23).trans (if_pos c24)))))))))))))))) (pair_snd (show sp_X8_status M a0 = (sp_X8_countFilledShelves M, M) from (by unfold sp_X8_status; exact ((if_neg c1).trans ((if_pos c13).trans ((if_neg c14).trans ((if_neg c15).trans ((if_neg c16).trans ((if_neg c17).trans ((if_neg c18).trans ((if_neg c19).trans ((if_neg c20).trans ((if_neg c21).trans ((if_neg c22).trans ((if_neg c23).trans (if_pos c24))))))))))))))))
                          · have nc14 : Int32.toInt a0 ≠ 0 := fun q => c14 (Int32.toInt_inj.mp q)
                            have nc15 : Int32.toInt a0 ≠ 1 := fun q => c15 (Int32.toInt_inj.mp q)
                            have nc16 : Int32.toInt a0 ≠ 2 := fun q => c16 (Int32.toInt_inj.mp q)
                            have nc17 : Int32.toInt a0 ≠ 3 := fun q => c17 (Int32.toInt_inj.mp q)
                            have nc18 : Int32.toInt a0 ≠ 4 := fun q => c18 (Int32.toInt_inj.mp q)
                            have nc19 : Int32.toInt a0 ≠ 5 := fun q => c19 (Int32.toInt_inj.mp q)
                            have nc20 : Int32.toInt a0 ≠ 6 := fun q => c20 (Int32.toInt_inj.mp q)
                            have nc21 : Int32.toInt a0 ≠ 7 := fun q => c21 (Int32.toInt_inj.mp q)
                            have nc22 : Int32.toInt a0 ≠ 8 := fun q => c22 (Int32.toInt_inj.mp q)
                            have nc23 : Int32.toInt a0 ≠ 9 := fun q => c23 (Int32.toInt_inj.mp q)
                            have nc24 : Int32.toInt a0 ≠ 10 := fun q => c24 (Int32.toInt_inj.mp q)
                            refine r_tableOut (pc := 23) (tgt := 169) hG dX8_status_23 (by omega) (by decide) ?_
                            refine r_iconst (pc := 169) hG dX8_status_169 ic_m1 ?_
                            exact hret _ _ _ _ dX8_status_170 (pair_fst (show sp_X8_status M a0 = ((-1), M) from (by unfold sp_X8_status; exact ((if_neg c1).trans ((if_pos c13).trans ((if_neg c14).trans ((if_neg c15).trans ((if_neg c16).trans ((if_neg c17).trans ((if_neg c18).trans ((if_neg c19).trans ((if_neg c20).trans ((if_neg c21).trans ((if_neg c22).trans ((if_neg c23).trans (if_neg c24)))))))))))))))) (pair_snd (show sp_X8_status M a0 = ((-1), M) from (by unfold sp_X8_status; exact ((if_neg c1).trans ((if_pos c13).trans ((if_neg c14).trans ((if_neg c15).trans ((if_neg c16).trans ((if_neg c17).trans ((if_neg c18).trans ((if_neg c19).trans ((if_neg c20).trans ((if_neg c21).trans ((if_neg c22).trans ((if_neg c23).trans (if_neg c24))))))))))))))))
    · refine r_aload_n (pc := 12) hG dX8_status_12 rfl ?_
      refine gf_X8_refusals (pc := 13)  hG dX8_status_13 tw_361 ?_
      refine r_iload_n (pc := 16) hG dX8_status_16 rfl ?_
      refine r_bipush (pc := 17) hG dX8_status_17 bc_10 ?_
      refine r_isub (pc := 19) hG dX8_status_19 ?_
      refine al_Xref (pc := 20)  hG dX8_status_20 (ix_bd (st_bd (Int32.not_lt.mp c1) (Int32.not_lt.mp c13))) ?_
      exact hret _ _ _ _ dX8_status_21 (pair_fst (show sp_X8_status M a0 = (M.2.1 1 (tn (a0 - 10)), M) from (by unfold sp_X8_status; exact ((if_neg c1).trans (if_neg c13))))) (pair_snd (show sp_X8_status M a0 = (M.2.1 1 (tn (a0 - 10)), M) from (by unfold sp_X8_status; exact ((if_neg c1).trans (if_neg c13)))))

def sp_X8_copy (M : MT) (a0 : Int32) (a1 : Int32) (a2 : Int32) (a3 : Int32) (a4 : Int32) : Int32 × MT :=
  if (sp_X8_isShelf a0) = true then
    if (sp_X8_isShelf a1) = true then
      if (M.2.1 10 (tn a0)) = (-1) then
        if (M.2.1 10 (tn a1)) = (-1) then
          if (M.2.1 9 (tn a0)) = 0 then
            if (M.2.1 9 (tn a0)) = 0 then
              ((sp_X8_refuse M (-4)).1, (sp_X8_refuse M (-4)).2)
            else
              if (M.2.1 9 (tn a1)) = 0 then
                ((sp_X8_refuse M (-4)).1, (sp_X8_refuse M (-4)).2)
              else
                if (sp_X3_hasStretch M (tn a0) a2 a4) = true then
                  if (sp_X3_hasStretch M (tn a1) a3 a4) = true then
                    (a4, cpyM M (tn a0) (tn a1) (tn a2) (tn a3) (tn a4))
                  else
                    ((sp_X8_refuse M (-2)).1, (sp_X8_refuse M (-2)).2)
                else
                  ((sp_X8_refuse M (-2)).1, (sp_X8_refuse M (-2)).2)
          else
            if (M.2.1 9 (tn a1)) = 0 then
              if (M.2.1 9 (tn a0)) = 0 then
                ((sp_X8_refuse M (-4)).1, (sp_X8_refuse M (-4)).2)
              else
                if (M.2.1 9 (tn a1)) = 0 then
                  ((sp_X8_refuse M (-4)).1, (sp_X8_refuse M (-4)).2)
                else
                  if (sp_X3_hasStretch M (tn a0) a2 a4) = true then
                    if (sp_X3_hasStretch M (tn a1) a3 a4) = true then
                      (a4, cpyM M (tn a0) (tn a1) (tn a2) (tn a3) (tn a4))
                    else
                      ((sp_X8_refuse M (-2)).1, (sp_X8_refuse M (-2)).2)
                  else
                    ((sp_X8_refuse M (-2)).1, (sp_X8_refuse M (-2)).2)
            else
              if (M.2.1 11 (tn a0)) = (M.2.1 11 (tn a1)) then
                if (M.2.1 9 (tn a0)) = 0 then
                  ((sp_X8_refuse M (-4)).1, (sp_X8_refuse M (-4)).2)
                else
                  if (M.2.1 9 (tn a1)) = 0 then
                    ((sp_X8_refuse M (-4)).1, (sp_X8_refuse M (-4)).2)
                  else
                    if (sp_X3_hasStretch M (tn a0) a2 a4) = true then
                      if (sp_X3_hasStretch M (tn a1) a3 a4) = true then
                        (a4, cpyM M (tn a0) (tn a1) (tn a2) (tn a3) (tn a4))
                      else
                        ((sp_X8_refuse M (-2)).1, (sp_X8_refuse M (-2)).2)
                    else
                      ((sp_X8_refuse M (-2)).1, (sp_X8_refuse M (-2)).2)
              else
                ((sp_X8_refuse M (-3)).1, (sp_X8_refuse M (-3)).2)
        else
          ((sp_X8_refuse M (-3)).1, (sp_X8_refuse M (-3)).2)
      else
        ((sp_X8_refuse M (-3)).1, (sp_X8_refuse M (-3)).2)
    else
      ((sp_X8_refuse M (-2)).1, (sp_X8_refuse M (-2)).2)
  else
    ((sp_X8_refuse M (-2)).1, (sp_X8_refuse M (-2)).2)
set_option maxRecDepth 20000 in
theorem c_X8_copy {K : KT} {M : MT} {a0 : Int32} {a1 : Int32} {a2 : Int32} {a3 : Int32} {a4 : Int32}  (hokx : OKX M) : CM K 3 yX8_copy cX8_copy 8 (some FieldType.int) [rf K 0, .int a0, .int a1, .int a2, .int a3, .int a4] M (some (.int (sp_X8_copy M a0 a1 a2 a3 a4).1)) (sp_X8_copy M a0 a1 a2 a3 a4).2 := by
  refine CM.ofI (by decide) [some (rf K 0), some (.int a0), some (.int a1), some (.int a2), some (.int a3), some (.int a4), none, none] rfl (Nat.le_of_ble_eq_true rfl) (Nat.le_of_ble_eq_true rfl) (fun G hG _ hret => ?_)
  obtain ⟨hok0, hok1, hoa2, hoa3, hoa4, hsh, htp⟩ := id hokx
  obtain ⟨hwc0, hpc0, ⟨hcl0, hcm0⟩, hwi0, hda0, hle0, hk80, ha80, hW0, hP0⟩ := id hok0
  have hwl0 := bd_lt hwc0
  have hpl0 := bd_lt hpc0
  have hcl0l := bd_lt hcl0
  refine r_iload_n (pc := 0) hG dX8_copy_0 rfl ?_
  refine cs_X8_isShelf (pc := 1)  hG dX8_copy_1 tw_384 (c_X8_isShelf) (by decide) (Nat.le_of_ble_eq_true rfl) ?_
  refine r_ifz_eq (pc := 4) (tgt := 14) hG dX8_copy_4 (by decide) (fun c1 => ?_) (fun c1 => ?_)
  · refine r_aload_n (pc := 14) hG dX8_copy_14 rfl ?_
    refine r_bipush (pc := 15) hG dX8_copy_15 bc_m2 ?_
    refine cv_X8_refuse (pc := 17)  hG dX8_copy_17 tw_390 (c_X8_refuse (bd_lit (n := 7) (by decide))) (by decide) (Nat.le_of_ble_eq_true rfl) ?_
    exact hret _ _ _ _ dX8_copy_20 (pair_fst (show sp_X8_copy M a0 a1 a2 a3 a4 = ((sp_X8_refuse M (-2)).1, (sp_X8_refuse M (-2)).2) from (by unfold sp_X8_copy; exact (if_neg c1)))) (pair_snd (show sp_X8_copy M a0 a1 a2 a3 a4 = ((sp_X8_refuse M (-2)).1, (sp_X8_refuse M (-2)).2) from (by unfold sp_X8_copy; exact (if_neg c1))))
  · refine r_iload_n (pc := 7) hG dX8_copy_7 rfl ?_
    refine cs_X8_isShelf (pc := 8)  hG dX8_copy_8 tw_384 (c_X8_isShelf) (by decide) (Nat.le_of_ble_eq_true rfl) ?_
    refine r_ifz_ne (pc := 11) (tgt := 21) hG dX8_copy_11 (by decide) (fun c2 => ?_) (fun c2 => ?_)
    · refine r_aload_n (pc := 21) hG dX8_copy_21 rfl ?_
      refine gf_X8_shelves (pc := 22)  hG dX8_copy_22 tw_360 ?_
      refine r_iload_n (pc := 25) hG dX8_copy_25 rfl ?_
      refine aa_Xsh (pc := 26)  hG dX8_copy_26 (ix_bd (isSh c1)) ?_
      refine r_astore (pc := 27) (ls' := [_, _, _, _, _, _, _, _]) hG dX8_copy_27 rfl rfl ?_
      refine r_aload_n (pc := 29) hG dX8_copy_29 rfl ?_
      refine gf_X8_shelves (pc := 30)  hG dX8_copy_30 tw_360 ?_
      refine r_iload_n (pc := 33) hG dX8_copy_33 rfl ?_
      refine aa_Xsh (pc := 34)  hG dX8_copy_34 (ix_bd (isSh c2)) ?_
      refine r_astore (pc := 35) (ls' := [_, _, _, _, _, _, _, _]) hG dX8_copy_35 rfl rfl ?_
      refine r_aload (pc := 37) hG dX8_copy_37 rfl ?_
      refine gf_X4_person (pc := 39) (bd_lt (isSh c1)) hG dX8_copy_39 tw_347 ?_
      refine r_iconst (pc := 42) hG dX8_copy_42 ic_m1 ?_
      refine r_icmp_ne (pc := 43) (tgt := 55) hG dX8_copy_43 (by decide) (fun c3 => ?_) (fun c3 => ?_)
      · refine r_aload_n (pc := 55) hG dX8_copy_55 rfl ?_
        refine r_bipush (pc := 56) hG dX8_copy_56 bc_m3 ?_
        refine cv_X8_refuse (pc := 58)  hG dX8_copy_58 tw_390 (c_X8_refuse (bd_lit (n := 7) (by decide))) (by decide) (Nat.le_of_ble_eq_true rfl) ?_
        exact hret _ _ _ _ dX8_copy_61 (pair_fst (show sp_X8_copy M a0 a1 a2 a3 a4 = ((sp_X8_refuse M (-3)).1, (sp_X8_refuse M (-3)).2) from (by unfold sp_X8_copy; exact ((if_pos c1).trans ((if_pos c2).trans (if_neg c3)))))) (pair_snd (show sp_X8_copy M a0 a1 a2 a3 a4 = ((sp_X8_refuse M (-3)).1, (sp_X8_refuse M (-3)).2) from (by unfold sp_X8_copy; exact ((if_pos c1).trans ((if_pos c2).trans (if_neg c3))))))
      · refine r_aload (pc := 46) hG dX8_copy_46 rfl ?_
        refine gf_X4_person (pc := 48) (bd_lt (isSh c2)) hG dX8_copy_48 tw_347 ?_
        refine r_iconst (pc := 51) hG dX8_copy_51 ic_m1 ?_
        refine r_icmp_eq (pc := 52) (tgt := 62) hG dX8_copy_52 (by decide) (fun c4 => ?_) (fun c4 => ?_)
        · refine r_aload (pc := 62) hG dX8_copy_62 rfl ?_
          refine gf_X4_hasRow (pc := 64) (bd_lt (isSh c1)) hG dX8_copy_64 tw_345 ?_
          refine r_if_eq (pc := 67) (tgt := 104) hG dX8_copy_67 (by decide) (fun c5 => ?_) (fun c5 => ?_)
          · refine r_aload (pc := 104) hG dX8_copy_104 rfl ?_
            refine gf_X4_hasRow (pc := 106) (bd_lt (isSh c1)) hG dX8_copy_106 tw_345 ?_
            refine r_if_eq (pc := 109) (tgt := 120) hG dX8_copy_109 (by decide) (fun c6 => ?_) (fun c6 => ?_)
            · refine r_aload_n (pc := 120) hG dX8_copy_120 rfl ?_
              refine r_bipush (pc := 121) hG dX8_copy_121 bc_m4 ?_
              refine cv_X8_refuse (pc := 123)  hG dX8_copy_123 tw_390 (c_X8_refuse (bd_lit (n := 7) (by decide))) (by decide) (Nat.le_of_ble_eq_true rfl) ?_
              exact hret _ _ _ _ dX8_copy_126 (pair_fst (show sp_X8_copy M a0 a1 a2 a3 a4 = ((sp_X8_refuse M (-4)).1, (sp_X8_refuse M (-4)).2) from (by unfold sp_X8_copy; exact ((if_pos c1).trans ((if_pos c2).trans ((if_pos c3).trans ((if_pos c4).trans ((if_pos c5).trans (if_pos c6))))))))) (pair_snd (show sp_X8_copy M a0 a1 a2 a3 a4 = ((sp_X8_refuse M (-4)).1, (sp_X8_refuse M (-4)).2) from (by unfold sp_X8_copy; exact ((if_pos c1).trans ((if_pos c2).trans ((if_pos c3).trans ((if_pos c4).trans ((if_pos c5).trans (if_pos c6)))))))))
            · refine r_aload (pc := 112) hG dX8_copy_112 rfl ?_
              refine gf_X4_hasRow (pc := 114) (bd_lt (isSh c2)) hG dX8_copy_114 tw_345 ?_
              refine r_if_ne (pc := 117) (tgt := 127) hG dX8_copy_117 (by decide) (fun c7 => ?_) (fun c7 => ?_)
              · refine r_aload (pc := 127) hG dX8_copy_127 rfl ?_
                refine gf_X4_row (pc := 129) (bd_lt (isSh c1)) hG dX8_copy_129 tw_343 ?_
                refine r_iload_n (pc := 132) hG dX8_copy_132 rfl ?_
                refine r_iload (pc := 133) hG dX8_copy_133 rfl ?_
                refine cv_X3_hasStretch (pc := 135) (bd_lt (isSh c1)) hG dX8_copy_135 tw_419 (c_X3_hasStretch (bd_lt (isSh c1))) (by decide) (Nat.le_of_ble_eq_true rfl) ?_
                refine r_ifz_eq (pc := 138) (tgt := 156) hG dX8_copy_138 (by decide) (fun c8 => ?_) (fun c8 => ?_)
                · refine r_aload_n (pc := 156) hG dX8_copy_156 rfl ?_
                  refine r_bipush (pc := 157) hG dX8_copy_157 bc_m2 ?_
                  refine cv_X8_refuse (pc := 159)  hG dX8_copy_159 tw_390 (c_X8_refuse (bd_lit (n := 7) (by decide))) (by decide) (Nat.le_of_ble_eq_true rfl) ?_
                  exact hret _ _ _ _ dX8_copy_162 (pair_fst (show sp_X8_copy M a0 a1 a2 a3 a4 = ((sp_X8_refuse M (-2)).1, (sp_X8_refuse M (-2)).2) from (by unfold sp_X8_copy; exact ((if_pos c1).trans ((if_pos c2).trans ((if_pos c3).trans ((if_pos c4).trans ((if_pos c5).trans ((if_neg c6).trans ((if_neg c7).trans (if_neg c8))))))))))) (pair_snd (show sp_X8_copy M a0 a1 a2 a3 a4 = ((sp_X8_refuse M (-2)).1, (sp_X8_refuse M (-2)).2) from (by unfold sp_X8_copy; exact ((if_pos c1).trans ((if_pos c2).trans ((if_pos c3).trans ((if_pos c4).trans ((if_pos c5).trans ((if_neg c6).trans ((if_neg c7).trans (if_neg c8)))))))))))
                · refine r_aload (pc := 141) hG dX8_copy_141 rfl ?_
                  refine gf_X4_row (pc := 143) (bd_lt (isSh c2)) hG dX8_copy_143 tw_343 ?_
                  refine r_iload (pc := 146) hG dX8_copy_146 rfl ?_
                  refine r_iload (pc := 148) hG dX8_copy_148 rfl ?_
                  refine cv_X3_hasStretch (pc := 150) (bd_lt (isSh c2)) hG dX8_copy_150 tw_419 (c_X3_hasStretch (bd_lt (isSh c2))) (by decide) (Nat.le_of_ble_eq_true rfl) ?_
                  refine r_ifz_ne (pc := 153) (tgt := 163) hG dX8_copy_153 (by decide) (fun c9 => ?_) (fun c9 => ?_)
                  · refine r_aload (pc := 163) hG dX8_copy_163 rfl ?_
                    refine gf_X4_row (pc := 165) (bd_lt (isSh c1)) hG dX8_copy_165 tw_343 ?_
                    refine gf_X3_elements (pc := 168) (bd_lt (isSh c1)) hG dX8_copy_168 tw_325 ?_
                    refine r_iload_n (pc := 171) hG dX8_copy_171 rfl ?_
                    refine r_aload (pc := 172) hG dX8_copy_172 rfl ?_
                    refine gf_X4_row (pc := 174) (bd_lt (isSh c2)) hG dX8_copy_174 tw_343 ?_
                    refine gf_X3_elements (pc := 177) (bd_lt (isSh c2)) hG dX8_copy_177 tw_325 ?_
                    refine r_iload (pc := 180) hG dX8_copy_180 rfl ?_
                    refine r_iload (pc := 182) hG dX8_copy_182 rfl ?_
                    refine J_acopy (pc := 184) hG dX8_copy_184 tw_423 (by decide) (bd_lt (isSh c1)) (bd_lt (isSh c2)) (hasS (hsh _ (bd_lt (isSh c1))).1 c8).1 (hasS (hsh _ (bd_lt (isSh c2))).1 c9).1 (hasS (hsh _ (bd_lt (isSh c1))).1 c8).2.1 (hasS (hsh _ (bd_lt (isSh c1))).1 c8).2.2 (hasS (hsh _ (bd_lt (isSh c2))).1 c9).2.2 (Nat.le_of_ble_eq_true rfl) ?_
                    refine r_iload (pc := 187) hG dX8_copy_187 rfl ?_
                    exact hret _ _ _ _ dX8_copy_189 (pair_fst (show sp_X8_copy M a0 a1 a2 a3 a4 = (a4, cpyM M (tn a0) (tn a1) (tn a2) (tn a3) (tn a4)) from (by unfold sp_X8_copy; exact ((if_pos c1).trans ((if_pos c2).trans ((if_pos c3).trans ((if_pos c4).trans ((if_pos c5).trans ((if_neg c6).trans ((if_neg c7).trans ((if_pos c8).trans (if_pos c9)))))))))))) (pair_snd (show sp_X8_copy M a0 a1 a2 a3 a4 = (a4, cpyM M (tn a0) (tn a1) (tn a2) (tn a3) (tn a4)) from (by unfold sp_X8_copy; exact ((if_pos c1).trans ((if_pos c2).trans ((if_pos c3).trans ((if_pos c4).trans ((if_pos c5).trans ((if_neg c6).trans ((if_neg c7).trans ((if_pos c8).trans (if_pos c9))))))))))))
                  · refine r_aload_n (pc := 156) hG dX8_copy_156 rfl ?_
                    refine r_bipush (pc := 157) hG dX8_copy_157 bc_m2 ?_
                    refine cv_X8_refuse (pc := 159)  hG dX8_copy_159 tw_390 (c_X8_refuse (bd_lit (n := 7) (by decide))) (by decide) (Nat.le_of_ble_eq_true rfl) ?_
                    exact hret _ _ _ _ dX8_copy_162 (pair_fst (show sp_X8_copy M a0 a1 a2 a3 a4 = ((sp_X8_refuse M (-2)).1, (sp_X8_refuse M (-2)).2) from (by unfold sp_X8_copy; exact ((if_pos c1).trans ((if_pos c2).trans ((if_pos c3).trans ((if_pos c4).trans ((if_pos c5).trans ((if_neg c6).trans ((if_neg c7).trans ((if_pos c8).trans (if_neg c9)))))))))))) (pair_snd (show sp_X8_copy M a0 a1 a2 a3 a4 = ((sp_X8_refuse M (-2)).1, (sp_X8_refuse M (-2)).2) from (by unfold sp_X8_copy; exact ((if_pos c1).trans ((if_pos c2).trans ((if_pos c3).trans ((if_pos c4).trans ((if_pos c5).trans ((if_neg c6).trans ((if_neg c7).trans ((if_pos c8).trans (if_neg c9))))))))))))
              · refine r_aload_n (pc := 120) hG dX8_copy_120 rfl ?_
                refine r_bipush (pc := 121) hG dX8_copy_121 bc_m4 ?_
                refine cv_X8_refuse (pc := 123)  hG dX8_copy_123 tw_390 (c_X8_refuse (bd_lit (n := 7) (by decide))) (by decide) (Nat.le_of_ble_eq_true rfl) ?_
                exact hret _ _ _ _ dX8_copy_126 (pair_fst (show sp_X8_copy M a0 a1 a2 a3 a4 = ((sp_X8_refuse M (-4)).1, (sp_X8_refuse M (-4)).2) from (by unfold sp_X8_copy; exact ((if_pos c1).trans ((if_pos c2).trans ((if_pos c3).trans ((if_pos c4).trans ((if_pos c5).trans ((if_neg c6).trans (if_pos c7)))))))))) (pair_snd (show sp_X8_copy M a0 a1 a2 a3 a4 = ((sp_X8_refuse M (-4)).1, (sp_X8_refuse M (-4)).2) from (by unfold sp_X8_copy; exact ((if_pos c1).trans ((if_pos c2).trans ((if_pos c3).trans ((if_pos c4).trans ((if_pos c5).trans ((if_neg c6).trans (if_pos c7))))))))))
          · refine r_aload (pc := 70) hG dX8_copy_70 rfl ?_
            refine gf_X4_hasRow (pc := 72) (bd_lt (isSh c2)) hG dX8_copy_72 tw_345 ?_
            refine r_if_eq (pc := 75) (tgt := 104) hG dX8_copy_75 (by decide) (fun c10 => ?_) (fun c10 => ?_)
            · refine r_aload (pc := 104) hG dX8_copy_104 rfl ?_
              refine gf_X4_hasRow (pc := 106) (bd_lt (isSh c1)) hG dX8_copy_106 tw_345 ?_
              refine r_if_eq (pc := 109) (tgt := 120) hG dX8_copy_109 (by decide) (fun c11 => ?_) (fun c11 => ?_)
              · refine r_aload_n (pc := 120) hG dX8_copy_120 rfl ?_
                refine r_bipush (pc := 121) hG dX8_copy_121 bc_m4 ?_
                refine cv_X8_refuse (pc := 123)  hG dX8_copy_123 tw_390 (c_X8_refuse (bd_lit (n := 7) (by decide))) (by decide) (Nat.le_of_ble_eq_true rfl) ?_
                exact hret _ _ _ _ dX8_copy_126 (pair_fst (show sp_X8_copy M a0 a1 a2 a3 a4 = ((sp_X8_refuse M (-4)).1, (sp_X8_refuse M (-4)).2) from (by unfold sp_X8_copy; exact ((if_pos c1).trans ((if_pos c2).trans ((if_pos c3).trans ((if_pos c4).trans ((if_neg c5).trans ((if_pos c10).trans (if_pos c11)))))))))) (pair_snd (show sp_X8_copy M a0 a1 a2 a3 a4 = ((sp_X8_refuse M (-4)).1, (sp_X8_refuse M (-4)).2) from (by unfold sp_X8_copy; exact ((if_pos c1).trans ((if_pos c2).trans ((if_pos c3).trans ((if_pos c4).trans ((if_neg c5).trans ((if_pos c10).trans (if_pos c11))))))))))
              · refine r_aload (pc := 112) hG dX8_copy_112 rfl ?_
                refine gf_X4_hasRow (pc := 114) (bd_lt (isSh c2)) hG dX8_copy_114 tw_345 ?_
                refine r_if_ne (pc := 117) (tgt := 127) hG dX8_copy_117 (by decide) (fun c12 => ?_) (fun c12 => ?_)
                · refine r_aload (pc := 127) hG dX8_copy_127 rfl ?_
                  refine gf_X4_row (pc := 129) (bd_lt (isSh c1)) hG dX8_copy_129 tw_343 ?_
                  refine r_iload_n (pc := 132) hG dX8_copy_132 rfl ?_
                  refine r_iload (pc := 133) hG dX8_copy_133 rfl ?_
                  refine cv_X3_hasStretch (pc := 135) (bd_lt (isSh c1)) hG dX8_copy_135 tw_419 (c_X3_hasStretch (bd_lt (isSh c1))) (by decide) (Nat.le_of_ble_eq_true rfl) ?_
                  refine r_ifz_eq (pc := 138) (tgt := 156) hG dX8_copy_138 (by decide) (fun c13 => ?_) (fun c13 => ?_)
                  · refine r_aload_n (pc := 156) hG dX8_copy_156 rfl ?_
                    refine r_bipush (pc := 157) hG dX8_copy_157 bc_m2 ?_
                    refine cv_X8_refuse (pc := 159)  hG dX8_copy_159 tw_390 (c_X8_refuse (bd_lit (n := 7) (by decide))) (by decide) (Nat.le_of_ble_eq_true rfl) ?_
                    exact hret _ _ _ _ dX8_copy_162 (pair_fst (show sp_X8_copy M a0 a1 a2 a3 a4 = ((sp_X8_refuse M (-2)).1, (sp_X8_refuse M (-2)).2) from (by unfold sp_X8_copy; exact ((if_pos c1).trans ((if_pos c2).trans ((if_pos c3).trans ((if_pos c4).trans ((if_neg c5).trans ((if_pos c10).trans ((if_neg c11).trans ((if_neg c12).trans (if_neg c13)))))))))))) (pair_snd (show sp_X8_copy M a0 a1 a2 a3 a4 = ((sp_X8_refuse M (-2)).1, (sp_X8_refuse M (-2)).2) from (by unfold sp_X8_copy; exact ((if_pos c1).trans ((if_pos c2).trans ((if_pos c3).trans ((if_pos c4).trans ((if_neg c5).trans ((if_pos c10).trans ((if_neg c11).trans ((if_neg c12).trans (if_neg c13))))))))))))
                  · refine r_aload (pc := 141) hG dX8_copy_141 rfl ?_
                    refine gf_X4_row (pc := 143) (bd_lt (isSh c2)) hG dX8_copy_143 tw_343 ?_
                    refine r_iload (pc := 146) hG dX8_copy_146 rfl ?_
                    refine r_iload (pc := 148) hG dX8_copy_148 rfl ?_
                    refine cv_X3_hasStretch (pc := 150) (bd_lt (isSh c2)) hG dX8_copy_150 tw_419 (c_X3_hasStretch (bd_lt (isSh c2))) (by decide) (Nat.le_of_ble_eq_true rfl) ?_
                    refine r_ifz_ne (pc := 153) (tgt := 163) hG dX8_copy_153 (by decide) (fun c14 => ?_) (fun c14 => ?_)
                    · refine r_aload (pc := 163) hG dX8_copy_163 rfl ?_
                      refine gf_X4_row (pc := 165) (bd_lt (isSh c1)) hG dX8_copy_165 tw_343 ?_
                      refine gf_X3_elements (pc := 168) (bd_lt (isSh c1)) hG dX8_copy_168 tw_325 ?_
                      refine r_iload_n (pc := 171) hG dX8_copy_171 rfl ?_
                      refine r_aload (pc := 172) hG dX8_copy_172 rfl ?_
                      refine gf_X4_row (pc := 174) (bd_lt (isSh c2)) hG dX8_copy_174 tw_343 ?_
                      refine gf_X3_elements (pc := 177) (bd_lt (isSh c2)) hG dX8_copy_177 tw_325 ?_
                      refine r_iload (pc := 180) hG dX8_copy_180 rfl ?_
                      refine r_iload (pc := 182) hG dX8_copy_182 rfl ?_
                      refine J_acopy (pc := 184) hG dX8_copy_184 tw_423 (by decide) (bd_lt (isSh c1)) (bd_lt (isSh c2)) (hasS (hsh _ (bd_lt (isSh c1))).1 c13).1 (hasS (hsh _ (bd_lt (isSh c2))).1 c14).1 (hasS (hsh _ (bd_lt (isSh c1))).1 c13).2.1 (hasS (hsh _ (bd_lt (isSh c1))).1 c13).2.2 (hasS (hsh _ (bd_lt (isSh c2))).1 c14).2.2 (Nat.le_of_ble_eq_true rfl) ?_
                      refine r_iload (pc := 187) hG dX8_copy_187 rfl ?_
                      exact hret _ _ _ _ dX8_copy_189 (pair_fst (show sp_X8_copy M a0 a1 a2 a3 a4 = (a4, cpyM M (tn a0) (tn a1) (tn a2) (tn a3) (tn a4)) from (by unfold sp_X8_copy; exact ((if_pos c1).trans ((if_pos c2).trans ((if_pos c3).trans ((if_pos c4).trans ((if_neg c5).trans ((if_pos c10).trans ((if_neg c11).trans ((if_neg c12).trans ((if_pos c13).trans (if_pos c14))))))))))))) (pair_snd (show sp_X8_copy M a0 a1 a2 a3 a4 = (a4, cpyM M (tn a0) (tn a1) (tn a2) (tn a3) (tn a4)) from (by unfold sp_X8_copy; exact ((if_pos c1).trans ((if_pos c2).trans ((if_pos c3).trans ((if_pos c4).trans ((if_neg c5).trans ((if_pos c10).trans ((if_neg c11).trans ((if_neg c12).trans ((if_pos c13).trans (if_pos c14)))))))))))))
                    · refine r_aload_n (pc := 156) hG dX8_copy_156 rfl ?_
                      refine r_bipush (pc := 157) hG dX8_copy_157 bc_m2 ?_
                      refine cv_X8_refuse (pc := 159)  hG dX8_copy_159 tw_390 (c_X8_refuse (bd_lit (n := 7) (by decide))) (by decide) (Nat.le_of_ble_eq_true rfl) ?_
                      exact hret _ _ _ _ dX8_copy_162 (pair_fst (show sp_X8_copy M a0 a1 a2 a3 a4 = ((sp_X8_refuse M (-2)).1, (sp_X8_refuse M (-2)).2) from (by unfold sp_X8_copy; exact ((if_pos c1).trans ((if_pos c2).trans ((if_pos c3).trans ((if_pos c4).trans ((if_neg c5).trans ((if_pos c10).trans ((if_neg c11).trans ((if_neg c12).trans ((if_pos c13).trans (if_neg c14))))))))))))) (pair_snd (show sp_X8_copy M a0 a1 a2 a3 a4 = ((sp_X8_refuse M (-2)).1, (sp_X8_refuse M (-2)).2) from (by unfold sp_X8_copy; exact ((if_pos c1).trans ((if_pos c2).trans ((if_pos c3).trans ((if_pos c4).trans ((if_neg c5).trans ((if_pos c10).trans ((if_neg c11).trans ((if_neg c12).trans ((if_pos c13).trans (if_neg c14)))))))))))))
                · refine r_aload_n (pc := 120) hG dX8_copy_120 rfl ?_
                  refine r_bipush (pc := 121) hG dX8_copy_121 bc_m4 ?_
                  refine cv_X8_refuse (pc := 123)  hG dX8_copy_123 tw_390 (c_X8_refuse (bd_lit (n := 7) (by decide))) (by decide) (Nat.le_of_ble_eq_true rfl) ?_
                  exact hret _ _ _ _ dX8_copy_126 (pair_fst (show sp_X8_copy M a0 a1 a2 a3 a4 = ((sp_X8_refuse M (-4)).1, (sp_X8_refuse M (-4)).2) from (by unfold sp_X8_copy; exact ((if_pos c1).trans ((if_pos c2).trans ((if_pos c3).trans ((if_pos c4).trans ((if_neg c5).trans ((if_pos c10).trans ((if_neg c11).trans (if_pos c12))))))))))) (pair_snd (show sp_X8_copy M a0 a1 a2 a3 a4 = ((sp_X8_refuse M (-4)).1, (sp_X8_refuse M (-4)).2) from (by unfold sp_X8_copy; exact ((if_pos c1).trans ((if_pos c2).trans ((if_pos c3).trans ((if_pos c4).trans ((if_neg c5).trans ((if_pos c10).trans ((if_neg c11).trans (if_pos c12)))))))))))
            · refine r_aload (pc := 78) hG dX8_copy_78 rfl ?_
              refine gf_X4_row (pc := 80) (bd_lt (isSh c1)) hG dX8_copy_80 tw_343 ?_
              refine gf_X3_sort (pc := 83) (bd_lt (isSh c1)) hG dX8_copy_83 tw_330 ?_
              refine r_aload (pc := 86) hG dX8_copy_86 rfl ?_
              refine gf_X4_row (pc := 88) (bd_lt (isSh c2)) hG dX8_copy_88 tw_343 ?_
              refine gf_X3_sort (pc := 91) (bd_lt (isSh c2)) hG dX8_copy_91 tw_330 ?_
              refine r_icmp_eq (pc := 94) (tgt := 104) hG dX8_copy_94 (by decide) (fun c15 => ?_) (fun c15 => ?_)
              · refine r_aload (pc := 104) hG dX8_copy_104 rfl ?_
                refine gf_X4_hasRow (pc := 106) (bd_lt (isSh c1)) hG dX8_copy_106 tw_345 ?_
                refine r_if_eq (pc := 109) (tgt := 120) hG dX8_copy_109 (by decide) (fun c16 => ?_) (fun c16 => ?_)
                · refine r_aload_n (pc := 120) hG dX8_copy_120 rfl ?_
                  refine r_bipush (pc := 121) hG dX8_copy_121 bc_m4 ?_
                  refine cv_X8_refuse (pc := 123)  hG dX8_copy_123 tw_390 (c_X8_refuse (bd_lit (n := 7) (by decide))) (by decide) (Nat.le_of_ble_eq_true rfl) ?_
                  exact hret _ _ _ _ dX8_copy_126 (pair_fst (show sp_X8_copy M a0 a1 a2 a3 a4 = ((sp_X8_refuse M (-4)).1, (sp_X8_refuse M (-4)).2) from (by unfold sp_X8_copy; exact ((if_pos c1).trans ((if_pos c2).trans ((if_pos c3).trans ((if_pos c4).trans ((if_neg c5).trans ((if_neg c10).trans ((if_pos c15).trans (if_pos c16))))))))))) (pair_snd (show sp_X8_copy M a0 a1 a2 a3 a4 = ((sp_X8_refuse M (-4)).1, (sp_X8_refuse M (-4)).2) from (by unfold sp_X8_copy; exact ((if_pos c1).trans ((if_pos c2).trans ((if_pos c3).trans ((if_pos c4).trans ((if_neg c5).trans ((if_neg c10).trans ((if_pos c15).trans (if_pos c16)))))))))))
                · refine r_aload (pc := 112) hG dX8_copy_112 rfl ?_
                  refine gf_X4_hasRow (pc := 114) (bd_lt (isSh c2)) hG dX8_copy_114 tw_345 ?_
                  refine r_if_ne (pc := 117) (tgt := 127) hG dX8_copy_117 (by decide) (fun c17 => ?_) (fun c17 => ?_)
                  · refine r_aload (pc := 127) hG dX8_copy_127 rfl ?_
                    refine gf_X4_row (pc := 129) (bd_lt (isSh c1)) hG dX8_copy_129 tw_343 ?_
                    refine r_iload_n (pc := 132) hG dX8_copy_132 rfl ?_
                    refine r_iload (pc := 133) hG dX8_copy_133 rfl ?_
                    refine cv_X3_hasStretch (pc := 135) (bd_lt (isSh c1)) hG dX8_copy_135 tw_419 (c_X3_hasStretch (bd_lt (isSh c1))) (by decide) (Nat.le_of_ble_eq_true rfl) ?_
                    refine r_ifz_eq (pc := 138) (tgt := 156) hG dX8_copy_138 (by decide) (fun c18 => ?_) (fun c18 => ?_)
                    · refine r_aload_n (pc := 156) hG dX8_copy_156 rfl ?_
                      refine r_bipush (pc := 157) hG dX8_copy_157 bc_m2 ?_
                      refine cv_X8_refuse (pc := 159)  hG dX8_copy_159 tw_390 (c_X8_refuse (bd_lit (n := 7) (by decide))) (by decide) (Nat.le_of_ble_eq_true rfl) ?_
                      exact hret _ _ _ _ dX8_copy_162 (pair_fst (show sp_X8_copy M a0 a1 a2 a3 a4 = ((sp_X8_refuse M (-2)).1, (sp_X8_refuse M (-2)).2) from (by unfold sp_X8_copy; exact ((if_pos c1).trans ((if_pos c2).trans ((if_pos c3).trans ((if_pos c4).trans ((if_neg c5).trans ((if_neg c10).trans ((if_pos c15).trans ((if_neg c16).trans ((if_neg c17).trans (if_neg c18))))))))))))) (pair_snd (show sp_X8_copy M a0 a1 a2 a3 a4 = ((sp_X8_refuse M (-2)).1, (sp_X8_refuse M (-2)).2) from (by unfold sp_X8_copy; exact ((if_pos c1).trans ((if_pos c2).trans ((if_pos c3).trans ((if_pos c4).trans ((if_neg c5).trans ((if_neg c10).trans ((if_pos c15).trans ((if_neg c16).trans ((if_neg c17).trans (if_neg c18)))))))))))))
                    · refine r_aload (pc := 141) hG dX8_copy_141 rfl ?_
                      refine gf_X4_row (pc := 143) (bd_lt (isSh c2)) hG dX8_copy_143 tw_343 ?_
                      refine r_iload (pc := 146) hG dX8_copy_146 rfl ?_
                      refine r_iload (pc := 148) hG dX8_copy_148 rfl ?_
                      refine cv_X3_hasStretch (pc := 150) (bd_lt (isSh c2)) hG dX8_copy_150 tw_419 (c_X3_hasStretch (bd_lt (isSh c2))) (by decide) (Nat.le_of_ble_eq_true rfl) ?_
                      refine r_ifz_ne (pc := 153) (tgt := 163) hG dX8_copy_153 (by decide) (fun c19 => ?_) (fun c19 => ?_)
                      · refine r_aload (pc := 163) hG dX8_copy_163 rfl ?_
                        refine gf_X4_row (pc := 165) (bd_lt (isSh c1)) hG dX8_copy_165 tw_343 ?_
                        refine gf_X3_elements (pc := 168) (bd_lt (isSh c1)) hG dX8_copy_168 tw_325 ?_
                        refine r_iload_n (pc := 171) hG dX8_copy_171 rfl ?_
                        refine r_aload (pc := 172) hG dX8_copy_172 rfl ?_
                        refine gf_X4_row (pc := 174) (bd_lt (isSh c2)) hG dX8_copy_174 tw_343 ?_
                        refine gf_X3_elements (pc := 177) (bd_lt (isSh c2)) hG dX8_copy_177 tw_325 ?_
                        refine r_iload (pc := 180) hG dX8_copy_180 rfl ?_
                        refine r_iload (pc := 182) hG dX8_copy_182 rfl ?_
                        refine J_acopy (pc := 184) hG dX8_copy_184 tw_423 (by decide) (bd_lt (isSh c1)) (bd_lt (isSh c2)) (hasS (hsh _ (bd_lt (isSh c1))).1 c18).1 (hasS (hsh _ (bd_lt (isSh c2))).1 c19).1 (hasS (hsh _ (bd_lt (isSh c1))).1 c18).2.1 (hasS (hsh _ (bd_lt (isSh c1))).1 c18).2.2 (hasS (hsh _ (bd_lt (isSh c2))).1 c19).2.2 (Nat.le_of_ble_eq_true rfl) ?_
                        refine r_iload (pc := 187) hG dX8_copy_187 rfl ?_
                        exact hret _ _ _ _ dX8_copy_189 (pair_fst (show sp_X8_copy M a0 a1 a2 a3 a4 = (a4, cpyM M (tn a0) (tn a1) (tn a2) (tn a3) (tn a4)) from (by unfold sp_X8_copy; exact ((if_pos c1).trans ((if_pos c2).trans ((if_pos c3).trans ((if_pos c4).trans ((if_neg c5).trans ((if_neg c10).trans ((if_pos c15).trans ((if_neg c16).trans ((if_neg c17).trans ((if_pos c18).trans (if_pos c19)))))))))))))) (pair_snd (show sp_X8_copy M a0 a1 a2 a3 a4 = (a4, cpyM M (tn a0) (tn a1) (tn a2) (tn a3) (tn a4)) from (by unfold sp_X8_copy; exact ((if_pos c1).trans ((if_pos c2).trans ((if_pos c3).trans ((if_pos c4).trans ((if_neg c5).trans ((if_neg c10).trans ((if_pos c15).trans ((if_neg c16).trans ((if_neg c17).trans ((if_pos c18).trans (if_pos c19))))))))))))))
                      · refine r_aload_n (pc := 156) hG dX8_copy_156 rfl ?_
                        refine r_bipush (pc := 157) hG dX8_copy_157 bc_m2 ?_
                        refine cv_X8_refuse (pc := 159)  hG dX8_copy_159 tw_390 (c_X8_refuse (bd_lit (n := 7) (by decide))) (by decide) (Nat.le_of_ble_eq_true rfl) ?_
                        exact hret _ _ _ _ dX8_copy_162 (pair_fst (show sp_X8_copy M a0 a1 a2 a3 a4 = ((sp_X8_refuse M (-2)).1, (sp_X8_refuse M (-2)).2) from (by unfold sp_X8_copy; exact ((if_pos c1).trans ((if_pos c2).trans ((if_pos c3).trans ((if_pos c4).trans ((if_neg c5).trans ((if_neg c10).trans ((if_pos c15).trans ((if_neg c16).trans ((if_neg c17).trans ((if_pos c18).trans (if_neg c19)))))))))))))) (pair_snd (show sp_X8_copy M a0 a1 a2 a3 a4 = ((sp_X8_refuse M (-2)).1, (sp_X8_refuse M (-2)).2) from (by unfold sp_X8_copy; exact ((if_pos c1).trans ((if_pos c2).trans ((if_pos c3).trans ((if_pos c4).trans ((if_neg c5).trans ((if_neg c10).trans ((if_pos c15).trans ((if_neg c16).trans ((if_neg c17).trans ((if_pos c18).trans (if_neg c19))))))))))))))
                  · refine r_aload_n (pc := 120) hG dX8_copy_120 rfl ?_
                    refine r_bipush (pc := 121) hG dX8_copy_121 bc_m4 ?_
                    refine cv_X8_refuse (pc := 123)  hG dX8_copy_123 tw_390 (c_X8_refuse (bd_lit (n := 7) (by decide))) (by decide) (Nat.le_of_ble_eq_true rfl) ?_
                    exact hret _ _ _ _ dX8_copy_126 (pair_fst (show sp_X8_copy M a0 a1 a2 a3 a4 = ((sp_X8_refuse M (-4)).1, (sp_X8_refuse M (-4)).2) from (by unfold sp_X8_copy; exact ((if_pos c1).trans ((if_pos c2).trans ((if_pos c3).trans ((if_pos c4).trans ((if_neg c5).trans ((if_neg c10).trans ((if_pos c15).trans ((if_neg c16).trans (if_pos c17)))))))))))) (pair_snd (show sp_X8_copy M a0 a1 a2 a3 a4 = ((sp_X8_refuse M (-4)).1, (sp_X8_refuse M (-4)).2) from (by unfold sp_X8_copy; exact ((if_pos c1).trans ((if_pos c2).trans ((if_pos c3).trans ((if_pos c4).trans ((if_neg c5).trans ((if_neg c10).trans ((if_pos c15).trans ((if_neg c16).trans (if_pos c17))))))))))))
              · refine r_aload_n (pc := 97) hG dX8_copy_97 rfl ?_
                refine r_bipush (pc := 98) hG dX8_copy_98 bc_m3 ?_
                refine cv_X8_refuse (pc := 100)  hG dX8_copy_100 tw_390 (c_X8_refuse (bd_lit (n := 7) (by decide))) (by decide) (Nat.le_of_ble_eq_true rfl) ?_
                exact hret _ _ _ _ dX8_copy_103 (pair_fst (show sp_X8_copy M a0 a1 a2 a3 a4 = ((sp_X8_refuse M (-3)).1, (sp_X8_refuse M (-3)).2) from (by unfold sp_X8_copy; exact ((if_pos c1).trans ((if_pos c2).trans ((if_pos c3).trans ((if_pos c4).trans ((if_neg c5).trans ((if_neg c10).trans (if_neg c15)))))))))) (pair_snd (show sp_X8_copy M a0 a1 a2 a3 a4 = ((sp_X8_refuse M (-3)).1, (sp_X8_refuse M (-3)).2) from (by unfold sp_X8_copy; exact ((if_pos c1).trans ((if_pos c2).trans ((if_pos c3).trans ((if_pos c4).trans ((if_neg c5).trans ((if_neg c10).trans (if_neg c15))))))))))
        · refine r_aload_n (pc := 55) hG dX8_copy_55 rfl ?_
          refine r_bipush (pc := 56) hG dX8_copy_56 bc_m3 ?_
          refine cv_X8_refuse (pc := 58)  hG dX8_copy_58 tw_390 (c_X8_refuse (bd_lit (n := 7) (by decide))) (by decide) (Nat.le_of_ble_eq_true rfl) ?_
          exact hret _ _ _ _ dX8_copy_61 (pair_fst (show sp_X8_copy M a0 a1 a2 a3 a4 = ((sp_X8_refuse M (-3)).1, (sp_X8_refuse M (-3)).2) from (by unfold sp_X8_copy; exact ((if_pos c1).trans ((if_pos c2).trans ((if_pos c3).trans (if_neg c4))))))) (pair_snd (show sp_X8_copy M a0 a1 a2 a3 a4 = ((sp_X8_refuse M (-3)).1, (sp_X8_refuse M (-3)).2) from (by unfold sp_X8_copy; exact ((if_pos c1).trans ((if_pos c2).trans ((if_pos c3).trans (if_neg c4)))))))
    · refine r_aload_n (pc := 14) hG dX8_copy_14 rfl ?_
      refine r_bipush (pc := 15) hG dX8_copy_15 bc_m2 ?_
      refine cv_X8_refuse (pc := 17)  hG dX8_copy_17 tw_390 (c_X8_refuse (bd_lit (n := 7) (by decide))) (by decide) (Nat.le_of_ble_eq_true rfl) ?_
      exact hret _ _ _ _ dX8_copy_20 (pair_fst (show sp_X8_copy M a0 a1 a2 a3 a4 = ((sp_X8_refuse M (-2)).1, (sp_X8_refuse M (-2)).2) from (by unfold sp_X8_copy; exact ((if_pos c1).trans (if_neg c2))))) (pair_snd (show sp_X8_copy M a0 a1 a2 a3 a4 = ((sp_X8_refuse M (-2)).1, (sp_X8_refuse M (-2)).2) from (by unfold sp_X8_copy; exact ((if_pos c1).trans (if_neg c2)))))

def sp_X8_winds (M : MT) (a0 : Int32) (a1 : Int32) : Int32 × MT :=
  if (sp_X8_within a1 0 20) = true then
    if (sp_X8_rowRefusal M a0 (2 * a1)) = 0 then
      if (sp_X5_firstWrong M 0 (tn a0) a1 2) = (-1) then
        ((sp_X0_windsThatFit (cpM M 2 0) (tn a0) a1).1, (sp_X0_windsThatFit (cpM M 2 0) (tn a0) a1).2)
      else
        ((sp_X8_refuse M (-5)).1, (sp_X8_refuse M (-5)).2)
    else
      ((sp_X8_refuse M (sp_X8_rowRefusal M a0 (2 * a1))).1, (sp_X8_refuse M (sp_X8_rowRefusal M a0 (2 * a1))).2)
  else
    ((sp_X8_refuse M (-2)).1, (sp_X8_refuse M (-2)).2)
set_option maxRecDepth 20000 in
theorem c_X8_winds {K : KT} {M : MT} {a0 : Int32} {a1 : Int32}  (hokx : OKX M) : CM K 6 yX8_winds cX8_winds 4 (some FieldType.int) [rf K 0, .int a0, .int a1] M (some (.int (sp_X8_winds M a0 a1).1)) (sp_X8_winds M a0 a1).2 := by
  refine CM.ofI (by decide) [some (rf K 0), some (.int a0), some (.int a1), none] rfl (Nat.le_of_ble_eq_true rfl) (Nat.le_of_ble_eq_true rfl) (fun G hG _ hret => ?_)
  obtain ⟨hok0, hok1, hoa2, hoa3, hoa4, hsh, htp⟩ := id hokx
  obtain ⟨hwc0, hpc0, ⟨hcl0, hcm0⟩, hwi0, hda0, hle0, hk80, ha80, hW0, hP0⟩ := id hok0
  have hwl0 := bd_lt hwc0
  have hpl0 := bd_lt hpc0
  have hcl0l := bd_lt hcl0
  refine r_iload_n (pc := 0) hG dX8_winds_0 rfl ?_
  refine r_iconst (pc := 1) hG dX8_winds_1 ic_0 ?_
  refine r_bipush (pc := 2) hG dX8_winds_2 bc_20 ?_
  refine cs_X8_within (pc := 4)  hG dX8_winds_4 tw_387 (c_X8_within) (by decide) (Nat.le_of_ble_eq_true rfl) ?_
  refine r_ifz_ne (pc := 7) (tgt := 17) hG dX8_winds_7 (by decide) (fun c1 => ?_) (fun c1 => ?_)
  · refine r_aload_n (pc := 17) hG dX8_winds_17 rfl ?_
    refine r_iload_n (pc := 18) hG dX8_winds_18 rfl ?_
    refine r_iconst (pc := 19) hG dX8_winds_19 ic_2 ?_
    refine r_iload_n (pc := 20) hG dX8_winds_20 rfl ?_
    refine r_imul (pc := 21) hG dX8_winds_21 ?_
    refine cv_X8_rowRefusal (pc := 22)  hG dX8_winds_22 tw_402 (c_X8_rowRefusal) (by decide) (Nat.le_of_ble_eq_true rfl) ?_
    refine r_istore_n (pc := 25) (ls' := [_, _, _, _]) hG dX8_winds_25 rfl rfl ?_
    refine r_iload_n (pc := 26) hG dX8_winds_26 rfl ?_
    refine r_if_eq (pc := 27) (tgt := 36) hG dX8_winds_27 (by decide) (fun c2 => ?_) (fun c2 => ?_)
    · refine r_aload_n (pc := 36) hG dX8_winds_36 rfl ?_
      refine gf_X8_live (pc := 37)  hG dX8_winds_37 tw_355 ?_
      refine r_aload_n (pc := 40) hG dX8_winds_40 rfl ?_
      refine gf_X8_shelves (pc := 41)  hG dX8_winds_41 tw_360 ?_
      refine r_iload_n (pc := 44) hG dX8_winds_44 rfl ?_
      refine aa_Xsh (pc := 45)  hG dX8_winds_45 (ix_bd (rrS c2)) ?_
      refine gf_X4_row (pc := 46) (bd_lt (rrS c2)) hG dX8_winds_46 tw_343 ?_
      refine r_iload_n (pc := 49) hG dX8_winds_49 rfl ?_
      refine r_iconst (pc := 50) hG dX8_winds_50 ic_2 ?_
      refine cv_X5_firstWrong (pc := 51) (by omega) hG dX8_winds_51 tw_866 (c_X5_firstWrong (by omega) (bd_lt (rrS c2)) (bd_mono (wi_bd (n := 20) c1 rfl (Nat.le_of_ble_eq_true rfl)) (Nat.le_of_ble_eq_true rfl)) (mul2_bd (wi_bd (n := 20) c1 rfl (Nat.le_of_ble_eq_true rfl)))) (by decide) (Nat.le_of_ble_eq_true rfl) ?_
      refine r_iconst (pc := 54) hG dX8_winds_54 ic_m1 ?_
      refine r_icmp_eq (pc := 55) (tgt := 65) hG dX8_winds_55 (by decide) (fun c3 => ?_) (fun c3 => ?_)
      · refine r_aload_n (pc := 65) hG dX8_winds_65 rfl ?_
        refine cv_X8_freshOutlook (pc := 66)  hG dX8_winds_66 tw_777 (c_X8_freshOutlook hokx) (by decide) (Nat.le_of_ble_eq_true rfl) ?_
        refine r_aload_n (pc := 69) hG dX8_winds_69 rfl ?_
        refine gf_X8_shelves (pc := 70)  hG dX8_winds_70 tw_360 ?_
        refine r_iload_n (pc := 73) hG dX8_winds_73 rfl ?_
        refine aa_Xsh (pc := 74)  hG dX8_winds_74 (ix_bd (rrS c2)) ?_
        refine gf_X4_row (pc := 75) (bd_lt (rrS c2)) hG dX8_winds_75 tw_343 ?_
        refine r_iload_n (pc := 78) hG dX8_winds_78 rfl ?_
        refine cv_X0_windsThatFit (pc := 79)  hG dX8_winds_79 tw_877 (c_X0_windsThatFit (bd_lt (rrS c2)) (wi_bd (n := 20) c1 rfl (Nat.le_of_ble_eq_true rfl)) (fw_none2 (M := M) hwc0 (bd_mono (wi_bd (n := 20) c1 rfl (Nat.le_of_ble_eq_true rfl)) (Nat.le_of_ble_eq_true rfl)) c3)) (by decide) (Nat.le_of_ble_eq_true rfl) ?_
        exact hret _ _ _ _ dX8_winds_82 (pair_fst (show sp_X8_winds M a0 a1 = ((sp_X0_windsThatFit (cpM M 2 0) (tn a0) a1).1, (sp_X0_windsThatFit (cpM M 2 0) (tn a0) a1).2) from (by unfold sp_X8_winds; exact ((if_pos c1).trans ((if_pos c2).trans (if_pos c3)))))) (pair_snd (show sp_X8_winds M a0 a1 = ((sp_X0_windsThatFit (cpM M 2 0) (tn a0) a1).1, (sp_X0_windsThatFit (cpM M 2 0) (tn a0) a1).2) from (by unfold sp_X8_winds; exact ((if_pos c1).trans ((if_pos c2).trans (if_pos c3))))))
      · refine r_aload_n (pc := 58) hG dX8_winds_58 rfl ?_
        refine r_bipush (pc := 59) hG dX8_winds_59 bc_m5 ?_
        refine cv_X8_refuse (pc := 61)  hG dX8_winds_61 tw_390 (c_X8_refuse (bd_lit (n := 7) (by decide))) (by decide) (Nat.le_of_ble_eq_true rfl) ?_
        exact hret _ _ _ _ dX8_winds_64 (pair_fst (show sp_X8_winds M a0 a1 = ((sp_X8_refuse M (-5)).1, (sp_X8_refuse M (-5)).2) from (by unfold sp_X8_winds; exact ((if_pos c1).trans ((if_pos c2).trans (if_neg c3)))))) (pair_snd (show sp_X8_winds M a0 a1 = ((sp_X8_refuse M (-5)).1, (sp_X8_refuse M (-5)).2) from (by unfold sp_X8_winds; exact ((if_pos c1).trans ((if_pos c2).trans (if_neg c3))))))
    · refine r_aload_n (pc := 30) hG dX8_winds_30 rfl ?_
      refine r_iload_n (pc := 31) hG dX8_winds_31 rfl ?_
      refine cv_X8_refuse (pc := 32)  hG dX8_winds_32 tw_390 (c_X8_refuse rrB) (by decide) (Nat.le_of_ble_eq_true rfl) ?_
      exact hret _ _ _ _ dX8_winds_35 (pair_fst (show sp_X8_winds M a0 a1 = ((sp_X8_refuse M (sp_X8_rowRefusal M a0 (2 * a1))).1, (sp_X8_refuse M (sp_X8_rowRefusal M a0 (2 * a1))).2) from (by unfold sp_X8_winds; exact ((if_pos c1).trans (if_neg c2))))) (pair_snd (show sp_X8_winds M a0 a1 = ((sp_X8_refuse M (sp_X8_rowRefusal M a0 (2 * a1))).1, (sp_X8_refuse M (sp_X8_rowRefusal M a0 (2 * a1))).2) from (by unfold sp_X8_winds; exact ((if_pos c1).trans (if_neg c2)))))
  · refine r_aload_n (pc := 10) hG dX8_winds_10 rfl ?_
    refine r_bipush (pc := 11) hG dX8_winds_11 bc_m2 ?_
    refine cv_X8_refuse (pc := 13)  hG dX8_winds_13 tw_390 (c_X8_refuse (bd_lit (n := 7) (by decide))) (by decide) (Nat.le_of_ble_eq_true rfl) ?_
    exact hret _ _ _ _ dX8_winds_16 (pair_fst (show sp_X8_winds M a0 a1 = ((sp_X8_refuse M (-2)).1, (sp_X8_refuse M (-2)).2) from (by unfold sp_X8_winds; exact (if_neg c1)))) (pair_snd (show sp_X8_winds M a0 a1 = ((sp_X8_refuse M (-2)).1, (sp_X8_refuse M (-2)).2) from (by unfold sp_X8_winds; exact (if_neg c1))))

def sp_X8_kinds (M : MT) (a0 : Int32) (a1 : Int32) (a2 : Int32) : Int32 × MT :=
  if (sp_X8_within a1 0 20) = true then
    if (sp_X5_hasPerson M 0 a2) = true then
      if (sp_X8_rowRefusal M a0 (2 * a1)) = 0 then
        if (sp_X5_tellsOfWindows M 0 (tn a0) a1) = true then
          (sp_X5_kindsThatFit M 0 (tn a0) a1 a2, M)
        else
          ((sp_X8_refuse M (-5)).1, (sp_X8_refuse M (-5)).2)
      else
        ((sp_X8_refuse M (sp_X8_rowRefusal M a0 (2 * a1))).1, (sp_X8_refuse M (sp_X8_rowRefusal M a0 (2 * a1))).2)
    else
      ((sp_X8_refuse M (-2)).1, (sp_X8_refuse M (-2)).2)
  else
    ((sp_X8_refuse M (-2)).1, (sp_X8_refuse M (-2)).2)
set_option maxRecDepth 20000 in
theorem c_X8_kinds {K : KT} {M : MT} {a0 : Int32} {a1 : Int32} {a2 : Int32}  (hokx : OKX M) : CM K 4 yX8_kinds cX8_kinds 5 (some FieldType.int) [rf K 0, .int a0, .int a1, .int a2] M (some (.int (sp_X8_kinds M a0 a1 a2).1)) (sp_X8_kinds M a0 a1 a2).2 := by
  refine CM.ofI (by decide) [some (rf K 0), some (.int a0), some (.int a1), some (.int a2), none] rfl (Nat.le_of_ble_eq_true rfl) (Nat.le_of_ble_eq_true rfl) (fun G hG _ hret => ?_)
  obtain ⟨hok0, hok1, hoa2, hoa3, hoa4, hsh, htp⟩ := id hokx
  obtain ⟨hwc0, hpc0, ⟨hcl0, hcm0⟩, hwi0, hda0, hle0, hk80, ha80, hW0, hP0⟩ := id hok0
  have hwl0 := bd_lt hwc0
  have hpl0 := bd_lt hpc0
  have hcl0l := bd_lt hcl0
  refine r_iload_n (pc := 0) hG dX8_kinds_0 rfl ?_
  refine r_iconst (pc := 1) hG dX8_kinds_1 ic_0 ?_
  refine r_bipush (pc := 2) hG dX8_kinds_2 bc_20 ?_
  refine cs_X8_within (pc := 4)  hG dX8_kinds_4 tw_387 (c_X8_within) (by decide) (Nat.le_of_ble_eq_true rfl) ?_
  refine r_ifz_eq (pc := 7) (tgt := 21) hG dX8_kinds_7 (by decide) (fun c1 => ?_) (fun c1 => ?_)
  · refine r_aload_n (pc := 21) hG dX8_kinds_21 rfl ?_
    refine r_bipush (pc := 22) hG dX8_kinds_22 bc_m2 ?_
    refine cv_X8_refuse (pc := 24)  hG dX8_kinds_24 tw_390 (c_X8_refuse (bd_lit (n := 7) (by decide))) (by decide) (Nat.le_of_ble_eq_true rfl) ?_
    exact hret _ _ _ _ dX8_kinds_27 (pair_fst (show sp_X8_kinds M a0 a1 a2 = ((sp_X8_refuse M (-2)).1, (sp_X8_refuse M (-2)).2) from (by unfold sp_X8_kinds; exact (if_neg c1)))) (pair_snd (show sp_X8_kinds M a0 a1 a2 = ((sp_X8_refuse M (-2)).1, (sp_X8_refuse M (-2)).2) from (by unfold sp_X8_kinds; exact (if_neg c1))))
  · refine r_aload_n (pc := 10) hG dX8_kinds_10 rfl ?_
    refine gf_X8_live (pc := 11)  hG dX8_kinds_11 tw_355 ?_
    refine r_iload_n (pc := 14) hG dX8_kinds_14 rfl ?_
    refine cv_X5_hasPerson (pc := 15) (by omega) hG dX8_kinds_15 tw_442 (c_X5_hasPerson (by omega)) (by decide) (Nat.le_of_ble_eq_true rfl) ?_
    refine r_ifz_ne (pc := 18) (tgt := 28) hG dX8_kinds_18 (by decide) (fun c2 => ?_) (fun c2 => ?_)
    · refine r_aload_n (pc := 28) hG dX8_kinds_28 rfl ?_
      refine r_iload_n (pc := 29) hG dX8_kinds_29 rfl ?_
      refine r_iconst (pc := 30) hG dX8_kinds_30 ic_2 ?_
      refine r_iload_n (pc := 31) hG dX8_kinds_31 rfl ?_
      refine r_imul (pc := 32) hG dX8_kinds_32 ?_
      refine cv_X8_rowRefusal (pc := 33)  hG dX8_kinds_33 tw_402 (c_X8_rowRefusal) (by decide) (Nat.le_of_ble_eq_true rfl) ?_
      refine r_istore (pc := 36) (ls' := [_, _, _, _, _]) hG dX8_kinds_36 rfl rfl ?_
      refine r_iload (pc := 38) hG dX8_kinds_38 rfl ?_
      refine r_if_eq (pc := 40) (tgt := 50) hG dX8_kinds_40 (by decide) (fun c3 => ?_) (fun c3 => ?_)
      · refine r_aload_n (pc := 50) hG dX8_kinds_50 rfl ?_
        refine gf_X8_live (pc := 51)  hG dX8_kinds_51 tw_355 ?_
        refine r_aload_n (pc := 54) hG dX8_kinds_54 rfl ?_
        refine gf_X8_shelves (pc := 55)  hG dX8_kinds_55 tw_360 ?_
        refine r_iload_n (pc := 58) hG dX8_kinds_58 rfl ?_
        refine aa_Xsh (pc := 59)  hG dX8_kinds_59 (ix_bd (rrS c3)) ?_
        refine gf_X4_row (pc := 60) (bd_lt (rrS c3)) hG dX8_kinds_60 tw_343 ?_
        refine r_iload_n (pc := 63) hG dX8_kinds_63 rfl ?_
        refine cv_X5_tellsOfWindows (pc := 64) (by omega) hG dX8_kinds_64 tw_890 (c_X5_tellsOfWindows (by omega) (bd_lt (rrS c3)) (wi_bd (n := 20) c1 rfl (Nat.le_of_ble_eq_true rfl))) (by decide) (Nat.le_of_ble_eq_true rfl) ?_
        refine r_ifz_ne (pc := 67) (tgt := 77) hG dX8_kinds_67 (by decide) (fun c4 => ?_) (fun c4 => ?_)
        · refine r_aload_n (pc := 77) hG dX8_kinds_77 rfl ?_
          refine gf_X8_live (pc := 78)  hG dX8_kinds_78 tw_355 ?_
          refine r_aload_n (pc := 81) hG dX8_kinds_81 rfl ?_
          refine gf_X8_shelves (pc := 82)  hG dX8_kinds_82 tw_360 ?_
          refine r_iload_n (pc := 85) hG dX8_kinds_85 rfl ?_
          refine aa_Xsh (pc := 86)  hG dX8_kinds_86 (ix_bd (rrS c3)) ?_
          refine gf_X4_row (pc := 87) (bd_lt (rrS c3)) hG dX8_kinds_87 tw_343 ?_
          refine r_iload_n (pc := 90) hG dX8_kinds_90 rfl ?_
          refine r_iload_n (pc := 91) hG dX8_kinds_91 rfl ?_
          refine cv_X5_kindsThatFit (pc := 92) (by omega) hG dX8_kinds_92 tw_894 (c_X5_kindsThatFit (by omega) (bd_lt (rrS c3)) (wi_bd (n := 20) c1 rfl (Nat.le_of_ble_eq_true rfl)) (hasP hpc0 c2) (tw_true hwc0 c4)) (by decide) (Nat.le_of_ble_eq_true rfl) ?_
          exact hret _ _ _ _ dX8_kinds_95 (pair_fst (show sp_X8_kinds M a0 a1 a2 = (sp_X5_kindsThatFit M 0 (tn a0) a1 a2, M) from (by unfold sp_X8_kinds; exact ((if_pos c1).trans ((if_pos c2).trans ((if_pos c3).trans (if_pos c4))))))) (pair_snd (show sp_X8_kinds M a0 a1 a2 = (sp_X5_kindsThatFit M 0 (tn a0) a1 a2, M) from (by unfold sp_X8_kinds; exact ((if_pos c1).trans ((if_pos c2).trans ((if_pos c3).trans (if_pos c4)))))))
        · refine r_aload_n (pc := 70) hG dX8_kinds_70 rfl ?_
          refine r_bipush (pc := 71) hG dX8_kinds_71 bc_m5 ?_
          refine cv_X8_refuse (pc := 73)  hG dX8_kinds_73 tw_390 (c_X8_refuse (bd_lit (n := 7) (by decide))) (by decide) (Nat.le_of_ble_eq_true rfl) ?_
          exact hret _ _ _ _ dX8_kinds_76 (pair_fst (show sp_X8_kinds M a0 a1 a2 = ((sp_X8_refuse M (-5)).1, (sp_X8_refuse M (-5)).2) from (by unfold sp_X8_kinds; exact ((if_pos c1).trans ((if_pos c2).trans ((if_pos c3).trans (if_neg c4))))))) (pair_snd (show sp_X8_kinds M a0 a1 a2 = ((sp_X8_refuse M (-5)).1, (sp_X8_refuse M (-5)).2) from (by unfold sp_X8_kinds; exact ((if_pos c1).trans ((if_pos c2).trans ((if_pos c3).trans (if_neg c4)))))))
      · refine r_aload_n (pc := 43) hG dX8_kinds_43 rfl ?_
        refine r_iload (pc := 44) hG dX8_kinds_44 rfl ?_
        refine cv_X8_refuse (pc := 46)  hG dX8_kinds_46 tw_390 (c_X8_refuse rrB) (by decide) (Nat.le_of_ble_eq_true rfl) ?_
        exact hret _ _ _ _ dX8_kinds_49 (pair_fst (show sp_X8_kinds M a0 a1 a2 = ((sp_X8_refuse M (sp_X8_rowRefusal M a0 (2 * a1))).1, (sp_X8_refuse M (sp_X8_rowRefusal M a0 (2 * a1))).2) from (by unfold sp_X8_kinds; exact ((if_pos c1).trans ((if_pos c2).trans (if_neg c3)))))) (pair_snd (show sp_X8_kinds M a0 a1 a2 = ((sp_X8_refuse M (sp_X8_rowRefusal M a0 (2 * a1))).1, (sp_X8_refuse M (sp_X8_rowRefusal M a0 (2 * a1))).2) from (by unfold sp_X8_kinds; exact ((if_pos c1).trans ((if_pos c2).trans (if_neg c3))))))
    · refine r_aload_n (pc := 21) hG dX8_kinds_21 rfl ?_
      refine r_bipush (pc := 22) hG dX8_kinds_22 bc_m2 ?_
      refine cv_X8_refuse (pc := 24)  hG dX8_kinds_24 tw_390 (c_X8_refuse (bd_lit (n := 7) (by decide))) (by decide) (Nat.le_of_ble_eq_true rfl) ?_
      exact hret _ _ _ _ dX8_kinds_27 (pair_fst (show sp_X8_kinds M a0 a1 a2 = ((sp_X8_refuse M (-2)).1, (sp_X8_refuse M (-2)).2) from (by unfold sp_X8_kinds; exact ((if_pos c1).trans (if_neg c2))))) (pair_snd (show sp_X8_kinds M a0 a1 a2 = ((sp_X8_refuse M (-2)).1, (sp_X8_refuse M (-2)).2) from (by unfold sp_X8_kinds; exact ((if_pos c1).trans (if_neg c2)))))
