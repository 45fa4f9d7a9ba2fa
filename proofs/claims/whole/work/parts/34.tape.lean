def sp_X6_mostOf (M : MT) (a0 : Int32) (a1 : Int32) (a2 : Int32) (a3 : Int32) : Int32 :=
  if a0 = 0 then
    a1
  else
    if a0 = 1 then
      a2
    else
      a3
set_option maxRecDepth 20000 in
theorem c_X6_mostOf {K : KT} {M : MT} {a0 : Int32} {a1 : Int32} {a2 : Int32} {a3 : Int32}   : CM K 1 yX6_mostOf cX6_mostOf 4 (some FieldType.int) [.int a0, .int a1, .int a2, .int a3] M (some (.int (sp_X6_mostOf M a0 a1 a2 a3))) M := by
  refine CM.ofI (by decide) [some (.int a0), some (.int a1), some (.int a2), some (.int a3)] rfl (Nat.le_of_ble_eq_true rfl) (Nat.le_of_ble_eq_true rfl) (fun G hG _ hret => ?_)
  refine r_iload_n (pc := 0) hG dX6_mostOf_0 rfl ?_
  refine r_if_ne (pc := 1) (tgt := 6) hG dX6_mostOf_1 (by decide) (fun c1 => ?_) (fun c1 => ?_)
  · refine r_iload_n (pc := 6) hG dX6_mostOf_6 rfl ?_
    refine r_iconst (pc := 7) hG dX6_mostOf_7 ic_1 ?_
    refine r_icmp_ne (pc := 8) (tgt := 15) hG dX6_mostOf_8 (by decide) (fun c2 => ?_) (fun c2 => ?_)
    · refine r_iload_n (pc := 15) hG dX6_mostOf_15 rfl ?_
      exact hret _ _ _ _ dX6_mostOf_16 (Eq.symm (by unfold sp_X6_mostOf; exact ((if_neg c1).trans (if_neg c2)))) rfl
    · refine r_iload_n (pc := 11) hG dX6_mostOf_11 rfl ?_
      refine r_goto (pc := 12) (tgt := 16) hG dX6_mostOf_12 (by decide) ?_
      exact hret _ _ _ _ dX6_mostOf_16 (Eq.symm (by unfold sp_X6_mostOf; exact ((if_neg c1).trans (if_pos c2)))) rfl
  · refine r_iload_n (pc := 4) hG dX6_mostOf_4 rfl ?_
    exact hret _ _ _ _ dX6_mostOf_5 (Eq.symm (by unfold sp_X6_mostOf; exact (if_pos c1))) rfl

def sp_X6_fault (M : MT) : Int32 :=
  M.2.1 6 2
set_option maxRecDepth 20000 in
theorem c_X6_fault {K : KT} {M : MT}    : CM K 1 yX6_fault cX6_fault 1 (some FieldType.int) [rf K 9] M (some (.int (sp_X6_fault M))) M := by
  refine CM.ofI (by decide) [some (rf K 9)] rfl (Nat.le_of_ble_eq_true rfl) (Nat.le_of_ble_eq_true rfl) (fun G hG _ hret => ?_)
  refine r_aload_n (pc := 0) hG dX6_fault_0 rfl ?_
  refine gf_X6_start (pc := 1)  hG dX6_fault_1 tw_293 ?_
  exact hret _ _ _ _ dX6_fault_4 (Eq.symm (by unfold sp_X6_fault; exact rfl)) rfl

def sp_X6_least (M : MT) (a0 : Int32) (a1 : Int32) : Int32 :=
  if a0 = 0 then
    M.1 4 2 0
  else
    if a0 = 1 then
      if a1 = 1 then
        1
      else
        0
    else
      0
set_option maxRecDepth 20000 in
theorem c_X6_least {K : KT} {M : MT} {a0 : Int32} {a1 : Int32}   : CM K 1 yX6_least cX6_least 3 (some FieldType.int) [rf K 9, .int a0, .int a1] M (some (.int (sp_X6_least M a0 a1))) M := by
  refine CM.ofI (by decide) [some (rf K 9), some (.int a0), some (.int a1)] rfl (Nat.le_of_ble_eq_true rfl) (Nat.le_of_ble_eq_true rfl) (fun G hG _ hret => ?_)
  refine r_iload_n (pc := 0) hG dX6_least_0 rfl ?_
  refine r_if_ne (pc := 1) (tgt := 12) hG dX6_least_1 (by decide) (fun c1 => ?_) (fun c1 => ?_)
  · refine r_iload_n (pc := 12) hG dX6_least_12 rfl ?_
    refine r_iconst (pc := 13) hG dX6_least_13 ic_1 ?_
    refine r_icmp_ne (pc := 14) (tgt := 26) hG dX6_least_14 (by decide) (fun c2 => ?_) (fun c2 => ?_)
    · refine r_iconst (pc := 26) hG dX6_least_26 ic_0 ?_
      exact hret _ _ _ _ dX6_least_27 (Eq.symm (by unfold sp_X6_least; exact ((if_neg c1).trans (if_neg c2)))) rfl
    · refine r_iload_n (pc := 17) hG dX6_least_17 rfl ?_
      refine r_iconst (pc := 18) hG dX6_least_18 ic_1 ?_
      refine r_icmp_ne (pc := 19) (tgt := 26) hG dX6_least_19 (by decide) (fun c3 => ?_) (fun c3 => ?_)
      · refine r_iconst (pc := 26) hG dX6_least_26 ic_0 ?_
        exact hret _ _ _ _ dX6_least_27 (Eq.symm (by unfold sp_X6_least; exact ((if_neg c1).trans ((if_pos c2).trans (if_neg c3))))) rfl
      · refine r_iconst (pc := 22) hG dX6_least_22 ic_1 ?_
        refine r_goto (pc := 23) (tgt := 27) hG dX6_least_23 (by decide) ?_
        exact hret _ _ _ _ dX6_least_27 (Eq.symm (by unfold sp_X6_least; exact ((if_neg c1).trans ((if_pos c2).trans (if_pos c3))))) rfl
  · refine r_aload_n (pc := 4) hG dX6_least_4 rfl ?_
    refine gf_X6_draft (pc := 5)  hG dX6_least_5 tw_289 ?_
    refine gf_X5_cells (pc := 8) (by omega) hG dX6_least_8 tw_180 ?_
    exact hret _ _ _ _ dX6_least_11 (Eq.symm (by unfold sp_X6_least; exact (if_pos c1))) rfl

def sp_X6_hasRoom (M : MT) (a0 : Int32) : Bool :=
  if a0 = 1 then
    (sp_X5_hasRoomForWindow M 4)
  else
    if a0 = 2 then
      if (sp_X5_hasRoomForPerson M 4) = true then
        true
      else
        false
    else
      true
set_option maxRecDepth 20000 in
theorem c_X6_hasRoom {K : KT} {M : MT} {a0 : Int32}   : CM K 2 yX6_hasRoom cX6_hasRoom 2 (some FieldType.boolean) [rf K 9, .int a0] M (some (.int (bz (sp_X6_hasRoom M a0)))) M := by
  refine CM.ofZ (by decide) [some (rf K 9), some (.int a0)] rfl (Nat.le_of_ble_eq_true rfl) (Nat.le_of_ble_eq_true rfl) (fun G hG _ hret => ?_)
  refine r_iload_n (pc := 0) hG dX6_hasRoom_0 rfl ?_
  refine r_iconst (pc := 1) hG dX6_hasRoom_1 ic_1 ?_
  refine r_icmp_ne (pc := 2) (tgt := 13) hG dX6_hasRoom_2 (by decide) (fun c1 => ?_) (fun c1 => ?_)
  · refine r_iload_n (pc := 13) hG dX6_hasRoom_13 rfl ?_
    refine r_iconst (pc := 14) hG dX6_hasRoom_14 ic_2 ?_
    refine r_icmp_ne (pc := 15) (tgt := 28) hG dX6_hasRoom_15 (by decide) (fun c2 => ?_) (fun c2 => ?_)
    · refine r_iconst (pc := 28) hG dX6_hasRoom_28 ic_1 ?_
      refine r_goto (pc := 29) (tgt := 33) hG dX6_hasRoom_29 (by decide) ?_
      exact hret _ _ _ _ dX6_hasRoom_33 (bz_t (by unfold sp_X6_hasRoom; exact ((if_neg c1).trans (if_neg c2)))) rfl
    · refine r_aload_n (pc := 18) hG dX6_hasRoom_18 rfl ?_
      refine gf_X6_draft (pc := 19)  hG dX6_hasRoom_19 tw_289 ?_
      refine cv_X5_hasRoomForPerson (pc := 22) (by omega) hG dX6_hasRoom_22 tw_626 (c_X5_hasRoomForPerson (by omega)) (by decide) (Nat.le_of_ble_eq_true rfl) ?_
      refine r_ifz_eq (pc := 25) (tgt := 32) hG dX6_hasRoom_25 (by decide) (fun c3 => ?_) (fun c3 => ?_)
      · refine r_iconst (pc := 32) hG dX6_hasRoom_32 ic_0 ?_
        exact hret _ _ _ _ dX6_hasRoom_33 (bz_f (by unfold sp_X6_hasRoom; exact ((if_neg c1).trans ((if_pos c2).trans (if_neg c3))))) rfl
      · refine r_iconst (pc := 28) hG dX6_hasRoom_28 ic_1 ?_
        refine r_goto (pc := 29) (tgt := 33) hG dX6_hasRoom_29 (by decide) ?_
        exact hret _ _ _ _ dX6_hasRoom_33 (bz_t (by unfold sp_X6_hasRoom; exact ((if_neg c1).trans ((if_pos c2).trans (if_pos c3))))) rfl
  · refine r_aload_n (pc := 5) hG dX6_hasRoom_5 rfl ?_
    refine gf_X6_draft (pc := 6)  hG dX6_hasRoom_6 tw_289 ?_
    refine cv_X5_hasRoomForWindow (pc := 9) (by omega) hG dX6_hasRoom_9 tw_625 (c_X5_hasRoomForWindow (by omega)) (by decide) (Nat.le_of_ble_eq_true rfl) ?_
    exact hret _ _ _ _ dX6_hasRoom_12 (bz_e (by unfold sp_X6_hasRoom; exact (if_pos c1))) rfl

def sp_X6_most (M : MT) (a0 : Int32) (a1 : Int32) : Int32 :=
  if a0 = 0 then
    30
  else
    if a0 = 1 then
      sp_X6_mostOf M a1 ((M.1 4 2 0) - 1) 5 9
    else
      if a0 = 2 then
        sp_X6_mostOf M a1 5 9 ((M.1 4 2 0) - 1)
      else
        if a0 = 3 then
          sp_X6_mostOf M a1 ((M.1 4 1 0) - 1) ((M.1 4 2 0) - 1) 0
        else
          if a0 = 4 then
            10
          else
            999
set_option maxRecDepth 20000 in
theorem c_X6_most {K : KT} {M : MT} {a0 : Int32} {a1 : Int32}   : CM K 2 yX6_most cX6_most 4 (some FieldType.int) [rf K 9, .int a0, .int a1] M (some (.int (sp_X6_most M a0 a1))) M := by
  refine CM.ofI (by decide) [some (rf K 9), some (.int a0), some (.int a1), none] rfl (Nat.le_of_ble_eq_true rfl) (Nat.le_of_ble_eq_true rfl) (fun G hG _ hret => ?_)
  refine r_aload_n (pc := 0) hG dX6_most_0 rfl ?_
  refine gf_X6_draft (pc := 1)  hG dX6_most_1 tw_289 ?_
  refine gf_X5_cells (pc := 4) (by omega) hG dX6_most_4 tw_180 ?_
  refine r_iconst (pc := 7) hG dX6_most_7 ic_1 ?_
  refine r_isub (pc := 8) hG dX6_most_8 ?_
  refine r_istore_n (pc := 9) (ls' := [_, _, _, _]) hG dX6_most_9 rfl rfl ?_
  refine r_iload_n (pc := 10) hG dX6_most_10 rfl ?_
  by_cases c1 : a0 = 0
  · refine r_tableIn (pc := 11) (tgt := 44) (off := 33) hG dX6_most_11 (by rw [c1]; decide) (by rw [c1]; decide) (by rw [c1]; rfl) (by decide) ?_
    refine r_bipush (pc := 44) hG dX6_most_44 bc_30 ?_
    exact hret _ _ _ _ dX6_most_46 (Eq.symm (by unfold sp_X6_most; exact (if_pos c1))) rfl
  · by_cases c2 : a0 = 1
    · refine r_tableIn (pc := 11) (tgt := 47) (off := 36) hG dX6_most_11 (by rw [c2]; decide) (by rw [c2]; decide) (by rw [c2]; rfl) (by decide) ?_
      refine r_iload_n (pc := 47) hG dX6_most_47 rfl ?_
      refine r_iload_n (pc := 48) hG dX6_most_48 rfl ?_
      refine r_iconst (pc := 49) hG dX6_most_49 ic_5 ?_
      refine r_bipush (pc := 50) hG dX6_most_50 bc_9 ?_
      refine cs_X6_mostOf (pc := 52)  hG dX6_most_52 tw_641 (c_X6_mostOf) (by decide) (Nat.le_of_ble_eq_true rfl) ?_
      exact hret _ _ _ _ dX6_most_55 (Eq.symm (by unfold sp_X6_most; exact ((if_neg c1).trans (if_pos c2)))) rfl
    · by_cases c3 : a0 = 2
      · refine r_tableIn (pc := 11) (tgt := 56) (off := 45) hG dX6_most_11 (by rw [c3]; decide) (by rw [c3]; decide) (by rw [c3]; rfl) (by decide) ?_
        refine r_iload_n (pc := 56) hG dX6_most_56 rfl ?_
        refine r_iconst (pc := 57) hG dX6_most_57 ic_5 ?_
        refine r_bipush (pc := 58) hG dX6_most_58 bc_9 ?_
        refine r_iload_n (pc := 60) hG dX6_most_60 rfl ?_
        refine cs_X6_mostOf (pc := 61)  hG dX6_most_61 tw_641 (c_X6_mostOf) (by decide) (Nat.le_of_ble_eq_true rfl) ?_
        exact hret _ _ _ _ dX6_most_64 (Eq.symm (by unfold sp_X6_most; exact ((if_neg c1).trans ((if_neg c2).trans (if_pos c3))))) rfl
      · by_cases c4 : a0 = 3
        · refine r_tableIn (pc := 11) (tgt := 65) (off := 54) hG dX6_most_11 (by rw [c4]; decide) (by rw [c4]; decide) (by rw [c4]; rfl) (by decide) ?_
          refine r_iload_n (pc := 65) hG dX6_most_65 rfl ?_
          refine r_aload_n (pc := 66) hG dX6_most_66 rfl ?_
          refine gf_X6_draft (pc := 67)  hG dX6_most_67 tw_289 ?_
          refine gf_X5_personCount (pc := 70) (by omega) hG dX6_most_70 tw_175 ?_
          refine r_iconst (pc := 73) hG dX6_most_73 ic_1 ?_
          refine r_isub (pc := 74) hG dX6_most_74 ?_
          refine r_iload_n (pc := 75) hG dX6_most_75 rfl ?_
          refine r_iconst (pc := 76) hG dX6_most_76 ic_0 ?_
          refine cs_X6_mostOf (pc := 77)  hG dX6_most_77 tw_641 (c_X6_mostOf) (by decide) (Nat.le_of_ble_eq_true rfl) ?_
          exact hret _ _ _ _ dX6_most_80 (Eq.symm (by unfold sp_X6_most; exact ((if_neg c1).trans ((if_neg c2).trans ((if_neg c3).trans (if_pos c4)))))) rfl
        · by_cases c5 : a0 = 4
          · refine r_tableIn (pc := 11) (tgt := 81) (off := 70) hG dX6_most_11 (by rw [c5]; decide) (by rw [c5]; decide) (by rw [c5]; rfl) (by decide) ?_
            refine r_bipush (pc := 81) hG dX6_most_81 bc_10 ?_
            exact hret _ _ _ _ dX6_most_83 (Eq.symm (by unfold sp_X6_most; exact ((if_neg c1).trans ((if_neg c2).trans ((if_neg c3).trans ((if_neg c4).trans (if_pos c5))))))) rfl
          · have nc1 : Int32.toInt a0 ≠ 0 := fun q => c1 (Int32.toInt_inj.mp q)
            have nc2 : Int32.toInt a0 ≠ 1 := fun q => c2 (Int32.toInt_inj.mp q)
            have nc3 : Int32.toInt a0 ≠ 2 := fun q => c3 (Int32.toInt_inj.mp q)
            have nc4 : Int32.toInt a0 ≠ 3 := fun q => c4 (Int32.toInt_inj.mp q)
            have nc5 : Int32.toInt a0 ≠ 4 := fun q => c5 (Int32.toInt_inj.mp q)
            refine r_tableOut (pc := 11) (tgt := 84) hG dX6_most_11 (by omega) (by decide) ?_
            refine r_sipush (pc := 84) hG dX6_most_84 sc_999 ?_
            exact hret _ _ _ _ dX6_most_87 (Eq.symm (by unfold sp_X6_most; exact ((if_neg c1).trans ((if_neg c2).trans ((if_neg c3).trans ((if_neg c4).trans (if_neg c5))))))) rfl
