def sp_X6_mostOf (M : MT) (a0 : Int32) (a1 : Int32) (a2 : Int32) (a3 : Int32) : Int32 :=
  if a0 = 0 then
    a1
  else
    if a0 = 1 then
      a2
    else
      a3
set_option maxRecDepth 20000 in
theorem c_X6_mostOf {K : KT} {M : MT} {a0 : Int32} {a1 : Int32} {a2 : Int32} {a3 : Int32}   : CM K 1 yX6_mostOf cX6_mostOf 4 (some FieldType.int) [.int a0, .int a1, .int a2, .int a3] M (some (.int (sp_X6_mostOf M a0 a1 a2 a3))) M := by
  refine CM.ofI (by decide) [some (.int a0), some (.int a1), some (.int a2), some (.int a3)] rfl (Nat.le_of_ble_eq_true rfl) (Nat.le_of_ble_eq_true rfl) (fun G hG _ hret => ?_)
  refine r_iload_n (pc := 0) hG dX6_mostOf_0 rfl ?_
  refine r_if_ne (pc := 1) (tgt := 6) hG dX6_mostOf_1 (by decide) (fun c1 => ?_) (fun c1 => ?_)
  · refine r_iload_n (pc := 6) hG dX6_mostOf_6 rfl ?_
    refine r_iconst (pc := 7) hG dX6_mostOf_7 ic_1 ?_
    refine r_icmp_ne (pc := 8) (tgt := 15) hG dX6_mostOf_8 (by decide) (fun c2 => ?_) (fun c2 => ?_)
    · refine r_iload_n (pc := 15) hG dX6_mostOf_15 rfl ?_
      exact hret _ _ _ _ dX6_mostOf_16 (Eq.symm (by unfold sp_X6_mostOf; exact ((if_neg c1).trans (if_neg c2)))) rfl
    · refine r_iload_n (pc := 11) hG dX6_mostOf_11 rfl ?_
      refine r_goto (pc := 12) (tgt := 16) hG dX6_mostOf_12 (by decide) ?_
      exact hret _ _ _ _ dX6_mostOf_16 (Eq.symm (by unfold sp_X6_mostOf; exact ((if_neg c1).trans (if_pos c2)))) rfl
  · refine r_iload_n (pc := 4) hG dX6_mostOf_4 rfl ?_
    exact hret _ _ _ _ dX6_mostOf_5 (Eq.symm (by unfold sp_X6_mostOf; exact (if_pos c1))) rfl

def sp_X6_fault (M : MT) : Int32 :=
  M.2.1 6 2
set_option maxRecDepth 20000 in
theorem c_X6_fault {K : KT} {M : MT}    : CM K 1 yX6_fault cX6_fault 1 (some FieldType.int) [rf K 9] M (some (.int (sp_X6_fault M))) M := by
  refine CM.ofI (by decide) [some (rf K 9)] rfl (Nat.le_of_ble_eq_true rfl) (Nat.le_of_ble_eq_true rfl) (fun G hG _ hret => ?_)
  refine r_aload_n (pc := 0) hG dX6_fault_0 rfl ?_
  refine gf_X6_start (pc := 1)  hG dX6_fault_1 tw_293 ?_
  exact hret _ _ _ _ dX6_fault_4 (Eq.symm (by unfold sp_X6_fault; exact rfl)) rfl

def sp_X6_least (M : MT) (a0 : Int32) (a1 : Int32) : Int32 :=
  if a0 = 0 then
    M.1 4 2 0
  else
    if a0 = 1 then
      if a1 = 1 then
        1
      else
        0
    else
      0
set_option maxRecDepth 20000 in
theorem c_X6_least {K : KT} {M : MT} {a0 : Int32} {a1 : Int32}   : CM K 1 yX6_least cX6_least 3 (some FieldType.int) [rf K 9, .int a0, .int a1] M (some (.int (sp_X6_least M a0 a1))) M := by
  refine CM.ofI (by decide) [some (rf K 9), some (.int a0), some (.int a1)] rfl (Nat.le_of_ble_eq_true rfl) (Nat.le_of_ble_eq_true rfl) (fun G hG _ hret => ?_)
  refine r_iload_n (pc := 0) hG dX6_least_0 rfl ?_
  refine r_if_ne (pc := 1) (tgt := 12) hG dX6_least_1 (by decide) (fun c1 => ?_) (fun c1 => ?_)
  · refine r_iload_n (pc := 12) hG dX6_least_12 rfl ?_
    refine r_iconst (pc := 13) hG dX6_least_13 ic_1 ?_
    refine r_icmp_ne (pc := 14) (tgt := 26) hG dX6_least_14 (by decide) (fun c2 => ?_) (fun c2 => ?_)
    · refine r_iconst (pc := 26) hG dX6_least_26 ic_0 ?_
      exact hret _ _ _ _ dX6_least_27 (Eq.symm (by unfold sp_X6_least; exact ((if_neg c1).trans (if_neg c2)))) rfl
    · refine r_iload_n (pc := 17) hG dX6_least_17 rfl ?_
      refine r_iconst (pc := 18) hG dX6_least_18 ic_1 ?_
      refine r_icmp_ne (pc := 19) (tgt := 26) hG dX6_least_19 (by decide) (fun c3 => ?_) (fun c3 => ?_)
      · refine r_iconst (pc := 26) hG dX6_least_26 ic_0 ?_
        exact hret _ _ _ _ dX6_least_27 (Eq.symm (by unfold sp_X6_least; exact ((if_neg c1).trans ((if_pos c2).trans (if_neg c3))))) rfl
      · refine r_iconst (pc := 22) hG dX6_least_22 ic_1 ?_
        refine r_goto (pc := 23) (tgt := 27) hG dX6_least_23 (by decide) ?_
        exact hret _ _ _ _ dX6_least_27 (Eq.symm (by unfold sp_X6_least; exact ((if_neg c1).trans ((if_pos c2).trans (if_pos c3))))) rfl
  · refine r_aload_n (pc := 4) hG dX6_least_4 rfl ?_
    refine gf_X6_draft (pc := 5)  hG dX6_least_5 tw_289 ?_
    refine gf_X5_cells (pc := 8) (by omega) hG dX6_least_8 tw_180 ?_
    exact hret _ _ _ _ dX6_least_11 (Eq.symm (by unfold sp_X6_least; exact (if_pos c1))) rfl

def sp_X6_hasRoom (M : MT) (a0 : Int32) : Bool :=
  if a0 = 1 then
    (sp_X5_hasRoomForWindow M 4)
  else
    if a0 = 2 then
      if (sp_X5_hasRoomForPerson M 4) = true then
        true
      else
        false
    else
      true
set_option maxRecDepth 20000 in
theorem c_X6_hasRoom {K : KT} {M : MT} {a0 : Int32}   : CM K 2 yX6_hasRoom cX6_hasRoom 2 (some FieldType.boolean) [rf K 9, .int a0] M (some (.int (bz (sp_X6_hasRoom M a0)))) M := by
  refine CM.ofZ (by decide) [some (rf K 9), some (.int a0)] rfl (Nat.le_of_ble_eq_true rfl) (Nat.le_of_ble_eq_true rfl) (fun G hG _ hret => ?_)
  refine r_iload_n (pc := 0) hG dX6_hasRoom_0 rfl ?_
  refine r_iconst (pc := 1) hG dX6_hasRoom_1 ic_1 ?_
  refine r_icmp_ne (pc := 2) (tgt := 13) hG dX6_hasRoom_2 (by decide) (fun c1 => ?_) (fun c1 => ?_)
  · refine r_iload_n (pc := 13) hG dX6_hasRoom_13 rfl ?_
    refine r_iconst (pc := 14) hG dX6_hasRoom_14 ic_2 ?_
    refine r_icmp_ne (pc := 15) (tgt := 28) hG dX6_hasRoom_15 (by decide) (fun c2 => ?_) (fun c2 => ?_)
    · refine r_iconst (pc := 28) hG dX6_hasRoom_28 ic_1 ?_
      refine r_goto (pc := 29) (tgt := 33) hG dX6_hasRoom_29 (by decide) ?_
      exact hret _ _ _ _ dX6_hasRoom_33 (bz_t (by unfold sp_X6_hasRoom; exact ((if_neg c1).trans (if_neg c2)))) rfl
    · refine r_aload_n (pc := 18) hG dX6_hasRoom_18 rfl ?_
      refine gf_X6_draft (pc := 19)  hG dX6_hasRoom_19 tw_289 ?_
      refine cv_X5_hasRoomForPerson (pc := 22) (by omega) hG dX6_hasRoom_22 tw_626 (c_X5_hasRoomForPerson (by omega)) (by decide) (Nat.le_of_ble_eq_true rfl) ?_
      refine r_ifz_eq (pc := 25) (tgt := 32) hG dX6_hasRoom_25 (by decide) (fun c3 => ?_) (fun c3 => ?_)
      · refine r_iconst (pc := 32) hG dX6_hasRoom_32 ic_0 ?_
        exact hret _ _ _ _ dX6_hasRoom_33 (bz_f (by unfold sp_X6_hasRoom; exact ((if_neg c1).trans ((if_pos c2).trans (if_neg c3))))) rfl
      · refine r_iconst (pc := 28) hG dX6_hasRoom_28 ic_1 ?_
        refine r_goto (pc := 29) (tgt := 33) hG dX6_hasRoom_29 (by decide) ?_
        exact hret _ _ _ _ dX6_hasRoom_33 (bz_t (by unfold sp_X6_hasRoom; exact ((if_neg c1).trans ((if_pos c2).trans (if_pos c3))))) rfl
  · refine r_aload_n (pc := 5) hG dX6_hasRoom_5 rfl ?_
    refine gf_X6_draft (pc := 6)  hG dX6_hasRoom_6 tw_289 ?_
    refine cv_X5_hasRoomForWindow (pc := 9) (by omega) hG dX6_hasRoom_9 tw_625 (c_X5_hasRoomForWindow (by omega)) (by decide) (Nat.le_of_ble_eq_true rfl) ?_
    exact hret _ _ _ _ dX6_hasRoom_12 (bz_e (by unfold sp_X6_hasRoom; exact (if_pos c1))) rfl

def sp_X6_most (M : MT) (a0 : Int32) (a1 : Int32) : Int32 :=
  if a0 = 0 then
    30
  else
    if a0 = 1 then
      sp_X6_mostOf M a1 ((M.1 4 2 0) - 1) 5 9
    else
      if a0 = 2 then
        sp_X6_mostOf M a1 5 9 ((M.1 4 2 0) - 1)
      else
        if a0 = 3 then
          sp_X6_mostOf M a1 ((M.1 4 1 0) - 1) ((M.1 4 2 0) - 1) 0
        else
          if a0 = 4 then
            10
          else
            999
set_option maxRecDepth 20000 in
theorem c_X6_most {K : KT} {M : MT} {a0 : Int32} {a1 : Int32}   : CM K 2 yX6_most cX6_most 4 (some FieldType.int) [rf K 9, .int a0, .int a1] M (some (.int (sp_X6_most M a0 a1))) M := by
  refine CM.ofI (by decide) [some (rf K 9), some (.int a0), some (.int a1), none] rfl (Nat.le_of_ble_eq_true rfl) (Nat.le_of_ble_eq_true rfl) (fun G hG _ hret => ?_)
  refine r_aload_n (pc := 0) hG dX6_most_0 rfl ?_
  refine gf_X6_draft (pc := 1)  hG dX6_most_1 tw_289 ?_
  refine gf_X5_cells (pc := 4) (by omega) hG dX6_most_4 tw_180 ?_
  refine r_iconst (pc := 7) hG dX6_most_7 ic_1 ?_
  refine r_isub (pc := 8) hG dX6_most_8 ?_
  refine r_istore_n (pc := 9) (ls' := [_, _, _, _]) hG dX6_most_9 rfl rfl ?_
  refine r_iload_n (pc := 10) hG dX6_most_10 rfl ?_
  by_cases c1 : a0 = 0
  · refine r_tableIn (pc := 11) (tgt := 44) (off := 33) hG dX6_most_11 (by rw [c1]; decide) (by rw [c1]; decide) (by rw [c1]; rfl) (by decide) ?_
    refine r_bipush (pc := 44) hG dX6_most_44 bc_30 ?_
    exact hret _ _ _ _ dX6_most_46 (Eq.symm (by unfold sp_X6_most; exact (if_pos c1))) rfl
  · by_cases c2 : a0 = 1
    · refine r_tableIn (pc := 11) (tgt := 47) (off := 36) hG dX6_most_11 (by rw [c2]; decide) (by rw [c2]; decide) (by rw [c2]; rfl) (by decide) ?_
      refine r_iload_n (pc := 47) hG dX6_most_47 rfl ?_
      refine r_iload_n (pc := 48) hG dX6_most_48 rfl ?_
      refine r_iconst (pc := 49) hG dX6_most_49 ic_5 ?_
      refine r_bipush (pc := 50) hG dX6_most_50 bc_9 ?_
      refine cs_X6_mostOf (pc := 52)  hG dX6_most_52 tw_641 (c_X6_mostOf) (by decide) (Nat.le_of_ble_eq_true rfl) ?_
      exact hret _ _ _ _ dX6_most_55 (Eq.symm (by unfold sp_X6_most; exact ((if_neg c1).trans (if_pos c2)))) rfl
    · by_cases c3 : a0 = 2
      · refine r_tableIn (pc := 11) (tgt := 56) (off := 45) hG dX6_most_11 (by rw [c3]; decide) (by rw [c3]; decide) (by rw [c3]; rfl) (by decide) ?_
        refine r_iload_n (pc := 56) hG dX6_most_56 rfl ?_
        refine r_iconst (pc := 57) hG dX6_most_57 ic_5 ?_
        refine r_bipush (pc := 58) hG dX6_most_58 bc_9 ?_
        refine r_iload_n (pc := 60) hG dX6_most_60 rfl ?_
        refine cs_X6_mostOf (pc := 61)  hG dX6_most_61 tw_641 (c_X6_mostOf) (by decide) (Nat.le_of_ble_eq_true rfl) ?_
        exact hret _ _ _ _ dX6_most_64 (Eq.symm (by unfold sp_X6_most; exact ((if_neg c1).trans ((if_neg c2).trans (if_pos c3))))) rfl
      · by_cases c4 : a0 = 3
        · refine r_tableIn (pc := 11) (tgt := 65) (off := 54) hG dX6_most_11 (by rw [c4]; decide) (by rw [c4]; decide) (by rw [c4]; rfl) (by decide) ?_
          refine r_iload_n (pc := 65) hG dX6_most_65 rfl ?_
          refine r_aload_n (pc := 66) hG dX6_most_66 rfl ?_
          refine gf_X6_draft (pc := 67)  hG dX6_most_67 tw_289 ?_
          refine gf_X5_personCount (pc := 70) (by omega) hG dX6_most_70 tw_175 ?_
          refine r_iconst (pc := 73) hG dX6_most_73 ic_1 ?_
          refine r_isub (pc := 74) hG dX6_most_74 ?_
          refine r_iload_n (pc := 75) hG dX6_most_75 rfl ?_
          refine r_iconst (pc := 76) hG dX6_most_76 ic_0 ?_
          refine cs_X6_mostOf (pc := 77)  hG dX6_most_77 tw_641 (c_X6_mostOf) (by decide) (Nat.le_of_ble_eq_true rfl) ?_
          exact hret _ _ _ _ dX6_most_80 (Eq.symm (by unfold sp_X6_most; exact ((if_neg c1).trans ((if_neg c2).trans ((if_neg c3).trans (if_pos c4)))))) rfl
        · by_cases c5 : a0 = 4
          · refine r_tableIn (pc := 11) (tgt := 81) (off := 70) hG dX6_most_11 (by rw [c5]; decide) (by rw [c5]; decide) (by rw [c5]; rfl) (by decide) ?_
            refine r_bipush (pc := 81) hG dX6_most_81 bc_10 ?_
            exact hret _ _ _ _ dX6_most_83 (Eq.symm (by unfold sp_X6_most; exact ((if_neg c1).trans ((if_neg c2).trans ((if_neg c3).trans ((if_neg c4).trans (if_pos c5))))))) rfl
          · have nc1 : Int32.toInt a0 ≠ 0 := fun q => c1 (Int32.toInt_inj.mp q)
            have nc2 : Int32.toInt a0 ≠ 1 := fun q => c2 (Int32.toInt_inj.mp q)
            have nc3 : Int32.toInt a0 ≠ 2 := fun q => c3 (Int32.toInt_inj.mp q)
            have nc4 : Int32.toInt a0 ≠ 3 := fun q => c4 (Int32.toInt_inj.mp q)
            have nc5 : Int32.toInt a0 ≠ 4 := fun q => c5 (Int32.toInt_inj.mp q)
            refine r_tableOut (pc := 11) (tgt := 84) hG dX6_most_11 (by omega) (by decide) ?_
            refine r_sipush (pc := 84) hG dX6_most_84 sc_999 ?_
            exact hret _ _ _ _ dX6_most_87 (Eq.symm (by unfold sp_X6_most; exact ((if_neg c1).trans ((if_neg c2).trans ((if_neg c3).trans ((if_neg c4).trans (if_neg c5))))))) rfl

/-- what the tape's places keep to -/
def teB (M : MT) : Prop := bd (M.2.1 6 2) 251 ∧ bd (M.2.1 6 3) 251 ∧ tn (M.2.1 6 2) ≤ tn (M.2.1 6 3)
theorem off_eq {a : Int32} {i : Nat} (ha : bd a 251) (hi : i < 1000) : a + nI i = nI (tn a + i) := by
  have hl := bd_lt ha
  have h := bd_eq ha
  have e : nI (tn a) + nI i = nI (tn a + i) := nI_add _ _
  rw [← e, ← h]
theorem off_le {a b : Int32} {i : Nat} (ha : bd a 251) (hb : bd b 251) (hi : i < 1000) : b ≤ a + nI i ↔ tn b ≤ tn a + i := by
  have hl := bd_lt ha
  rw [off_eq ha hi]
  exact bd_le hb (by omega)
theorem off_bd {a b : Int32} {i : Nat} (ha : bd a 251) (hb : bd b 251) (hi : i < tn b - tn a) : bd (a + nI i) 250 := by
  have hl := bd_lt ha
  have hm := bd_lt hb
  rw [off_eq ha (by omega)]
  exact bd_nI (by omega) (by omega)
theorem ta_bd {a s : Int32} (hs : bd s 251) (ha : bd a 251) (h : ¬ s ≤ a) : bd a 250 := by
  have hl := bd_lt ha
  have hm := bd_lt hs
  have e := bd_eq ha
  rw [e] at h ⊢
  have := mt (bd_le hs (by omega)).mpr h
  exact bd_nI (by omega) (by omega)

def sp_X6_typeAt (M : MT) (a0 : Int32) : Int32 :=
  if a0 < (M.2.1 6 0) then
    if (sp_X8_within (M.2.1 7 (tn a0)) 97 122) = true then
      1
    else
      if (sp_X8_within (M.2.1 7 (tn a0)) 48 57) = true then
        2
      else
        if (M.2.1 7 (tn a0)) = 59 then
          3
        else
          4
  else
    0
set_option maxRecDepth 20000 in
theorem c_X6_typeAt {K : KT} {M : MT} {a0 : Int32}  (ha0b : bd (a0) 251) (hsz : bd (M.2.1 6 0) 251) : CM K 2 yX6_typeAt cX6_typeAt 3 (some FieldType.int) [rf K 9, .int a0] M (some (.int (sp_X6_typeAt M a0))) M := by
  refine CM.ofI (by decide) [some (rf K 9), some (.int a0), none] rfl (Nat.le_of_ble_eq_true rfl) (Nat.le_of_ble_eq_true rfl) (fun G hG _ hret => ?_)
  refine r_iload_n (pc := 0) hG dX6_typeAt_0 rfl ?_
  refine r_aload_n (pc := 1) hG dX6_typeAt_1 rfl ?_
  refine gf_X6_size (pc := 2)  hG dX6_typeAt_2 tw_287 ?_
  refine r_icmp_lt (pc := 5) (tgt := 10) hG dX6_typeAt_5 (by decide) (fun c1 => ?_) (fun c1 => ?_)
  · refine r_aload_n (pc := 10) hG dX6_typeAt_10 rfl ?_
    refine gf_X6_letters (pc := 11)  hG dX6_typeAt_11 tw_285 ?_
    refine r_iload_n (pc := 14) hG dX6_typeAt_14 rfl ?_
    refine al_Let (pc := 15)  hG dX6_typeAt_15 (ix_bd (ta_bd hsz ha0b (Int32.not_le.mpr c1))) ?_
    refine r_istore_n (pc := 16) (ls' := [_, _, _]) hG dX6_typeAt_16 rfl rfl ?_
    refine r_iload_n (pc := 17) hG dX6_typeAt_17 rfl ?_
    refine r_bipush (pc := 18) hG dX6_typeAt_18 bc_97 ?_
    refine r_bipush (pc := 20) hG dX6_typeAt_20 bc_122 ?_
    refine cs_X8_within_n (pc := 22)  hG dX6_typeAt_22 nw_RX6_63 (c_X8_within) (by decide) (Nat.le_of_ble_eq_true rfl) ?_
    refine r_ifz_eq (pc := 25) (tgt := 30) hG dX6_typeAt_25 (by decide) (fun c2 => ?_) (fun c2 => ?_)
    · refine r_iload_n (pc := 30) hG dX6_typeAt_30 rfl ?_
      refine r_bipush (pc := 31) hG dX6_typeAt_31 bc_48 ?_
      refine r_bipush (pc := 33) hG dX6_typeAt_33 bc_57 ?_
      refine cs_X8_within_n (pc := 35)  hG dX6_typeAt_35 nw_RX6_63 (c_X8_within) (by decide) (Nat.le_of_ble_eq_true rfl) ?_
      refine r_ifz_eq (pc := 38) (tgt := 43) hG dX6_typeAt_38 (by decide) (fun c3 => ?_) (fun c3 => ?_)
      · refine r_iload_n (pc := 43) hG dX6_typeAt_43 rfl ?_
        refine r_bipush (pc := 44) hG dX6_typeAt_44 bc_59 ?_
        refine r_icmp_ne (pc := 46) (tgt := 53) hG dX6_typeAt_46 (by decide) (fun c4 => ?_) (fun c4 => ?_)
        · refine r_iconst (pc := 53) hG dX6_typeAt_53 ic_4 ?_
          exact hret _ _ _ _ dX6_typeAt_54 (Eq.symm (by unfold sp_X6_typeAt; exact ((if_pos c1).trans ((if_neg c2).trans ((if_neg c3).trans (if_neg c4)))))) rfl
        · refine r_iconst (pc := 49) hG dX6_typeAt_49 ic_3 ?_
          refine r_goto (pc := 50) (tgt := 54) hG dX6_typeAt_50 (by decide) ?_
          exact hret _ _ _ _ dX6_typeAt_54 (Eq.symm (by unfold sp_X6_typeAt; exact ((if_pos c1).trans ((if_neg c2).trans ((if_neg c3).trans (if_pos c4)))))) rfl
      · refine r_iconst (pc := 41) hG dX6_typeAt_41 ic_2 ?_
        exact hret _ _ _ _ dX6_typeAt_42 (Eq.symm (by unfold sp_X6_typeAt; exact ((if_pos c1).trans ((if_neg c2).trans (if_pos c3))))) rfl
    · refine r_iconst (pc := 28) hG dX6_typeAt_28 ic_1 ?_
      exact hret _ _ _ _ dX6_typeAt_29 (Eq.symm (by unfold sp_X6_typeAt; exact ((if_pos c1).trans (if_pos c2)))) rfl
  · refine r_iconst (pc := 8) hG dX6_typeAt_8 ic_0 ?_
    exact hret _ _ _ _ dX6_typeAt_9 (Eq.symm (by unfold sp_X6_typeAt; exact (if_neg c1))) rfl

def st_X6_number_7 (M : MT) (i : Nat) (b7 : Int32) : Int32 :=
  ((10 * b7) + (M.2.1 7 (tn ((M.2.1 6 2) + nI i)))) - 48
def sp_X6_number (M : MT) : Int32 :=
  itN (tn (M.2.1 6 3) - tn (M.2.1 6 2)) (st_X6_number_7 M) 0
set_option maxRecDepth 20000 in
theorem c_X6_number {K : KT} {M : MT}   (hte : teB M) : CM K 1 yX6_number cX6_number 3 (some FieldType.int) [rf K 9] M (some (.int (sp_X6_number M))) M := by
  refine CM.ofI (by decide) [some (rf K 9), none, none] rfl (Nat.le_of_ble_eq_true rfl) (Nat.le_of_ble_eq_true rfl) (fun G hG _ hret => ?_)
  obtain ⟨hst, hen, hse⟩ := id hte
  have hstl := bd_lt hst
  have henl := bd_lt hen
  refine r_iconst (pc := 0) hG dX6_number_0 ic_0 ?_
  refine r_istore_n (pc := 1) (ls' := [_, _, _]) hG dX6_number_1 rfl rfl ?_
  refine r_aload_n (pc := 2) hG dX6_number_2 rfl ?_
  refine gf_X6_start (pc := 3)  hG dX6_number_3 tw_293 ?_
  refine r_istore_n (pc := 6) (ls' := [_, _, _]) hG dX6_number_6 rfl rfl ?_
  have lp7 : ∀ i, i ≤ (tn (M.2.1 6 3) - tn (M.2.1 6 2)) → ∀ b7 : Int32, b7 = itN i (st_X6_number_7 M) 0 → J G K M 7 [some (rf K 9), some (.int b7), some (.int ((M.2.1 6 2) + nI i))] [] := by
    refine up_ind (tn (M.2.1 6 3) - tn (M.2.1 6 2)) (fun i hi7 ih7 => ?_)
    intro b7 hg7
    refine r_iload_n (pc := 7) hG dX6_number_7 rfl ?_
    refine r_aload_n (pc := 8) hG dX6_number_8 rfl ?_
    refine gf_X6_end (pc := 9)  hG dX6_number_9 tw_294 ?_
    refine r_icmp_ge (pc := 12) (tgt := 36) hG dX6_number_12 (by decide) (fun c1 => ?_) (fun c1 => ?_)
    · have e7 : i = (tn (M.2.1 6 3) - tn (M.2.1 6 2)) := by have := (off_le hst hen (by omega)).mp c1; omega
      subst hg7
      subst e7
      refine r_iload_n (pc := 36) hG dX6_number_36 rfl ?_
      exact hret _ _ _ _ dX6_number_37 (Eq.symm (by unfold sp_X6_number; exact rfl)) rfl
    · have hl7 : i < (tn (M.2.1 6 3) - tn (M.2.1 6 2)) := by have := mt (off_le hst hen (by omega)).mpr c1; omega
      refine r_bipush (pc := 15) hG dX6_number_15 bc_10 ?_
      refine r_iload_n (pc := 17) hG dX6_number_17 rfl ?_
      refine r_imul (pc := 18) hG dX6_number_18 ?_
      refine r_aload_n (pc := 19) hG dX6_number_19 rfl ?_
      refine gf_X6_letters (pc := 20)  hG dX6_number_20 tw_285 ?_
      refine r_iload_n (pc := 23) hG dX6_number_23 rfl ?_
      refine al_Let (pc := 24)  hG dX6_number_24 (ix_bd (off_bd hst hen hl7)) ?_
      refine r_iadd (pc := 25) hG dX6_number_25 ?_
      refine r_bipush (pc := 26) hG dX6_number_26 bc_48 ?_
      refine r_isub (pc := 28) hG dX6_number_28 ?_
      refine r_istore_n (pc := 29) (ls' := [_, _, _]) hG dX6_number_29 rfl rfl ?_
      refine r_iinc (pc := 30) (v := ((M.2.1 6 2) + nI i) + 1) (ls' := [_, _, _]) hG dX6_number_30 rfl rfl rfl rfl ?_
      refine r_goto (pc := 33) (tgt := 7) hG dX6_number_33 (by decide) ?_
      have eN7 : ((10 * b7) + (M.2.1 7 (tn ((M.2.1 6 2) + nI i)))) - 48 = st_X6_number_7 M i (itN i (st_X6_number_7 M) 0) := by rw [← hg7]; unfold st_X6_number_7; exact Eq.symm rfl
      refine J.wk (ls' := [some (rf K 9), some (.int (((10 * b7) + (M.2.1 7 (tn ((M.2.1 6 2) + nI i)))) - 48)), some (.int ((M.2.1 6 2) + nI (i + 1)))]) ?_ (Eq.refl 3) (wk_s rfl (wk_s rfl (wk_s (congrArg Value.int (rng_step _ _)) wk_0)))
      exact ih7 hl7 (((10 * b7) + (M.2.1 7 (tn ((M.2.1 6 2) + nI i)))) - 48) eN7
  exact (lp7 0 (Nat.zero_le _) _ rfl).wk (Eq.refl 3) (wk_s rfl (wk_s rfl (wk_s (congrArg Value.int (rng_zero _)) wk_0)))

def lscan (P : Nat → Prop) [DecidablePred P] : Nat → Nat → Nat
  | 0, e => e
  | n + 1, e => if P e then lscan P n (e + 1) else e
theorem lscan_p {P : Nat → Prop} [DecidablePred P] {n e : Nat} (h : P e) : lscan P (n + 1) e = lscan P n (e + 1) := if_pos h
theorem lscan_n {P : Nat → Prop} [DecidablePred P] {n e : Nat} (h : ¬ P e) : lscan P n e = e := by
  cases n with
  | zero => rfl
  | succ n => exact if_neg h
theorem lscan_le {P : Nat → Prop} [DecidablePred P] : ∀ (n e : Nat), e ≤ lscan P n e ∧ lscan P n e ≤ e + n
  | 0, e => ⟨Nat.le_refl _, Nat.le_refl _⟩
  | n + 1, e => by
    have h := lscan_le (P := P) n (e + 1)
    unfold lscan
    split
    · omega
    · omega
/-- the memory with the tape's places set -/
def tpM (M : MT) (ty st en : Int32) : MT := (M.1, fun a b => if a = 6 then (if b = 1 then ty else if b = 2 then st else if b = 3 then en else M.2.1 a b) else M.2.1 a b, M.2.2)
theorem tp_ext {f g : Nat → Nat → Int32} {M : MT} (h : ∀ a b, f a b = g a b) : ((M.1, f, M.2.2) : MT) = (M.1, g, M.2.2) := by
  have : f = g := funext fun a => funext fun b => h a b
  rw [this]
theorem tp_self {M : MT} : M = tpM M (M.2.1 6 1) (M.2.1 6 2) (M.2.1 6 3) := by
  show ((M.1, M.2.1, M.2.2) : MT) = _
  refine tp_ext (M := M) (fun a b => ?_)
  split
  · rename_i h
    subst h
    split
    · rename_i h; rw [h]
    · split
      · rename_i h; rw [h]
      · split
        · rename_i h; rw [h]
        · rfl
  · rfl
theorem tp_en {M : MT} {t s e v : Int32} : u2 (tpM M t s e) 6 3 v = tpM M t s v := by
  refine tp_ext (M := M) (fun a b => ?_)
  show (if a = 6 ∧ b = 3 then v else if a = 6 then _ else _) = _
  by_cases ha : a = 6 <;> by_cases h1 : b = 1 <;> by_cases h2 : b = 2 <;> by_cases h3 : b = 3 <;> simp_all
theorem tp_st {M : MT} {t s e v : Int32} : u2 (tpM M t s e) 6 2 v = tpM M t v e := by
  refine tp_ext (M := M) (fun a b => ?_)
  show (if a = 6 ∧ b = 2 then v else if a = 6 then _ else _) = _
  by_cases ha : a = 6 <;> by_cases h1 : b = 1 <;> by_cases h2 : b = 2 <;> by_cases h3 : b = 3 <;> simp_all
theorem tp_ty {M : MT} {t s e v : Int32} : u2 (tpM M t s e) 6 1 v = tpM M v s e := by
  refine tp_ext (M := M) (fun a b => ?_)
  show (if a = 6 ∧ b = 1 then v else if a = 6 then _ else _) = _
  by_cases ha : a = 6 <;> by_cases h1 : b = 1 <;> by_cases h2 : b = 2 <;> by_cases h3 : b = 3 <;> simp_all
def av1 (M : MT) : Nat := lscan (fun e => M.2.1 7 e = 32) (tn (M.2.1 6 0) - tn (M.2.1 6 3)) (tn (M.2.1 6 3))
def av2 (M : MT) (s : Nat) : Nat := if s < tn (M.2.1 6 0) then s + 1 else s
def av3 (M : MT) (t : Int32) (e : Nat) : Nat := if t = 1 ∨ t = 2 then lscan (fun e => sp_X6_typeAt M (nI e) = t) (tn (M.2.1 6 0) - e) e else e
def sp_X6_advance (M : MT) : MT := tpM M (sp_X6_typeAt M (nI (av1 M))) (nI (av1 M)) (nI (av3 M (sp_X6_typeAt M (nI (av1 M))) (av2 M (av1 M))))
theorem lp_adv0 {G : GT} {K : KT} {M : MT} {t s : Int32} {d : Nat} (hG : GF G K RX6 cX6_advance d) (hsz : bd (M.2.1 6 0) 251) : ∀ n e, e + n = tn (M.2.1 6 0) → J G K (tpM M t s (nI (lscan (fun e => M.2.1 7 e = 32) n e))) 38 [some (rf K 9)] [] → J G K (tpM M t s (nI e)) 0 [some (rf K 9)] [] := by
  have hszl := bd_lt hsz
  intro n
  induction n with
  | zero =>
    intro e he hk
    refine r_aload_n (pc := 0) hG dX6_advance_0 rfl ?_
    refine gf_X6_end (pc := 1) hG dX6_advance_1 tw_294 ?_
    refine r_aload_n (pc := 4) hG dX6_advance_4 rfl ?_
    refine gf_X6_size (pc := 5) hG dX6_advance_5 tw_287 ?_
    refine r_icmp_ge (x := nI e) (y := M.2.1 6 0) (pc := 8) (tgt := 38) hG dX6_advance_8 (by decide) (fun c => hk) (fun c => ?_)
    exact absurd ((bd_le hsz (by omega)).mpr (by omega)) c
  | succ n ih =>
    intro e he hk
    refine r_aload_n (pc := 0) hG dX6_advance_0 rfl ?_
    refine gf_X6_end (pc := 1) hG dX6_advance_1 tw_294 ?_
    refine r_aload_n (pc := 4) hG dX6_advance_4 rfl ?_
    refine gf_X6_size (pc := 5) hG dX6_advance_5 tw_287 ?_
    refine r_icmp_ge (x := nI e) (y := M.2.1 6 0) (pc := 8) (tgt := 38) hG dX6_advance_8 (by decide) (fun c => ?_) (fun c => ?_)
    · have := (bd_le hsz (by omega)).mp c
      exfalso; omega
    · refine r_aload_n (pc := 11) hG dX6_advance_11 rfl ?_
      refine gf_X6_letters (pc := 12) hG dX6_advance_12 tw_285 ?_
      refine r_aload_n (pc := 15) hG dX6_advance_15 rfl ?_
      refine gf_X6_end (pc := 16) hG dX6_advance_16 tw_294 ?_
      refine al_Let (i := nI e) (j := e) (pc := 19) hG dX6_advance_19 (ix_nI (by omega) (Nat.le_of_ble_eq_true rfl)) ?_
      refine r_bipush (pc := 20) hG dX6_advance_20 bc_32 ?_
      refine r_icmp_ne (x := M.2.1 7 e) (y := 32) (pc := 22) (tgt := 38) hG dX6_advance_22 (by decide) (fun q => ?_) (fun q => ?_)
      · rw [lscan_n q] at hk
        exact hk
      · rw [lscan_p q] at hk
        refine r_aload_n (pc := 25) hG dX6_advance_25 rfl ?_
        refine r_dup (pc := 26) hG dX6_advance_26 rfl ?_
        refine gf_X6_end (pc := 27) hG dX6_advance_27 tw_294 ?_
        refine r_iconst (pc := 30) hG dX6_advance_30 ic_1 ?_
        refine r_iadd (x := nI e) (pc := 31) hG dX6_advance_31 ?_
        refine pf_X6_end (v := nI e + 1) (pc := 32) hG dX6_advance_32 tw_294 ?_
        refine r_goto (pc := 35) (tgt := 0) hG dX6_advance_35 (by decide) ?_
        refine J.castM (ih (e + 1) (by omega) hk) (tp_en.trans (by rw [nI_succ]))
theorem ta_tp {M : MT} {t s e a : Int32} : sp_X6_typeAt (tpM M t s e) a = sp_X6_typeAt M a := by
  unfold sp_X6_typeAt; rfl
theorem lp_adv79 {G : GT} {K : KT} {M : MT} {t s : Int32} {d : Nat} (hd : 3 ≤ d) (hG : GF G K RX6 cX6_advance d) (hsz : bd (M.2.1 6 0) 251) : ∀ n e, e + n = tn (M.2.1 6 0) → J G K (tpM M t s (nI (if t = 1 ∨ t = 2 then lscan (fun e => sp_X6_typeAt M (nI e) = t) n e else e))) 134 [some (rf K 9)] [] → J G K (tpM M t s (nI e)) 79 [some (rf K 9)] [] := by
  have hszl := bd_lt hsz
  intro n
  induction n with
  | zero =>
    intro e he hk
    have z : (if t = 1 ∨ t = 2 then lscan (fun e => sp_X6_typeAt M (nI e) = t) 0 e else e) = e := by split <;> rfl
    rw [z] at hk
    refine r_aload_n (pc := 79) hG dX6_advance_79 rfl ?_
    refine gf_X6_end (pc := 80) hG dX6_advance_80 tw_294 ?_
    refine r_aload_n (pc := 83) hG dX6_advance_83 rfl ?_
    refine gf_X6_size (pc := 84) hG dX6_advance_84 tw_287 ?_
    refine r_icmp_ge (x := nI e) (y := M.2.1 6 0) (pc := 87) (tgt := 134) hG dX6_advance_87 (by decide) (fun c => hk) (fun c => ?_)
    exact absurd ((bd_le hsz (by omega)).mpr (by omega)) c
  | succ n ih =>
    intro e he hk
    have at106 : (t = 1 ∨ t = 2) → J G K (tpM M t s (nI e)) 106 [some (rf K 9)] [] := by
      intro ht
      rw [if_pos ht] at hk
      refine r_aload_n (pc := 106) hG dX6_advance_106 rfl ?_
      refine r_aload_n (pc := 107) hG dX6_advance_107 rfl ?_
      refine gf_X6_end (pc := 108) hG dX6_advance_108 tw_294 ?_
      refine cv_X6_typeAt (a0 := nI e) (pc := 111) hG dX6_advance_111 tw_553 (c_X6_typeAt (bd_nI (by omega) (by omega)) hsz) (by omega) (Nat.le_of_ble_eq_true rfl) ?_
      rw [ta_tp]
      refine r_aload_n (pc := 114) hG dX6_advance_114 rfl ?_
      refine gf_X6_type (pc := 115) hG dX6_advance_115 tw_292 ?_
      refine r_icmp_ne (x := sp_X6_typeAt M (nI e)) (y := t) (pc := 118) (tgt := 134) hG dX6_advance_118 (by decide) (fun q => ?_) (fun q => ?_)
      · rw [lscan_n q] at hk
        exact hk
      · rw [lscan_p q] at hk
        refine r_aload_n (pc := 121) hG dX6_advance_121 rfl ?_
        refine r_dup (pc := 122) hG dX6_advance_122 rfl ?_
        refine gf_X6_end (pc := 123) hG dX6_advance_123 tw_294 ?_
        refine r_iconst (pc := 126) hG dX6_advance_126 ic_1 ?_
        refine r_iadd (x := nI e) (pc := 127) hG dX6_advance_127 ?_
        refine pf_X6_end (v := nI e + 1) (pc := 128) hG dX6_advance_128 tw_294 ?_
        refine r_goto (pc := 131) (tgt := 79) hG dX6_advance_131 (by decide) ?_
        refine J.castM (ih (e + 1) (by omega) ?_) (tp_en.trans (by rw [nI_succ]))
        rw [if_pos ht]
        exact hk
    refine r_aload_n (pc := 79) hG dX6_advance_79 rfl ?_
    refine gf_X6_end (pc := 80) hG dX6_advance_80 tw_294 ?_
    refine r_aload_n (pc := 83) hG dX6_advance_83 rfl ?_
    refine gf_X6_size (pc := 84) hG dX6_advance_84 tw_287 ?_
    refine r_icmp_ge (x := nI e) (y := M.2.1 6 0) (pc := 87) (tgt := 134) hG dX6_advance_87 (by decide) (fun c => ?_) (fun c => ?_)
    · have := (bd_le hsz (by omega)).mp c
      exfalso; omega
    · refine r_aload_n (pc := 90) hG dX6_advance_90 rfl ?_
      refine gf_X6_type (pc := 91) hG dX6_advance_91 tw_292 ?_
      refine r_iconst (pc := 94) hG dX6_advance_94 ic_1 ?_
      refine r_icmp_eq (x := t) (y := 1) (pc := 95) (tgt := 106) hG dX6_advance_95 (by decide) (fun q => at106 (Or.inl q)) (fun q => ?_)
      refine r_aload_n (pc := 98) hG dX6_advance_98 rfl ?_
      refine gf_X6_type (pc := 99) hG dX6_advance_99 tw_292 ?_
      refine r_iconst (pc := 102) hG dX6_advance_102 ic_2 ?_
      refine r_icmp_ne (x := t) (y := 2) (pc := 103) (tgt := 134) hG dX6_advance_103 (by decide) (fun r => ?_) (fun r => at106 (Or.inr r))
      rw [if_neg (fun z => z.elim q r)] at hk
      exact hk
theorem av1_le {M : MT} (he : tn (M.2.1 6 3) ≤ tn (M.2.1 6 0)) : tn (M.2.1 6 3) ≤ av1 M ∧ av1 M ≤ tn (M.2.1 6 0) := by
  have := lscan_le (P := fun e => M.2.1 7 e = 32) (tn (M.2.1 6 0) - tn (M.2.1 6 3)) (tn (M.2.1 6 3))
  unfold av1
  omega
theorem av2_le {M : MT} {s : Nat} (hs : s ≤ tn (M.2.1 6 0)) : s ≤ av2 M s ∧ av2 M s ≤ tn (M.2.1 6 0) := by
  unfold av2
  split <;> omega
theorem av3_le {M : MT} {t : Int32} {e : Nat} (hs : e ≤ tn (M.2.1 6 0)) : e ≤ av3 M t e ∧ av3 M t e ≤ tn (M.2.1 6 0) := by
  have := lscan_le (P := fun e => sp_X6_typeAt M (nI e) = t) (tn (M.2.1 6 0) - e) e
  unfold av3
  split <;> omega
theorem c_X6_advance {K : KT} {M : MT} (hsz : bd (M.2.1 6 0) 251) (hen : bd (M.2.1 6 3) 251) (hle : tn (M.2.1 6 3) ≤ tn (M.2.1 6 0)) : CM K 3 yX6_advance cX6_advance 1 none [rf K 9] M none (sp_X6_advance M) := by
  refine CM.ofV (by decide) [some (rf K 9)] rfl (Nat.le_of_ble_eq_true rfl) (Nat.le_of_ble_eq_true rfl) (fun G hG _ hret => ?_)
  have hszl := bd_lt hsz
  have h1 := av1_le hle
  have h2 := av2_le h1.2
  refine J.castM (M' := tpM M (M.2.1 6 1) (M.2.1 6 2) (nI (tn (M.2.1 6 3)))) ?_ (tp_self.trans (by rw [← bd_eq hen]))
  refine lp_adv0 hG hsz (tn (M.2.1 6 0) - tn (M.2.1 6 3)) (tn (M.2.1 6 3)) (by omega) ?_
  show J G K (tpM M (M.2.1 6 1) (M.2.1 6 2) (nI (av1 M))) 38 [some (rf K 9)] []
  generalize hs : av1 M = s at h1 h2 ⊢
  refine r_aload_n (pc := 38) hG dX6_advance_38 rfl ?_
  refine r_aload_n (pc := 39) hG dX6_advance_39 rfl ?_
  refine gf_X6_end (pc := 40) hG dX6_advance_40 tw_294 ?_
  refine pf_X6_start (v := nI s) (pc := 43) hG dX6_advance_43 tw_293 ?_
  rw [tp_st]
  refine r_aload_n (pc := 46) hG dX6_advance_46 rfl ?_
  refine r_aload_n (pc := 47) hG dX6_advance_47 rfl ?_
  refine r_aload_n (pc := 48) hG dX6_advance_48 rfl ?_
  refine gf_X6_start (pc := 49) hG dX6_advance_49 tw_293 ?_
  refine cv_X6_typeAt (a0 := nI s) (pc := 52) hG dX6_advance_52 tw_553 (c_X6_typeAt (bd_nI (by omega) (by omega)) hsz) (by decide) (Nat.le_of_ble_eq_true rfl) ?_
  rw [ta_tp]
  refine pf_X6_type (pc := 55) hG dX6_advance_55 tw_292 ?_
  rw [tp_ty]
  have fin : J G K (tpM M (sp_X6_typeAt M (nI s)) (nI s) (nI (av2 M s))) 79 [some (rf K 9)] [] := by
    refine lp_adv79 (by decide) hG hsz (tn (M.2.1 6 0) - av2 M s) (av2 M s) (by omega) ?_
    exact hret _ _ _ dX6_advance_134 (by unfold sp_X6_advance; rw [hs]; rfl)
  refine r_aload_n (pc := 58) hG dX6_advance_58 rfl ?_
  refine gf_X6_start (pc := 59) hG dX6_advance_59 tw_293 ?_
  refine r_aload_n (pc := 62) hG dX6_advance_62 rfl ?_
  refine gf_X6_size (pc := 63) hG dX6_advance_63 tw_287 ?_
  refine r_icmp_ge (x := nI s) (y := M.2.1 6 0) (pc := 66) (tgt := 79) hG dX6_advance_66 (by decide) (fun c => ?_) (fun c => ?_)
  · have := (bd_le hsz (by omega)).mp c
    have e : av2 M s = s := if_neg (by omega)
    rw [e] at fin
    exact fin
  · have := mt (bd_le hsz (by omega)).mpr c
    have e : av2 M s = s + 1 := if_pos (by omega)
    refine r_aload_n (pc := 69) hG dX6_advance_69 rfl ?_
    refine r_dup (pc := 70) hG dX6_advance_70 rfl ?_
    refine gf_X6_end (pc := 71) hG dX6_advance_71 tw_294 ?_
    refine r_iconst (pc := 74) hG dX6_advance_74 ic_1 ?_
    refine r_iadd (x := nI s) (pc := 75) hG dX6_advance_75 ?_
    refine pf_X6_end (v := nI s + 1) (pc := 76) hG dX6_advance_76 tw_294 ?_
    rw [e] at fin
    exact J.castM fin (tp_en.trans (by rw [nI_succ]))
