def sp_X8_refuse (M : MT) (a0 : Int32) : Int32 × MT :=
  (a0, u2 M 1 (tn (-a0)) ((M.2.1 1 (tn (-a0))) + 1))
set_option maxRecDepth 20000 in
theorem c_X8_refuse {K : KT} {M : MT} {a0 : Int32}  (hr : bd (-a0) 7) : CM K 1 yX8_refuse cX8_refuse 2 (some FieldType.int) [rf K 0, .int a0] M (some (.int (sp_X8_refuse M a0).1)) (sp_X8_refuse M a0).2 := by
  refine CM.ofI (by decide) [some (rf K 0), some (.int a0)] rfl (Nat.le_of_ble_eq_true rfl) (Nat.le_of_ble_eq_true rfl) (fun G hG _ hret => ?_)
  refine r_aload_n (pc := 0) hG dX8_refuse_0 rfl ?_
  refine gf_X8_refusals (pc := 1)  hG dX8_refuse_1 tw_361 ?_
  refine r_iload_n (pc := 4) hG dX8_refuse_4 rfl ?_
  refine r_ineg (pc := 5) hG dX8_refuse_5 ?_
  refine r_dup2 (pc := 6) hG dX8_refuse_6 rfl rfl ?_
  refine al_Xref (pc := 7)  hG dX8_refuse_7 (ix_bd hr) ?_
  refine r_iconst (pc := 8) hG dX8_refuse_8 ic_1 ?_
  refine r_iadd (pc := 9) hG dX8_refuse_9 ?_
  refine as_Xref (pc := 10)  hG dX8_refuse_10 (ix_bd hr) ?_
  refine r_iload_n (pc := 11) hG dX8_refuse_11 rfl ?_
  exact hret _ _ _ _ dX8_refuse_12 (pair_fst (show sp_X8_refuse M a0 = (a0, u2 M 1 (tn (-a0)) ((M.2.1 1 (tn (-a0))) + 1)) from (by unfold sp_X8_refuse; exact rfl))) (pair_snd (show sp_X8_refuse M a0 = (a0, u2 M 1 (tn (-a0)) ((M.2.1 1 (tn (-a0))) + 1)) from (by unfold sp_X8_refuse; exact rfl)))

def sp_X8_rowRefusal (M : MT) (a0 : Int32) (a1 : Int32) : Int32 :=
  if (sp_X8_isShelf a0) = true then
    if (M.2.1 10 (tn a0)) = (-1) then
      if (M.2.1 9 (tn a0)) = 0 then
        (-4)
      else
        if a1 ≤ (M.2.1 12 (tn a0)) then
          0
        else
          (-2)
    else
      (-3)
  else
    (-2)
set_option maxRecDepth 20000 in
theorem c_X8_rowRefusal {K : KT} {M : MT} {a0 : Int32} {a1 : Int32}   : CM K 3 yX8_rowRefusal cX8_rowRefusal 4 (some FieldType.int) [rf K 0, .int a0, .int a1] M (some (.int (sp_X8_rowRefusal M a0 a1))) M := by
  refine CM.ofI (by decide) [some (rf K 0), some (.int a0), some (.int a1), none] rfl (Nat.le_of_ble_eq_true rfl) (Nat.le_of_ble_eq_true rfl) (fun G hG _ hret => ?_)
  refine r_iload_n (pc := 0) hG dX8_rowRefusal_0 rfl ?_
  refine cs_X8_isShelf (pc := 1)  hG dX8_rowRefusal_1 tw_384 (c_X8_isShelf) (by decide) (Nat.le_of_ble_eq_true rfl) ?_
  refine r_ifz_ne (pc := 4) (tgt := 10) hG dX8_rowRefusal_4 (by decide) (fun c1 => ?_) (fun c1 => ?_)
  · refine r_aload_n (pc := 10) hG dX8_rowRefusal_10 rfl ?_
    refine gf_X8_shelves (pc := 11)  hG dX8_rowRefusal_11 tw_360 ?_
    refine r_iload_n (pc := 14) hG dX8_rowRefusal_14 rfl ?_
    refine aa_Xsh (pc := 15)  hG dX8_rowRefusal_15 (ix_bd (isSh c1)) ?_
    refine r_astore_n (pc := 16) (ls' := [_, _, _, _]) hG dX8_rowRefusal_16 rfl rfl ?_
    refine r_aload_n (pc := 17) hG dX8_rowRefusal_17 rfl ?_
    refine gf_X4_person (pc := 18) (bd_lt (isSh c1)) hG dX8_rowRefusal_18 tw_347 ?_
    refine r_iconst (pc := 21) hG dX8_rowRefusal_21 ic_m1 ?_
    refine r_icmp_eq (pc := 22) (tgt := 28) hG dX8_rowRefusal_22 (by decide) (fun c2 => ?_) (fun c2 => ?_)
    · refine r_aload_n (pc := 28) hG dX8_rowRefusal_28 rfl ?_
      refine gf_X4_hasRow (pc := 29) (bd_lt (isSh c1)) hG dX8_rowRefusal_29 tw_345 ?_
      refine r_if_ne (pc := 32) (tgt := 38) hG dX8_rowRefusal_32 (by decide) (fun c3 => ?_) (fun c3 => ?_)
      · refine r_aload_n (pc := 38) hG dX8_rowRefusal_38 rfl ?_
        refine gf_X4_row (pc := 39) (bd_lt (isSh c1)) hG dX8_rowRefusal_39 tw_343 ?_
        refine gf_X3_size (pc := 42) (bd_lt (isSh c1)) hG dX8_rowRefusal_42 tw_333 ?_
        refine r_iload_n (pc := 45) hG dX8_rowRefusal_45 rfl ?_
        refine r_icmp_ge (pc := 46) (tgt := 54) hG dX8_rowRefusal_46 (by decide) (fun c4 => ?_) (fun c4 => ?_)
        · refine r_iconst (pc := 54) hG dX8_rowRefusal_54 ic_0 ?_
          exact hret _ _ _ _ dX8_rowRefusal_55 (Eq.symm (by unfold sp_X8_rowRefusal; exact ((if_pos c1).trans ((if_pos c2).trans ((if_neg c3).trans (if_pos c4)))))) rfl
        · refine r_bipush (pc := 49) hG dX8_rowRefusal_49 bc_m2 ?_
          refine r_goto (pc := 51) (tgt := 55) hG dX8_rowRefusal_51 (by decide) ?_
          exact hret _ _ _ _ dX8_rowRefusal_55 (Eq.symm (by unfold sp_X8_rowRefusal; exact ((if_pos c1).trans ((if_pos c2).trans ((if_neg c3).trans (if_neg c4)))))) rfl
      · refine r_bipush (pc := 35) hG dX8_rowRefusal_35 bc_m4 ?_
        exact hret _ _ _ _ dX8_rowRefusal_37 (Eq.symm (by unfold sp_X8_rowRefusal; exact ((if_pos c1).trans ((if_pos c2).trans (if_pos c3))))) rfl
    · refine r_bipush (pc := 25) hG dX8_rowRefusal_25 bc_m3 ?_
      exact hret _ _ _ _ dX8_rowRefusal_27 (Eq.symm (by unfold sp_X8_rowRefusal; exact ((if_pos c1).trans (if_neg c2)))) rfl
  · refine r_bipush (pc := 7) hG dX8_rowRefusal_7 bc_m2 ?_
    exact hret _ _ _ _ dX8_rowRefusal_9 (Eq.symm (by unfold sp_X8_rowRefusal; exact (if_neg c1))) rfl

def sp_X8_isCouple (M : MT) (a0 : Int32) (a1 : Int32) : Bool :=
  if (sp_X5_hasPerson M 0 a0) = true then
    if (sp_X5_hasWindow M 0 a1) = true then
      true
    else
      false
  else
    false
set_option maxRecDepth 20000 in
theorem c_X8_isCouple {K : KT} {M : MT} {a0 : Int32} {a1 : Int32}   : CM K 3 yX8_isCouple cX8_isCouple 3 (some FieldType.boolean) [rf K 0, .int a0, .int a1] M (some (.int (bz (sp_X8_isCouple M a0 a1)))) M := by
  refine CM.ofZ (by decide) [some (rf K 0), some (.int a0), some (.int a1)] rfl (Nat.le_of_ble_eq_true rfl) (Nat.le_of_ble_eq_true rfl) (fun G hG _ hret => ?_)
  refine r_aload_n (pc := 0) hG dX8_isCouple_0 rfl ?_
  refine gf_X8_live (pc := 1)  hG dX8_isCouple_1 tw_355 ?_
  refine r_iload_n (pc := 4) hG dX8_isCouple_4 rfl ?_
  refine cv_X5_hasPerson (pc := 5) (by omega) hG dX8_isCouple_5 tw_442 (c_X5_hasPerson (by omega)) (by decide) (Nat.le_of_ble_eq_true rfl) ?_
  refine r_ifz_eq (pc := 8) (tgt := 26) hG dX8_isCouple_8 (by decide) (fun c1 => ?_) (fun c1 => ?_)
  · refine r_iconst (pc := 26) hG dX8_isCouple_26 ic_0 ?_
    exact hret _ _ _ _ dX8_isCouple_27 (bz_f (by unfold sp_X8_isCouple; exact (if_neg c1))) rfl
  · refine r_aload_n (pc := 11) hG dX8_isCouple_11 rfl ?_
    refine gf_X8_live (pc := 12)  hG dX8_isCouple_12 tw_355 ?_
    refine r_iload_n (pc := 15) hG dX8_isCouple_15 rfl ?_
    refine cv_X5_hasWindow (pc := 16) (by omega) hG dX8_isCouple_16 tw_669 (c_X5_hasWindow (by omega)) (by decide) (Nat.le_of_ble_eq_true rfl) ?_
    refine r_ifz_eq (pc := 19) (tgt := 26) hG dX8_isCouple_19 (by decide) (fun c2 => ?_) (fun c2 => ?_)
    · refine r_iconst (pc := 26) hG dX8_isCouple_26 ic_0 ?_
      exact hret _ _ _ _ dX8_isCouple_27 (bz_f (by unfold sp_X8_isCouple; exact ((if_pos c1).trans (if_neg c2)))) rfl
    · refine r_iconst (pc := 22) hG dX8_isCouple_22 ic_1 ?_
      refine r_goto (pc := 23) (tgt := 27) hG dX8_isCouple_23 (by decide) ?_
      exact hret _ _ _ _ dX8_isCouple_27 (bz_t (by unfold sp_X8_isCouple; exact ((if_pos c1).trans (if_pos c2)))) rfl

def sp_X8_isThrow (M : MT) (a0 : Int32) (a1 : Int32) (a2 : Int32) : Bool :=
  if (sp_X5_hasWindow M 0 a0) = true then
    if (sp_X8_within a1 0 9) = true then
      if (sp_X8_within a2 0 2) = true then
        true
      else
        false
    else
      false
  else
    false
set_option maxRecDepth 20000 in
theorem c_X8_isThrow {K : KT} {M : MT} {a0 : Int32} {a1 : Int32} {a2 : Int32}   : CM K 3 yX8_isThrow cX8_isThrow 4 (some FieldType.boolean) [rf K 0, .int a0, .int a1, .int a2] M (some (.int (bz (sp_X8_isThrow M a0 a1 a2)))) M := by
  refine CM.ofZ (by decide) [some (rf K 0), some (.int a0), some (.int a1), some (.int a2)] rfl (Nat.le_of_ble_eq_true rfl) (Nat.le_of_ble_eq_true rfl) (fun G hG _ hret => ?_)
  refine r_aload_n (pc := 0) hG dX8_isThrow_0 rfl ?_
  refine gf_X8_live (pc := 1)  hG dX8_isThrow_1 tw_355 ?_
  refine r_iload_n (pc := 4) hG dX8_isThrow_4 rfl ?_
  refine cv_X5_hasWindow (pc := 5) (by omega) hG dX8_isThrow_5 tw_669 (c_X5_hasWindow (by omega)) (by decide) (Nat.le_of_ble_eq_true rfl) ?_
  refine r_ifz_eq (pc := 8) (tgt := 34) hG dX8_isThrow_8 (by decide) (fun c1 => ?_) (fun c1 => ?_)
  · refine r_iconst (pc := 34) hG dX8_isThrow_34 ic_0 ?_
    exact hret _ _ _ _ dX8_isThrow_35 (bz_f (by unfold sp_X8_isThrow; exact (if_neg c1))) rfl
  · refine r_iload_n (pc := 11) hG dX8_isThrow_11 rfl ?_
    refine r_iconst (pc := 12) hG dX8_isThrow_12 ic_0 ?_
    refine r_bipush (pc := 13) hG dX8_isThrow_13 bc_9 ?_
    refine cs_X8_within (pc := 15)  hG dX8_isThrow_15 tw_387 (c_X8_within) (by decide) (Nat.le_of_ble_eq_true rfl) ?_
    refine r_ifz_eq (pc := 18) (tgt := 34) hG dX8_isThrow_18 (by decide) (fun c2 => ?_) (fun c2 => ?_)
    · refine r_iconst (pc := 34) hG dX8_isThrow_34 ic_0 ?_
      exact hret _ _ _ _ dX8_isThrow_35 (bz_f (by unfold sp_X8_isThrow; exact ((if_pos c1).trans (if_neg c2)))) rfl
    · refine r_iload_n (pc := 21) hG dX8_isThrow_21 rfl ?_
      refine r_iconst (pc := 22) hG dX8_isThrow_22 ic_0 ?_
      refine r_iconst (pc := 23) hG dX8_isThrow_23 ic_2 ?_
      refine cs_X8_within (pc := 24)  hG dX8_isThrow_24 tw_387 (c_X8_within) (by decide) (Nat.le_of_ble_eq_true rfl) ?_
      refine r_ifz_eq (pc := 27) (tgt := 34) hG dX8_isThrow_27 (by decide) (fun c3 => ?_) (fun c3 => ?_)
      · refine r_iconst (pc := 34) hG dX8_isThrow_34 ic_0 ?_
        exact hret _ _ _ _ dX8_isThrow_35 (bz_f (by unfold sp_X8_isThrow; exact ((if_pos c1).trans ((if_pos c2).trans (if_neg c3))))) rfl
      · refine r_iconst (pc := 30) hG dX8_isThrow_30 ic_1 ?_
        refine r_goto (pc := 31) (tgt := 35) hG dX8_isThrow_31 (by decide) ?_
        exact hret _ _ _ _ dX8_isThrow_35 (bz_t (by unfold sp_X8_isThrow; exact ((if_pos c1).trans ((if_pos c2).trans (if_pos c3))))) rfl

def st_X8_countFilledShelves_4 (M : MT) (i : Nat) (b4 : Int32) : Int32 :=
  if (sp_X4_isEmpty M i) = true then
    b4
  else
    b4 + 1
def sp_X8_countFilledShelves (M : MT) : Int32 :=
  itN 8 (st_X8_countFilledShelves_4 M) 0
set_option maxRecDepth 20000 in
theorem c_X8_countFilledShelves {K : KT} {M : MT}    : CM K 2 yX8_countFilledShelves cX8_countFilledShelves 3 (some FieldType.int) [rf K 0] M (some (.int (sp_X8_countFilledShelves M))) M := by
  refine CM.ofI (by decide) [some (rf K 0), none, none] rfl (Nat.le_of_ble_eq_true rfl) (Nat.le_of_ble_eq_true rfl) (fun G hG _ hret => ?_)
  refine r_iconst (pc := 0) hG dX8_countFilledShelves_0 ic_0 ?_
  refine r_istore_n (pc := 1) (ls' := [_, _, _]) hG dX8_countFilledShelves_1 rfl rfl ?_
  refine r_iconst (pc := 2) hG dX8_countFilledShelves_2 ic_0 ?_
  refine r_istore_n (pc := 3) (ls' := [_, _, _]) hG dX8_countFilledShelves_3 rfl rfl ?_
  have lp4 : ∀ i, i ≤ 8 → ∀ b4 : Int32, b4 = itN i (st_X8_countFilledShelves_4 M) 0 → J G K M 4 [some (rf K 0), some (.int b4), some (.int (nI i))] [] := by
    refine up_ind 8 (fun i hi4 ih4 => ?_)
    intro b4 hg4
    refine r_iload_n (pc := 4) hG dX8_countFilledShelves_4 rfl ?_
    refine r_bipush (pc := 5) hG dX8_countFilledShelves_5 bc_8 ?_
    refine r_icmp_ge (pc := 7) (tgt := 31) hG dX8_countFilledShelves_7 (by decide) (fun c1 => ?_) (fun c1 => ?_)
    · have e4 : i = 8 := by have := (le_nI (k := 8) (i := i) (Nat.le_of_ble_eq_true rfl) (by omega)).mp c1; omega
      subst hg4
      subst e4
      refine r_iload_n (pc := 31) hG dX8_countFilledShelves_31 rfl ?_
      exact hret _ _ _ _ dX8_countFilledShelves_32 (Eq.symm (by unfold sp_X8_countFilledShelves; exact rfl)) rfl
    · have hl4 : i < 8 := by have := mt (le_nI (k := 8) (i := i) (Nat.le_of_ble_eq_true rfl) (by omega)).mpr c1; omega
      refine r_aload_n (pc := 10) hG dX8_countFilledShelves_10 rfl ?_
      refine gf_X8_shelves (pc := 11)  hG dX8_countFilledShelves_11 tw_360 ?_
      refine r_iload_n (pc := 14) hG dX8_countFilledShelves_14 rfl ?_
      refine aa_Xsh (pc := 15)  hG dX8_countFilledShelves_15 (ix_nI (by omega) (Nat.le_of_ble_eq_true rfl)) ?_
      refine cv_X4_isEmpty (pc := 16) (by omega) hG dX8_countFilledShelves_16 tw_434 (c_X4_isEmpty (by omega)) (by decide) (Nat.le_of_ble_eq_true rfl) ?_
      refine r_ifz_ne (pc := 19) (tgt := 25) hG dX8_countFilledShelves_19 (by decide) (fun c2 => ?_) (fun c2 => ?_)
      · refine r_iinc (pc := 25) (v := nI (i + 1)) (ls' := [_, _, _]) hG dX8_countFilledShelves_25 rfl (nI_1 _) rfl rfl ?_
        refine r_goto (pc := 28) (tgt := 4) hG dX8_countFilledShelves_28 (by decide) ?_
        exact (ih4 hl4 b4 (show b4 = st_X8_countFilledShelves_4 M i (itN i (st_X8_countFilledShelves_4 M) 0) from by rw [← hg4]; unfold st_X8_countFilledShelves_4; exact Eq.symm (if_pos c2))).wk rfl (wk_s rfl (wk_s rfl (wk_s rfl wk_0)))
      · refine r_iinc (pc := 22) (v := b4 + 1) (ls' := [_, _, _]) hG dX8_countFilledShelves_22 rfl rfl rfl rfl ?_
        refine r_iinc (pc := 25) (v := nI (i + 1)) (ls' := [_, _, _]) hG dX8_countFilledShelves_25 rfl (nI_1 _) rfl rfl ?_
        refine r_goto (pc := 28) (tgt := 4) hG dX8_countFilledShelves_28 (by decide) ?_
        exact (ih4 hl4 (b4 + 1) (show b4 + 1 = st_X8_countFilledShelves_4 M i (itN i (st_X8_countFilledShelves_4 M) 0) from by rw [← hg4]; unfold st_X8_countFilledShelves_4; exact Eq.symm (if_neg c2))).wk rfl (wk_s rfl (wk_s rfl (wk_s rfl wk_0)))
  exact (lp4 0 (Nat.zero_le _) _ rfl).wk rfl (wk_s rfl (wk_s rfl (wk_s rfl wk_0)))
