def sp_X5_addWindow (M : MT) (s : Nat) (a0 : Int32) (a1 : Int32) (a2 : Int32) : Int32 × MT :=
  (((u1 (u1 (u1 (u1 M s 6 (tn (M.1 s 0 0)) a0) s 7 (tn (M.1 s 0 0)) a1) s 8 (tn (M.1 s 0 0)) a2) s 0 0 (((u1 (u1 (u1 M s 6 (tn (M.1 s 0 0)) a0) s 7 (tn (M.1 s 0 0)) a1) s 8 (tn (M.1 s 0 0)) a2).1 s 0 0) + 1)).1 s 0 0) - 1, u1 (u1 (u1 (u1 M s 6 (tn (M.1 s 0 0)) a0) s 7 (tn (M.1 s 0 0)) a1) s 8 (tn (M.1 s 0 0)) a2) s 0 0 (((u1 (u1 (u1 M s 6 (tn (M.1 s 0 0)) a0) s 7 (tn (M.1 s 0 0)) a1) s 8 (tn (M.1 s 0 0)) a2).1 s 0 0) + 1))
set_option maxRecDepth 20000 in
theorem c_X5_addWindow {K : KT} {M : MT} {s : Nat} {a0 : Int32} {a1 : Int32} {a2 : Int32} (hs : s < 5) (hx : bd (M.1 s 0 0) 8) : CM K 1 yX5_addWindow cX5_addWindow 5 (some FieldType.int) [rf K (iS s), .int a0, .int a1, .int a2] M (some (.int (sp_X5_addWindow M s a0 a1 a2).1)) (sp_X5_addWindow M s a0 a1 a2).2 := by
  refine CM.ofI (by decide) [some (rf K (iS s)), some (.int a0), some (.int a1), some (.int a2), none] rfl (Nat.le_of_ble_eq_true rfl) (Nat.le_of_ble_eq_true rfl) (fun G hG _ hret => ?_)
  refine r_aload_n (pc := 0) hG dX5_addWindow_0 rfl ?_
  refine gf_X5_windows (pc := 1) hs hG dX5_addWindow_1 tw_162 ?_
  refine r_aload_n (pc := 4) hG dX5_addWindow_4 rfl ?_
  refine gf_X5_windowCount (pc := 5) hs hG dX5_addWindow_5 tw_169 ?_
  refine aa_WA (pc := 8) hs hG dX5_addWindow_8 (ix_bd hx) ?_
  refine r_astore (pc := 9) (ls' := [_, _, _, _, _]) hG dX5_addWindow_9 rfl rfl ?_
  refine r_aload (pc := 11) hG dX5_addWindow_11 rfl ?_
  refine r_iload_n (pc := 13) hG dX5_addWindow_13 rfl ?_
  refine pf_X7_cell (pc := 14) hs (bd_lt hx) hG dX5_addWindow_14 tw_114 ?_
  refine r_aload (pc := 17) hG dX5_addWindow_17 rfl ?_
  refine r_iload_n (pc := 19) hG dX5_addWindow_19 rfl ?_
  refine pf_X7_floor (pc := 20) hs (bd_lt hx) hG dX5_addWindow_20 tw_117 ?_
  refine r_aload (pc := 23) hG dX5_addWindow_23 rfl ?_
  refine r_iload_n (pc := 25) hG dX5_addWindow_25 rfl ?_
  refine pf_X7_thorns (pc := 26) hs (bd_lt hx) hG dX5_addWindow_26 tw_120 ?_
  refine r_aload_n (pc := 29) hG dX5_addWindow_29 rfl ?_
  refine r_dup (pc := 30) hG dX5_addWindow_30 rfl ?_
  refine gf_X5_windowCount (pc := 31) hs hG dX5_addWindow_31 tw_169 ?_
  refine r_iconst (pc := 34) hG dX5_addWindow_34 ic_1 ?_
  refine r_iadd (pc := 35) hG dX5_addWindow_35 ?_
  refine pf_X5_windowCount (pc := 36) hs hG dX5_addWindow_36 tw_169 ?_
  refine r_aload_n (pc := 39) hG dX5_addWindow_39 rfl ?_
  refine gf_X5_windowCount (pc := 40) hs hG dX5_addWindow_40 tw_169 ?_
  refine r_iconst (pc := 43) hG dX5_addWindow_43 ic_1 ?_
  refine r_isub (pc := 44) hG dX5_addWindow_44 ?_
  exact hret _ _ _ _ dX5_addWindow_45 (pair_fst (show sp_X5_addWindow M s a0 a1 a2 = (((u1 (u1 (u1 (u1 M s 6 (tn (M.1 s 0 0)) a0) s 7 (tn (M.1 s 0 0)) a1) s 8 (tn (M.1 s 0 0)) a2) s 0 0 (((u1 (u1 (u1 M s 6 (tn (M.1 s 0 0)) a0) s 7 (tn (M.1 s 0 0)) a1) s 8 (tn (M.1 s 0 0)) a2).1 s 0 0) + 1)).1 s 0 0) - 1, u1 (u1 (u1 (u1 M s 6 (tn (M.1 s 0 0)) a0) s 7 (tn (M.1 s 0 0)) a1) s 8 (tn (M.1 s 0 0)) a2) s 0 0 (((u1 (u1 (u1 M s 6 (tn (M.1 s 0 0)) a0) s 7 (tn (M.1 s 0 0)) a1) s 8 (tn (M.1 s 0 0)) a2).1 s 0 0) + 1)) from (by unfold sp_X5_addWindow; exact rfl))) (pair_snd (show sp_X5_addWindow M s a0 a1 a2 = (((u1 (u1 (u1 (u1 M s 6 (tn (M.1 s 0 0)) a0) s 7 (tn (M.1 s 0 0)) a1) s 8 (tn (M.1 s 0 0)) a2) s 0 0 (((u1 (u1 (u1 M s 6 (tn (M.1 s 0 0)) a0) s 7 (tn (M.1 s 0 0)) a1) s 8 (tn (M.1 s 0 0)) a2).1 s 0 0) + 1)).1 s 0 0) - 1, u1 (u1 (u1 (u1 M s 6 (tn (M.1 s 0 0)) a0) s 7 (tn (M.1 s 0 0)) a1) s 8 (tn (M.1 s 0 0)) a2) s 0 0 (((u1 (u1 (u1 M s 6 (tn (M.1 s 0 0)) a0) s 7 (tn (M.1 s 0 0)) a1) s 8 (tn (M.1 s 0 0)) a2).1 s 0 0) + 1)) from (by unfold sp_X5_addWindow; exact rfl)))

def sp_X5_addPerson (M : MT) (s : Nat) (a0 : Int32) (a1 : Int32) (a2 : Int32) : Int32 × MT :=
  (((u1 (sp_X2_drop (u1 (u1 (u1 M s 9 (tn (M.1 s 1 0)) a0) s 10 (tn (M.1 s 1 0)) a1) s 11 (tn (M.1 s 1 0)) a2) s (tn (M.1 s 1 0))) s 1 0 (((sp_X2_drop (u1 (u1 (u1 M s 9 (tn (M.1 s 1 0)) a0) s 10 (tn (M.1 s 1 0)) a1) s 11 (tn (M.1 s 1 0)) a2) s (tn (M.1 s 1 0))).1 s 1 0) + 1)).1 s 1 0) - 1, u1 (sp_X2_drop (u1 (u1 (u1 M s 9 (tn (M.1 s 1 0)) a0) s 10 (tn (M.1 s 1 0)) a1) s 11 (tn (M.1 s 1 0)) a2) s (tn (M.1 s 1 0))) s 1 0 (((sp_X2_drop (u1 (u1 (u1 M s 9 (tn (M.1 s 1 0)) a0) s 10 (tn (M.1 s 1 0)) a1) s 11 (tn (M.1 s 1 0)) a2) s (tn (M.1 s 1 0))).1 s 1 0) + 1))
set_option maxRecDepth 20000 in
theorem c_X5_addPerson {K : KT} {M : MT} {s : Nat} {a0 : Int32} {a1 : Int32} {a2 : Int32} (hs : s < 5) (hx : bd (M.1 s 1 0) 8) : CM K 2 yX5_addPerson cX5_addPerson 5 (some FieldType.int) [rf K (iS s), .int a0, .int a1, .int a2] M (some (.int (sp_X5_addPerson M s a0 a1 a2).1)) (sp_X5_addPerson M s a0 a1 a2).2 := by
  refine CM.ofI (by decide) [some (rf K (iS s)), some (.int a0), some (.int a1), some (.int a2), none] rfl (Nat.le_of_ble_eq_true rfl) (Nat.le_of_ble_eq_true rfl) (fun G hG _ hret => ?_)
  refine r_aload_n (pc := 0) hG dX5_addPerson_0 rfl ?_
  refine gf_X5_people (pc := 1) hs hG dX5_addPerson_1 tw_164 ?_
  refine r_aload_n (pc := 4) hG dX5_addPerson_4 rfl ?_
  refine gf_X5_personCount (pc := 5) hs hG dX5_addPerson_5 tw_173 ?_
  refine aa_PA (pc := 8) hs hG dX5_addPerson_8 (ix_bd hx) ?_
  refine r_astore (pc := 9) (ls' := [_, _, _, _, _]) hG dX5_addPerson_9 rfl rfl ?_
  refine r_aload (pc := 11) hG dX5_addPerson_11 rfl ?_
  refine r_iload_n (pc := 13) hG dX5_addPerson_13 rfl ?_
  refine pf_X2_kind (pc := 14) hs (bd_lt hx) hG dX5_addPerson_14 tw_136 ?_
  refine r_aload (pc := 17) hG dX5_addPerson_17 rfl ?_
  refine r_iload_n (pc := 19) hG dX5_addPerson_19 rfl ?_
  refine pf_X2_a (pc := 20) hs (bd_lt hx) hG dX5_addPerson_20 tw_139 ?_
  refine r_aload (pc := 23) hG dX5_addPerson_23 rfl ?_
  refine r_iload_n (pc := 25) hG dX5_addPerson_25 rfl ?_
  refine pf_X2_at (pc := 26) hs (bd_lt hx) hG dX5_addPerson_26 tw_142 ?_
  refine r_aload (pc := 29) hG dX5_addPerson_29 rfl ?_
  refine cv_X2_drop (pc := 31) hs (bd_lt hx) hG dX5_addPerson_31 tw_502 (c_X2_drop hs (bd_lt hx)) (by decide) (Nat.le_of_ble_eq_true rfl) ?_
  refine r_aload_n (pc := 34) hG dX5_addPerson_34 rfl ?_
  refine r_dup (pc := 35) hG dX5_addPerson_35 rfl ?_
  refine gf_X5_personCount (pc := 36) hs hG dX5_addPerson_36 tw_173 ?_
  refine r_iconst (pc := 39) hG dX5_addPerson_39 ic_1 ?_
  refine r_iadd (pc := 40) hG dX5_addPerson_40 ?_
  refine pf_X5_personCount (pc := 41) hs hG dX5_addPerson_41 tw_173 ?_
  refine r_aload_n (pc := 44) hG dX5_addPerson_44 rfl ?_
  refine gf_X5_personCount (pc := 45) hs hG dX5_addPerson_45 tw_173 ?_
  refine r_iconst (pc := 48) hG dX5_addPerson_48 ic_1 ?_
  refine r_isub (pc := 49) hG dX5_addPerson_49 ?_
  exact hret _ _ _ _ dX5_addPerson_50 (pair_fst (show sp_X5_addPerson M s a0 a1 a2 = (((u1 (sp_X2_drop (u1 (u1 (u1 M s 9 (tn (M.1 s 1 0)) a0) s 10 (tn (M.1 s 1 0)) a1) s 11 (tn (M.1 s 1 0)) a2) s (tn (M.1 s 1 0))) s 1 0 (((sp_X2_drop (u1 (u1 (u1 M s 9 (tn (M.1 s 1 0)) a0) s 10 (tn (M.1 s 1 0)) a1) s 11 (tn (M.1 s 1 0)) a2) s (tn (M.1 s 1 0))).1 s 1 0) + 1)).1 s 1 0) - 1, u1 (sp_X2_drop (u1 (u1 (u1 M s 9 (tn (M.1 s 1 0)) a0) s 10 (tn (M.1 s 1 0)) a1) s 11 (tn (M.1 s 1 0)) a2) s (tn (M.1 s 1 0))) s 1 0 (((sp_X2_drop (u1 (u1 (u1 M s 9 (tn (M.1 s 1 0)) a0) s 10 (tn (M.1 s 1 0)) a1) s 11 (tn (M.1 s 1 0)) a2) s (tn (M.1 s 1 0))).1 s 1 0) + 1)) from (by unfold sp_X5_addPerson; exact rfl))) (pair_snd (show sp_X5_addPerson M s a0 a1 a2 = (((u1 (sp_X2_drop (u1 (u1 (u1 M s 9 (tn (M.1 s 1 0)) a0) s 10 (tn (M.1 s 1 0)) a1) s 11 (tn (M.1 s 1 0)) a2) s (tn (M.1 s 1 0))) s 1 0 (((sp_X2_drop (u1 (u1 (u1 M s 9 (tn (M.1 s 1 0)) a0) s 10 (tn (M.1 s 1 0)) a1) s 11 (tn (M.1 s 1 0)) a2) s (tn (M.1 s 1 0))).1 s 1 0) + 1)).1 s 1 0) - 1, u1 (sp_X2_drop (u1 (u1 (u1 M s 9 (tn (M.1 s 1 0)) a0) s 10 (tn (M.1 s 1 0)) a1) s 11 (tn (M.1 s 1 0)) a2) s (tn (M.1 s 1 0))) s 1 0 (((sp_X2_drop (u1 (u1 (u1 M s 9 (tn (M.1 s 1 0)) a0) s 10 (tn (M.1 s 1 0)) a1) s 11 (tn (M.1 s 1 0)) a2) s (tn (M.1 s 1 0))).1 s 1 0) + 1)) from (by unfold sp_X5_addPerson; exact rfl)))

def sp_X5_landing (M : MT) (s : Nat) (a0 : Int32) (a1 : Int32) (a2 : Int32) : Int32 :=
  if a2 = 1 then
    if (sp_X5_hasCell M s ((((M.1 s 6 (tn a0)) + (M.1 s 3 0)) - 5) + ((a1 * (M.1 s 7 (tn a0))) / 3))) = true then
      (((M.1 s 6 (tn a0)) + (M.1 s 3 0)) - 5) + ((a1 * (M.1 s 7 (tn a0))) / 3)
    else
      (-1)
  else
    if a2 = 2 then
      if (sp_X5_hasCell M s ((((M.1 s 6 (tn a0)) + (M.1 s 3 0)) - 5) - ((a1 * (M.1 s 7 (tn a0))) / 3))) = true then
        (((M.1 s 6 (tn a0)) + (M.1 s 3 0)) - 5) - ((a1 * (M.1 s 7 (tn a0))) / 3)
      else
        (-1)
    else
      if (sp_X5_hasCell M s (((M.1 s 6 (tn a0)) + (M.1 s 3 0)) - 5)) = true then
        ((M.1 s 6 (tn a0)) + (M.1 s 3 0)) - 5
      else
        (-1)
set_option maxRecDepth 20000 in
theorem c_X5_landing {K : KT} {M : MT} {s : Nat} {a0 : Int32} {a1 : Int32} {a2 : Int32} (hs : s < 5) (ha0b : bd (a0) 8) : CM K 3 yX5_landing cX5_landing 7 (some FieldType.int) [rf K (iS s), .int a0, .int a1, .int a2] M (some (.int (sp_X5_landing M s a0 a1 a2))) M := by
  refine CM.ofI (by decide) [some (rf K (iS s)), some (.int a0), some (.int a1), some (.int a2), none, none, none] rfl (Nat.le_of_ble_eq_true rfl) (Nat.le_of_ble_eq_true rfl) (fun G hG _ hret => ?_)
  refine r_aload_n (pc := 0) hG dX5_landing_0 rfl ?_
  refine gf_X5_windows (pc := 1) hs hG dX5_landing_1 tw_162 ?_
  refine r_iload_n (pc := 4) hG dX5_landing_4 rfl ?_
  refine aa_WA (pc := 5) hs hG dX5_landing_5 (ix_bd ha0b) ?_
  refine r_astore (pc := 6) (ls' := [_, _, _, _, _, _, _]) hG dX5_landing_6 rfl rfl ?_
  refine r_iload_n (pc := 8) hG dX5_landing_8 rfl ?_
  refine r_aload (pc := 9) hG dX5_landing_9 rfl ?_
  refine gf_X7_floor (pc := 11) hs (bd_lt ha0b) hG dX5_landing_11 tw_117 ?_
  refine r_imul (pc := 14) hG dX5_landing_14 ?_
  refine r_iconst (pc := 15) hG dX5_landing_15 ic_3 ?_
  refine r_idiv (pc := 16) hG dX5_landing_16 (by decide) ?_
  refine r_istore (pc := 17) (ls' := [_, _, _, _, _, _, _]) hG dX5_landing_17 rfl rfl ?_
  refine r_aload (pc := 19) hG dX5_landing_19 rfl ?_
  refine gf_X7_cell (pc := 21) hs (bd_lt ha0b) hG dX5_landing_21 tw_114 ?_
  refine r_aload_n (pc := 24) hG dX5_landing_24 rfl ?_
  refine gf_X5_wind (pc := 25) hs hG dX5_landing_25 tw_181 ?_
  refine r_iadd (pc := 28) hG dX5_landing_28 ?_
  refine r_iconst (pc := 29) hG dX5_landing_29 ic_5 ?_
  refine r_isub (pc := 30) hG dX5_landing_30 ?_
  refine r_istore (pc := 31) (ls' := [_, _, _, _, _, _, _]) hG dX5_landing_31 rfl rfl ?_
  refine r_iload_n (pc := 33) hG dX5_landing_33 rfl ?_
  refine r_iconst (pc := 34) hG dX5_landing_34 ic_1 ?_
  refine r_icmp_ne (pc := 35) (tgt := 48) hG dX5_landing_35 (by decide) (fun c1 => ?_) (fun c1 => ?_)
  · refine r_iload_n (pc := 48) hG dX5_landing_48 rfl ?_
    refine r_iconst (pc := 49) hG dX5_landing_49 ic_2 ?_
    refine r_icmp_ne (pc := 50) (tgt := 60) hG dX5_landing_50 (by decide) (fun c2 => ?_) (fun c2 => ?_)
    · refine r_aload_n (pc := 60) hG dX5_landing_60 rfl ?_
      refine r_iload (pc := 61) hG dX5_landing_61 rfl ?_
      refine cv_X5_hasCell (pc := 63) hs hG dX5_landing_63 tw_685 (c_X5_hasCell hs) (by decide) (Nat.le_of_ble_eq_true rfl) ?_
      refine r_ifz_eq (pc := 66) (tgt := 74) hG dX5_landing_66 (by decide) (fun c3 => ?_) (fun c3 => ?_)
      · refine r_iconst (pc := 74) hG dX5_landing_74 ic_m1 ?_
        exact hret _ _ _ _ dX5_landing_75 (Eq.symm (by unfold sp_X5_landing; exact ((if_neg c1).trans ((if_neg c2).trans (if_neg c3))))) rfl
      · refine r_iload (pc := 69) hG dX5_landing_69 rfl ?_
        refine r_goto (pc := 71) (tgt := 75) hG dX5_landing_71 (by decide) ?_
        exact hret _ _ _ _ dX5_landing_75 (Eq.symm (by unfold sp_X5_landing; exact ((if_neg c1).trans ((if_neg c2).trans (if_pos c3))))) rfl
    · refine r_iload (pc := 53) hG dX5_landing_53 rfl ?_
      refine r_iload (pc := 55) hG dX5_landing_55 rfl ?_
      refine r_isub (pc := 57) hG dX5_landing_57 ?_
      refine r_istore (pc := 58) (ls' := [_, _, _, _, _, _, _]) hG dX5_landing_58 rfl rfl ?_
      refine r_aload_n (pc := 60) hG dX5_landing_60 rfl ?_
      refine r_iload (pc := 61) hG dX5_landing_61 rfl ?_
      refine cv_X5_hasCell (pc := 63) hs hG dX5_landing_63 tw_685 (c_X5_hasCell hs) (by decide) (Nat.le_of_ble_eq_true rfl) ?_
      refine r_ifz_eq (pc := 66) (tgt := 74) hG dX5_landing_66 (by decide) (fun c4 => ?_) (fun c4 => ?_)
      · refine r_iconst (pc := 74) hG dX5_landing_74 ic_m1 ?_
        exact hret _ _ _ _ dX5_landing_75 (Eq.symm (by unfold sp_X5_landing; exact ((if_neg c1).trans ((if_pos c2).trans (if_neg c4))))) rfl
      · refine r_iload (pc := 69) hG dX5_landing_69 rfl ?_
        refine r_goto (pc := 71) (tgt := 75) hG dX5_landing_71 (by decide) ?_
        exact hret _ _ _ _ dX5_landing_75 (Eq.symm (by unfold sp_X5_landing; exact ((if_neg c1).trans ((if_pos c2).trans (if_pos c4))))) rfl
  · refine r_iload (pc := 38) hG dX5_landing_38 rfl ?_
    refine r_iload (pc := 40) hG dX5_landing_40 rfl ?_
    refine r_iadd (pc := 42) hG dX5_landing_42 ?_
    refine r_istore (pc := 43) (ls' := [_, _, _, _, _, _, _]) hG dX5_landing_43 rfl rfl ?_
    refine r_goto (pc := 45) (tgt := 60) hG dX5_landing_45 (by decide) ?_
    refine r_aload_n (pc := 60) hG dX5_landing_60 rfl ?_
    refine r_iload (pc := 61) hG dX5_landing_61 rfl ?_
    refine cv_X5_hasCell (pc := 63) hs hG dX5_landing_63 tw_685 (c_X5_hasCell hs) (by decide) (Nat.le_of_ble_eq_true rfl) ?_
    refine r_ifz_eq (pc := 66) (tgt := 74) hG dX5_landing_66 (by decide) (fun c5 => ?_) (fun c5 => ?_)
    · refine r_iconst (pc := 74) hG dX5_landing_74 ic_m1 ?_
      exact hret _ _ _ _ dX5_landing_75 (Eq.symm (by unfold sp_X5_landing; exact ((if_pos c1).trans (if_neg c5)))) rfl
    · refine r_iload (pc := 69) hG dX5_landing_69 rfl ?_
      refine r_goto (pc := 71) (tgt := 75) hG dX5_landing_71 (by decide) ?_
      exact hret _ _ _ _ dX5_landing_75 (Eq.symm (by unfold sp_X5_landing; exact ((if_pos c1).trans (if_pos c5)))) rfl

def st_X5_catcherBut_15 (M : MT) (s : Nat) (a0 : Int32) (a1 : Int32) (i : Nat) (b15 : Int32) : Int32 :=
  if (nI i) = a0 then
    b15
  else
    if (M.1 s 12 i) = (-1) then
      if (sp_X2_reaches M s i a1) = true then
        if b15 = (-1) then
          nI i
        else
          if (sp_X2_isAheadOf M s i s (tn b15) a1) = true then
            nI i
          else
            b15
      else
        b15
    else
      b15
def sp_X5_catcherBut (M : MT) (s : Nat) (a0 : Int32) (a1 : Int32) : Int32 :=
  if (sp_X5_hasCell M s a1) = true then
    itN (tn (M.1 s 1 0)) (st_X5_catcherBut_15 M s a0 a1) (-1)
  else
    (-1)
set_option maxRecDepth 20000 in
theorem c_X5_catcherBut {K : KT} {M : MT} {s : Nat} {a0 : Int32} {a1 : Int32} (hs : s < 5) (hoks : OKs M s) : CM K 3 yX5_catcherBut cX5_catcherBut 6 (some FieldType.int) [rf K (iS s), .int a0, .int a1] M (some (.int (sp_X5_catcherBut M s a0 a1))) M := by
  refine CM.ofI (by decide) [some (rf K (iS s)), some (.int a0), some (.int a1), none, none, none] rfl (Nat.le_of_ble_eq_true rfl) (Nat.le_of_ble_eq_true rfl) (fun G hG _ hret => ?_)
  obtain ⟨hwcs, hpcs, ⟨hcls, hcms⟩, hwis, hdas, hles, hk8s, ha8s, hWs, hPs⟩ := id hoks
  have hwls := bd_lt hwcs
  have hpls := bd_lt hpcs
  have hclsl := bd_lt hcls
  refine r_iconst (pc := 0) hG dX5_catcherBut_0 ic_m1 ?_
  refine r_istore_n (pc := 1) (ls' := [_, _, _, _, _, _]) hG dX5_catcherBut_1 rfl rfl ?_
  refine r_aload_n (pc := 2) hG dX5_catcherBut_2 rfl ?_
  refine r_iload_n (pc := 3) hG dX5_catcherBut_3 rfl ?_
  refine cv_X5_hasCell (pc := 4) hs hG dX5_catcherBut_4 tw_685 (c_X5_hasCell hs) (by decide) (Nat.le_of_ble_eq_true rfl) ?_
  refine r_ifz_ne (pc := 7) (tgt := 12) hG dX5_catcherBut_7 (by decide) (fun c1 => ?_) (fun c1 => ?_)
  · refine r_iconst (pc := 12) hG dX5_catcherBut_12 ic_0 ?_
    refine r_istore (pc := 13) (ls' := [_, _, _, _, _, _]) hG dX5_catcherBut_13 rfl rfl ?_
    have hb15 : bd (M.1 s 1 0) 9 := hpcs
    have hb15l := bd_lt hb15
    have lp15 : ∀ i, i ≤ (tn (M.1 s 1 0)) → ∀ b15 : Int32, b15 = itN i (st_X5_catcherBut_15 M s a0 a1) (-1) → J G K M 15 [some (rf K (iS s)), some (.int a0), some (.int a1), some (.int b15), some (.int (nI i)), none] [] := by
      refine up_ind (tn (M.1 s 1 0)) (fun i hi15 ih15 => ?_)
      intro b15 hg15
      have hv15 : b15 = -1 ∨ bd (b15) 8 := by subst hg15; exact itN_inv (fun x => x = -1 ∨ bd x 8) i (Or.inl rfl) (fun k b hk hb => by unfold st_X5_catcherBut_15; (repeat' split) <;> first | exact hb | exact Or.inr (bd_nI (by omega) (Nat.le_of_ble_eq_true rfl)))
      refine r_iload (pc := 15) hG dX5_catcherBut_15 rfl ?_
      refine r_aload_n (pc := 17) hG dX5_catcherBut_17 rfl ?_
      refine gf_X5_personCount (pc := 18) hs hG dX5_catcherBut_18 tw_173 ?_
      refine r_icmp_ge (pc := 21) (tgt := 86) hG dX5_catcherBut_21 (by decide) (fun c2 => ?_) (fun c2 => ?_)
      · have e15 : i = (tn (M.1 s 1 0)) := by have := (bd_le hb15 (by omega)).mp c2; omega
        subst hg15
        subst e15
        refine r_iload_n (pc := 86) hG dX5_catcherBut_86 rfl ?_
        exact hret _ _ _ _ dX5_catcherBut_87 (Eq.symm (by unfold sp_X5_catcherBut; exact (if_pos c1))) rfl
      · have hl15 : i < (tn (M.1 s 1 0)) := by have := mt (bd_le hb15 (by omega)).mpr c2; omega
        refine r_aload_n (pc := 24) hG dX5_catcherBut_24 rfl ?_
        refine gf_X5_people (pc := 25) hs hG dX5_catcherBut_25 tw_164 ?_
        refine r_iload (pc := 28) hG dX5_catcherBut_28 rfl ?_
        refine aa_PA (pc := 30) hs hG dX5_catcherBut_30 (ix_nI (by omega) (Nat.le_of_ble_eq_true rfl)) ?_
        refine r_astore (pc := 31) (ls' := [_, _, _, _, _, _]) hG dX5_catcherBut_31 rfl rfl ?_
        refine r_iload (pc := 33) hG dX5_catcherBut_33 rfl ?_
        refine r_iload_n (pc := 35) hG dX5_catcherBut_35 rfl ?_
        refine r_icmp_eq (pc := 36) (tgt := 80) hG dX5_catcherBut_36 (by decide) (fun c3 => ?_) (fun c3 => ?_)
        · refine r_iinc (pc := 80) (v := nI (i + 1)) (ls' := [_, _, _, _, _, _]) hG dX5_catcherBut_80 rfl (nI_1 _) rfl rfl ?_
          refine r_goto (pc := 83) (tgt := 15) hG dX5_catcherBut_83 (by decide) ?_
          have eN15 : b15 = st_X5_catcherBut_15 M s a0 a1 i (itN i (st_X5_catcherBut_15 M s a0 a1) (-1)) := by rw [← hg15]; unfold st_X5_catcherBut_15; exact Eq.symm (if_pos c3)
          refine J.wk (ls' := [some (rf K (iS s)), some (.int a0), some (.int a1), some (.int b15), some (.int (nI (i + 1))), none]) ?_ (Eq.refl 6) (wk_s rfl (wk_s rfl (wk_s rfl (wk_s rfl (wk_s rfl (wk_n wk_0))))))
          exact ih15 hl15 b15 eN15
        · refine r_aload (pc := 39) hG dX5_catcherBut_39 rfl ?_
          refine gf_X2_rose (pc := 41) hs (by omega) hG dX5_catcherBut_41 tw_146 ?_
          refine r_iconst (pc := 44) hG dX5_catcherBut_44 ic_m1 ?_
          refine r_icmp_ne (pc := 45) (tgt := 80) hG dX5_catcherBut_45 (by decide) (fun c4 => ?_) (fun c4 => ?_)
          · refine r_iinc (pc := 80) (v := nI (i + 1)) (ls' := [_, _, _, _, _, _]) hG dX5_catcherBut_80 rfl (nI_1 _) rfl rfl ?_
            refine r_goto (pc := 83) (tgt := 15) hG dX5_catcherBut_83 (by decide) ?_
            have eN15 : b15 = st_X5_catcherBut_15 M s a0 a1 i (itN i (st_X5_catcherBut_15 M s a0 a1) (-1)) := by rw [← hg15]; unfold st_X5_catcherBut_15; exact Eq.symm ((if_neg c3).trans (if_neg c4))
            refine J.wk (ls' := [some (rf K (iS s)), some (.int a0), some (.int a1), some (.int b15), some (.int (nI (i + 1))), none]) ?_ (Eq.refl 6) (wk_s rfl (wk_s rfl (wk_s rfl (wk_s rfl (wk_s rfl (wk_n wk_0))))))
            exact ih15 hl15 b15 eN15
          · refine r_aload (pc := 48) hG dX5_catcherBut_48 rfl ?_
            refine r_iload_n (pc := 50) hG dX5_catcherBut_50 rfl ?_
            refine cv_X2_reaches (pc := 51) hs (by omega) hG dX5_catcherBut_51 tw_699 (c_X2_reaches hs (by omega) (hk8s _ (by omega))) (by decide) (Nat.le_of_ble_eq_true rfl) ?_
            refine r_ifz_eq (pc := 54) (tgt := 80) hG dX5_catcherBut_54 (by decide) (fun c5 => ?_) (fun c5 => ?_)
            · refine r_iinc (pc := 80) (v := nI (i + 1)) (ls' := [_, _, _, _, _, _]) hG dX5_catcherBut_80 rfl (nI_1 _) rfl rfl ?_
              refine r_goto (pc := 83) (tgt := 15) hG dX5_catcherBut_83 (by decide) ?_
              have eN15 : b15 = st_X5_catcherBut_15 M s a0 a1 i (itN i (st_X5_catcherBut_15 M s a0 a1) (-1)) := by rw [← hg15]; unfold st_X5_catcherBut_15; exact Eq.symm ((if_neg c3).trans ((if_pos c4).trans (if_neg c5)))
              refine J.wk (ls' := [some (rf K (iS s)), some (.int a0), some (.int a1), some (.int b15), some (.int (nI (i + 1))), none]) ?_ (Eq.refl 6) (wk_s rfl (wk_s rfl (wk_s rfl (wk_s rfl (wk_s rfl (wk_n wk_0))))))
              exact ih15 hl15 b15 eN15
            · refine r_iload_n (pc := 57) hG dX5_catcherBut_57 rfl ?_
              refine r_iconst (pc := 58) hG dX5_catcherBut_58 ic_m1 ?_
              refine r_icmp_eq (pc := 59) (tgt := 77) hG dX5_catcherBut_59 (by decide) (fun c6 => ?_) (fun c6 => ?_)
              · refine r_iload (pc := 77) hG dX5_catcherBut_77 rfl ?_
                refine r_istore_n (pc := 79) (ls' := [_, _, _, _, _, _]) hG dX5_catcherBut_79 rfl rfl ?_
                refine r_iinc (pc := 80) (v := nI (i + 1)) (ls' := [_, _, _, _, _, _]) hG dX5_catcherBut_80 rfl (nI_1 _) rfl rfl ?_
                refine r_goto (pc := 83) (tgt := 15) hG dX5_catcherBut_83 (by decide) ?_
                have eN15 : nI i = st_X5_catcherBut_15 M s a0 a1 i (itN i (st_X5_catcherBut_15 M s a0 a1) (-1)) := by rw [← hg15]; unfold st_X5_catcherBut_15; exact Eq.symm ((if_neg c3).trans ((if_pos c4).trans ((if_pos c5).trans (if_pos c6))))
                refine J.wk (ls' := [some (rf K (iS s)), some (.int a0), some (.int a1), some (.int (nI i)), some (.int (nI (i + 1))), none]) ?_ (Eq.refl 6) (wk_s rfl (wk_s rfl (wk_s rfl (wk_s rfl (wk_s rfl (wk_n wk_0))))))
                exact ih15 hl15 (nI i) eN15
              · refine r_aload (pc := 62) hG dX5_catcherBut_62 rfl ?_
                refine r_aload_n (pc := 64) hG dX5_catcherBut_64 rfl ?_
                refine gf_X5_people (pc := 65) hs hG dX5_catcherBut_65 tw_164 ?_
                refine r_iload_n (pc := 68) hG dX5_catcherBut_68 rfl ?_
                refine aa_PA (pc := 69) hs hG dX5_catcherBut_69 (ix_bd (Or.resolve_left hv15 c6)) ?_
                refine r_iload_n (pc := 70) hG dX5_catcherBut_70 rfl ?_
                refine cv_X2_isAheadOf (pc := 71) hs (by omega) hG dX5_catcherBut_71 tw_707 (c_X2_isAheadOf hs (by omega) hs (bd_lt (Or.resolve_left hv15 c6))) (by decide) (Nat.le_of_ble_eq_true rfl) ?_
                refine r_ifz_eq (pc := 74) (tgt := 80) hG dX5_catcherBut_74 (by decide) (fun c7 => ?_) (fun c7 => ?_)
                · refine r_iinc (pc := 80) (v := nI (i + 1)) (ls' := [_, _, _, _, _, _]) hG dX5_catcherBut_80 rfl (nI_1 _) rfl rfl ?_
                  refine r_goto (pc := 83) (tgt := 15) hG dX5_catcherBut_83 (by decide) ?_
                  have eN15 : b15 = st_X5_catcherBut_15 M s a0 a1 i (itN i (st_X5_catcherBut_15 M s a0 a1) (-1)) := by rw [← hg15]; unfold st_X5_catcherBut_15; exact Eq.symm ((if_neg c3).trans ((if_pos c4).trans ((if_pos c5).trans ((if_neg c6).trans (if_neg c7)))))
                  refine J.wk (ls' := [some (rf K (iS s)), some (.int a0), some (.int a1), some (.int b15), some (.int (nI (i + 1))), none]) ?_ (Eq.refl 6) (wk_s rfl (wk_s rfl (wk_s rfl (wk_s rfl (wk_s rfl (wk_n wk_0))))))
                  exact ih15 hl15 b15 eN15
                · refine r_iload (pc := 77) hG dX5_catcherBut_77 rfl ?_
                  refine r_istore_n (pc := 79) (ls' := [_, _, _, _, _, _]) hG dX5_catcherBut_79 rfl rfl ?_
                  refine r_iinc (pc := 80) (v := nI (i + 1)) (ls' := [_, _, _, _, _, _]) hG dX5_catcherBut_80 rfl (nI_1 _) rfl rfl ?_
                  refine r_goto (pc := 83) (tgt := 15) hG dX5_catcherBut_83 (by decide) ?_
                  have eN15 : nI i = st_X5_catcherBut_15 M s a0 a1 i (itN i (st_X5_catcherBut_15 M s a0 a1) (-1)) := by rw [← hg15]; unfold st_X5_catcherBut_15; exact Eq.symm ((if_neg c3).trans ((if_pos c4).trans ((if_pos c5).trans ((if_neg c6).trans (if_pos c7)))))
                  refine J.wk (ls' := [some (rf K (iS s)), some (.int a0), some (.int a1), some (.int (nI i)), some (.int (nI (i + 1))), none]) ?_ (Eq.refl 6) (wk_s rfl (wk_s rfl (wk_s rfl (wk_s rfl (wk_s rfl (wk_n wk_0))))))
                  exact ih15 hl15 (nI i) eN15
    exact (lp15 0 (Nat.zero_le _) _ rfl).wk (Eq.refl 6) (wk_s rfl (wk_s rfl (wk_s rfl (wk_s rfl (wk_s rfl (wk_n wk_0))))))
  · refine r_iconst (pc := 10) hG dX5_catcherBut_10 ic_m1 ?_
    exact hret _ _ _ _ dX5_catcherBut_11 (Eq.symm (by unfold sp_X5_catcherBut; exact (if_neg c1))) rfl

def sp_X5_catcherOf (M : MT) (s : Nat) (a0 : Int32) (a1 : Int32) (a2 : Int32) : Int32 :=
  sp_X5_catcherBut M s (-1) (sp_X5_landing M s a0 a1 a2)
set_option maxRecDepth 20000 in
theorem c_X5_catcherOf {K : KT} {M : MT} {s : Nat} {a0 : Int32} {a1 : Int32} {a2 : Int32} (hs : s < 5) (ha0b : bd (a0) 8) (hoks : OKs M s) : CM K 4 yX5_catcherOf cX5_catcherOf 4 (some FieldType.int) [rf K (iS s), .int a0, .int a1, .int a2] M (some (.int (sp_X5_catcherOf M s a0 a1 a2))) M := by
  refine CM.ofI (by decide) [some (rf K (iS s)), some (.int a0), some (.int a1), some (.int a2)] rfl (Nat.le_of_ble_eq_true rfl) (Nat.le_of_ble_eq_true rfl) (fun G hG _ hret => ?_)
  obtain ⟨hwcs, hpcs, ⟨hcls, hcms⟩, hwis, hdas, hles, hk8s, ha8s, hWs, hPs⟩ := id hoks
  have hwls := bd_lt hwcs
  have hpls := bd_lt hpcs
  have hclsl := bd_lt hcls
  refine r_aload_n (pc := 0) hG dX5_catcherOf_0 rfl ?_
  refine r_iconst (pc := 1) hG dX5_catcherOf_1 ic_m1 ?_
  refine r_aload_n (pc := 2) hG dX5_catcherOf_2 rfl ?_
  refine r_iload_n (pc := 3) hG dX5_catcherOf_3 rfl ?_
  refine r_iload_n (pc := 4) hG dX5_catcherOf_4 rfl ?_
  refine r_iload_n (pc := 5) hG dX5_catcherOf_5 rfl ?_
  refine cv_X5_landing (pc := 6) hs hG dX5_catcherOf_6 tw_694 (c_X5_landing hs ha0b) (by decide) (Nat.le_of_ble_eq_true rfl) ?_
  refine cv_X5_catcherBut (pc := 9) hs hG dX5_catcherOf_9 tw_695 (c_X5_catcherBut hs hoks) (by decide) (Nat.le_of_ble_eq_true rfl) ?_
  exact hret _ _ _ _ dX5_catcherOf_12 (Eq.symm (by unfold sp_X5_catcherOf; exact rfl)) rfl

def sp_X5_slowOf (M : MT) (s : Nat) (a0 : Int32) (a1 : Int32) : Int32 :=
  sp_X8_slowness (M.1 s 9 (tn a0)) (M.1 s 10 (tn a0)) (M.1 s 7 (tn a1))
set_option maxRecDepth 20000 in
theorem c_X5_slowOf {K : KT} {M : MT} {s : Nat} {a0 : Int32} {a1 : Int32} (hs : s < 5) (ha0b : bd (a0) 8) (ha1b : bd (a1) 8) : CM K 2 yX5_slowOf cX5_slowOf 3 (some FieldType.int) [rf K (iS s), .int a0, .int a1] M (some (.int (sp_X5_slowOf M s a0 a1))) M := by
  refine CM.ofI (by decide) [some (rf K (iS s)), some (.int a0), some (.int a1)] rfl (Nat.le_of_ble_eq_true rfl) (Nat.le_of_ble_eq_true rfl) (fun G hG _ hret => ?_)
  refine r_aload_n (pc := 0) hG dX5_slowOf_0 rfl ?_
  refine gf_X5_people (pc := 1) hs hG dX5_slowOf_1 tw_164 ?_
  refine r_iload_n (pc := 4) hG dX5_slowOf_4 rfl ?_
  refine aa_PA (pc := 5) hs hG dX5_slowOf_5 (ix_bd ha0b) ?_
  refine gf_X2_kind (pc := 6) hs (bd_lt ha0b) hG dX5_slowOf_6 tw_136 ?_
  refine r_aload_n (pc := 9) hG dX5_slowOf_9 rfl ?_
  refine gf_X5_people (pc := 10) hs hG dX5_slowOf_10 tw_164 ?_
  refine r_iload_n (pc := 13) hG dX5_slowOf_13 rfl ?_
  refine aa_PA (pc := 14) hs hG dX5_slowOf_14 (ix_bd ha0b) ?_
  refine gf_X2_a (pc := 15) hs (bd_lt ha0b) hG dX5_slowOf_15 tw_139 ?_
  refine r_aload_n (pc := 18) hG dX5_slowOf_18 rfl ?_
  refine gf_X5_windows (pc := 19) hs hG dX5_slowOf_19 tw_162 ?_
  refine r_iload_n (pc := 22) hG dX5_slowOf_22 rfl ?_
  refine aa_WA (pc := 23) hs hG dX5_slowOf_23 (ix_bd ha1b) ?_
  refine gf_X7_floor (pc := 24) hs (bd_lt ha1b) hG dX5_slowOf_24 tw_117 ?_
  refine cs_X8_slowness_n (pc := 27)  hG dX5_slowOf_27 nw_RX5_104 (c_X8_slowness) (by decide) (Nat.le_of_ble_eq_true rfl) ?_
  exact hret _ _ _ _ dX5_slowOf_30 (Eq.symm (by unfold sp_X5_slowOf; exact rfl)) rfl

def sp_X5_dayBack (M : MT) (s : Nat) (a0 : Int32) (a1 : Int32) : Int32 :=
  if (sp_X2_isHorse M s (tn a0)) = true then
    if (M.1 s 7 (tn a1)) = 1 then
      if 999 < ((M.1 s 3 1) + (sp_X5_slowOf M s a0 a1)) then
        (-1)
      else
        (M.1 s 3 1) + (sp_X5_slowOf M s a0 a1)
    else
      (-1)
  else
    if 999 < ((M.1 s 3 1) + (sp_X5_slowOf M s a0 a1)) then
      (-1)
    else
      (M.1 s 3 1) + (sp_X5_slowOf M s a0 a1)
set_option maxRecDepth 20000 in
theorem c_X5_dayBack {K : KT} {M : MT} {s : Nat} {a0 : Int32} {a1 : Int32} (hs : s < 5) (ha0b : bd (a0) 8) (ha1b : bd (a1) 8) : CM K 3 yX5_dayBack cX5_dayBack 4 (some FieldType.int) [rf K (iS s), .int a0, .int a1] M (some (.int (sp_X5_dayBack M s a0 a1))) M := by
  refine CM.ofI (by decide) [some (rf K (iS s)), some (.int a0), some (.int a1), none] rfl (Nat.le_of_ble_eq_true rfl) (Nat.le_of_ble_eq_true rfl) (fun G hG _ hret => ?_)
  refine r_aload_n (pc := 0) hG dX5_dayBack_0 rfl ?_
  refine gf_X5_people (pc := 1) hs hG dX5_dayBack_1 tw_164 ?_
  refine r_iload_n (pc := 4) hG dX5_dayBack_4 rfl ?_
  refine aa_PA (pc := 5) hs hG dX5_dayBack_5 (ix_bd ha0b) ?_
  refine cv_X2_isHorse (pc := 6) hs (bd_lt ha0b) hG dX5_dayBack_6 tw_740 (c_X2_isHorse hs (bd_lt ha0b)) (by decide) (Nat.le_of_ble_eq_true rfl) ?_
  refine r_ifz_eq (pc := 9) (tgt := 27) hG dX5_dayBack_9 (by decide) (fun c1 => ?_) (fun c1 => ?_)
  · refine r_aload_n (pc := 27) hG dX5_dayBack_27 rfl ?_
    refine gf_X5_day (pc := 28) hs hG dX5_dayBack_28 tw_185 ?_
    refine r_aload_n (pc := 31) hG dX5_dayBack_31 rfl ?_
    refine r_iload_n (pc := 32) hG dX5_dayBack_32 rfl ?_
    refine r_iload_n (pc := 33) hG dX5_dayBack_33 rfl ?_
    refine cv_X5_slowOf (pc := 34) hs hG dX5_dayBack_34 tw_741 (c_X5_slowOf hs ha0b ha1b) (by decide) (Nat.le_of_ble_eq_true rfl) ?_
    refine r_iadd (pc := 37) hG dX5_dayBack_37 ?_
    refine r_istore_n (pc := 38) (ls' := [_, _, _, _]) hG dX5_dayBack_38 rfl rfl ?_
    refine r_iload_n (pc := 39) hG dX5_dayBack_39 rfl ?_
    refine r_sipush (pc := 40) hG dX5_dayBack_40 sc_999 ?_
    refine r_icmp_gt (pc := 43) (tgt := 50) hG dX5_dayBack_43 (by decide) (fun c2 => ?_) (fun c2 => ?_)
    · refine r_iconst (pc := 50) hG dX5_dayBack_50 ic_m1 ?_
      exact hret _ _ _ _ dX5_dayBack_51 (Eq.symm (by unfold sp_X5_dayBack; exact ((if_neg c1).trans (if_pos c2)))) rfl
    · refine r_iload_n (pc := 46) hG dX5_dayBack_46 rfl ?_
      refine r_goto (pc := 47) (tgt := 51) hG dX5_dayBack_47 (by decide) ?_
      exact hret _ _ _ _ dX5_dayBack_51 (Eq.symm (by unfold sp_X5_dayBack; exact ((if_neg c1).trans (if_neg c2)))) rfl
  · refine r_aload_n (pc := 12) hG dX5_dayBack_12 rfl ?_
    refine gf_X5_windows (pc := 13) hs hG dX5_dayBack_13 tw_162 ?_
    refine r_iload_n (pc := 16) hG dX5_dayBack_16 rfl ?_
    refine aa_WA (pc := 17) hs hG dX5_dayBack_17 (ix_bd ha1b) ?_
    refine gf_X7_floor (pc := 18) hs (bd_lt ha1b) hG dX5_dayBack_18 tw_117 ?_
    refine r_iconst (pc := 21) hG dX5_dayBack_21 ic_1 ?_
    refine r_icmp_eq (pc := 22) (tgt := 27) hG dX5_dayBack_22 (by decide) (fun c3 => ?_) (fun c3 => ?_)
    · refine r_aload_n (pc := 27) hG dX5_dayBack_27 rfl ?_
      refine gf_X5_day (pc := 28) hs hG dX5_dayBack_28 tw_185 ?_
      refine r_aload_n (pc := 31) hG dX5_dayBack_31 rfl ?_
      refine r_iload_n (pc := 32) hG dX5_dayBack_32 rfl ?_
      refine r_iload_n (pc := 33) hG dX5_dayBack_33 rfl ?_
      refine cv_X5_slowOf (pc := 34) hs hG dX5_dayBack_34 tw_741 (c_X5_slowOf hs ha0b ha1b) (by decide) (Nat.le_of_ble_eq_true rfl) ?_
      refine r_iadd (pc := 37) hG dX5_dayBack_37 ?_
      refine r_istore_n (pc := 38) (ls' := [_, _, _, _]) hG dX5_dayBack_38 rfl rfl ?_
      refine r_iload_n (pc := 39) hG dX5_dayBack_39 rfl ?_
      refine r_sipush (pc := 40) hG dX5_dayBack_40 sc_999 ?_
      refine r_icmp_gt (pc := 43) (tgt := 50) hG dX5_dayBack_43 (by decide) (fun c4 => ?_) (fun c4 => ?_)
      · refine r_iconst (pc := 50) hG dX5_dayBack_50 ic_m1 ?_
        exact hret _ _ _ _ dX5_dayBack_51 (Eq.symm (by unfold sp_X5_dayBack; exact ((if_pos c1).trans ((if_pos c3).trans (if_pos c4))))) rfl
      · refine r_iload_n (pc := 46) hG dX5_dayBack_46 rfl ?_
        refine r_goto (pc := 47) (tgt := 51) hG dX5_dayBack_47 (by decide) ?_
        exact hret _ _ _ _ dX5_dayBack_51 (Eq.symm (by unfold sp_X5_dayBack; exact ((if_pos c1).trans ((if_pos c3).trans (if_neg c4))))) rfl
    · refine r_iconst (pc := 25) hG dX5_dayBack_25 ic_m1 ?_
      exact hret _ _ _ _ dX5_dayBack_26 (Eq.symm (by unfold sp_X5_dayBack; exact ((if_pos c1).trans (if_neg c3)))) rfl

def sp_X5_dueDay (M : MT) (s : Nat) (a0 : Int32) (a1 : Int32) : Int32 :=
  if (M.1 s 3 2) < (sp_X5_dayBack M s a0 a1) then
    (-1)
  else
    sp_X5_dayBack M s a0 a1
set_option maxRecDepth 20000 in
theorem c_X5_dueDay {K : KT} {M : MT} {s : Nat} {a0 : Int32} {a1 : Int32} (hs : s < 5) (ha0b : bd (a0) 8) (ha1b : bd (a1) 8) : CM K 4 yX5_dueDay cX5_dueDay 4 (some FieldType.int) [rf K (iS s), .int a0, .int a1] M (some (.int (sp_X5_dueDay M s a0 a1))) M := by
  refine CM.ofI (by decide) [some (rf K (iS s)), some (.int a0), some (.int a1), none] rfl (Nat.le_of_ble_eq_true rfl) (Nat.le_of_ble_eq_true rfl) (fun G hG _ hret => ?_)
  refine r_aload_n (pc := 0) hG dX5_dueDay_0 rfl ?_
  refine r_iload_n (pc := 1) hG dX5_dueDay_1 rfl ?_
  refine r_iload_n (pc := 2) hG dX5_dueDay_2 rfl ?_
  refine cv_X5_dayBack (pc := 3) hs hG dX5_dueDay_3 tw_736 (c_X5_dayBack hs ha0b ha1b) (by decide) (Nat.le_of_ble_eq_true rfl) ?_
  refine r_istore_n (pc := 6) (ls' := [_, _, _, _]) hG dX5_dueDay_6 rfl rfl ?_
  refine r_iload_n (pc := 7) hG dX5_dueDay_7 rfl ?_
  refine r_aload_n (pc := 8) hG dX5_dueDay_8 rfl ?_
  refine gf_X5_lent (pc := 9) hs hG dX5_dueDay_9 tw_188 ?_
  refine r_icmp_gt (pc := 12) (tgt := 19) hG dX5_dueDay_12 (by decide) (fun c1 => ?_) (fun c1 => ?_)
  · refine r_iconst (pc := 19) hG dX5_dueDay_19 ic_m1 ?_
    exact hret _ _ _ _ dX5_dueDay_20 (Eq.symm (by unfold sp_X5_dueDay; exact (if_pos c1))) rfl
  · refine r_iload_n (pc := 15) hG dX5_dueDay_15 rfl ?_
    refine r_goto (pc := 16) (tgt := 20) hG dX5_dueDay_16 (by decide) ?_
    exact hret _ _ _ _ dX5_dueDay_20 (Eq.symm (by unfold sp_X5_dueDay; exact (if_neg c1))) rfl

def st_X5_countThrows_5 (M : MT) (s : Nat) (a0 : Int32) (a1 : Int32) (i : Nat) (b5 : Int32) : Int32 :=
  if (sp_X5_catcherOf M s a1 ((nI i) / 3) (irm (nI i) 3)) = a0 then
    b5 + 1
  else
    b5
def sp_X5_countThrows (M : MT) (s : Nat) (a0 : Int32) (a1 : Int32) : Int32 :=
  itN 30 (st_X5_countThrows_5 M s a0 a1) 0
set_option maxRecDepth 20000 in
theorem c_X5_countThrows {K : KT} {M : MT} {s : Nat} {a0 : Int32} {a1 : Int32} (hs : s < 5) (ha1b : bd (a1) 8) (hoks : OKs M s) : CM K 5 yX5_countThrows cX5_countThrows 5 (some FieldType.int) [rf K (iS s), .int a0, .int a1] M (some (.int (sp_X5_countThrows M s a0 a1))) M := by
  refine CM.ofI (by decide) [some (rf K (iS s)), some (.int a0), some (.int a1), none, none] rfl (Nat.le_of_ble_eq_true rfl) (Nat.le_of_ble_eq_true rfl) (fun G hG _ hret => ?_)
  obtain ⟨hwcs, hpcs, ⟨hcls, hcms⟩, hwis, hdas, hles, hk8s, ha8s, hWs, hPs⟩ := id hoks
  have hwls := bd_lt hwcs
  have hpls := bd_lt hpcs
  have hclsl := bd_lt hcls
  refine r_iconst (pc := 0) hG dX5_countThrows_0 ic_0 ?_
  refine r_istore_n (pc := 1) (ls' := [_, _, _, _, _]) hG dX5_countThrows_1 rfl rfl ?_
  refine r_iconst (pc := 2) hG dX5_countThrows_2 ic_0 ?_
  refine r_istore (pc := 3) (ls' := [_, _, _, _, _]) hG dX5_countThrows_3 rfl rfl ?_
  have lp5 : ∀ i, i ≤ 30 → ∀ b5 : Int32, b5 = itN i (st_X5_countThrows_5 M s a0 a1) 0 → J G K M 5 [some (rf K (iS s)), some (.int a0), some (.int a1), some (.int b5), some (.int (nI i))] [] := by
    refine up_ind 30 (fun i hi5 ih5 => ?_)
    intro b5 hg5
    refine r_iload (pc := 5) hG dX5_countThrows_5 rfl ?_
    refine r_bipush (pc := 7) hG dX5_countThrows_7 bc_30 ?_
    refine r_icmp_ge (pc := 9) (tgt := 38) hG dX5_countThrows_9 (by decide) (fun c1 => ?_) (fun c1 => ?_)
    · have e5 : i = 30 := by have := (le_nI (k := 30) (i := i) (Nat.le_of_ble_eq_true rfl) (by omega)).mp c1; omega
      subst hg5
      subst e5
      refine r_iload_n (pc := 38) hG dX5_countThrows_38 rfl ?_
      exact hret _ _ _ _ dX5_countThrows_39 (Eq.symm (by unfold sp_X5_countThrows; exact rfl)) rfl
    · have hl5 : i < 30 := by have := mt (le_nI (k := 30) (i := i) (Nat.le_of_ble_eq_true rfl) (by omega)).mpr c1; omega
      refine r_aload_n (pc := 12) hG dX5_countThrows_12 rfl ?_
      refine r_iload_n (pc := 13) hG dX5_countThrows_13 rfl ?_
      refine r_iload (pc := 14) hG dX5_countThrows_14 rfl ?_
      refine r_iconst (pc := 16) hG dX5_countThrows_16 ic_3 ?_
      refine r_idiv (pc := 17) hG dX5_countThrows_17 (by decide) ?_
      refine r_iload (pc := 18) hG dX5_countThrows_18 rfl ?_
      refine r_iconst (pc := 20) hG dX5_countThrows_20 ic_3 ?_
      refine r_irem (pc := 21) hG dX5_countThrows_21 (by decide) ?_
      refine cv_X5_catcherOf (pc := 22) hs hG dX5_countThrows_22 tw_750 (c_X5_catcherOf hs ha1b hoks) (by decide) (Nat.le_of_ble_eq_true rfl) ?_
      refine r_iload_n (pc := 25) hG dX5_countThrows_25 rfl ?_
      refine r_icmp_ne (pc := 26) (tgt := 32) hG dX5_countThrows_26 (by decide) (fun c2 => ?_) (fun c2 => ?_)
      · refine r_iinc (pc := 32) (v := nI (i + 1)) (ls' := [_, _, _, _, _]) hG dX5_countThrows_32 rfl (nI_1 _) rfl rfl ?_
        refine r_goto (pc := 35) (tgt := 5) hG dX5_countThrows_35 (by decide) ?_
        have eN5 : b5 = st_X5_countThrows_5 M s a0 a1 i (itN i (st_X5_countThrows_5 M s a0 a1) 0) := by rw [← hg5]; unfold st_X5_countThrows_5; exact Eq.symm (if_neg c2)
        refine J.wk (ls' := [some (rf K (iS s)), some (.int a0), some (.int a1), some (.int b5), some (.int (nI (i + 1)))]) ?_ (Eq.refl 5) (wk_s rfl (wk_s rfl (wk_s rfl (wk_s rfl (wk_s rfl wk_0)))))
        exact ih5 hl5 b5 eN5
      · refine r_iinc (pc := 29) (v := b5 + 1) (ls' := [_, _, _, _, _]) hG dX5_countThrows_29 rfl rfl rfl rfl ?_
        refine r_iinc (pc := 32) (v := nI (i + 1)) (ls' := [_, _, _, _, _]) hG dX5_countThrows_32 rfl (nI_1 _) rfl rfl ?_
        refine r_goto (pc := 35) (tgt := 5) hG dX5_countThrows_35 (by decide) ?_
        have eN5 : b5 + 1 = st_X5_countThrows_5 M s a0 a1 i (itN i (st_X5_countThrows_5 M s a0 a1) 0) := by rw [← hg5]; unfold st_X5_countThrows_5; exact Eq.symm (if_pos c2)
        refine J.wk (ls' := [some (rf K (iS s)), some (.int a0), some (.int a1), some (.int (b5 + 1)), some (.int (nI (i + 1)))]) ?_ (Eq.refl 5) (wk_s rfl (wk_s rfl (wk_s rfl (wk_s rfl (wk_s rfl wk_0)))))
        exact ih5 hl5 (b5 + 1) eN5
  exact (lp5 0 (Nat.zero_le _) _ rfl).wk (Eq.refl 5) (wk_s rfl (wk_s rfl (wk_s rfl (wk_s rfl (wk_s rfl wk_0)))))

def ps_X5_firstThrow_2 (M : MT) (s : Nat) (a0 : Int32) (a1 : Int32) (i : Nat) : Bool :=
  if (sp_X5_catcherOf M s a1 ((nI i) / 3) (irm (nI i) 3)) = a0 then
    true
  else
    false
def sp_X5_firstThrow (M : MT) (s : Nat) (a0 : Int32) (a1 : Int32) : Int32 :=
  fndN (ps_X5_firstThrow_2 M s a0 a1) (fun i => (if (sp_X5_catcherOf M s a1 ((nI i) / 3) (irm (nI i) 3)) = a0 then
  (10 * ((nI i) / 3)) + (irm (nI i) 3)
else
  (-1))) ((-1)) 30 0
set_option maxRecDepth 20000 in
theorem c_X5_firstThrow {K : KT} {M : MT} {s : Nat} {a0 : Int32} {a1 : Int32} (hs : s < 5) (ha1b : bd (a1) 8) (hoks : OKs M s) : CM K 5 yX5_firstThrow cX5_firstThrow 4 (some FieldType.int) [rf K (iS s), .int a0, .int a1] M (some (.int (sp_X5_firstThrow M s a0 a1))) M := by
  refine CM.ofI (by decide) [some (rf K (iS s)), some (.int a0), some (.int a1), none] rfl (Nat.le_of_ble_eq_true rfl) (Nat.le_of_ble_eq_true rfl) (fun G hG _ hret => ?_)
  obtain ⟨hwcs, hpcs, ⟨hcls, hcms⟩, hwis, hdas, hles, hk8s, ha8s, hWs, hPs⟩ := id hoks
  have hwls := bd_lt hwcs
  have hpls := bd_lt hpcs
  have hclsl := bd_lt hcls
  refine r_iconst (pc := 0) hG dX5_firstThrow_0 ic_0 ?_
  refine r_istore_n (pc := 1) (ls' := [_, _, _, _]) hG dX5_firstThrow_1 rfl rfl ?_
  have lp2 : ∀ i, i ≤ 30 → (∀ k, k < i → ps_X5_firstThrow_2 M s a0 a1 k = false) → J G K M 2 [some (rf K (iS s)), some (.int a0), some (.int a1), some (.int (nI i))] [] := by
    refine up_ind 30 (fun i hi2 ih2 => ?_)
    intro hp2
    refine r_iload_n (pc := 2) hG dX5_firstThrow_2 rfl ?_
    refine r_bipush (pc := 3) hG dX5_firstThrow_3 bc_30 ?_
    refine r_icmp_ge (pc := 5) (tgt := 40) hG dX5_firstThrow_5 (by decide) (fun c1 => ?_) (fun c1 => ?_)
    · have e2 : i = 30 := by have := (le_nI (k := 30) (i := i) (Nat.le_of_ble_eq_true rfl) (by omega)).mp c1; omega
      subst e2
      refine r_iconst (pc := 40) hG dX5_firstThrow_40 ic_m1 ?_
      exact hret _ _ _ _ dX5_firstThrow_41 (Eq.symm (by unfold sp_X5_firstThrow; exact (fndN_none 30 0 (fun k _ hk => hp2 k (by omega))))) rfl
    · have hl2 : i < 30 := by have := mt (le_nI (k := 30) (i := i) (Nat.le_of_ble_eq_true rfl) (by omega)).mpr c1; omega
      refine r_aload_n (pc := 8) hG dX5_firstThrow_8 rfl ?_
      refine r_iload_n (pc := 9) hG dX5_firstThrow_9 rfl ?_
      refine r_iload_n (pc := 10) hG dX5_firstThrow_10 rfl ?_
      refine r_iconst (pc := 11) hG dX5_firstThrow_11 ic_3 ?_
      refine r_idiv (pc := 12) hG dX5_firstThrow_12 (by decide) ?_
      refine r_iload_n (pc := 13) hG dX5_firstThrow_13 rfl ?_
      refine r_iconst (pc := 14) hG dX5_firstThrow_14 ic_3 ?_
      refine r_irem (pc := 15) hG dX5_firstThrow_15 (by decide) ?_
      refine cv_X5_catcherOf (pc := 16) hs hG dX5_firstThrow_16 tw_750 (c_X5_catcherOf hs ha1b hoks) (by decide) (Nat.le_of_ble_eq_true rfl) ?_
      refine r_iload_n (pc := 19) hG dX5_firstThrow_19 rfl ?_
      refine r_icmp_ne (pc := 20) (tgt := 34) hG dX5_firstThrow_20 (by decide) (fun c2 => ?_) (fun c2 => ?_)
      · refine r_iinc (pc := 34) (v := nI (i + 1)) (ls' := [_, _, _, _]) hG dX5_firstThrow_34 rfl (nI_1 _) rfl rfl ?_
        refine r_goto (pc := 37) (tgt := 2) hG dX5_firstThrow_37 (by decide) ?_
        exact (ih2 hl2 (fun k hk => (Nat.lt_or_eq_of_le (Nat.le_of_lt_succ hk)).elim (hp2 k) (fun q => by subst q; unfold ps_X5_firstThrow_2; exact (if_neg c2)))).wk (Eq.refl 4) (wk_s rfl (wk_s rfl (wk_s rfl (wk_s rfl wk_0))))
      · refine r_bipush (pc := 23) hG dX5_firstThrow_23 bc_10 ?_
        refine r_iload_n (pc := 25) hG dX5_firstThrow_25 rfl ?_
        refine r_iconst (pc := 26) hG dX5_firstThrow_26 ic_3 ?_
        refine r_idiv (pc := 27) hG dX5_firstThrow_27 (by decide) ?_
        refine r_imul (pc := 28) hG dX5_firstThrow_28 ?_
        refine r_iload_n (pc := 29) hG dX5_firstThrow_29 rfl ?_
        refine r_iconst (pc := 30) hG dX5_firstThrow_30 ic_3 ?_
        refine r_irem (pc := 31) hG dX5_firstThrow_31 (by decide) ?_
        refine r_iadd (pc := 32) hG dX5_firstThrow_32 ?_
        exact hret _ _ _ _ dX5_firstThrow_33 (Eq.symm (by unfold sp_X5_firstThrow; exact ((fndN_hit 30 0 i (Nat.zero_le _) (by omega) (by unfold ps_X5_firstThrow_2; exact (if_pos c2)) (fun k _ hk => hp2 k hk)).trans (if_pos c2)))) rfl
  exact (lp2 0 (Nat.zero_le _) (fun k hk => absurd hk (Nat.not_lt_zero k))).wk (Eq.refl 4) (wk_s rfl (wk_s rfl (wk_s rfl (wk_s rfl wk_0))))

def st_X5_openCells_4 (M : MT) (s : Nat) (a0 : Int32) (i : Nat) (b4 : Int32) : Int32 :=
  if (sp_X5_landing M s a0 ((nI i) / 3) (irm (nI i) 3)) = (-1) then
    b4
  else
    b4 ||| (1 <<< ((sp_X5_landing M s a0 ((nI i) / 3) (irm (nI i) 3)) &&& 31))
def sp_X5_openCells (M : MT) (s : Nat) (a0 : Int32) : Int32 :=
  itN 30 (st_X5_openCells_4 M s a0) 0
set_option maxRecDepth 20000 in
theorem c_X5_openCells {K : KT} {M : MT} {s : Nat} {a0 : Int32} (hs : s < 5) (ha0b : bd (a0) 8) : CM K 4 yX5_openCells cX5_openCells 5 (some FieldType.int) [rf K (iS s), .int a0] M (some (.int (sp_X5_openCells M s a0))) M := by
  refine CM.ofI (by decide) [some (rf K (iS s)), some (.int a0), none, none, none] rfl (Nat.le_of_ble_eq_true rfl) (Nat.le_of_ble_eq_true rfl) (fun G hG _ hret => ?_)
  refine r_iconst (pc := 0) hG dX5_openCells_0 ic_0 ?_
  refine r_istore_n (pc := 1) (ls' := [_, _, _, _, _]) hG dX5_openCells_1 rfl rfl ?_
  refine r_iconst (pc := 2) hG dX5_openCells_2 ic_0 ?_
  refine r_istore_n (pc := 3) (ls' := [_, _, _, _, _]) hG dX5_openCells_3 rfl rfl ?_
  have lp4 : ∀ i, i ≤ 30 → ∀ b4 : Int32, b4 = itN i (st_X5_openCells_4 M s a0) 0 → J G K M 4 [some (rf K (iS s)), some (.int a0), some (.int b4), some (.int (nI i)), none] [] := by
    refine up_ind 30 (fun i hi4 ih4 => ?_)
    intro b4 hg4
    refine r_iload_n (pc := 4) hG dX5_openCells_4 rfl ?_
    refine r_bipush (pc := 5) hG dX5_openCells_5 bc_30 ?_
    refine r_icmp_ge (pc := 7) (tgt := 42) hG dX5_openCells_7 (by decide) (fun c1 => ?_) (fun c1 => ?_)
    · have e4 : i = 30 := by have := (le_nI (k := 30) (i := i) (Nat.le_of_ble_eq_true rfl) (by omega)).mp c1; omega
      subst hg4
      subst e4
      refine r_iload_n (pc := 42) hG dX5_openCells_42 rfl ?_
      exact hret _ _ _ _ dX5_openCells_43 (Eq.symm (by unfold sp_X5_openCells; exact rfl)) rfl
    · have hl4 : i < 30 := by have := mt (le_nI (k := 30) (i := i) (Nat.le_of_ble_eq_true rfl) (by omega)).mpr c1; omega
      refine r_aload_n (pc := 10) hG dX5_openCells_10 rfl ?_
      refine r_iload_n (pc := 11) hG dX5_openCells_11 rfl ?_
      refine r_iload_n (pc := 12) hG dX5_openCells_12 rfl ?_
      refine r_iconst (pc := 13) hG dX5_openCells_13 ic_3 ?_
      refine r_idiv (pc := 14) hG dX5_openCells_14 (by decide) ?_
      refine r_iload_n (pc := 15) hG dX5_openCells_15 rfl ?_
      refine r_iconst (pc := 16) hG dX5_openCells_16 ic_3 ?_
      refine r_irem (pc := 17) hG dX5_openCells_17 (by decide) ?_
      refine cv_X5_landing (pc := 18) hs hG dX5_openCells_18 tw_694 (c_X5_landing hs ha0b) (by decide) (Nat.le_of_ble_eq_true rfl) ?_
      refine r_istore (pc := 21) (ls' := [_, _, _, _, _]) hG dX5_openCells_21 rfl rfl ?_
      refine r_iload (pc := 23) hG dX5_openCells_23 rfl ?_
      refine r_iconst (pc := 25) hG dX5_openCells_25 ic_m1 ?_
      refine r_icmp_eq (pc := 26) (tgt := 36) hG dX5_openCells_26 (by decide) (fun c2 => ?_) (fun c2 => ?_)
      · refine r_iinc (pc := 36) (v := nI (i + 1)) (ls' := [_, _, _, _, _]) hG dX5_openCells_36 rfl (nI_1 _) rfl rfl ?_
        refine r_goto (pc := 39) (tgt := 4) hG dX5_openCells_39 (by decide) ?_
        have eN4 : b4 = st_X5_openCells_4 M s a0 i (itN i (st_X5_openCells_4 M s a0) 0) := by rw [← hg4]; unfold st_X5_openCells_4; exact Eq.symm (if_pos c2)
        refine J.wk (ls' := [some (rf K (iS s)), some (.int a0), some (.int b4), some (.int (nI (i + 1))), none]) ?_ (Eq.refl 5) (wk_s rfl (wk_s rfl (wk_s rfl (wk_s rfl (wk_n wk_0)))))
        exact ih4 hl4 b4 eN4
      · refine r_iload_n (pc := 29) hG dX5_openCells_29 rfl ?_
        refine r_iconst (pc := 30) hG dX5_openCells_30 ic_1 ?_
        refine r_iload (pc := 31) hG dX5_openCells_31 rfl ?_
        refine r_ishl (pc := 33) hG dX5_openCells_33 ?_
        refine r_ior (pc := 34) hG dX5_openCells_34 ?_
        refine r_istore_n (pc := 35) (ls' := [_, _, _, _, _]) hG dX5_openCells_35 rfl rfl ?_
        refine r_iinc (pc := 36) (v := nI (i + 1)) (ls' := [_, _, _, _, _]) hG dX5_openCells_36 rfl (nI_1 _) rfl rfl ?_
        refine r_goto (pc := 39) (tgt := 4) hG dX5_openCells_39 (by decide) ?_
        have eN4 : b4 ||| (1 <<< ((sp_X5_landing M s a0 ((nI i) / 3) (irm (nI i) 3)) &&& 31)) = st_X5_openCells_4 M s a0 i (itN i (st_X5_openCells_4 M s a0) 0) := by rw [← hg4]; unfold st_X5_openCells_4; exact Eq.symm (if_neg c2)
        refine J.wk (ls' := [some (rf K (iS s)), some (.int a0), some (.int (b4 ||| (1 <<< ((sp_X5_landing M s a0 ((nI i) / 3) (irm (nI i) 3)) &&& 31)))), some (.int (nI (i + 1))), none]) ?_ (Eq.refl 5) (wk_s rfl (wk_s rfl (wk_s rfl (wk_s rfl (wk_n wk_0)))))
        exact ih4 hl4 (b4 ||| (1 <<< ((sp_X5_landing M s a0 ((nI i) / 3) (irm (nI i) 3)) &&& 31))) eN4
  exact (lp4 0 (Nat.zero_le _) _ rfl).wk (Eq.refl 5) (wk_s rfl (wk_s rfl (wk_s rfl (wk_s rfl (wk_n wk_0)))))

def st_X5_countLandings_5 (M : MT) (s : Nat) (a0 : Int32) (a1 : Int32) (i : Nat) (b5 : Int32) : Int32 :=
  if (sp_X5_landing M s a0 ((nI i) / 3) (irm (nI i) 3)) = a1 then
    b5 + 1
  else
    b5
def sp_X5_countLandings (M : MT) (s : Nat) (a0 : Int32) (a1 : Int32) : Int32 :=
  itN 30 (st_X5_countLandings_5 M s a0 a1) 0
set_option maxRecDepth 20000 in
theorem c_X5_countLandings {K : KT} {M : MT} {s : Nat} {a0 : Int32} {a1 : Int32} (hs : s < 5) (ha0b : bd (a0) 8) : CM K 4 yX5_countLandings cX5_countLandings 5 (some FieldType.int) [rf K (iS s), .int a0, .int a1] M (some (.int (sp_X5_countLandings M s a0 a1))) M := by
  refine CM.ofI (by decide) [some (rf K (iS s)), some (.int a0), some (.int a1), none, none] rfl (Nat.le_of_ble_eq_true rfl) (Nat.le_of_ble_eq_true rfl) (fun G hG _ hret => ?_)
  refine r_iconst (pc := 0) hG dX5_countLandings_0 ic_0 ?_
  refine r_istore_n (pc := 1) (ls' := [_, _, _, _, _]) hG dX5_countLandings_1 rfl rfl ?_
  refine r_iconst (pc := 2) hG dX5_countLandings_2 ic_0 ?_
  refine r_istore (pc := 3) (ls' := [_, _, _, _, _]) hG dX5_countLandings_3 rfl rfl ?_
  have lp5 : ∀ i, i ≤ 30 → ∀ b5 : Int32, b5 = itN i (st_X5_countLandings_5 M s a0 a1) 0 → J G K M 5 [some (rf K (iS s)), some (.int a0), some (.int a1), some (.int b5), some (.int (nI i))] [] := by
    refine up_ind 30 (fun i hi5 ih5 => ?_)
    intro b5 hg5
    refine r_iload (pc := 5) hG dX5_countLandings_5 rfl ?_
    refine r_bipush (pc := 7) hG dX5_countLandings_7 bc_30 ?_
    refine r_icmp_ge (pc := 9) (tgt := 38) hG dX5_countLandings_9 (by decide) (fun c1 => ?_) (fun c1 => ?_)
    · have e5 : i = 30 := by have := (le_nI (k := 30) (i := i) (Nat.le_of_ble_eq_true rfl) (by omega)).mp c1; omega
      subst hg5
      subst e5
      refine r_iload_n (pc := 38) hG dX5_countLandings_38 rfl ?_
      exact hret _ _ _ _ dX5_countLandings_39 (Eq.symm (by unfold sp_X5_countLandings; exact rfl)) rfl
    · have hl5 : i < 30 := by have := mt (le_nI (k := 30) (i := i) (Nat.le_of_ble_eq_true rfl) (by omega)).mpr c1; omega
      refine r_aload_n (pc := 12) hG dX5_countLandings_12 rfl ?_
      refine r_iload_n (pc := 13) hG dX5_countLandings_13 rfl ?_
      refine r_iload (pc := 14) hG dX5_countLandings_14 rfl ?_
      refine r_iconst (pc := 16) hG dX5_countLandings_16 ic_3 ?_
      refine r_idiv (pc := 17) hG dX5_countLandings_17 (by decide) ?_
      refine r_iload (pc := 18) hG dX5_countLandings_18 rfl ?_
      refine r_iconst (pc := 20) hG dX5_countLandings_20 ic_3 ?_
      refine r_irem (pc := 21) hG dX5_countLandings_21 (by decide) ?_
      refine cv_X5_landing (pc := 22) hs hG dX5_countLandings_22 tw_694 (c_X5_landing hs ha0b) (by decide) (Nat.le_of_ble_eq_true rfl) ?_
      refine r_iload_n (pc := 25) hG dX5_countLandings_25 rfl ?_
      refine r_icmp_ne (pc := 26) (tgt := 32) hG dX5_countLandings_26 (by decide) (fun c2 => ?_) (fun c2 => ?_)
      · refine r_iinc (pc := 32) (v := nI (i + 1)) (ls' := [_, _, _, _, _]) hG dX5_countLandings_32 rfl (nI_1 _) rfl rfl ?_
        refine r_goto (pc := 35) (tgt := 5) hG dX5_countLandings_35 (by decide) ?_
        have eN5 : b5 = st_X5_countLandings_5 M s a0 a1 i (itN i (st_X5_countLandings_5 M s a0 a1) 0) := by rw [← hg5]; unfold st_X5_countLandings_5; exact Eq.symm (if_neg c2)
        refine J.wk (ls' := [some (rf K (iS s)), some (.int a0), some (.int a1), some (.int b5), some (.int (nI (i + 1)))]) ?_ (Eq.refl 5) (wk_s rfl (wk_s rfl (wk_s rfl (wk_s rfl (wk_s rfl wk_0)))))
        exact ih5 hl5 b5 eN5
      · refine r_iinc (pc := 29) (v := b5 + 1) (ls' := [_, _, _, _, _]) hG dX5_countLandings_29 rfl rfl rfl rfl ?_
        refine r_iinc (pc := 32) (v := nI (i + 1)) (ls' := [_, _, _, _, _]) hG dX5_countLandings_32 rfl (nI_1 _) rfl rfl ?_
        refine r_goto (pc := 35) (tgt := 5) hG dX5_countLandings_35 (by decide) ?_
        have eN5 : b5 + 1 = st_X5_countLandings_5 M s a0 a1 i (itN i (st_X5_countLandings_5 M s a0 a1) 0) := by rw [← hg5]; unfold st_X5_countLandings_5; exact Eq.symm (if_pos c2)
        refine J.wk (ls' := [some (rf K (iS s)), some (.int a0), some (.int a1), some (.int (b5 + 1)), some (.int (nI (i + 1)))]) ?_ (Eq.refl 5) (wk_s rfl (wk_s rfl (wk_s rfl (wk_s rfl (wk_s rfl wk_0)))))
        exact ih5 hl5 (b5 + 1) eN5
  exact (lp5 0 (Nat.zero_le _) _ rfl).wk (Eq.refl 5) (wk_s rfl (wk_s rfl (wk_s rfl (wk_s rfl (wk_s rfl wk_0)))))

def st_X5_cellsCaughtBy_20 (M : MT) (s : Nat) (a0 : Int32) (i : Nat) (b20 : Int32) : Int32 :=
  if (sp_X5_catcherBut M s (-1) (((M.1 s 11 (tn a0)) - (sp_X2_reach M s (tn a0))) + nI i)) = a0 then
    b20 ||| (1 <<< ((((M.1 s 11 (tn a0)) - (sp_X2_reach M s (tn a0))) + nI i) &&& 31))
  else
    b20
def sp_X5_cellsCaughtBy (M : MT) (s : Nat) (a0 : Int32) : Int32 :=
  itN (2 * tn (sp_X2_reach M s (tn a0)) + 1) (st_X5_cellsCaughtBy_20 M s a0) 0
set_option maxRecDepth 20000 in
theorem c_X5_cellsCaughtBy {K : KT} {M : MT} {s : Nat} {a0 : Int32} (hs : s < 5) (ha0b : bd (a0) 8) (hoks : OKs M s) : CM K 4 yX5_cellsCaughtBy cX5_cellsCaughtBy 5 (some FieldType.int) [rf K (iS s), .int a0] M (some (.int (sp_X5_cellsCaughtBy M s a0))) M := by
  refine CM.ofI (by decide) [some (rf K (iS s)), some (.int a0), none, none, none] rfl (Nat.le_of_ble_eq_true rfl) (Nat.le_of_ble_eq_true rfl) (fun G hG _ hret => ?_)
  obtain ⟨hwcs, hpcs, ⟨hcls, hcms⟩, hwis, hdas, hles, hk8s, ha8s, hWs, hPs⟩ := id hoks
  have hwls := bd_lt hwcs
  have hpls := bd_lt hpcs
  have hclsl := bd_lt hcls
  have hA : bd (M.1 s 11 (tn a0)) 31 := ha8s _ (bd_lt ha0b)
  have hR : bd (sp_X2_reach M s (tn a0)) 4 := rk_tab _ (bd_lt (hk8s _ (bd_lt ha0b)))
  have hRl := bd_lt hR
  refine r_aload_n (pc := 0) hG dX5_cellsCaughtBy_0 rfl ?_
  refine gf_X5_people (pc := 1) hs hG dX5_cellsCaughtBy_1 tw_164 ?_
  refine r_iload_n (pc := 4) hG dX5_cellsCaughtBy_4 rfl ?_
  refine aa_PA (pc := 5) hs hG dX5_cellsCaughtBy_5 (ix_bd ha0b) ?_
  refine r_astore_n (pc := 6) (ls' := [_, _, _, _, _]) hG dX5_cellsCaughtBy_6 rfl rfl ?_
  refine r_iconst (pc := 7) hG dX5_cellsCaughtBy_7 ic_0 ?_
  refine r_istore_n (pc := 8) (ls' := [_, _, _, _, _]) hG dX5_cellsCaughtBy_8 rfl rfl ?_
  refine r_aload_n (pc := 9) hG dX5_cellsCaughtBy_9 rfl ?_
  refine gf_X2_at (pc := 10) hs (bd_lt ha0b) hG dX5_cellsCaughtBy_10 tw_142 ?_
  refine r_aload_n (pc := 13) hG dX5_cellsCaughtBy_13 rfl ?_
  refine cv_X2_reach (pc := 14) hs (bd_lt ha0b) hG dX5_cellsCaughtBy_14 tw_771 (c_X2_reach hs (bd_lt ha0b) (hk8s _ (bd_lt ha0b))) (by decide) (Nat.le_of_ble_eq_true rfl) ?_
  refine r_isub (pc := 17) hG dX5_cellsCaughtBy_17 ?_
  refine r_istore (pc := 18) (ls' := [_, _, _, _, _]) hG dX5_cellsCaughtBy_18 rfl rfl ?_
  have lp20 : ∀ i, i ≤ (2 * tn (sp_X2_reach M s (tn a0)) + 1) → ∀ b20 : Int32, b20 = itN i (st_X5_cellsCaughtBy_20 M s a0) 0 → J G K M 20 [some (rf K (iS s)), some (.int a0), some (rf K (iP s (tn a0))), some (.int b20), some (.int (((M.1 s 11 (tn a0)) - (sp_X2_reach M s (tn a0))) + nI i))] [] := by
    refine up_ind (2 * tn (sp_X2_reach M s (tn a0)) + 1) (fun i hi20 ih20 => ?_)
    intro b20 hg20
    refine r_iload (pc := 20) hG dX5_cellsCaughtBy_20 rfl ?_
    refine r_aload_n (pc := 22) hG dX5_cellsCaughtBy_22 rfl ?_
    refine gf_X2_at (pc := 23) hs (bd_lt ha0b) hG dX5_cellsCaughtBy_23 tw_142 ?_
    refine r_aload_n (pc := 26) hG dX5_cellsCaughtBy_26 rfl ?_
    refine cv_X2_reach (pc := 27) hs (bd_lt ha0b) hG dX5_cellsCaughtBy_27 tw_771 (c_X2_reach hs (bd_lt ha0b) (hk8s _ (bd_lt ha0b))) (by decide) (Nat.le_of_ble_eq_true rfl) ?_
    refine r_iadd (pc := 30) hG dX5_cellsCaughtBy_30 ?_
    refine r_icmp_gt (pc := 31) (tgt := 58) hG dX5_cellsCaughtBy_31 (by decide) (fun c1 => ?_) (fun c1 => ?_)
    · have e20 : i = (2 * tn (sp_X2_reach M s (tn a0)) + 1) := by have := (rng_lt hA hR (by omega)).mp c1; omega
      subst hg20
      subst e20
      refine r_iload_n (pc := 58) hG dX5_cellsCaughtBy_58 rfl ?_
      exact hret _ _ _ _ dX5_cellsCaughtBy_59 (Eq.symm (by unfold sp_X5_cellsCaughtBy; exact rfl)) rfl
    · have hl20 : i < (2 * tn (sp_X2_reach M s (tn a0)) + 1) := by have := mt (rng_lt hA hR (by omega)).mpr c1; omega
      refine r_aload_n (pc := 34) hG dX5_cellsCaughtBy_34 rfl ?_
      refine r_iconst (pc := 35) hG dX5_cellsCaughtBy_35 ic_m1 ?_
      refine r_iload (pc := 36) hG dX5_cellsCaughtBy_36 rfl ?_
      refine cv_X5_catcherBut (pc := 38) hs hG dX5_cellsCaughtBy_38 tw_695 (c_X5_catcherBut hs hoks) (by decide) (Nat.le_of_ble_eq_true rfl) ?_
      refine r_iload_n (pc := 41) hG dX5_cellsCaughtBy_41 rfl ?_
      refine r_icmp_ne (pc := 42) (tgt := 52) hG dX5_cellsCaughtBy_42 (by decide) (fun c2 => ?_) (fun c2 => ?_)
      · refine r_iinc (pc := 52) (v := (((M.1 s 11 (tn a0)) - (sp_X2_reach M s (tn a0))) + nI i) + 1) (ls' := [_, _, _, _, _]) hG dX5_cellsCaughtBy_52 rfl rfl rfl rfl ?_
        refine r_goto (pc := 55) (tgt := 20) hG dX5_cellsCaughtBy_55 (by decide) ?_
        have eN20 : b20 = st_X5_cellsCaughtBy_20 M s a0 i (itN i (st_X5_cellsCaughtBy_20 M s a0) 0) := by rw [← hg20]; unfold st_X5_cellsCaughtBy_20; exact Eq.symm (if_neg c2)
        refine J.wk (ls' := [some (rf K (iS s)), some (.int a0), some (rf K (iP s (tn a0))), some (.int b20), some (.int (((M.1 s 11 (tn a0)) - (sp_X2_reach M s (tn a0))) + nI (i + 1)))]) ?_ (Eq.refl 5) (wk_s rfl (wk_s rfl (wk_s rfl (wk_s rfl (wk_s (congrArg Value.int (rng_step _ _)) wk_0)))))
        exact ih20 hl20 b20 eN20
      · refine r_iload_n (pc := 45) hG dX5_cellsCaughtBy_45 rfl ?_
        refine r_iconst (pc := 46) hG dX5_cellsCaughtBy_46 ic_1 ?_
        refine r_iload (pc := 47) hG dX5_cellsCaughtBy_47 rfl ?_
        refine r_ishl (pc := 49) hG dX5_cellsCaughtBy_49 ?_
        refine r_ior (pc := 50) hG dX5_cellsCaughtBy_50 ?_
        refine r_istore_n (pc := 51) (ls' := [_, _, _, _, _]) hG dX5_cellsCaughtBy_51 rfl rfl ?_
        refine r_iinc (pc := 52) (v := (((M.1 s 11 (tn a0)) - (sp_X2_reach M s (tn a0))) + nI i) + 1) (ls' := [_, _, _, _, _]) hG dX5_cellsCaughtBy_52 rfl rfl rfl rfl ?_
        refine r_goto (pc := 55) (tgt := 20) hG dX5_cellsCaughtBy_55 (by decide) ?_
        have eN20 : b20 ||| (1 <<< ((((M.1 s 11 (tn a0)) - (sp_X2_reach M s (tn a0))) + nI i) &&& 31)) = st_X5_cellsCaughtBy_20 M s a0 i (itN i (st_X5_cellsCaughtBy_20 M s a0) 0) := by rw [← hg20]; unfold st_X5_cellsCaughtBy_20; exact Eq.symm (if_pos c2)
        refine J.wk (ls' := [some (rf K (iS s)), some (.int a0), some (rf K (iP s (tn a0))), some (.int (b20 ||| (1 <<< ((((M.1 s 11 (tn a0)) - (sp_X2_reach M s (tn a0))) + nI i) &&& 31)))), some (.int (((M.1 s 11 (tn a0)) - (sp_X2_reach M s (tn a0))) + nI (i + 1)))]) ?_ (Eq.refl 5) (wk_s rfl (wk_s rfl (wk_s rfl (wk_s rfl (wk_s (congrArg Value.int (rng_step _ _)) wk_0)))))
        exact ih20 hl20 (b20 ||| (1 <<< ((((M.1 s 11 (tn a0)) - (sp_X2_reach M s (tn a0))) + nI i) &&& 31))) eN20
  exact (lp20 0 (Nat.zero_le _) _ rfl).wk (Eq.refl 5) (wk_s rfl (wk_s rfl (wk_s rfl (wk_s rfl (wk_s (congrArg Value.int (rng_zero _)) wk_0)))))

def st_X5_cellsReachedBy_4 (M : MT) (s : Nat) (a0 : Int32) (i : Nat) (b4 : Int32) : Int32 :=
  if (sp_X2_reaches M s (tn a0) (nI i)) = true then
    b4 ||| (1 <<< ((nI i) &&& 31))
  else
    b4
def sp_X5_cellsReachedBy (M : MT) (s : Nat) (a0 : Int32) : Int32 :=
  itN (tn (M.1 s 2 0)) (st_X5_cellsReachedBy_4 M s a0) 0
set_option maxRecDepth 20000 in
theorem c_X5_cellsReachedBy {K : KT} {M : MT} {s : Nat} {a0 : Int32} (hs : s < 5) (ha0b : bd (a0) 8) (hoks : OKs M s) : CM K 3 yX5_cellsReachedBy cX5_cellsReachedBy 4 (some FieldType.int) [rf K (iS s), .int a0] M (some (.int (sp_X5_cellsReachedBy M s a0))) M := by
  refine CM.ofI (by decide) [some (rf K (iS s)), some (.int a0), none, none] rfl (Nat.le_of_ble_eq_true rfl) (Nat.le_of_ble_eq_true rfl) (fun G hG _ hret => ?_)
  obtain ⟨hwcs, hpcs, ⟨hcls, hcms⟩, hwis, hdas, hles, hk8s, ha8s, hWs, hPs⟩ := id hoks
  have hwls := bd_lt hwcs
  have hpls := bd_lt hpcs
  have hclsl := bd_lt hcls
  refine r_iconst (pc := 0) hG dX5_cellsReachedBy_0 ic_0 ?_
  refine r_istore_n (pc := 1) (ls' := [_, _, _, _]) hG dX5_cellsReachedBy_1 rfl rfl ?_
  refine r_iconst (pc := 2) hG dX5_cellsReachedBy_2 ic_0 ?_
  refine r_istore_n (pc := 3) (ls' := [_, _, _, _]) hG dX5_cellsReachedBy_3 rfl rfl ?_
  have hb4 : bd (M.1 s 2 0) 31 := hcls
  have hb4l := bd_lt hb4
  have lp4 : ∀ i, i ≤ (tn (M.1 s 2 0)) → ∀ b4 : Int32, b4 = itN i (st_X5_cellsReachedBy_4 M s a0) 0 → J G K M 4 [some (rf K (iS s)), some (.int a0), some (.int b4), some (.int (nI i))] [] := by
    refine up_ind (tn (M.1 s 2 0)) (fun i hi4 ih4 => ?_)
    intro b4 hg4
    refine r_iload_n (pc := 4) hG dX5_cellsReachedBy_4 rfl ?_
    refine r_aload_n (pc := 5) hG dX5_cellsReachedBy_5 rfl ?_
    refine gf_X5_cells (pc := 6) hs hG dX5_cellsReachedBy_6 tw_177 ?_
    refine r_icmp_ge (pc := 9) (tgt := 37) hG dX5_cellsReachedBy_9 (by decide) (fun c1 => ?_) (fun c1 => ?_)
    · have e4 : i = (tn (M.1 s 2 0)) := by have := (bd_le hb4 (by omega)).mp c1; omega
      subst hg4
      subst e4
      refine r_iload_n (pc := 37) hG dX5_cellsReachedBy_37 rfl ?_
      exact hret _ _ _ _ dX5_cellsReachedBy_38 (Eq.symm (by unfold sp_X5_cellsReachedBy; exact rfl)) rfl
    · have hl4 : i < (tn (M.1 s 2 0)) := by have := mt (bd_le hb4 (by omega)).mpr c1; omega
      refine r_aload_n (pc := 12) hG dX5_cellsReachedBy_12 rfl ?_
      refine gf_X5_people (pc := 13) hs hG dX5_cellsReachedBy_13 tw_164 ?_
      refine r_iload_n (pc := 16) hG dX5_cellsReachedBy_16 rfl ?_
      refine aa_PA (pc := 17) hs hG dX5_cellsReachedBy_17 (ix_bd ha0b) ?_
      refine r_iload_n (pc := 18) hG dX5_cellsReachedBy_18 rfl ?_
      refine cv_X2_reaches (pc := 19) hs (bd_lt ha0b) hG dX5_cellsReachedBy_19 tw_699 (c_X2_reaches hs (bd_lt ha0b) (hk8s _ (bd_lt ha0b))) (by decide) (Nat.le_of_ble_eq_true rfl) ?_
      refine r_ifz_eq (pc := 22) (tgt := 31) hG dX5_cellsReachedBy_22 (by decide) (fun c2 => ?_) (fun c2 => ?_)
      · refine r_iinc (pc := 31) (v := nI (i + 1)) (ls' := [_, _, _, _]) hG dX5_cellsReachedBy_31 rfl (nI_1 _) rfl rfl ?_
        refine r_goto (pc := 34) (tgt := 4) hG dX5_cellsReachedBy_34 (by decide) ?_
        have eN4 : b4 = st_X5_cellsReachedBy_4 M s a0 i (itN i (st_X5_cellsReachedBy_4 M s a0) 0) := by rw [← hg4]; unfold st_X5_cellsReachedBy_4; exact Eq.symm (if_neg c2)
        refine J.wk (ls' := [some (rf K (iS s)), some (.int a0), some (.int b4), some (.int (nI (i + 1)))]) ?_ (Eq.refl 4) (wk_s rfl (wk_s rfl (wk_s rfl (wk_s rfl wk_0))))
        exact ih4 hl4 b4 eN4
      · refine r_iload_n (pc := 25) hG dX5_cellsReachedBy_25 rfl ?_
        refine r_iconst (pc := 26) hG dX5_cellsReachedBy_26 ic_1 ?_
        refine r_iload_n (pc := 27) hG dX5_cellsReachedBy_27 rfl ?_
        refine r_ishl (pc := 28) hG dX5_cellsReachedBy_28 ?_
        refine r_ior (pc := 29) hG dX5_cellsReachedBy_29 ?_
        refine r_istore_n (pc := 30) (ls' := [_, _, _, _]) hG dX5_cellsReachedBy_30 rfl rfl ?_
        refine r_iinc (pc := 31) (v := nI (i + 1)) (ls' := [_, _, _, _]) hG dX5_cellsReachedBy_31 rfl (nI_1 _) rfl rfl ?_
        refine r_goto (pc := 34) (tgt := 4) hG dX5_cellsReachedBy_34 (by decide) ?_
        have eN4 : b4 ||| (1 <<< ((nI i) &&& 31)) = st_X5_cellsReachedBy_4 M s a0 i (itN i (st_X5_cellsReachedBy_4 M s a0) 0) := by rw [← hg4]; unfold st_X5_cellsReachedBy_4; exact Eq.symm (if_pos c2)
        refine J.wk (ls' := [some (rf K (iS s)), some (.int a0), some (.int (b4 ||| (1 <<< ((nI i) &&& 31)))), some (.int (nI (i + 1)))]) ?_ (Eq.refl 4) (wk_s rfl (wk_s rfl (wk_s rfl (wk_s rfl wk_0))))
        exact ih4 hl4 (b4 ||| (1 <<< ((nI i) &&& 31))) eN4
  exact (lp4 0 (Nat.zero_le _) _ rfl).wk (Eq.refl 4) (wk_s rfl (wk_s rfl (wk_s rfl (wk_s rfl wk_0))))

def st_X5_peopleReaching_4 (M : MT) (s : Nat) (a0 : Int32) (i : Nat) (b4 : Int32) : Int32 :=
  if (sp_X2_reaches M s i a0) = true then
    b4 ||| (1 <<< ((nI i) &&& 31))
  else
    b4
def sp_X5_peopleReaching (M : MT) (s : Nat) (a0 : Int32) : Int32 :=
  itN (tn (M.1 s 1 0)) (st_X5_peopleReaching_4 M s a0) 0
set_option maxRecDepth 20000 in
theorem c_X5_peopleReaching {K : KT} {M : MT} {s : Nat} {a0 : Int32} (hs : s < 5) (hoks : OKs M s) : CM K 3 yX5_peopleReaching cX5_peopleReaching 4 (some FieldType.int) [rf K (iS s), .int a0] M (some (.int (sp_X5_peopleReaching M s a0))) M := by
  refine CM.ofI (by decide) [some (rf K (iS s)), some (.int a0), none, none] rfl (Nat.le_of_ble_eq_true rfl) (Nat.le_of_ble_eq_true rfl) (fun G hG _ hret => ?_)
  obtain ⟨hwcs, hpcs, ⟨hcls, hcms⟩, hwis, hdas, hles, hk8s, ha8s, hWs, hPs⟩ := id hoks
  have hwls := bd_lt hwcs
  have hpls := bd_lt hpcs
  have hclsl := bd_lt hcls
  refine r_iconst (pc := 0) hG dX5_peopleReaching_0 ic_0 ?_
  refine r_istore_n (pc := 1) (ls' := [_, _, _, _]) hG dX5_peopleReaching_1 rfl rfl ?_
  refine r_iconst (pc := 2) hG dX5_peopleReaching_2 ic_0 ?_
  refine r_istore_n (pc := 3) (ls' := [_, _, _, _]) hG dX5_peopleReaching_3 rfl rfl ?_
  have hb4 : bd (M.1 s 1 0) 9 := hpcs
  have hb4l := bd_lt hb4
  have lp4 : ∀ i, i ≤ (tn (M.1 s 1 0)) → ∀ b4 : Int32, b4 = itN i (st_X5_peopleReaching_4 M s a0) 0 → J G K M 4 [some (rf K (iS s)), some (.int a0), some (.int b4), some (.int (nI i))] [] := by
    refine up_ind (tn (M.1 s 1 0)) (fun i hi4 ih4 => ?_)
    intro b4 hg4
    refine r_iload_n (pc := 4) hG dX5_peopleReaching_4 rfl ?_
    refine r_aload_n (pc := 5) hG dX5_peopleReaching_5 rfl ?_
    refine gf_X5_personCount (pc := 6) hs hG dX5_peopleReaching_6 tw_173 ?_
    refine r_icmp_ge (pc := 9) (tgt := 37) hG dX5_peopleReaching_9 (by decide) (fun c1 => ?_) (fun c1 => ?_)
    · have e4 : i = (tn (M.1 s 1 0)) := by have := (bd_le hb4 (by omega)).mp c1; omega
      subst hg4
      subst e4
      refine r_iload_n (pc := 37) hG dX5_peopleReaching_37 rfl ?_
      exact hret _ _ _ _ dX5_peopleReaching_38 (Eq.symm (by unfold sp_X5_peopleReaching; exact rfl)) rfl
    · have hl4 : i < (tn (M.1 s 1 0)) := by have := mt (bd_le hb4 (by omega)).mpr c1; omega
      refine r_aload_n (pc := 12) hG dX5_peopleReaching_12 rfl ?_
      refine gf_X5_people (pc := 13) hs hG dX5_peopleReaching_13 tw_164 ?_
      refine r_iload_n (pc := 16) hG dX5_peopleReaching_16 rfl ?_
      refine aa_PA (pc := 17) hs hG dX5_peopleReaching_17 (ix_nI (by omega) (Nat.le_of_ble_eq_true rfl)) ?_
      refine r_iload_n (pc := 18) hG dX5_peopleReaching_18 rfl ?_
      refine cv_X2_reaches (pc := 19) hs (by omega) hG dX5_peopleReaching_19 tw_699 (c_X2_reaches hs (by omega) (hk8s _ (by omega))) (by decide) (Nat.le_of_ble_eq_true rfl) ?_
      refine r_ifz_eq (pc := 22) (tgt := 31) hG dX5_peopleReaching_22 (by decide) (fun c2 => ?_) (fun c2 => ?_)
      · refine r_iinc (pc := 31) (v := nI (i + 1)) (ls' := [_, _, _, _]) hG dX5_peopleReaching_31 rfl (nI_1 _) rfl rfl ?_
        refine r_goto (pc := 34) (tgt := 4) hG dX5_peopleReaching_34 (by decide) ?_
        have eN4 : b4 = st_X5_peopleReaching_4 M s a0 i (itN i (st_X5_peopleReaching_4 M s a0) 0) := by rw [← hg4]; unfold st_X5_peopleReaching_4; exact Eq.symm (if_neg c2)
        refine J.wk (ls' := [some (rf K (iS s)), some (.int a0), some (.int b4), some (.int (nI (i + 1)))]) ?_ (Eq.refl 4) (wk_s rfl (wk_s rfl (wk_s rfl (wk_s rfl wk_0))))
        exact ih4 hl4 b4 eN4
      · refine r_iload_n (pc := 25) hG dX5_peopleReaching_25 rfl ?_
        refine r_iconst (pc := 26) hG dX5_peopleReaching_26 ic_1 ?_
        refine r_iload_n (pc := 27) hG dX5_peopleReaching_27 rfl ?_
        refine r_ishl (pc := 28) hG dX5_peopleReaching_28 ?_
        refine r_ior (pc := 29) hG dX5_peopleReaching_29 ?_
        refine r_istore_n (pc := 30) (ls' := [_, _, _, _]) hG dX5_peopleReaching_30 rfl rfl ?_
        refine r_iinc (pc := 31) (v := nI (i + 1)) (ls' := [_, _, _, _]) hG dX5_peopleReaching_31 rfl (nI_1 _) rfl rfl ?_
        refine r_goto (pc := 34) (tgt := 4) hG dX5_peopleReaching_34 (by decide) ?_
        have eN4 : b4 ||| (1 <<< ((nI i) &&& 31)) = st_X5_peopleReaching_4 M s a0 i (itN i (st_X5_peopleReaching_4 M s a0) 0) := by rw [← hg4]; unfold st_X5_peopleReaching_4; exact Eq.symm (if_pos c2)
        refine J.wk (ls' := [some (rf K (iS s)), some (.int a0), some (.int (b4 ||| (1 <<< ((nI i) &&& 31)))), some (.int (nI (i + 1)))]) ?_ (Eq.refl 4) (wk_s rfl (wk_s rfl (wk_s rfl (wk_s rfl wk_0))))
        exact ih4 hl4 (b4 ||| (1 <<< ((nI i) &&& 31))) eN4
  exact (lp4 0 (Nat.zero_le _) _ rfl).wk (Eq.refl 4) (wk_s rfl (wk_s rfl (wk_s rfl (wk_s rfl wk_0))))

def st_X5_uncaughtCells_4 (M : MT) (s : Nat) (i : Nat) (b4 : Int32) : Int32 :=
  if (sp_X5_catcherBut M s (-1) (nI i)) = (-1) then
    b4 ||| (1 <<< ((nI i) &&& 31))
  else
    b4
def sp_X5_uncaughtCells (M : MT) (s : Nat) : Int32 :=
  itN (tn (M.1 s 2 0)) (st_X5_uncaughtCells_4 M s) 0
set_option maxRecDepth 20000 in
theorem c_X5_uncaughtCells {K : KT} {M : MT} {s : Nat} (hs : s < 5) (hoks : OKs M s) : CM K 4 yX5_uncaughtCells cX5_uncaughtCells 3 (some FieldType.int) [rf K (iS s)] M (some (.int (sp_X5_uncaughtCells M s))) M := by
  refine CM.ofI (by decide) [some (rf K (iS s)), none, none] rfl (Nat.le_of_ble_eq_true rfl) (Nat.le_of_ble_eq_true rfl) (fun G hG _ hret => ?_)
  obtain ⟨hwcs, hpcs, ⟨hcls, hcms⟩, hwis, hdas, hles, hk8s, ha8s, hWs, hPs⟩ := id hoks
  have hwls := bd_lt hwcs
  have hpls := bd_lt hpcs
  have hclsl := bd_lt hcls
  refine r_iconst (pc := 0) hG dX5_uncaughtCells_0 ic_0 ?_
  refine r_istore_n (pc := 1) (ls' := [_, _, _]) hG dX5_uncaughtCells_1 rfl rfl ?_
  refine r_iconst (pc := 2) hG dX5_uncaughtCells_2 ic_0 ?_
  refine r_istore_n (pc := 3) (ls' := [_, _, _]) hG dX5_uncaughtCells_3 rfl rfl ?_
  have hb4 : bd (M.1 s 2 0) 31 := hcls
  have hb4l := bd_lt hb4
  have lp4 : ∀ i, i ≤ (tn (M.1 s 2 0)) → ∀ b4 : Int32, b4 = itN i (st_X5_uncaughtCells_4 M s) 0 → J G K M 4 [some (rf K (iS s)), some (.int b4), some (.int (nI i))] [] := by
    refine up_ind (tn (M.1 s 2 0)) (fun i hi4 ih4 => ?_)
    intro b4 hg4
    refine r_iload_n (pc := 4) hG dX5_uncaughtCells_4 rfl ?_
    refine r_aload_n (pc := 5) hG dX5_uncaughtCells_5 rfl ?_
    refine gf_X5_cells (pc := 6) hs hG dX5_uncaughtCells_6 tw_177 ?_
    refine r_icmp_ge (pc := 9) (tgt := 34) hG dX5_uncaughtCells_9 (by decide) (fun c1 => ?_) (fun c1 => ?_)
    · have e4 : i = (tn (M.1 s 2 0)) := by have := (bd_le hb4 (by omega)).mp c1; omega
      subst hg4
      subst e4
      refine r_iload_n (pc := 34) hG dX5_uncaughtCells_34 rfl ?_
      exact hret _ _ _ _ dX5_uncaughtCells_35 (Eq.symm (by unfold sp_X5_uncaughtCells; exact rfl)) rfl
    · have hl4 : i < (tn (M.1 s 2 0)) := by have := mt (bd_le hb4 (by omega)).mpr c1; omega
      refine r_aload_n (pc := 12) hG dX5_uncaughtCells_12 rfl ?_
      refine r_iconst (pc := 13) hG dX5_uncaughtCells_13 ic_m1 ?_
      refine r_iload_n (pc := 14) hG dX5_uncaughtCells_14 rfl ?_
      refine cv_X5_catcherBut (pc := 15) hs hG dX5_uncaughtCells_15 tw_695 (c_X5_catcherBut hs hoks) (by decide) (Nat.le_of_ble_eq_true rfl) ?_
      refine r_iconst (pc := 18) hG dX5_uncaughtCells_18 ic_m1 ?_
      refine r_icmp_ne (pc := 19) (tgt := 28) hG dX5_uncaughtCells_19 (by decide) (fun c2 => ?_) (fun c2 => ?_)
      · refine r_iinc (pc := 28) (v := nI (i + 1)) (ls' := [_, _, _]) hG dX5_uncaughtCells_28 rfl (nI_1 _) rfl rfl ?_
        refine r_goto (pc := 31) (tgt := 4) hG dX5_uncaughtCells_31 (by decide) ?_
        have eN4 : b4 = st_X5_uncaughtCells_4 M s i (itN i (st_X5_uncaughtCells_4 M s) 0) := by rw [← hg4]; unfold st_X5_uncaughtCells_4; exact Eq.symm (if_neg c2)
        refine J.wk (ls' := [some (rf K (iS s)), some (.int b4), some (.int (nI (i + 1)))]) ?_ (Eq.refl 3) (wk_s rfl (wk_s rfl (wk_s rfl wk_0)))
        exact ih4 hl4 b4 eN4
      · refine r_iload_n (pc := 22) hG dX5_uncaughtCells_22 rfl ?_
        refine r_iconst (pc := 23) hG dX5_uncaughtCells_23 ic_1 ?_
        refine r_iload_n (pc := 24) hG dX5_uncaughtCells_24 rfl ?_
        refine r_ishl (pc := 25) hG dX5_uncaughtCells_25 ?_
        refine r_ior (pc := 26) hG dX5_uncaughtCells_26 ?_
        refine r_istore_n (pc := 27) (ls' := [_, _, _]) hG dX5_uncaughtCells_27 rfl rfl ?_
        refine r_iinc (pc := 28) (v := nI (i + 1)) (ls' := [_, _, _]) hG dX5_uncaughtCells_28 rfl (nI_1 _) rfl rfl ?_
        refine r_goto (pc := 31) (tgt := 4) hG dX5_uncaughtCells_31 (by decide) ?_
        have eN4 : b4 ||| (1 <<< ((nI i) &&& 31)) = st_X5_uncaughtCells_4 M s i (itN i (st_X5_uncaughtCells_4 M s) 0) := by rw [← hg4]; unfold st_X5_uncaughtCells_4; exact Eq.symm (if_pos c2)
        refine J.wk (ls' := [some (rf K (iS s)), some (.int (b4 ||| (1 <<< ((nI i) &&& 31)))), some (.int (nI (i + 1)))]) ?_ (Eq.refl 3) (wk_s rfl (wk_s rfl (wk_s rfl wk_0)))
        exact ih4 hl4 (b4 ||| (1 <<< ((nI i) &&& 31))) eN4
  exact (lp4 0 (Nat.zero_le _) _ rfl).wk (Eq.refl 3) (wk_s rfl (wk_s rfl (wk_s rfl wk_0)))

def st_X5_peopleHit_11 (M : MT) (s : Nat) (a0 : Int32) (i : Nat) (b11 : Int32) : Int32 :=
  if ((sp_X5_openCells M s a0) &&& (sp_X5_cellsCaughtBy M s (nI i))) = 0 then
    b11
  else
    b11 ||| (1 <<< ((nI i) &&& 31))
def sp_X5_peopleHit (M : MT) (s : Nat) (a0 : Int32) : Int32 :=
  itN (tn (M.1 s 1 0)) (st_X5_peopleHit_11 M s a0) 0
set_option maxRecDepth 20000 in
theorem c_X5_peopleHit {K : KT} {M : MT} {s : Nat} {a0 : Int32} (hs : s < 5) (ha0b : bd (a0) 8) (hoks : OKs M s) : CM K 5 yX5_peopleHit cX5_peopleHit 5 (some FieldType.int) [rf K (iS s), .int a0] M (some (.int (sp_X5_peopleHit M s a0))) M := by
  refine CM.ofI (by decide) [some (rf K (iS s)), some (.int a0), none, none, none] rfl (Nat.le_of_ble_eq_true rfl) (Nat.le_of_ble_eq_true rfl) (fun G hG _ hret => ?_)
  obtain ⟨hwcs, hpcs, ⟨hcls, hcms⟩, hwis, hdas, hles, hk8s, ha8s, hWs, hPs⟩ := id hoks
  have hwls := bd_lt hwcs
  have hpls := bd_lt hpcs
  have hclsl := bd_lt hcls
  refine r_aload_n (pc := 0) hG dX5_peopleHit_0 rfl ?_
  refine r_iload_n (pc := 1) hG dX5_peopleHit_1 rfl ?_
  refine cv_X5_openCells (pc := 2) hs hG dX5_peopleHit_2 tw_763 (c_X5_openCells hs ha0b) (by decide) (Nat.le_of_ble_eq_true rfl) ?_
  refine r_istore_n (pc := 5) (ls' := [_, _, _, _, _]) hG dX5_peopleHit_5 rfl rfl ?_
  refine r_iconst (pc := 6) hG dX5_peopleHit_6 ic_0 ?_
  refine r_istore_n (pc := 7) (ls' := [_, _, _, _, _]) hG dX5_peopleHit_7 rfl rfl ?_
  refine r_iconst (pc := 8) hG dX5_peopleHit_8 ic_0 ?_
  refine r_istore (pc := 9) (ls' := [_, _, _, _, _]) hG dX5_peopleHit_9 rfl rfl ?_
  have hb11 : bd (M.1 s 1 0) 9 := hpcs
  have hb11l := bd_lt hb11
  have lp11 : ∀ i, i ≤ (tn (M.1 s 1 0)) → ∀ b11 : Int32, b11 = itN i (st_X5_peopleHit_11 M s a0) 0 → J G K M 11 [some (rf K (iS s)), some (.int a0), some (.int (sp_X5_openCells M s a0)), some (.int b11), some (.int (nI i))] [] := by
    refine up_ind (tn (M.1 s 1 0)) (fun i hi11 ih11 => ?_)
    intro b11 hg11
    refine r_iload (pc := 11) hG dX5_peopleHit_11 rfl ?_
    refine r_aload_n (pc := 13) hG dX5_peopleHit_13 rfl ?_
    refine gf_X5_personCount (pc := 14) hs hG dX5_peopleHit_14 tw_173 ?_
    refine r_icmp_ge (pc := 17) (tgt := 44) hG dX5_peopleHit_17 (by decide) (fun c1 => ?_) (fun c1 => ?_)
    · have e11 : i = (tn (M.1 s 1 0)) := by have := (bd_le hb11 (by omega)).mp c1; omega
      subst hg11
      subst e11
      refine r_iload_n (pc := 44) hG dX5_peopleHit_44 rfl ?_
      exact hret _ _ _ _ dX5_peopleHit_45 (Eq.symm (by unfold sp_X5_peopleHit; exact rfl)) rfl
    · have hl11 : i < (tn (M.1 s 1 0)) := by have := mt (bd_le hb11 (by omega)).mpr c1; omega
      refine r_iload_n (pc := 20) hG dX5_peopleHit_20 rfl ?_
      refine r_aload_n (pc := 21) hG dX5_peopleHit_21 rfl ?_
      refine r_iload (pc := 22) hG dX5_peopleHit_22 rfl ?_
      refine cv_X5_cellsCaughtBy (pc := 24) hs hG dX5_peopleHit_24 tw_767 (c_X5_cellsCaughtBy hs (bd_nI (by omega) (Nat.le_of_ble_eq_true rfl)) hoks) (by decide) (Nat.le_of_ble_eq_true rfl) ?_
      refine r_iand (pc := 27) hG dX5_peopleHit_27 ?_
      refine r_if_eq (pc := 28) (tgt := 38) hG dX5_peopleHit_28 (by decide) (fun c2 => ?_) (fun c2 => ?_)
      · refine r_iinc (pc := 38) (v := nI (i + 1)) (ls' := [_, _, _, _, _]) hG dX5_peopleHit_38 rfl (nI_1 _) rfl rfl ?_
        refine r_goto (pc := 41) (tgt := 11) hG dX5_peopleHit_41 (by decide) ?_
        have eN11 : b11 = st_X5_peopleHit_11 M s a0 i (itN i (st_X5_peopleHit_11 M s a0) 0) := by rw [← hg11]; unfold st_X5_peopleHit_11; exact Eq.symm (if_pos c2)
        refine J.wk (ls' := [some (rf K (iS s)), some (.int a0), some (.int (sp_X5_openCells M s a0)), some (.int b11), some (.int (nI (i + 1)))]) ?_ (Eq.refl 5) (wk_s rfl (wk_s rfl (wk_s rfl (wk_s rfl (wk_s rfl wk_0)))))
        exact ih11 hl11 b11 eN11
      · refine r_iload_n (pc := 31) hG dX5_peopleHit_31 rfl ?_
        refine r_iconst (pc := 32) hG dX5_peopleHit_32 ic_1 ?_
        refine r_iload (pc := 33) hG dX5_peopleHit_33 rfl ?_
        refine r_ishl (pc := 35) hG dX5_peopleHit_35 ?_
        refine r_ior (pc := 36) hG dX5_peopleHit_36 ?_
        refine r_istore_n (pc := 37) (ls' := [_, _, _, _, _]) hG dX5_peopleHit_37 rfl rfl ?_
        refine r_iinc (pc := 38) (v := nI (i + 1)) (ls' := [_, _, _, _, _]) hG dX5_peopleHit_38 rfl (nI_1 _) rfl rfl ?_
        refine r_goto (pc := 41) (tgt := 11) hG dX5_peopleHit_41 (by decide) ?_
        have eN11 : b11 ||| (1 <<< ((nI i) &&& 31)) = st_X5_peopleHit_11 M s a0 i (itN i (st_X5_peopleHit_11 M s a0) 0) := by rw [← hg11]; unfold st_X5_peopleHit_11; exact Eq.symm (if_neg c2)
        refine J.wk (ls' := [some (rf K (iS s)), some (.int a0), some (.int (sp_X5_openCells M s a0)), some (.int (b11 ||| (1 <<< ((nI i) &&& 31)))), some (.int (nI (i + 1)))]) ?_ (Eq.refl 5) (wk_s rfl (wk_s rfl (wk_s rfl (wk_s rfl (wk_s rfl wk_0)))))
        exact ih11 hl11 (b11 ||| (1 <<< ((nI i) &&& 31))) eN11
  exact (lp11 0 (Nat.zero_le _) _ rfl).wk (Eq.refl 5) (wk_s rfl (wk_s rfl (wk_s rfl (wk_s rfl (wk_s rfl wk_0)))))

def st_X5_windowsOpenTo_4 (M : MT) (s : Nat) (a0 : Int32) (i : Nat) (b4 : Int32) : Int32 :=
  if ((sp_X5_openCells M s (nI i)) &&& a0) = 0 then
    b4
  else
    b4 ||| (1 <<< ((nI i) &&& 31))
def sp_X5_windowsOpenTo (M : MT) (s : Nat) (a0 : Int32) : Int32 :=
  itN (tn (M.1 s 0 0)) (st_X5_windowsOpenTo_4 M s a0) 0
set_option maxRecDepth 20000 in
theorem c_X5_windowsOpenTo {K : KT} {M : MT} {s : Nat} {a0 : Int32} (hs : s < 5) (hoks : OKs M s) : CM K 5 yX5_windowsOpenTo cX5_windowsOpenTo 4 (some FieldType.int) [rf K (iS s), .int a0] M (some (.int (sp_X5_windowsOpenTo M s a0))) M := by
  refine CM.ofI (by decide) [some (rf K (iS s)), some (.int a0), none, none] rfl (Nat.le_of_ble_eq_true rfl) (Nat.le_of_ble_eq_true rfl) (fun G hG _ hret => ?_)
  obtain ⟨hwcs, hpcs, ⟨hcls, hcms⟩, hwis, hdas, hles, hk8s, ha8s, hWs, hPs⟩ := id hoks
  have hwls := bd_lt hwcs
  have hpls := bd_lt hpcs
  have hclsl := bd_lt hcls
  refine r_iconst (pc := 0) hG dX5_windowsOpenTo_0 ic_0 ?_
  refine r_istore_n (pc := 1) (ls' := [_, _, _, _]) hG dX5_windowsOpenTo_1 rfl rfl ?_
  refine r_iconst (pc := 2) hG dX5_windowsOpenTo_2 ic_0 ?_
  refine r_istore_n (pc := 3) (ls' := [_, _, _, _]) hG dX5_windowsOpenTo_3 rfl rfl ?_
  have hb4 : bd (M.1 s 0 0) 9 := hwcs
  have hb4l := bd_lt hb4
  have lp4 : ∀ i, i ≤ (tn (M.1 s 0 0)) → ∀ b4 : Int32, b4 = itN i (st_X5_windowsOpenTo_4 M s a0) 0 → J G K M 4 [some (rf K (iS s)), some (.int a0), some (.int b4), some (.int (nI i))] [] := by
    refine up_ind (tn (M.1 s 0 0)) (fun i hi4 ih4 => ?_)
    intro b4 hg4
    refine r_iload_n (pc := 4) hG dX5_windowsOpenTo_4 rfl ?_
    refine r_aload_n (pc := 5) hG dX5_windowsOpenTo_5 rfl ?_
    refine gf_X5_windowCount (pc := 6) hs hG dX5_windowsOpenTo_6 tw_169 ?_
    refine r_icmp_ge (pc := 9) (tgt := 34) hG dX5_windowsOpenTo_9 (by decide) (fun c1 => ?_) (fun c1 => ?_)
    · have e4 : i = (tn (M.1 s 0 0)) := by have := (bd_le hb4 (by omega)).mp c1; omega
      subst hg4
      subst e4
      refine r_iload_n (pc := 34) hG dX5_windowsOpenTo_34 rfl ?_
      exact hret _ _ _ _ dX5_windowsOpenTo_35 (Eq.symm (by unfold sp_X5_windowsOpenTo; exact rfl)) rfl
    · have hl4 : i < (tn (M.1 s 0 0)) := by have := mt (bd_le hb4 (by omega)).mpr c1; omega
      refine r_aload_n (pc := 12) hG dX5_windowsOpenTo_12 rfl ?_
      refine r_iload_n (pc := 13) hG dX5_windowsOpenTo_13 rfl ?_
      refine cv_X5_openCells (pc := 14) hs hG dX5_windowsOpenTo_14 tw_763 (c_X5_openCells hs (bd_nI (by omega) (Nat.le_of_ble_eq_true rfl))) (by decide) (Nat.le_of_ble_eq_true rfl) ?_
      refine r_iload_n (pc := 17) hG dX5_windowsOpenTo_17 rfl ?_
      refine r_iand (pc := 18) hG dX5_windowsOpenTo_18 ?_
      refine r_if_eq (pc := 19) (tgt := 28) hG dX5_windowsOpenTo_19 (by decide) (fun c2 => ?_) (fun c2 => ?_)
      · refine r_iinc (pc := 28) (v := nI (i + 1)) (ls' := [_, _, _, _]) hG dX5_windowsOpenTo_28 rfl (nI_1 _) rfl rfl ?_
        refine r_goto (pc := 31) (tgt := 4) hG dX5_windowsOpenTo_31 (by decide) ?_
        have eN4 : b4 = st_X5_windowsOpenTo_4 M s a0 i (itN i (st_X5_windowsOpenTo_4 M s a0) 0) := by rw [← hg4]; unfold st_X5_windowsOpenTo_4; exact Eq.symm (if_pos c2)
        refine J.wk (ls' := [some (rf K (iS s)), some (.int a0), some (.int b4), some (.int (nI (i + 1)))]) ?_ (Eq.refl 4) (wk_s rfl (wk_s rfl (wk_s rfl (wk_s rfl wk_0))))
        exact ih4 hl4 b4 eN4
      · refine r_iload_n (pc := 22) hG dX5_windowsOpenTo_22 rfl ?_
        refine r_iconst (pc := 23) hG dX5_windowsOpenTo_23 ic_1 ?_
        refine r_iload_n (pc := 24) hG dX5_windowsOpenTo_24 rfl ?_
        refine r_ishl (pc := 25) hG dX5_windowsOpenTo_25 ?_
        refine r_ior (pc := 26) hG dX5_windowsOpenTo_26 ?_
        refine r_istore_n (pc := 27) (ls' := [_, _, _, _]) hG dX5_windowsOpenTo_27 rfl rfl ?_
        refine r_iinc (pc := 28) (v := nI (i + 1)) (ls' := [_, _, _, _]) hG dX5_windowsOpenTo_28 rfl (nI_1 _) rfl rfl ?_
        refine r_goto (pc := 31) (tgt := 4) hG dX5_windowsOpenTo_31 (by decide) ?_
        have eN4 : b4 ||| (1 <<< ((nI i) &&& 31)) = st_X5_windowsOpenTo_4 M s a0 i (itN i (st_X5_windowsOpenTo_4 M s a0) 0) := by rw [← hg4]; unfold st_X5_windowsOpenTo_4; exact Eq.symm (if_neg c2)
        refine J.wk (ls' := [some (rf K (iS s)), some (.int a0), some (.int (b4 ||| (1 <<< ((nI i) &&& 31)))), some (.int (nI (i + 1)))]) ?_ (Eq.refl 4) (wk_s rfl (wk_s rfl (wk_s rfl (wk_s rfl wk_0))))
        exact ih4 hl4 (b4 ||| (1 <<< ((nI i) &&& 31))) eN4
  exact (lp4 0 (Nat.zero_le _) _ rfl).wk (Eq.refl 4) (wk_s rfl (wk_s rfl (wk_s rfl (wk_s rfl wk_0))))

def sp_J6_bitCount_0f7a4 (a0 : Int32) : Int32 :=
  (((((((a0 - ((ius a0 1) &&& 1431655765)) &&& 858993459) + ((ius (a0 - ((ius a0 1) &&& 1431655765)) 2) &&& 858993459)) + (ius (((a0 - ((ius a0 1) &&& 1431655765)) &&& 858993459) + ((ius (a0 - ((ius a0 1) &&& 1431655765)) 2) &&& 858993459)) 4)) &&& 252645135) + (ius (((((a0 - ((ius a0 1) &&& 1431655765)) &&& 858993459) + ((ius (a0 - ((ius a0 1) &&& 1431655765)) 2) &&& 858993459)) + (ius (((a0 - ((ius a0 1) &&& 1431655765)) &&& 858993459) + ((ius (a0 - ((ius a0 1) &&& 1431655765)) 2) &&& 858993459)) 4)) &&& 252645135) 8)) + (ius ((((((a0 - ((ius a0 1) &&& 1431655765)) &&& 858993459) + ((ius (a0 - ((ius a0 1) &&& 1431655765)) 2) &&& 858993459)) + (ius (((a0 - ((ius a0 1) &&& 1431655765)) &&& 858993459) + ((ius (a0 - ((ius a0 1) &&& 1431655765)) 2) &&& 858993459)) 4)) &&& 252645135) + (ius (((((a0 - ((ius a0 1) &&& 1431655765)) &&& 858993459) + ((ius (a0 - ((ius a0 1) &&& 1431655765)) 2) &&& 858993459)) + (ius (((a0 - ((ius a0 1) &&& 1431655765)) &&& 858993459) + ((ius (a0 - ((ius a0 1) &&& 1431655765)) 2) &&& 858993459)) 4)) &&& 252645135) 8)) 16)) &&& 63
set_option maxRecDepth 20000 in
theorem c_J6_bitCount_0f7a4 {K : KT} {M : MT} {a0 : Int32}   : CM K 1 yJ6_bitCount_0f7a4 cJ6_bitCount_0f7a4 1 (some FieldType.int) [.int a0] M (some (.int (sp_J6_bitCount_0f7a4 a0))) M := by
  refine CM.ofI (by decide) [some (.int a0)] rfl (Nat.le_of_ble_eq_true rfl) (Nat.le_of_ble_eq_true rfl) (fun G hG _ hret => ?_)
  refine r_iload_n (pc := 0) hG dJ6_bitCount_0f7a4_0 rfl ?_
  refine r_iload_n (pc := 1) hG dJ6_bitCount_0f7a4_1 rfl ?_
  refine r_iconst (pc := 2) hG dJ6_bitCount_0f7a4_2 ic_1 ?_
  refine r_iushr (pc := 3) hG dJ6_bitCount_0f7a4_3 ?_
  refine r_ldc_w (pc := 4) hG dJ6_bitCount_0f7a4_4 tw_1006 ?_
  refine r_iand (pc := 7) hG dJ6_bitCount_0f7a4_7 ?_
  refine r_isub (pc := 8) hG dJ6_bitCount_0f7a4_8 ?_
  refine r_istore_n (pc := 9) (ls' := [_]) hG dJ6_bitCount_0f7a4_9 rfl rfl ?_
  refine r_iload_n (pc := 10) hG dJ6_bitCount_0f7a4_10 rfl ?_
  refine r_ldc_w (pc := 11) hG dJ6_bitCount_0f7a4_11 tw_1007 ?_
  refine r_iand (pc := 14) hG dJ6_bitCount_0f7a4_14 ?_
  refine r_iload_n (pc := 15) hG dJ6_bitCount_0f7a4_15 rfl ?_
  refine r_iconst (pc := 16) hG dJ6_bitCount_0f7a4_16 ic_2 ?_
  refine r_iushr (pc := 17) hG dJ6_bitCount_0f7a4_17 ?_
  refine r_ldc_w (pc := 18) hG dJ6_bitCount_0f7a4_18 tw_1007 ?_
  refine r_iand (pc := 21) hG dJ6_bitCount_0f7a4_21 ?_
  refine r_iadd (pc := 22) hG dJ6_bitCount_0f7a4_22 ?_
  refine r_istore_n (pc := 23) (ls' := [_]) hG dJ6_bitCount_0f7a4_23 rfl rfl ?_
  refine r_iload_n (pc := 24) hG dJ6_bitCount_0f7a4_24 rfl ?_
  refine r_iload_n (pc := 25) hG dJ6_bitCount_0f7a4_25 rfl ?_
  refine r_iconst (pc := 26) hG dJ6_bitCount_0f7a4_26 ic_4 ?_
  refine r_iushr (pc := 27) hG dJ6_bitCount_0f7a4_27 ?_
  refine r_iadd (pc := 28) hG dJ6_bitCount_0f7a4_28 ?_
  refine r_ldc_w (pc := 29) hG dJ6_bitCount_0f7a4_29 tw_1008 ?_
  refine r_iand (pc := 32) hG dJ6_bitCount_0f7a4_32 ?_
  refine r_istore_n (pc := 33) (ls' := [_]) hG dJ6_bitCount_0f7a4_33 rfl rfl ?_
  refine r_iload_n (pc := 34) hG dJ6_bitCount_0f7a4_34 rfl ?_
  refine r_iload_n (pc := 35) hG dJ6_bitCount_0f7a4_35 rfl ?_
  refine r_bipush (pc := 36) hG dJ6_bitCount_0f7a4_36 bc_8 ?_
  refine r_iushr (pc := 38) hG dJ6_bitCount_0f7a4_38 ?_
  refine r_iadd (pc := 39) hG dJ6_bitCount_0f7a4_39 ?_
  refine r_istore_n (pc := 40) (ls' := [_]) hG dJ6_bitCount_0f7a4_40 rfl rfl ?_
  refine r_iload_n (pc := 41) hG dJ6_bitCount_0f7a4_41 rfl ?_
  refine r_iload_n (pc := 42) hG dJ6_bitCount_0f7a4_42 rfl ?_
  refine r_bipush (pc := 43) hG dJ6_bitCount_0f7a4_43 bc_16 ?_
  refine r_iushr (pc := 45) hG dJ6_bitCount_0f7a4_45 ?_
  refine r_iadd (pc := 46) hG dJ6_bitCount_0f7a4_46 ?_
  refine r_istore_n (pc := 47) (ls' := [_]) hG dJ6_bitCount_0f7a4_47 rfl rfl ?_
  refine r_iload_n (pc := 48) hG dJ6_bitCount_0f7a4_48 rfl ?_
  refine r_bipush (pc := 49) hG dJ6_bitCount_0f7a4_49 bc_63 ?_
  refine r_iand (pc := 51) hG dJ6_bitCount_0f7a4_51 ?_
  exact hret _ _ _ _ dJ6_bitCount_0f7a4_52 (Eq.symm (by unfold sp_J6_bitCount_0f7a4; exact rfl)) rfl

def st_X5_bestWindow_6 (M : MT) (s : Nat) (i : Nat) (b6 : Int32 × Int32) : Int32 × Int32 :=
  if (sp_J6_bitCount_0f7a4 (sp_X5_peopleHit M s (nI i))) ≤ b6.2 then
    (b6.1, b6.2)
  else
    (nI i, sp_J6_bitCount_0f7a4 (sp_X5_peopleHit M s (nI i)))
def sp_X5_bestWindow (M : MT) (s : Nat) : Int32 :=
  (itN (tn (M.1 s 0 0)) (st_X5_bestWindow_6 M s) ((-1), (-1))).1
set_option maxRecDepth 20000 in
theorem c_X5_bestWindow {K : KT} {M : MT} {s : Nat} (hs : s < 5) (hoks : OKs M s) : CM K 6 yX5_bestWindow cX5_bestWindow 5 (some FieldType.int) [rf K (iS s)] M (some (.int (sp_X5_bestWindow M s))) M := by
  refine CM.ofI (by decide) [some (rf K (iS s)), none, none, none, none] rfl (Nat.le_of_ble_eq_true rfl) (Nat.le_of_ble_eq_true rfl) (fun G hG _ hret => ?_)
  obtain ⟨hwcs, hpcs, ⟨hcls, hcms⟩, hwis, hdas, hles, hk8s, ha8s, hWs, hPs⟩ := id hoks
  have hwls := bd_lt hwcs
  have hpls := bd_lt hpcs
  have hclsl := bd_lt hcls
  refine r_iconst (pc := 0) hG dX5_bestWindow_0 ic_m1 ?_
  refine r_istore_n (pc := 1) (ls' := [_, _, _, _, _]) hG dX5_bestWindow_1 rfl rfl ?_
  refine r_iconst (pc := 2) hG dX5_bestWindow_2 ic_m1 ?_
  refine r_istore_n (pc := 3) (ls' := [_, _, _, _, _]) hG dX5_bestWindow_3 rfl rfl ?_
  refine r_iconst (pc := 4) hG dX5_bestWindow_4 ic_0 ?_
  refine r_istore_n (pc := 5) (ls' := [_, _, _, _, _]) hG dX5_bestWindow_5 rfl rfl ?_
  have hb6 : bd (M.1 s 0 0) 9 := hwcs
  have hb6l := bd_lt hb6
  have lp6 : ∀ i, i ≤ (tn (M.1 s 0 0)) → ∀ b6 : Int32 × Int32, b6 = itN i (st_X5_bestWindow_6 M s) ((-1), (-1)) → J G K M 6 [some (rf K (iS s)), some (.int b6.1), some (.int b6.2), some (.int (nI i)), none] [] := by
    refine up_ind (tn (M.1 s 0 0)) (fun i hi6 ih6 => ?_)
    intro b6 hg6
    refine r_iload_n (pc := 6) hG dX5_bestWindow_6 rfl ?_
    refine r_aload_n (pc := 7) hG dX5_bestWindow_7 rfl ?_
    refine gf_X5_windowCount (pc := 8) hs hG dX5_bestWindow_8 tw_169 ?_
    refine r_icmp_ge (pc := 11) (tgt := 41) hG dX5_bestWindow_11 (by decide) (fun c1 => ?_) (fun c1 => ?_)
    · have e6 : i = (tn (M.1 s 0 0)) := by have := (bd_le hb6 (by omega)).mp c1; omega
      subst hg6
      subst e6
      refine r_iload_n (pc := 41) hG dX5_bestWindow_41 rfl ?_
      exact hret _ _ _ _ dX5_bestWindow_42 (Eq.symm (by unfold sp_X5_bestWindow; exact rfl)) rfl
    · have hl6 : i < (tn (M.1 s 0 0)) := by have := mt (bd_le hb6 (by omega)).mpr c1; omega
      refine r_aload_n (pc := 14) hG dX5_bestWindow_14 rfl ?_
      refine r_iload_n (pc := 15) hG dX5_bestWindow_15 rfl ?_
      refine cv_X5_peopleHit (pc := 16) hs hG dX5_bestWindow_16 tw_1002 (c_X5_peopleHit hs (bd_nI (by omega) (Nat.le_of_ble_eq_true rfl)) hoks) (by decide) (Nat.le_of_ble_eq_true rfl) ?_
      refine cs_J6_bitCount_0f7a4 (pc := 19)  hG dX5_bestWindow_19 tw_1003 (c_J6_bitCount_0f7a4) (by decide) (Nat.le_of_ble_eq_true rfl) ?_
      refine r_istore (pc := 22) (ls' := [_, _, _, _, _]) hG dX5_bestWindow_22 rfl rfl ?_
      refine r_iload (pc := 24) hG dX5_bestWindow_24 rfl ?_
      refine r_iload_n (pc := 26) hG dX5_bestWindow_26 rfl ?_
      refine r_icmp_le (pc := 27) (tgt := 35) hG dX5_bestWindow_27 (by decide) (fun c2 => ?_) (fun c2 => ?_)
      · refine r_iinc (pc := 35) (v := nI (i + 1)) (ls' := [_, _, _, _, _]) hG dX5_bestWindow_35 rfl (nI_1 _) rfl rfl ?_
        refine r_goto (pc := 38) (tgt := 6) hG dX5_bestWindow_38 (by decide) ?_
        have eN6 : (b6.1, b6.2) = st_X5_bestWindow_6 M s i (itN i (st_X5_bestWindow_6 M s) ((-1), (-1))) := by rw [← hg6]; unfold st_X5_bestWindow_6; exact Eq.symm (if_pos c2)
        refine J.wk (ls' := [some (rf K (iS s)), some (.int b6.1), some (.int b6.2), some (.int (nI (i + 1))), none]) ?_ (Eq.refl 5) (wk_s rfl (wk_s rfl (wk_s rfl (wk_s rfl (wk_n wk_0)))))
        exact ih6 hl6 (b6.1, b6.2) eN6
      · refine r_iload (pc := 30) hG dX5_bestWindow_30 rfl ?_
        refine r_istore_n (pc := 32) (ls' := [_, _, _, _, _]) hG dX5_bestWindow_32 rfl rfl ?_
        refine r_iload_n (pc := 33) hG dX5_bestWindow_33 rfl ?_
        refine r_istore_n (pc := 34) (ls' := [_, _, _, _, _]) hG dX5_bestWindow_34 rfl rfl ?_
        refine r_iinc (pc := 35) (v := nI (i + 1)) (ls' := [_, _, _, _, _]) hG dX5_bestWindow_35 rfl (nI_1 _) rfl rfl ?_
        refine r_goto (pc := 38) (tgt := 6) hG dX5_bestWindow_38 (by decide) ?_
        have eN6 : (nI i, sp_J6_bitCount_0f7a4 (sp_X5_peopleHit M s (nI i))) = st_X5_bestWindow_6 M s i (itN i (st_X5_bestWindow_6 M s) ((-1), (-1))) := by rw [← hg6]; unfold st_X5_bestWindow_6; exact Eq.symm (if_neg c2)
        refine J.wk (ls' := [some (rf K (iS s)), some (.int (nI i)), some (.int (sp_J6_bitCount_0f7a4 (sp_X5_peopleHit M s (nI i)))), some (.int (nI (i + 1))), none]) ?_ (Eq.refl 5) (wk_s rfl (wk_s rfl (wk_s rfl (wk_s rfl (wk_n wk_0)))))
        exact ih6 hl6 (nI i, sp_J6_bitCount_0f7a4 (sp_X5_peopleHit M s (nI i))) eN6
  exact (lp6 0 (Nat.zero_le _) _ rfl).wk (Eq.refl 5) (wk_s rfl (wk_s rfl (wk_s rfl (wk_s rfl (wk_n wk_0)))))

def st_X5_windowsWithin_13 (M : MT) (s : Nat) (a0 : Int32) (a1 : Int32) (i : Nat) (b13 : Int32) : Int32 :=
  if (M.1 s 8 i) = a1 then
    b13
  else
    b13 &&& ((1 <<< ((nI i) &&& 31)) ^^^ (-1))
def sp_X5_windowsWithin (M : MT) (s : Nat) (a0 : Int32) (a1 : Int32) : Int32 :=
  itN (tn (M.1 s 0 0)) (st_X5_windowsWithin_13 M s a0 a1) (sp_X5_windowsOpenTo M s (sp_X5_cellsReachedBy M s a0))
set_option maxRecDepth 20000 in
theorem c_X5_windowsWithin {K : KT} {M : MT} {s : Nat} {a0 : Int32} {a1 : Int32} (hs : s < 5) (ha0b : bd (a0) 8) (hoks : OKs M s) : CM K 6 yX5_windowsWithin cX5_windowsWithin 5 (some FieldType.int) [rf K (iS s), .int a0, .int a1] M (some (.int (sp_X5_windowsWithin M s a0 a1))) M := by
  refine CM.ofI (by decide) [some (rf K (iS s)), some (.int a0), some (.int a1), none, none] rfl (Nat.le_of_ble_eq_true rfl) (Nat.le_of_ble_eq_true rfl) (fun G hG _ hret => ?_)
  obtain ⟨hwcs, hpcs, ⟨hcls, hcms⟩, hwis, hdas, hles, hk8s, ha8s, hWs, hPs⟩ := id hoks
  have hwls := bd_lt hwcs
  have hpls := bd_lt hpcs
  have hclsl := bd_lt hcls
  refine r_aload_n (pc := 0) hG dX5_windowsWithin_0 rfl ?_
  refine r_aload_n (pc := 1) hG dX5_windowsWithin_1 rfl ?_
  refine r_iload_n (pc := 2) hG dX5_windowsWithin_2 rfl ?_
  refine cv_X5_cellsReachedBy (pc := 3) hs hG dX5_windowsWithin_3 tw_794 (c_X5_cellsReachedBy hs ha0b hoks) (by decide) (Nat.le_of_ble_eq_true rfl) ?_
  refine cv_X5_windowsOpenTo (pc := 6) hs hG dX5_windowsWithin_6 tw_798 (c_X5_windowsOpenTo hs hoks) (by decide) (Nat.le_of_ble_eq_true rfl) ?_
  refine r_istore_n (pc := 9) (ls' := [_, _, _, _, _]) hG dX5_windowsWithin_9 rfl rfl ?_
  refine r_iconst (pc := 10) hG dX5_windowsWithin_10 ic_0 ?_
  refine r_istore (pc := 11) (ls' := [_, _, _, _, _]) hG dX5_windowsWithin_11 rfl rfl ?_
  have hb13 : bd (M.1 s 0 0) 9 := hwcs
  have hb13l := bd_lt hb13
  have lp13 : ∀ i, i ≤ (tn (M.1 s 0 0)) → ∀ b13 : Int32, b13 = itN i (st_X5_windowsWithin_13 M s a0 a1) (sp_X5_windowsOpenTo M s (sp_X5_cellsReachedBy M s a0)) → J G K M 13 [some (rf K (iS s)), some (.int a0), some (.int a1), some (.int b13), some (.int (nI i))] [] := by
    refine up_ind (tn (M.1 s 0 0)) (fun i hi13 ih13 => ?_)
    intro b13 hg13
    refine r_iload (pc := 13) hG dX5_windowsWithin_13 rfl ?_
    refine r_aload_n (pc := 15) hG dX5_windowsWithin_15 rfl ?_
    refine gf_X5_windowCount (pc := 16) hs hG dX5_windowsWithin_16 tw_169 ?_
    refine r_icmp_ge (pc := 19) (tgt := 51) hG dX5_windowsWithin_19 (by decide) (fun c1 => ?_) (fun c1 => ?_)
    · have e13 : i = (tn (M.1 s 0 0)) := by have := (bd_le hb13 (by omega)).mp c1; omega
      subst hg13
      subst e13
      refine r_iload_n (pc := 51) hG dX5_windowsWithin_51 rfl ?_
      exact hret _ _ _ _ dX5_windowsWithin_52 (Eq.symm (by unfold sp_X5_windowsWithin; exact rfl)) rfl
    · have hl13 : i < (tn (M.1 s 0 0)) := by have := mt (bd_le hb13 (by omega)).mpr c1; omega
      refine r_aload_n (pc := 22) hG dX5_windowsWithin_22 rfl ?_
      refine gf_X5_windows (pc := 23) hs hG dX5_windowsWithin_23 tw_162 ?_
      refine r_iload (pc := 26) hG dX5_windowsWithin_26 rfl ?_
      refine aa_WA (pc := 28) hs hG dX5_windowsWithin_28 (ix_nI (by omega) (Nat.le_of_ble_eq_true rfl)) ?_
      refine gf_X7_thorns (pc := 29) hs (by omega) hG dX5_windowsWithin_29 tw_120 ?_
      refine r_iload_n (pc := 32) hG dX5_windowsWithin_32 rfl ?_
      refine r_icmp_eq (pc := 33) (tgt := 45) hG dX5_windowsWithin_33 (by decide) (fun c2 => ?_) (fun c2 => ?_)
      · refine r_iinc (pc := 45) (v := nI (i + 1)) (ls' := [_, _, _, _, _]) hG dX5_windowsWithin_45 rfl (nI_1 _) rfl rfl ?_
        refine r_goto (pc := 48) (tgt := 13) hG dX5_windowsWithin_48 (by decide) ?_
        have eN13 : b13 = st_X5_windowsWithin_13 M s a0 a1 i (itN i (st_X5_windowsWithin_13 M s a0 a1) (sp_X5_windowsOpenTo M s (sp_X5_cellsReachedBy M s a0))) := by rw [← hg13]; unfold st_X5_windowsWithin_13; exact Eq.symm (if_pos c2)
        refine J.wk (ls' := [some (rf K (iS s)), some (.int a0), some (.int a1), some (.int b13), some (.int (nI (i + 1)))]) ?_ (Eq.refl 5) (wk_s rfl (wk_s rfl (wk_s rfl (wk_s rfl (wk_s rfl wk_0)))))
        exact ih13 hl13 b13 eN13
      · refine r_iload_n (pc := 36) hG dX5_windowsWithin_36 rfl ?_
        refine r_iconst (pc := 37) hG dX5_windowsWithin_37 ic_1 ?_
        refine r_iload (pc := 38) hG dX5_windowsWithin_38 rfl ?_
        refine r_ishl (pc := 40) hG dX5_windowsWithin_40 ?_
        refine r_iconst (pc := 41) hG dX5_windowsWithin_41 ic_m1 ?_
        refine r_ixor (pc := 42) hG dX5_windowsWithin_42 ?_
        refine r_iand (pc := 43) hG dX5_windowsWithin_43 ?_
        refine r_istore_n (pc := 44) (ls' := [_, _, _, _, _]) hG dX5_windowsWithin_44 rfl rfl ?_
        refine r_iinc (pc := 45) (v := nI (i + 1)) (ls' := [_, _, _, _, _]) hG dX5_windowsWithin_45 rfl (nI_1 _) rfl rfl ?_
        refine r_goto (pc := 48) (tgt := 13) hG dX5_windowsWithin_48 (by decide) ?_
        have eN13 : b13 &&& ((1 <<< ((nI i) &&& 31)) ^^^ (-1)) = st_X5_windowsWithin_13 M s a0 a1 i (itN i (st_X5_windowsWithin_13 M s a0 a1) (sp_X5_windowsOpenTo M s (sp_X5_cellsReachedBy M s a0))) := by rw [← hg13]; unfold st_X5_windowsWithin_13; exact Eq.symm (if_neg c2)
        refine J.wk (ls' := [some (rf K (iS s)), some (.int a0), some (.int a1), some (.int (b13 &&& ((1 <<< ((nI i) &&& 31)) ^^^ (-1)))), some (.int (nI (i + 1)))]) ?_ (Eq.refl 5) (wk_s rfl (wk_s rfl (wk_s rfl (wk_s rfl (wk_s rfl wk_0)))))
        exact ih13 hl13 (b13 &&& ((1 <<< ((nI i) &&& 31)) ^^^ (-1))) eN13
  exact (lp13 0 (Nat.zero_le _) _ rfl).wk (Eq.refl 5) (wk_s rfl (wk_s rfl (wk_s rfl (wk_s rfl (wk_s rfl wk_0)))))

def st_X5_floorsTogether_4 (M : MT) (s : Nat) (a0 : Int32) (i : Nat) (b4 : Int32) : Int32 :=
  if ((a0 >>> ((nI i) &&& 31)) &&& 1) = 0 then
    b4
  else
    b4 + (M.1 s 7 i)
def sp_X5_floorsTogether (M : MT) (s : Nat) (a0 : Int32) : Int32 :=
  itN (tn (M.1 s 0 0)) (st_X5_floorsTogether_4 M s a0) 0
set_option maxRecDepth 20000 in
theorem c_X5_floorsTogether {K : KT} {M : MT} {s : Nat} {a0 : Int32} (hs : s < 5) (hoks : OKs M s) : CM K 1 yX5_floorsTogether cX5_floorsTogether 4 (some FieldType.int) [rf K (iS s), .int a0] M (some (.int (sp_X5_floorsTogether M s a0))) M := by
  refine CM.ofI (by decide) [some (rf K (iS s)), some (.int a0), none, none] rfl (Nat.le_of_ble_eq_true rfl) (Nat.le_of_ble_eq_true rfl) (fun G hG _ hret => ?_)
  obtain ⟨hwcs, hpcs, ⟨hcls, hcms⟩, hwis, hdas, hles, hk8s, ha8s, hWs, hPs⟩ := id hoks
  have hwls := bd_lt hwcs
  have hpls := bd_lt hpcs
  have hclsl := bd_lt hcls
  refine r_iconst (pc := 0) hG dX5_floorsTogether_0 ic_0 ?_
  refine r_istore_n (pc := 1) (ls' := [_, _, _, _]) hG dX5_floorsTogether_1 rfl rfl ?_
  refine r_iconst (pc := 2) hG dX5_floorsTogether_2 ic_0 ?_
  refine r_istore_n (pc := 3) (ls' := [_, _, _, _]) hG dX5_floorsTogether_3 rfl rfl ?_
  have hb4 : bd (M.1 s 0 0) 9 := hwcs
  have hb4l := bd_lt hb4
  have lp4 : ∀ i, i ≤ (tn (M.1 s 0 0)) → ∀ b4 : Int32, b4 = itN i (st_X5_floorsTogether_4 M s a0) 0 → J G K M 4 [some (rf K (iS s)), some (.int a0), some (.int b4), some (.int (nI i))] [] := by
    refine up_ind (tn (M.1 s 0 0)) (fun i hi4 ih4 => ?_)
    intro b4 hg4
    refine r_iload_n (pc := 4) hG dX5_floorsTogether_4 rfl ?_
    refine r_aload_n (pc := 5) hG dX5_floorsTogether_5 rfl ?_
    refine gf_X5_windowCount (pc := 6) hs hG dX5_floorsTogether_6 tw_169 ?_
    refine r_icmp_ge (pc := 9) (tgt := 38) hG dX5_floorsTogether_9 (by decide) (fun c1 => ?_) (fun c1 => ?_)
    · have e4 : i = (tn (M.1 s 0 0)) := by have := (bd_le hb4 (by omega)).mp c1; omega
      subst hg4
      subst e4
      refine r_iload_n (pc := 38) hG dX5_floorsTogether_38 rfl ?_
      exact hret _ _ _ _ dX5_floorsTogether_39 (Eq.symm (by unfold sp_X5_floorsTogether; exact rfl)) rfl
    · have hl4 : i < (tn (M.1 s 0 0)) := by have := mt (bd_le hb4 (by omega)).mpr c1; omega
      refine r_iload_n (pc := 12) hG dX5_floorsTogether_12 rfl ?_
      refine r_iload_n (pc := 13) hG dX5_floorsTogether_13 rfl ?_
      refine r_ishr (pc := 14) hG dX5_floorsTogether_14 ?_
      refine r_iconst (pc := 15) hG dX5_floorsTogether_15 ic_1 ?_
      refine r_iand (pc := 16) hG dX5_floorsTogether_16 ?_
      refine r_if_eq (pc := 17) (tgt := 32) hG dX5_floorsTogether_17 (by decide) (fun c2 => ?_) (fun c2 => ?_)
      · refine r_iinc (pc := 32) (v := nI (i + 1)) (ls' := [_, _, _, _]) hG dX5_floorsTogether_32 rfl (nI_1 _) rfl rfl ?_
        refine r_goto (pc := 35) (tgt := 4) hG dX5_floorsTogether_35 (by decide) ?_
        have eN4 : b4 = st_X5_floorsTogether_4 M s a0 i (itN i (st_X5_floorsTogether_4 M s a0) 0) := by rw [← hg4]; unfold st_X5_floorsTogether_4; exact Eq.symm (if_pos c2)
        refine J.wk (ls' := [some (rf K (iS s)), some (.int a0), some (.int b4), some (.int (nI (i + 1)))]) ?_ (Eq.refl 4) (wk_s rfl (wk_s rfl (wk_s rfl (wk_s rfl wk_0))))
        exact ih4 hl4 b4 eN4
      · refine r_iload_n (pc := 20) hG dX5_floorsTogether_20 rfl ?_
        refine r_aload_n (pc := 21) hG dX5_floorsTogether_21 rfl ?_
        refine gf_X5_windows (pc := 22) hs hG dX5_floorsTogether_22 tw_162 ?_
        refine r_iload_n (pc := 25) hG dX5_floorsTogether_25 rfl ?_
        refine aa_WA (pc := 26) hs hG dX5_floorsTogether_26 (ix_nI (by omega) (Nat.le_of_ble_eq_true rfl)) ?_
        refine gf_X7_floor (pc := 27) hs (by omega) hG dX5_floorsTogether_27 tw_117 ?_
        refine r_iadd (pc := 30) hG dX5_floorsTogether_30 ?_
        refine r_istore_n (pc := 31) (ls' := [_, _, _, _]) hG dX5_floorsTogether_31 rfl rfl ?_
        refine r_iinc (pc := 32) (v := nI (i + 1)) (ls' := [_, _, _, _]) hG dX5_floorsTogether_32 rfl (nI_1 _) rfl rfl ?_
        refine r_goto (pc := 35) (tgt := 4) hG dX5_floorsTogether_35 (by decide) ?_
        have eN4 : b4 + (M.1 s 7 i) = st_X5_floorsTogether_4 M s a0 i (itN i (st_X5_floorsTogether_4 M s a0) 0) := by rw [← hg4]; unfold st_X5_floorsTogether_4; exact Eq.symm (if_neg c2)
        refine J.wk (ls' := [some (rf K (iS s)), some (.int a0), some (.int (b4 + (M.1 s 7 i))), some (.int (nI (i + 1)))]) ?_ (Eq.refl 4) (wk_s rfl (wk_s rfl (wk_s rfl (wk_s rfl wk_0))))
        exact ih4 hl4 (b4 + (M.1 s 7 i)) eN4
  exact (lp4 0 (Nat.zero_le _) _ rfl).wk (Eq.refl 4) (wk_s rfl (wk_s rfl (wk_s rfl (wk_s rfl wk_0))))

def st_X5_lowestOf_4 (M : MT) (s : Nat) (a0 : Int32) (i : Nat) (b4 : Int32) : Int32 :=
  if ((a0 >>> ((nI i) &&& 31)) &&& 1) = 0 then
    b4
  else
    if b4 = (-1) then
      nI i
    else
      if (M.1 s 7 (tn b4)) ≤ (M.1 s 7 i) then
        b4
      else
        nI i
def sp_X5_lowestOf (M : MT) (s : Nat) (a0 : Int32) : Int32 :=
  itN (tn (M.1 s 0 0)) (st_X5_lowestOf_4 M s a0) (-1)
set_option maxRecDepth 20000 in
theorem c_X5_lowestOf {K : KT} {M : MT} {s : Nat} {a0 : Int32} (hs : s < 5) (hoks : OKs M s) : CM K 1 yX5_lowestOf cX5_lowestOf 4 (some FieldType.int) [rf K (iS s), .int a0] M (some (.int (sp_X5_lowestOf M s a0))) M := by
  refine CM.ofI (by decide) [some (rf K (iS s)), some (.int a0), none, none] rfl (Nat.le_of_ble_eq_true rfl) (Nat.le_of_ble_eq_true rfl) (fun G hG _ hret => ?_)
  obtain ⟨hwcs, hpcs, ⟨hcls, hcms⟩, hwis, hdas, hles, hk8s, ha8s, hWs, hPs⟩ := id hoks
  have hwls := bd_lt hwcs
  have hpls := bd_lt hpcs
  have hclsl := bd_lt hcls
  refine r_iconst (pc := 0) hG dX5_lowestOf_0 ic_m1 ?_
  refine r_istore_n (pc := 1) (ls' := [_, _, _, _]) hG dX5_lowestOf_1 rfl rfl ?_
  refine r_iconst (pc := 2) hG dX5_lowestOf_2 ic_0 ?_
  refine r_istore_n (pc := 3) (ls' := [_, _, _, _]) hG dX5_lowestOf_3 rfl rfl ?_
  have hb4 : bd (M.1 s 0 0) 9 := hwcs
  have hb4l := bd_lt hb4
  have lp4 : ∀ i, i ≤ (tn (M.1 s 0 0)) → ∀ b4 : Int32, b4 = itN i (st_X5_lowestOf_4 M s a0) (-1) → J G K M 4 [some (rf K (iS s)), some (.int a0), some (.int b4), some (.int (nI i))] [] := by
    refine up_ind (tn (M.1 s 0 0)) (fun i hi4 ih4 => ?_)
    intro b4 hg4
    have hv4 : b4 = -1 ∨ bd (b4) 8 := by subst hg4; exact itN_inv (fun x => x = -1 ∨ bd x 8) i (Or.inl rfl) (fun k b hk hb => by unfold st_X5_lowestOf_4; (repeat' split) <;> first | exact hb | exact Or.inr (bd_nI (by omega) (Nat.le_of_ble_eq_true rfl)))
    refine r_iload_n (pc := 4) hG dX5_lowestOf_4 rfl ?_
    refine r_aload_n (pc := 5) hG dX5_lowestOf_5 rfl ?_
    refine gf_X5_windowCount (pc := 6) hs hG dX5_lowestOf_6 tw_169 ?_
    refine r_icmp_ge (pc := 9) (tgt := 54) hG dX5_lowestOf_9 (by decide) (fun c1 => ?_) (fun c1 => ?_)
    · have e4 : i = (tn (M.1 s 0 0)) := by have := (bd_le hb4 (by omega)).mp c1; omega
      subst hg4
      subst e4
      refine r_iload_n (pc := 54) hG dX5_lowestOf_54 rfl ?_
      exact hret _ _ _ _ dX5_lowestOf_55 (Eq.symm (by unfold sp_X5_lowestOf; exact rfl)) rfl
    · have hl4 : i < (tn (M.1 s 0 0)) := by have := mt (bd_le hb4 (by omega)).mpr c1; omega
      refine r_iload_n (pc := 12) hG dX5_lowestOf_12 rfl ?_
      refine r_iload_n (pc := 13) hG dX5_lowestOf_13 rfl ?_
      refine r_ishr (pc := 14) hG dX5_lowestOf_14 ?_
      refine r_iconst (pc := 15) hG dX5_lowestOf_15 ic_1 ?_
      refine r_iand (pc := 16) hG dX5_lowestOf_16 ?_
      refine r_if_eq (pc := 17) (tgt := 48) hG dX5_lowestOf_17 (by decide) (fun c2 => ?_) (fun c2 => ?_)
      · refine r_iinc (pc := 48) (v := nI (i + 1)) (ls' := [_, _, _, _]) hG dX5_lowestOf_48 rfl (nI_1 _) rfl rfl ?_
        refine r_goto (pc := 51) (tgt := 4) hG dX5_lowestOf_51 (by decide) ?_
        have eN4 : b4 = st_X5_lowestOf_4 M s a0 i (itN i (st_X5_lowestOf_4 M s a0) (-1)) := by rw [← hg4]; unfold st_X5_lowestOf_4; exact Eq.symm (if_pos c2)
        refine J.wk (ls' := [some (rf K (iS s)), some (.int a0), some (.int b4), some (.int (nI (i + 1)))]) ?_ (Eq.refl 4) (wk_s rfl (wk_s rfl (wk_s rfl (wk_s rfl wk_0))))
        exact ih4 hl4 b4 eN4
      · refine r_iload_n (pc := 20) hG dX5_lowestOf_20 rfl ?_
        refine r_iconst (pc := 21) hG dX5_lowestOf_21 ic_m1 ?_
        refine r_icmp_eq (pc := 22) (tgt := 46) hG dX5_lowestOf_22 (by decide) (fun c3 => ?_) (fun c3 => ?_)
        · refine r_iload_n (pc := 46) hG dX5_lowestOf_46 rfl ?_
          refine r_istore_n (pc := 47) (ls' := [_, _, _, _]) hG dX5_lowestOf_47 rfl rfl ?_
          refine r_iinc (pc := 48) (v := nI (i + 1)) (ls' := [_, _, _, _]) hG dX5_lowestOf_48 rfl (nI_1 _) rfl rfl ?_
          refine r_goto (pc := 51) (tgt := 4) hG dX5_lowestOf_51 (by decide) ?_
          have eN4 : nI i = st_X5_lowestOf_4 M s a0 i (itN i (st_X5_lowestOf_4 M s a0) (-1)) := by rw [← hg4]; unfold st_X5_lowestOf_4; exact Eq.symm ((if_neg c2).trans (if_pos c3))
          refine J.wk (ls' := [some (rf K (iS s)), some (.int a0), some (.int (nI i)), some (.int (nI (i + 1)))]) ?_ (Eq.refl 4) (wk_s rfl (wk_s rfl (wk_s rfl (wk_s rfl wk_0))))
          exact ih4 hl4 (nI i) eN4
        · refine r_aload_n (pc := 25) hG dX5_lowestOf_25 rfl ?_
          refine gf_X5_windows (pc := 26) hs hG dX5_lowestOf_26 tw_162 ?_
          refine r_iload_n (pc := 29) hG dX5_lowestOf_29 rfl ?_
          refine aa_WA (pc := 30) hs hG dX5_lowestOf_30 (ix_nI (by omega) (Nat.le_of_ble_eq_true rfl)) ?_
          refine gf_X7_floor (pc := 31) hs (by omega) hG dX5_lowestOf_31 tw_117 ?_
          refine r_aload_n (pc := 34) hG dX5_lowestOf_34 rfl ?_
          refine gf_X5_windows (pc := 35) hs hG dX5_lowestOf_35 tw_162 ?_
          refine r_iload_n (pc := 38) hG dX5_lowestOf_38 rfl ?_
          refine aa_WA (pc := 39) hs hG dX5_lowestOf_39 (ix_bd (Or.resolve_left hv4 c3)) ?_
          refine gf_X7_floor (pc := 40) hs (bd_lt (Or.resolve_left hv4 c3)) hG dX5_lowestOf_40 tw_117 ?_
          refine r_icmp_ge (pc := 43) (tgt := 48) hG dX5_lowestOf_43 (by decide) (fun c4 => ?_) (fun c4 => ?_)
          · refine r_iinc (pc := 48) (v := nI (i + 1)) (ls' := [_, _, _, _]) hG dX5_lowestOf_48 rfl (nI_1 _) rfl rfl ?_
            refine r_goto (pc := 51) (tgt := 4) hG dX5_lowestOf_51 (by decide) ?_
            have eN4 : b4 = st_X5_lowestOf_4 M s a0 i (itN i (st_X5_lowestOf_4 M s a0) (-1)) := by rw [← hg4]; unfold st_X5_lowestOf_4; exact Eq.symm ((if_neg c2).trans ((if_neg c3).trans (if_pos c4)))
            refine J.wk (ls' := [some (rf K (iS s)), some (.int a0), some (.int b4), some (.int (nI (i + 1)))]) ?_ (Eq.refl 4) (wk_s rfl (wk_s rfl (wk_s rfl (wk_s rfl wk_0))))
            exact ih4 hl4 b4 eN4
          · refine r_iload_n (pc := 46) hG dX5_lowestOf_46 rfl ?_
            refine r_istore_n (pc := 47) (ls' := [_, _, _, _]) hG dX5_lowestOf_47 rfl rfl ?_
            refine r_iinc (pc := 48) (v := nI (i + 1)) (ls' := [_, _, _, _]) hG dX5_lowestOf_48 rfl (nI_1 _) rfl rfl ?_
            refine r_goto (pc := 51) (tgt := 4) hG dX5_lowestOf_51 (by decide) ?_
            have eN4 : nI i = st_X5_lowestOf_4 M s a0 i (itN i (st_X5_lowestOf_4 M s a0) (-1)) := by rw [← hg4]; unfold st_X5_lowestOf_4; exact Eq.symm ((if_neg c2).trans ((if_neg c3).trans (if_neg c4)))
            refine J.wk (ls' := [some (rf K (iS s)), some (.int a0), some (.int (nI i)), some (.int (nI (i + 1)))]) ?_ (Eq.refl 4) (wk_s rfl (wk_s rfl (wk_s rfl (wk_s rfl wk_0))))
            exact ih4 hl4 (nI i) eN4
  exact (lp4 0 (Nat.zero_le _) _ rfl).wk (Eq.refl 4) (wk_s rfl (wk_s rfl (wk_s rfl (wk_s rfl wk_0))))

def sp_X5_fondness (M : MT) (s : Nat) (a0 : Int32) (a1 : Int32) : Int32 :=
  10 - (iabs ((M.1 s 8 (tn a0)) - (M.1 s 10 (tn a1))))
set_option maxRecDepth 20000 in
theorem c_X5_fondness {K : KT} {M : MT} {s : Nat} {a0 : Int32} {a1 : Int32} (hs : s < 5) (ha0b : bd (a0) 8) (ha1b : bd (a1) 8) : CM K 2 yX5_fondness cX5_fondness 3 (some FieldType.int) [rf K (iS s), .int a0, .int a1] M (some (.int (sp_X5_fondness M s a0 a1))) M := by
  refine CM.ofI (by decide) [some (rf K (iS s)), some (.int a0), some (.int a1)] rfl (Nat.le_of_ble_eq_true rfl) (Nat.le_of_ble_eq_true rfl) (fun G hG _ hret => ?_)
  refine r_bipush (pc := 0) hG dX5_fondness_0 bc_10 ?_
  refine r_aload_n (pc := 2) hG dX5_fondness_2 rfl ?_
  refine gf_X5_windows (pc := 3) hs hG dX5_fondness_3 tw_162 ?_
  refine r_iload_n (pc := 6) hG dX5_fondness_6 rfl ?_
  refine aa_WA (pc := 7) hs hG dX5_fondness_7 (ix_bd ha0b) ?_
  refine gf_X7_thorns (pc := 8) hs (bd_lt ha0b) hG dX5_fondness_8 tw_120 ?_
  refine r_aload_n (pc := 11) hG dX5_fondness_11 rfl ?_
  refine gf_X5_people (pc := 12) hs hG dX5_fondness_12 tw_164 ?_
  refine r_iload_n (pc := 15) hG dX5_fondness_15 rfl ?_
  refine aa_PA (pc := 16) hs hG dX5_fondness_16 (ix_bd ha1b) ?_
  refine gf_X2_a (pc := 17) hs (bd_lt ha1b) hG dX5_fondness_17 tw_139 ?_
  refine r_isub (pc := 20) hG dX5_fondness_20 ?_
  refine r_mabs (pc := 21) hG dX5_fondness_21 tw_818 (by decide) (Nat.le_of_ble_eq_true rfl) ?_
  refine r_isub (pc := 24) hG dX5_fondness_24 ?_
  exact hret _ _ _ _ dX5_fondness_25 (Eq.symm (by unfold sp_X5_fondness; exact rfl)) rfl

def st_X5_fondestPerson_11 (M : MT) (s : Nat) (a0 : Int32) (i : Nat) (b11 : Int32) : Int32 :=
  if (((sp_X5_peopleHit M s a0) >>> ((nI i) &&& 31)) &&& 1) = 0 then
    b11
  else
    if b11 = (-1) then
      nI i
    else
      if (sp_X5_fondness M s a0 (nI i)) ≤ (sp_X5_fondness M s a0 b11) then
        b11
      else
        nI i
def sp_X5_fondestPerson (M : MT) (s : Nat) (a0 : Int32) : Int32 :=
  itN (tn (M.1 s 1 0)) (st_X5_fondestPerson_11 M s a0) (-1)
set_option maxRecDepth 20000 in
theorem c_X5_fondestPerson {K : KT} {M : MT} {s : Nat} {a0 : Int32} (hs : s < 5) (ha0b : bd (a0) 8) (hoks : OKs M s) : CM K 6 yX5_fondestPerson cX5_fondestPerson 5 (some FieldType.int) [rf K (iS s), .int a0] M (some (.int (sp_X5_fondestPerson M s a0))) M := by
  refine CM.ofI (by decide) [some (rf K (iS s)), some (.int a0), none, none, none] rfl (Nat.le_of_ble_eq_true rfl) (Nat.le_of_ble_eq_true rfl) (fun G hG _ hret => ?_)
  obtain ⟨hwcs, hpcs, ⟨hcls, hcms⟩, hwis, hdas, hles, hk8s, ha8s, hWs, hPs⟩ := id hoks
  have hwls := bd_lt hwcs
  have hpls := bd_lt hpcs
  have hclsl := bd_lt hcls
  refine r_aload_n (pc := 0) hG dX5_fondestPerson_0 rfl ?_
  refine r_iload_n (pc := 1) hG dX5_fondestPerson_1 rfl ?_
  refine cv_X5_peopleHit (pc := 2) hs hG dX5_fondestPerson_2 tw_1002 (c_X5_peopleHit hs ha0b hoks) (by decide) (Nat.le_of_ble_eq_true rfl) ?_
  refine r_istore_n (pc := 5) (ls' := [_, _, _, _, _]) hG dX5_fondestPerson_5 rfl rfl ?_
  refine r_iconst (pc := 6) hG dX5_fondestPerson_6 ic_m1 ?_
  refine r_istore_n (pc := 7) (ls' := [_, _, _, _, _]) hG dX5_fondestPerson_7 rfl rfl ?_
  refine r_iconst (pc := 8) hG dX5_fondestPerson_8 ic_0 ?_
  refine r_istore (pc := 9) (ls' := [_, _, _, _, _]) hG dX5_fondestPerson_9 rfl rfl ?_
  have hb11 : bd (M.1 s 1 0) 9 := hpcs
  have hb11l := bd_lt hb11
  have lp11 : ∀ i, i ≤ (tn (M.1 s 1 0)) → ∀ b11 : Int32, b11 = itN i (st_X5_fondestPerson_11 M s a0) (-1) → J G K M 11 [some (rf K (iS s)), some (.int a0), some (.int (sp_X5_peopleHit M s a0)), some (.int b11), some (.int (nI i))] [] := by
    refine up_ind (tn (M.1 s 1 0)) (fun i hi11 ih11 => ?_)
    intro b11 hg11
    have hv11 : b11 = -1 ∨ bd (b11) 8 := by subst hg11; exact itN_inv (fun x => x = -1 ∨ bd x 8) i (Or.inl rfl) (fun k b hk hb => by unfold st_X5_fondestPerson_11; (repeat' split) <;> first | exact hb | exact Or.inr (bd_nI (by omega) (Nat.le_of_ble_eq_true rfl)))
    refine r_iload (pc := 11) hG dX5_fondestPerson_11 rfl ?_
    refine r_aload_n (pc := 13) hG dX5_fondestPerson_13 rfl ?_
    refine gf_X5_personCount (pc := 14) hs hG dX5_fondestPerson_14 tw_173 ?_
    refine r_icmp_ge (pc := 17) (tgt := 59) hG dX5_fondestPerson_17 (by decide) (fun c1 => ?_) (fun c1 => ?_)
    · have e11 : i = (tn (M.1 s 1 0)) := by have := (bd_le hb11 (by omega)).mp c1; omega
      subst hg11
      subst e11
      refine r_iload_n (pc := 59) hG dX5_fondestPerson_59 rfl ?_
      exact hret _ _ _ _ dX5_fondestPerson_60 (Eq.symm (by unfold sp_X5_fondestPerson; exact rfl)) rfl
    · have hl11 : i < (tn (M.1 s 1 0)) := by have := mt (bd_le hb11 (by omega)).mpr c1; omega
      refine r_iload_n (pc := 20) hG dX5_fondestPerson_20 rfl ?_
      refine r_iload (pc := 21) hG dX5_fondestPerson_21 rfl ?_
      refine r_ishr (pc := 23) hG dX5_fondestPerson_23 ?_
      refine r_iconst (pc := 24) hG dX5_fondestPerson_24 ic_1 ?_
      refine r_iand (pc := 25) hG dX5_fondestPerson_25 ?_
      refine r_if_eq (pc := 26) (tgt := 53) hG dX5_fondestPerson_26 (by decide) (fun c2 => ?_) (fun c2 => ?_)
      · refine r_iinc (pc := 53) (v := nI (i + 1)) (ls' := [_, _, _, _, _]) hG dX5_fondestPerson_53 rfl (nI_1 _) rfl rfl ?_
        refine r_goto (pc := 56) (tgt := 11) hG dX5_fondestPerson_56 (by decide) ?_
        have eN11 : b11 = st_X5_fondestPerson_11 M s a0 i (itN i (st_X5_fondestPerson_11 M s a0) (-1)) := by rw [← hg11]; unfold st_X5_fondestPerson_11; exact Eq.symm (if_pos c2)
        refine J.wk (ls' := [some (rf K (iS s)), some (.int a0), some (.int (sp_X5_peopleHit M s a0)), some (.int b11), some (.int (nI (i + 1)))]) ?_ (Eq.refl 5) (wk_s rfl (wk_s rfl (wk_s rfl (wk_s rfl (wk_s rfl wk_0)))))
        exact ih11 hl11 b11 eN11
      · refine r_iload_n (pc := 29) hG dX5_fondestPerson_29 rfl ?_
        refine r_iconst (pc := 30) hG dX5_fondestPerson_30 ic_m1 ?_
        refine r_icmp_eq (pc := 31) (tgt := 50) hG dX5_fondestPerson_31 (by decide) (fun c3 => ?_) (fun c3 => ?_)
        · refine r_iload (pc := 50) hG dX5_fondestPerson_50 rfl ?_
          refine r_istore_n (pc := 52) (ls' := [_, _, _, _, _]) hG dX5_fondestPerson_52 rfl rfl ?_
          refine r_iinc (pc := 53) (v := nI (i + 1)) (ls' := [_, _, _, _, _]) hG dX5_fondestPerson_53 rfl (nI_1 _) rfl rfl ?_
          refine r_goto (pc := 56) (tgt := 11) hG dX5_fondestPerson_56 (by decide) ?_
          have eN11 : nI i = st_X5_fondestPerson_11 M s a0 i (itN i (st_X5_fondestPerson_11 M s a0) (-1)) := by rw [← hg11]; unfold st_X5_fondestPerson_11; exact Eq.symm ((if_neg c2).trans (if_pos c3))
          refine J.wk (ls' := [some (rf K (iS s)), some (.int a0), some (.int (sp_X5_peopleHit M s a0)), some (.int (nI i)), some (.int (nI (i + 1)))]) ?_ (Eq.refl 5) (wk_s rfl (wk_s rfl (wk_s rfl (wk_s rfl (wk_s rfl wk_0)))))
          exact ih11 hl11 (nI i) eN11
        · refine r_aload_n (pc := 34) hG dX5_fondestPerson_34 rfl ?_
          refine r_iload_n (pc := 35) hG dX5_fondestPerson_35 rfl ?_
          refine r_iload (pc := 36) hG dX5_fondestPerson_36 rfl ?_
          refine cv_X5_fondness (pc := 38) hs hG dX5_fondestPerson_38 tw_1059 (c_X5_fondness hs ha0b (bd_nI (by omega) (Nat.le_of_ble_eq_true rfl))) (by decide) (Nat.le_of_ble_eq_true rfl) ?_
          refine r_aload_n (pc := 41) hG dX5_fondestPerson_41 rfl ?_
          refine r_iload_n (pc := 42) hG dX5_fondestPerson_42 rfl ?_
          refine r_iload_n (pc := 43) hG dX5_fondestPerson_43 rfl ?_
          refine cv_X5_fondness (pc := 44) hs hG dX5_fondestPerson_44 tw_1059 (c_X5_fondness hs ha0b (Or.resolve_left hv11 c3)) (by decide) (Nat.le_of_ble_eq_true rfl) ?_
          refine r_icmp_le (pc := 47) (tgt := 53) hG dX5_fondestPerson_47 (by decide) (fun c4 => ?_) (fun c4 => ?_)
          · refine r_iinc (pc := 53) (v := nI (i + 1)) (ls' := [_, _, _, _, _]) hG dX5_fondestPerson_53 rfl (nI_1 _) rfl rfl ?_
            refine r_goto (pc := 56) (tgt := 11) hG dX5_fondestPerson_56 (by decide) ?_
            have eN11 : b11 = st_X5_fondestPerson_11 M s a0 i (itN i (st_X5_fondestPerson_11 M s a0) (-1)) := by rw [← hg11]; unfold st_X5_fondestPerson_11; exact Eq.symm ((if_neg c2).trans ((if_neg c3).trans (if_pos c4)))
            refine J.wk (ls' := [some (rf K (iS s)), some (.int a0), some (.int (sp_X5_peopleHit M s a0)), some (.int b11), some (.int (nI (i + 1)))]) ?_ (Eq.refl 5) (wk_s rfl (wk_s rfl (wk_s rfl (wk_s rfl (wk_s rfl wk_0)))))
            exact ih11 hl11 b11 eN11
          · refine r_iload (pc := 50) hG dX5_fondestPerson_50 rfl ?_
            refine r_istore_n (pc := 52) (ls' := [_, _, _, _, _]) hG dX5_fondestPerson_52 rfl rfl ?_
            refine r_iinc (pc := 53) (v := nI (i + 1)) (ls' := [_, _, _, _, _]) hG dX5_fondestPerson_53 rfl (nI_1 _) rfl rfl ?_
            refine r_goto (pc := 56) (tgt := 11) hG dX5_fondestPerson_56 (by decide) ?_
            have eN11 : nI i = st_X5_fondestPerson_11 M s a0 i (itN i (st_X5_fondestPerson_11 M s a0) (-1)) := by rw [← hg11]; unfold st_X5_fondestPerson_11; exact Eq.symm ((if_neg c2).trans ((if_neg c3).trans (if_neg c4)))
            refine J.wk (ls' := [some (rf K (iS s)), some (.int a0), some (.int (sp_X5_peopleHit M s a0)), some (.int (nI i)), some (.int (nI (i + 1)))]) ?_ (Eq.refl 5) (wk_s rfl (wk_s rfl (wk_s rfl (wk_s rfl (wk_s rfl wk_0)))))
            exact ih11 hl11 (nI i) eN11
  exact (lp11 0 (Nat.zero_le _) _ rfl).wk (Eq.refl 5) (wk_s rfl (wk_s rfl (wk_s rfl (wk_s rfl (wk_s rfl wk_0)))))

def st_X5_fondestWindow_15 (M : MT) (s : Nat) (a0 : Int32) (i : Nat) (b15 : Int32) : Int32 :=
  if (((sp_X5_windowsOpenTo M s (sp_X5_cellsCaughtBy M s a0)) >>> ((nI i) &&& 31)) &&& 1) = 0 then
    b15
  else
    if b15 = (-1) then
      nI i
    else
      if (sp_X5_fondness M s (nI i) a0) ≤ (sp_X5_fondness M s b15 a0) then
        b15
      else
        nI i
def sp_X5_fondestWindow (M : MT) (s : Nat) (a0 : Int32) : Int32 :=
  itN (tn (M.1 s 0 0)) (st_X5_fondestWindow_15 M s a0) (-1)
set_option maxRecDepth 20000 in
theorem c_X5_fondestWindow {K : KT} {M : MT} {s : Nat} {a0 : Int32} (hs : s < 5) (ha0b : bd (a0) 8) (hoks : OKs M s) : CM K 6 yX5_fondestWindow cX5_fondestWindow 5 (some FieldType.int) [rf K (iS s), .int a0] M (some (.int (sp_X5_fondestWindow M s a0))) M := by
  refine CM.ofI (by decide) [some (rf K (iS s)), some (.int a0), none, none, none] rfl (Nat.le_of_ble_eq_true rfl) (Nat.le_of_ble_eq_true rfl) (fun G hG _ hret => ?_)
  obtain ⟨hwcs, hpcs, ⟨hcls, hcms⟩, hwis, hdas, hles, hk8s, ha8s, hWs, hPs⟩ := id hoks
  have hwls := bd_lt hwcs
  have hpls := bd_lt hpcs
  have hclsl := bd_lt hcls
  refine r_aload_n (pc := 0) hG dX5_fondestWindow_0 rfl ?_
  refine r_aload_n (pc := 1) hG dX5_fondestWindow_1 rfl ?_
  refine r_iload_n (pc := 2) hG dX5_fondestWindow_2 rfl ?_
  refine cv_X5_cellsCaughtBy (pc := 3) hs hG dX5_fondestWindow_3 tw_767 (c_X5_cellsCaughtBy hs ha0b hoks) (by decide) (Nat.le_of_ble_eq_true rfl) ?_
  refine cv_X5_windowsOpenTo (pc := 6) hs hG dX5_fondestWindow_6 tw_798 (c_X5_windowsOpenTo hs hoks) (by decide) (Nat.le_of_ble_eq_true rfl) ?_
  refine r_istore_n (pc := 9) (ls' := [_, _, _, _, _]) hG dX5_fondestWindow_9 rfl rfl ?_
  refine r_iconst (pc := 10) hG dX5_fondestWindow_10 ic_m1 ?_
  refine r_istore_n (pc := 11) (ls' := [_, _, _, _, _]) hG dX5_fondestWindow_11 rfl rfl ?_
  refine r_iconst (pc := 12) hG dX5_fondestWindow_12 ic_0 ?_
  refine r_istore (pc := 13) (ls' := [_, _, _, _, _]) hG dX5_fondestWindow_13 rfl rfl ?_
  have hb15 : bd (M.1 s 0 0) 9 := hwcs
  have hb15l := bd_lt hb15
  have lp15 : ∀ i, i ≤ (tn (M.1 s 0 0)) → ∀ b15 : Int32, b15 = itN i (st_X5_fondestWindow_15 M s a0) (-1) → J G K M 15 [some (rf K (iS s)), some (.int a0), some (.int (sp_X5_windowsOpenTo M s (sp_X5_cellsCaughtBy M s a0))), some (.int b15), some (.int (nI i))] [] := by
    refine up_ind (tn (M.1 s 0 0)) (fun i hi15 ih15 => ?_)
    intro b15 hg15
    have hv15 : b15 = -1 ∨ bd (b15) 8 := by subst hg15; exact itN_inv (fun x => x = -1 ∨ bd x 8) i (Or.inl rfl) (fun k b hk hb => by unfold st_X5_fondestWindow_15; (repeat' split) <;> first | exact hb | exact Or.inr (bd_nI (by omega) (Nat.le_of_ble_eq_true rfl)))
    refine r_iload (pc := 15) hG dX5_fondestWindow_15 rfl ?_
    refine r_aload_n (pc := 17) hG dX5_fondestWindow_17 rfl ?_
    refine gf_X5_windowCount (pc := 18) hs hG dX5_fondestWindow_18 tw_169 ?_
    refine r_icmp_ge (pc := 21) (tgt := 63) hG dX5_fondestWindow_21 (by decide) (fun c1 => ?_) (fun c1 => ?_)
    · have e15 : i = (tn (M.1 s 0 0)) := by have := (bd_le hb15 (by omega)).mp c1; omega
      subst hg15
      subst e15
      refine r_iload_n (pc := 63) hG dX5_fondestWindow_63 rfl ?_
      exact hret _ _ _ _ dX5_fondestWindow_64 (Eq.symm (by unfold sp_X5_fondestWindow; exact rfl)) rfl
    · have hl15 : i < (tn (M.1 s 0 0)) := by have := mt (bd_le hb15 (by omega)).mpr c1; omega
      refine r_iload_n (pc := 24) hG dX5_fondestWindow_24 rfl ?_
      refine r_iload (pc := 25) hG dX5_fondestWindow_25 rfl ?_
      refine r_ishr (pc := 27) hG dX5_fondestWindow_27 ?_
      refine r_iconst (pc := 28) hG dX5_fondestWindow_28 ic_1 ?_
      refine r_iand (pc := 29) hG dX5_fondestWindow_29 ?_
      refine r_if_eq (pc := 30) (tgt := 57) hG dX5_fondestWindow_30 (by decide) (fun c2 => ?_) (fun c2 => ?_)
      · refine r_iinc (pc := 57) (v := nI (i + 1)) (ls' := [_, _, _, _, _]) hG dX5_fondestWindow_57 rfl (nI_1 _) rfl rfl ?_
        refine r_goto (pc := 60) (tgt := 15) hG dX5_fondestWindow_60 (by decide) ?_
        have eN15 : b15 = st_X5_fondestWindow_15 M s a0 i (itN i (st_X5_fondestWindow_15 M s a0) (-1)) := by rw [← hg15]; unfold st_X5_fondestWindow_15; exact Eq.symm (if_pos c2)
        refine J.wk (ls' := [some (rf K (iS s)), some (.int a0), some (.int (sp_X5_windowsOpenTo M s (sp_X5_cellsCaughtBy M s a0))), some (.int b15), some (.int (nI (i + 1)))]) ?_ (Eq.refl 5) (wk_s rfl (wk_s rfl (wk_s rfl (wk_s rfl (wk_s rfl wk_0)))))
        exact ih15 hl15 b15 eN15
      · refine r_iload_n (pc := 33) hG dX5_fondestWindow_33 rfl ?_
        refine r_iconst (pc := 34) hG dX5_fondestWindow_34 ic_m1 ?_
        refine r_icmp_eq (pc := 35) (tgt := 54) hG dX5_fondestWindow_35 (by decide) (fun c3 => ?_) (fun c3 => ?_)
        · refine r_iload (pc := 54) hG dX5_fondestWindow_54 rfl ?_
          refine r_istore_n (pc := 56) (ls' := [_, _, _, _, _]) hG dX5_fondestWindow_56 rfl rfl ?_
          refine r_iinc (pc := 57) (v := nI (i + 1)) (ls' := [_, _, _, _, _]) hG dX5_fondestWindow_57 rfl (nI_1 _) rfl rfl ?_
          refine r_goto (pc := 60) (tgt := 15) hG dX5_fondestWindow_60 (by decide) ?_
          have eN15 : nI i = st_X5_fondestWindow_15 M s a0 i (itN i (st_X5_fondestWindow_15 M s a0) (-1)) := by rw [← hg15]; unfold st_X5_fondestWindow_15; exact Eq.symm ((if_neg c2).trans (if_pos c3))
          refine J.wk (ls' := [some (rf K (iS s)), some (.int a0), some (.int (sp_X5_windowsOpenTo M s (sp_X5_cellsCaughtBy M s a0))), some (.int (nI i)), some (.int (nI (i + 1)))]) ?_ (Eq.refl 5) (wk_s rfl (wk_s rfl (wk_s rfl (wk_s rfl (wk_s rfl wk_0)))))
          exact ih15 hl15 (nI i) eN15
        · refine r_aload_n (pc := 38) hG dX5_fondestWindow_38 rfl ?_
          refine r_iload (pc := 39) hG dX5_fondestWindow_39 rfl ?_
          refine r_iload_n (pc := 41) hG dX5_fondestWindow_41 rfl ?_
          refine cv_X5_fondness (pc := 42) hs hG dX5_fondestWindow_42 tw_1059 (c_X5_fondness hs (bd_nI (by omega) (Nat.le_of_ble_eq_true rfl)) ha0b) (by decide) (Nat.le_of_ble_eq_true rfl) ?_
          refine r_aload_n (pc := 45) hG dX5_fondestWindow_45 rfl ?_
          refine r_iload_n (pc := 46) hG dX5_fondestWindow_46 rfl ?_
          refine r_iload_n (pc := 47) hG dX5_fondestWindow_47 rfl ?_
          refine cv_X5_fondness (pc := 48) hs hG dX5_fondestWindow_48 tw_1059 (c_X5_fondness hs (Or.resolve_left hv15 c3) ha0b) (by decide) (Nat.le_of_ble_eq_true rfl) ?_
          refine r_icmp_le (pc := 51) (tgt := 57) hG dX5_fondestWindow_51 (by decide) (fun c4 => ?_) (fun c4 => ?_)
          · refine r_iinc (pc := 57) (v := nI (i + 1)) (ls' := [_, _, _, _, _]) hG dX5_fondestWindow_57 rfl (nI_1 _) rfl rfl ?_
            refine r_goto (pc := 60) (tgt := 15) hG dX5_fondestWindow_60 (by decide) ?_
            have eN15 : b15 = st_X5_fondestWindow_15 M s a0 i (itN i (st_X5_fondestWindow_15 M s a0) (-1)) := by rw [← hg15]; unfold st_X5_fondestWindow_15; exact Eq.symm ((if_neg c2).trans ((if_neg c3).trans (if_pos c4)))
            refine J.wk (ls' := [some (rf K (iS s)), some (.int a0), some (.int (sp_X5_windowsOpenTo M s (sp_X5_cellsCaughtBy M s a0))), some (.int b15), some (.int (nI (i + 1)))]) ?_ (Eq.refl 5) (wk_s rfl (wk_s rfl (wk_s rfl (wk_s rfl (wk_s rfl wk_0)))))
            exact ih15 hl15 b15 eN15
          · refine r_iload (pc := 54) hG dX5_fondestWindow_54 rfl ?_
            refine r_istore_n (pc := 56) (ls' := [_, _, _, _, _]) hG dX5_fondestWindow_56 rfl rfl ?_
            refine r_iinc (pc := 57) (v := nI (i + 1)) (ls' := [_, _, _, _, _]) hG dX5_fondestWindow_57 rfl (nI_1 _) rfl rfl ?_
            refine r_goto (pc := 60) (tgt := 15) hG dX5_fondestWindow_60 (by decide) ?_
            have eN15 : nI i = st_X5_fondestWindow_15 M s a0 i (itN i (st_X5_fondestWindow_15 M s a0) (-1)) := by rw [← hg15]; unfold st_X5_fondestWindow_15; exact Eq.symm ((if_neg c2).trans ((if_neg c3).trans (if_neg c4)))
            refine J.wk (ls' := [some (rf K (iS s)), some (.int a0), some (.int (sp_X5_windowsOpenTo M s (sp_X5_cellsCaughtBy M s a0))), some (.int (nI i)), some (.int (nI (i + 1)))]) ?_ (Eq.refl 5) (wk_s rfl (wk_s rfl (wk_s rfl (wk_s rfl (wk_s rfl wk_0)))))
            exact ih15 hl15 (nI i) eN15
  exact (lp15 0 (Nat.zero_le _) _ rfl).wk (Eq.refl 5) (wk_s rfl (wk_s rfl (wk_s rfl (wk_s rfl (wk_s rfl wk_0)))))

def st_X5_windowsTooLate_4 (M : MT) (s : Nat) (a0 : Int32) (i : Nat) (b4 : Int32) : Int32 :=
  if (sp_X5_dueDay M s a0 (nI i)) = (-1) then
    b4 ||| (1 <<< ((nI i) &&& 31))
  else
    b4
def sp_X5_windowsTooLate (M : MT) (s : Nat) (a0 : Int32) : Int32 :=
  itN (tn (M.1 s 0 0)) (st_X5_windowsTooLate_4 M s a0) 0
set_option maxRecDepth 20000 in
theorem c_X5_windowsTooLate {K : KT} {M : MT} {s : Nat} {a0 : Int32} (hs : s < 5) (ha0b : bd (a0) 8) (hoks : OKs M s) : CM K 5 yX5_windowsTooLate cX5_windowsTooLate 4 (some FieldType.int) [rf K (iS s), .int a0] M (some (.int (sp_X5_windowsTooLate M s a0))) M := by
  refine CM.ofI (by decide) [some (rf K (iS s)), some (.int a0), none, none] rfl (Nat.le_of_ble_eq_true rfl) (Nat.le_of_ble_eq_true rfl) (fun G hG _ hret => ?_)
  obtain ⟨hwcs, hpcs, ⟨hcls, hcms⟩, hwis, hdas, hles, hk8s, ha8s, hWs, hPs⟩ := id hoks
  have hwls := bd_lt hwcs
  have hpls := bd_lt hpcs
  have hclsl := bd_lt hcls
  refine r_iconst (pc := 0) hG dX5_windowsTooLate_0 ic_0 ?_
  refine r_istore_n (pc := 1) (ls' := [_, _, _, _]) hG dX5_windowsTooLate_1 rfl rfl ?_
  refine r_iconst (pc := 2) hG dX5_windowsTooLate_2 ic_0 ?_
  refine r_istore_n (pc := 3) (ls' := [_, _, _, _]) hG dX5_windowsTooLate_3 rfl rfl ?_
  have hb4 : bd (M.1 s 0 0) 9 := hwcs
  have hb4l := bd_lt hb4
  have lp4 : ∀ i, i ≤ (tn (M.1 s 0 0)) → ∀ b4 : Int32, b4 = itN i (st_X5_windowsTooLate_4 M s a0) 0 → J G K M 4 [some (rf K (iS s)), some (.int a0), some (.int b4), some (.int (nI i))] [] := by
    refine up_ind (tn (M.1 s 0 0)) (fun i hi4 ih4 => ?_)
    intro b4 hg4
    refine r_iload_n (pc := 4) hG dX5_windowsTooLate_4 rfl ?_
    refine r_aload_n (pc := 5) hG dX5_windowsTooLate_5 rfl ?_
    refine gf_X5_windowCount (pc := 6) hs hG dX5_windowsTooLate_6 tw_169 ?_
    refine r_icmp_ge (pc := 9) (tgt := 34) hG dX5_windowsTooLate_9 (by decide) (fun c1 => ?_) (fun c1 => ?_)
    · have e4 : i = (tn (M.1 s 0 0)) := by have := (bd_le hb4 (by omega)).mp c1; omega
      subst hg4
      subst e4
      refine r_iload_n (pc := 34) hG dX5_windowsTooLate_34 rfl ?_
      exact hret _ _ _ _ dX5_windowsTooLate_35 (Eq.symm (by unfold sp_X5_windowsTooLate; exact rfl)) rfl
    · have hl4 : i < (tn (M.1 s 0 0)) := by have := mt (bd_le hb4 (by omega)).mpr c1; omega
      refine r_aload_n (pc := 12) hG dX5_windowsTooLate_12 rfl ?_
      refine r_iload_n (pc := 13) hG dX5_windowsTooLate_13 rfl ?_
      refine r_iload_n (pc := 14) hG dX5_windowsTooLate_14 rfl ?_
      refine cv_X5_dueDay (pc := 15) hs hG dX5_windowsTooLate_15 tw_1084 (c_X5_dueDay hs ha0b (bd_nI (by omega) (Nat.le_of_ble_eq_true rfl))) (by decide) (Nat.le_of_ble_eq_true rfl) ?_
      refine r_iconst (pc := 18) hG dX5_windowsTooLate_18 ic_m1 ?_
      refine r_icmp_ne (pc := 19) (tgt := 28) hG dX5_windowsTooLate_19 (by decide) (fun c2 => ?_) (fun c2 => ?_)
      · refine r_iinc (pc := 28) (v := nI (i + 1)) (ls' := [_, _, _, _]) hG dX5_windowsTooLate_28 rfl (nI_1 _) rfl rfl ?_
        refine r_goto (pc := 31) (tgt := 4) hG dX5_windowsTooLate_31 (by decide) ?_
        have eN4 : b4 = st_X5_windowsTooLate_4 M s a0 i (itN i (st_X5_windowsTooLate_4 M s a0) 0) := by rw [← hg4]; unfold st_X5_windowsTooLate_4; exact Eq.symm (if_neg c2)
        refine J.wk (ls' := [some (rf K (iS s)), some (.int a0), some (.int b4), some (.int (nI (i + 1)))]) ?_ (Eq.refl 4) (wk_s rfl (wk_s rfl (wk_s rfl (wk_s rfl wk_0))))
        exact ih4 hl4 b4 eN4
      · refine r_iload_n (pc := 22) hG dX5_windowsTooLate_22 rfl ?_
        refine r_iconst (pc := 23) hG dX5_windowsTooLate_23 ic_1 ?_
        refine r_iload_n (pc := 24) hG dX5_windowsTooLate_24 rfl ?_
        refine r_ishl (pc := 25) hG dX5_windowsTooLate_25 ?_
        refine r_ior (pc := 26) hG dX5_windowsTooLate_26 ?_
        refine r_istore_n (pc := 27) (ls' := [_, _, _, _]) hG dX5_windowsTooLate_27 rfl rfl ?_
        refine r_iinc (pc := 28) (v := nI (i + 1)) (ls' := [_, _, _, _]) hG dX5_windowsTooLate_28 rfl (nI_1 _) rfl rfl ?_
        refine r_goto (pc := 31) (tgt := 4) hG dX5_windowsTooLate_31 (by decide) ?_
        have eN4 : b4 ||| (1 <<< ((nI i) &&& 31)) = st_X5_windowsTooLate_4 M s a0 i (itN i (st_X5_windowsTooLate_4 M s a0) 0) := by rw [← hg4]; unfold st_X5_windowsTooLate_4; exact Eq.symm (if_pos c2)
        refine J.wk (ls' := [some (rf K (iS s)), some (.int a0), some (.int (b4 ||| (1 <<< ((nI i) &&& 31)))), some (.int (nI (i + 1)))]) ?_ (Eq.refl 4) (wk_s rfl (wk_s rfl (wk_s rfl (wk_s rfl wk_0))))
        exact ih4 hl4 (b4 ||| (1 <<< ((nI i) &&& 31))) eN4
  exact (lp4 0 (Nat.zero_le _) _ rfl).wk (Eq.refl 4) (wk_s rfl (wk_s rfl (wk_s rfl (wk_s rfl wk_0))))

def st_X5_countKind_4 (M : MT) (s : Nat) (a0 : Int32) (i : Nat) (b4 : Int32) : Int32 :=
  if (M.1 s 9 i) = a0 then
    b4 + 1
  else
    b4
def sp_X5_countKind (M : MT) (s : Nat) (a0 : Int32) : Int32 :=
  itN (tn (M.1 s 1 0)) (st_X5_countKind_4 M s a0) 0
set_option maxRecDepth 20000 in
theorem c_X5_countKind {K : KT} {M : MT} {s : Nat} {a0 : Int32} (hs : s < 5) (hoks : OKs M s) : CM K 1 yX5_countKind cX5_countKind 4 (some FieldType.int) [rf K (iS s), .int a0] M (some (.int (sp_X5_countKind M s a0))) M := by
  refine CM.ofI (by decide) [some (rf K (iS s)), some (.int a0), none, none] rfl (Nat.le_of_ble_eq_true rfl) (Nat.le_of_ble_eq_true rfl) (fun G hG _ hret => ?_)
  obtain ⟨hwcs, hpcs, ⟨hcls, hcms⟩, hwis, hdas, hles, hk8s, ha8s, hWs, hPs⟩ := id hoks
  have hwls := bd_lt hwcs
  have hpls := bd_lt hpcs
  have hclsl := bd_lt hcls
  refine r_iconst (pc := 0) hG dX5_countKind_0 ic_0 ?_
  refine r_istore_n (pc := 1) (ls' := [_, _, _, _]) hG dX5_countKind_1 rfl rfl ?_
  refine r_iconst (pc := 2) hG dX5_countKind_2 ic_0 ?_
  refine r_istore_n (pc := 3) (ls' := [_, _, _, _]) hG dX5_countKind_3 rfl rfl ?_
  have hb4 : bd (M.1 s 1 0) 9 := hpcs
  have hb4l := bd_lt hb4
  have lp4 : ∀ i, i ≤ (tn (M.1 s 1 0)) → ∀ b4 : Int32, b4 = itN i (st_X5_countKind_4 M s a0) 0 → J G K M 4 [some (rf K (iS s)), some (.int a0), some (.int b4), some (.int (nI i))] [] := by
    refine up_ind (tn (M.1 s 1 0)) (fun i hi4 ih4 => ?_)
    intro b4 hg4
    refine r_iload_n (pc := 4) hG dX5_countKind_4 rfl ?_
    refine r_aload_n (pc := 5) hG dX5_countKind_5 rfl ?_
    refine gf_X5_personCount (pc := 6) hs hG dX5_countKind_6 tw_173 ?_
    refine r_icmp_ge (pc := 9) (tgt := 34) hG dX5_countKind_9 (by decide) (fun c1 => ?_) (fun c1 => ?_)
    · have e4 : i = (tn (M.1 s 1 0)) := by have := (bd_le hb4 (by omega)).mp c1; omega
      subst hg4
      subst e4
      refine r_iload_n (pc := 34) hG dX5_countKind_34 rfl ?_
      exact hret _ _ _ _ dX5_countKind_35 (Eq.symm (by unfold sp_X5_countKind; exact rfl)) rfl
    · have hl4 : i < (tn (M.1 s 1 0)) := by have := mt (bd_le hb4 (by omega)).mpr c1; omega
      refine r_aload_n (pc := 12) hG dX5_countKind_12 rfl ?_
      refine gf_X5_people (pc := 13) hs hG dX5_countKind_13 tw_164 ?_
      refine r_iload_n (pc := 16) hG dX5_countKind_16 rfl ?_
      refine aa_PA (pc := 17) hs hG dX5_countKind_17 (ix_nI (by omega) (Nat.le_of_ble_eq_true rfl)) ?_
      refine gf_X2_kind (pc := 18) hs (by omega) hG dX5_countKind_18 tw_136 ?_
      refine r_iload_n (pc := 21) hG dX5_countKind_21 rfl ?_
      refine r_icmp_ne (pc := 22) (tgt := 28) hG dX5_countKind_22 (by decide) (fun c2 => ?_) (fun c2 => ?_)
      · refine r_iinc (pc := 28) (v := nI (i + 1)) (ls' := [_, _, _, _]) hG dX5_countKind_28 rfl (nI_1 _) rfl rfl ?_
        refine r_goto (pc := 31) (tgt := 4) hG dX5_countKind_31 (by decide) ?_
        have eN4 : b4 = st_X5_countKind_4 M s a0 i (itN i (st_X5_countKind_4 M s a0) 0) := by rw [← hg4]; unfold st_X5_countKind_4; exact Eq.symm (if_neg c2)
        refine J.wk (ls' := [some (rf K (iS s)), some (.int a0), some (.int b4), some (.int (nI (i + 1)))]) ?_ (Eq.refl 4) (wk_s rfl (wk_s rfl (wk_s rfl (wk_s rfl wk_0))))
        exact ih4 hl4 b4 eN4
      · refine r_iinc (pc := 25) (v := b4 + 1) (ls' := [_, _, _, _]) hG dX5_countKind_25 rfl rfl rfl rfl ?_
        refine r_iinc (pc := 28) (v := nI (i + 1)) (ls' := [_, _, _, _]) hG dX5_countKind_28 rfl (nI_1 _) rfl rfl ?_
        refine r_goto (pc := 31) (tgt := 4) hG dX5_countKind_31 (by decide) ?_
        have eN4 : b4 + 1 = st_X5_countKind_4 M s a0 i (itN i (st_X5_countKind_4 M s a0) 0) := by rw [← hg4]; unfold st_X5_countKind_4; exact Eq.symm (if_pos c2)
        refine J.wk (ls' := [some (rf K (iS s)), some (.int a0), some (.int (b4 + 1)), some (.int (nI (i + 1)))]) ?_ (Eq.refl 4) (wk_s rfl (wk_s rfl (wk_s rfl (wk_s rfl wk_0))))
        exact ih4 hl4 (b4 + 1) eN4
  exact (lp4 0 (Nat.zero_le _) _ rfl).wk (Eq.refl 4) (wk_s rfl (wk_s rfl (wk_s rfl (wk_s rfl wk_0))))

def st_X5_roseBearers_4 (M : MT) (s : Nat) (a0 : Int32) (i : Nat) (b4 : Int32) : Int32 :=
  if (M.1 s 12 i) = (-1) then
    b4
  else
    if a0 = 0 then
      b4 ||| (1 <<< ((nI i) &&& 31))
    else
      if (M.1 s 13 i) = (-1) then
        b4 ||| (1 <<< ((nI i) &&& 31))
      else
        b4
def sp_X5_roseBearers (M : MT) (s : Nat) (a0 : Int32) : Int32 :=
  itN (tn (M.1 s 1 0)) (st_X5_roseBearers_4 M s a0) 0
set_option maxRecDepth 20000 in
theorem c_X5_roseBearers {K : KT} {M : MT} {s : Nat} {a0 : Int32} (hs : s < 5) (hoks : OKs M s) : CM K 1 yX5_roseBearers cX5_roseBearers 4 (some FieldType.int) [rf K (iS s), .int a0] M (some (.int (sp_X5_roseBearers M s a0))) M := by
  refine CM.ofI (by decide) [some (rf K (iS s)), some (.int a0), none, none] rfl (Nat.le_of_ble_eq_true rfl) (Nat.le_of_ble_eq_true rfl) (fun G hG _ hret => ?_)
  obtain ⟨hwcs, hpcs, ⟨hcls, hcms⟩, hwis, hdas, hles, hk8s, ha8s, hWs, hPs⟩ := id hoks
  have hwls := bd_lt hwcs
  have hpls := bd_lt hpcs
  have hclsl := bd_lt hcls
  refine r_iconst (pc := 0) hG dX5_roseBearers_0 ic_0 ?_
  refine r_istore_n (pc := 1) (ls' := [_, _, _, _]) hG dX5_roseBearers_1 rfl rfl ?_
  refine r_iconst (pc := 2) hG dX5_roseBearers_2 ic_0 ?_
  refine r_istore_n (pc := 3) (ls' := [_, _, _, _]) hG dX5_roseBearers_3 rfl rfl ?_
  have hb4 : bd (M.1 s 1 0) 9 := hpcs
  have hb4l := bd_lt hb4
  have lp4 : ∀ i, i ≤ (tn (M.1 s 1 0)) → ∀ b4 : Int32, b4 = itN i (st_X5_roseBearers_4 M s a0) 0 → J G K M 4 [some (rf K (iS s)), some (.int a0), some (.int b4), some (.int (nI i))] [] := by
    refine up_ind (tn (M.1 s 1 0)) (fun i hi4 ih4 => ?_)
    intro b4 hg4
    refine r_iload_n (pc := 4) hG dX5_roseBearers_4 rfl ?_
    refine r_aload_n (pc := 5) hG dX5_roseBearers_5 rfl ?_
    refine gf_X5_personCount (pc := 6) hs hG dX5_roseBearers_6 tw_173 ?_
    refine r_icmp_ge (pc := 9) (tgt := 54) hG dX5_roseBearers_9 (by decide) (fun c1 => ?_) (fun c1 => ?_)
    · have e4 : i = (tn (M.1 s 1 0)) := by have := (bd_le hb4 (by omega)).mp c1; omega
      subst hg4
      subst e4
      refine r_iload_n (pc := 54) hG dX5_roseBearers_54 rfl ?_
      exact hret _ _ _ _ dX5_roseBearers_55 (Eq.symm (by unfold sp_X5_roseBearers; exact rfl)) rfl
    · have hl4 : i < (tn (M.1 s 1 0)) := by have := mt (bd_le hb4 (by omega)).mpr c1; omega
      refine r_aload_n (pc := 12) hG dX5_roseBearers_12 rfl ?_
      refine gf_X5_people (pc := 13) hs hG dX5_roseBearers_13 tw_164 ?_
      refine r_iload_n (pc := 16) hG dX5_roseBearers_16 rfl ?_
      refine aa_PA (pc := 17) hs hG dX5_roseBearers_17 (ix_nI (by omega) (Nat.le_of_ble_eq_true rfl)) ?_
      refine gf_X2_rose (pc := 18) hs (by omega) hG dX5_roseBearers_18 tw_146 ?_
      refine r_iconst (pc := 21) hG dX5_roseBearers_21 ic_m1 ?_
      refine r_icmp_eq (pc := 22) (tgt := 48) hG dX5_roseBearers_22 (by decide) (fun c2 => ?_) (fun c2 => ?_)
      · refine r_iinc (pc := 48) (v := nI (i + 1)) (ls' := [_, _, _, _]) hG dX5_roseBearers_48 rfl (nI_1 _) rfl rfl ?_
        refine r_goto (pc := 51) (tgt := 4) hG dX5_roseBearers_51 (by decide) ?_
        have eN4 : b4 = st_X5_roseBearers_4 M s a0 i (itN i (st_X5_roseBearers_4 M s a0) 0) := by rw [← hg4]; unfold st_X5_roseBearers_4; exact Eq.symm (if_pos c2)
        refine J.wk (ls' := [some (rf K (iS s)), some (.int a0), some (.int b4), some (.int (nI (i + 1)))]) ?_ (Eq.refl 4) (wk_s rfl (wk_s rfl (wk_s rfl (wk_s rfl wk_0))))
        exact ih4 hl4 b4 eN4
      · refine r_iload_n (pc := 25) hG dX5_roseBearers_25 rfl ?_
        refine r_if_eq (pc := 26) (tgt := 42) hG dX5_roseBearers_26 (by decide) (fun c3 => ?_) (fun c3 => ?_)
        · refine r_iload_n (pc := 42) hG dX5_roseBearers_42 rfl ?_
          refine r_iconst (pc := 43) hG dX5_roseBearers_43 ic_1 ?_
          refine r_iload_n (pc := 44) hG dX5_roseBearers_44 rfl ?_
          refine r_ishl (pc := 45) hG dX5_roseBearers_45 ?_
          refine r_ior (pc := 46) hG dX5_roseBearers_46 ?_
          refine r_istore_n (pc := 47) (ls' := [_, _, _, _]) hG dX5_roseBearers_47 rfl rfl ?_
          refine r_iinc (pc := 48) (v := nI (i + 1)) (ls' := [_, _, _, _]) hG dX5_roseBearers_48 rfl (nI_1 _) rfl rfl ?_
          refine r_goto (pc := 51) (tgt := 4) hG dX5_roseBearers_51 (by decide) ?_
          have eN4 : b4 ||| (1 <<< ((nI i) &&& 31)) = st_X5_roseBearers_4 M s a0 i (itN i (st_X5_roseBearers_4 M s a0) 0) := by rw [← hg4]; unfold st_X5_roseBearers_4; exact Eq.symm ((if_neg c2).trans (if_pos c3))
          refine J.wk (ls' := [some (rf K (iS s)), some (.int a0), some (.int (b4 ||| (1 <<< ((nI i) &&& 31)))), some (.int (nI (i + 1)))]) ?_ (Eq.refl 4) (wk_s rfl (wk_s rfl (wk_s rfl (wk_s rfl wk_0))))
          exact ih4 hl4 (b4 ||| (1 <<< ((nI i) &&& 31))) eN4
        · refine r_aload_n (pc := 29) hG dX5_roseBearers_29 rfl ?_
          refine gf_X5_people (pc := 30) hs hG dX5_roseBearers_30 tw_164 ?_
          refine r_iload_n (pc := 33) hG dX5_roseBearers_33 rfl ?_
          refine aa_PA (pc := 34) hs hG dX5_roseBearers_34 (ix_nI (by omega) (Nat.le_of_ble_eq_true rfl)) ?_
          refine gf_X2_due (pc := 35) hs (by omega) hG dX5_roseBearers_35 tw_150 ?_
          refine r_iconst (pc := 38) hG dX5_roseBearers_38 ic_m1 ?_
          refine r_icmp_ne (pc := 39) (tgt := 48) hG dX5_roseBearers_39 (by decide) (fun c4 => ?_) (fun c4 => ?_)
          · refine r_iinc (pc := 48) (v := nI (i + 1)) (ls' := [_, _, _, _]) hG dX5_roseBearers_48 rfl (nI_1 _) rfl rfl ?_
            refine r_goto (pc := 51) (tgt := 4) hG dX5_roseBearers_51 (by decide) ?_
            have eN4 : b4 = st_X5_roseBearers_4 M s a0 i (itN i (st_X5_roseBearers_4 M s a0) 0) := by rw [← hg4]; unfold st_X5_roseBearers_4; exact Eq.symm ((if_neg c2).trans ((if_neg c3).trans (if_neg c4)))
            refine J.wk (ls' := [some (rf K (iS s)), some (.int a0), some (.int b4), some (.int (nI (i + 1)))]) ?_ (Eq.refl 4) (wk_s rfl (wk_s rfl (wk_s rfl (wk_s rfl wk_0))))
            exact ih4 hl4 b4 eN4
          · refine r_iload_n (pc := 42) hG dX5_roseBearers_42 rfl ?_
            refine r_iconst (pc := 43) hG dX5_roseBearers_43 ic_1 ?_
            refine r_iload_n (pc := 44) hG dX5_roseBearers_44 rfl ?_
            refine r_ishl (pc := 45) hG dX5_roseBearers_45 ?_
            refine r_ior (pc := 46) hG dX5_roseBearers_46 ?_
            refine r_istore_n (pc := 47) (ls' := [_, _, _, _]) hG dX5_roseBearers_47 rfl rfl ?_
            refine r_iinc (pc := 48) (v := nI (i + 1)) (ls' := [_, _, _, _]) hG dX5_roseBearers_48 rfl (nI_1 _) rfl rfl ?_
            refine r_goto (pc := 51) (tgt := 4) hG dX5_roseBearers_51 (by decide) ?_
            have eN4 : b4 ||| (1 <<< ((nI i) &&& 31)) = st_X5_roseBearers_4 M s a0 i (itN i (st_X5_roseBearers_4 M s a0) 0) := by rw [← hg4]; unfold st_X5_roseBearers_4; exact Eq.symm ((if_neg c2).trans ((if_neg c3).trans (if_pos c4)))
            refine J.wk (ls' := [some (rf K (iS s)), some (.int a0), some (.int (b4 ||| (1 <<< ((nI i) &&& 31)))), some (.int (nI (i + 1)))]) ?_ (Eq.refl 4) (wk_s rfl (wk_s rfl (wk_s rfl (wk_s rfl wk_0))))
            exact ih4 hl4 (b4 ||| (1 <<< ((nI i) &&& 31))) eN4
  exact (lp4 0 (Nat.zero_le _) _ rfl).wk (Eq.refl 4) (wk_s rfl (wk_s rfl (wk_s rfl (wk_s rfl wk_0))))

def st_X5_dueOn_4 (M : MT) (s : Nat) (a0 : Int32) (i : Nat) (b4 : Int32) : Int32 :=
  if (M.1 s 13 i) = (-1) then
    b4
  else
    if (M.1 s 13 i) = a0 then
      b4 ||| (1 <<< ((nI i) &&& 31))
    else
      b4
def sp_X5_dueOn (M : MT) (s : Nat) (a0 : Int32) : Int32 :=
  itN (tn (M.1 s 1 0)) (st_X5_dueOn_4 M s a0) 0
set_option maxRecDepth 20000 in
theorem c_X5_dueOn {K : KT} {M : MT} {s : Nat} {a0 : Int32} (hs : s < 5) (hoks : OKs M s) : CM K 1 yX5_dueOn cX5_dueOn 4 (some FieldType.int) [rf K (iS s), .int a0] M (some (.int (sp_X5_dueOn M s a0))) M := by
  refine CM.ofI (by decide) [some (rf K (iS s)), some (.int a0), none, none] rfl (Nat.le_of_ble_eq_true rfl) (Nat.le_of_ble_eq_true rfl) (fun G hG _ hret => ?_)
  obtain ⟨hwcs, hpcs, ⟨hcls, hcms⟩, hwis, hdas, hles, hk8s, ha8s, hWs, hPs⟩ := id hoks
  have hwls := bd_lt hwcs
  have hpls := bd_lt hpcs
  have hclsl := bd_lt hcls
  refine r_iconst (pc := 0) hG dX5_dueOn_0 ic_0 ?_
  refine r_istore_n (pc := 1) (ls' := [_, _, _, _]) hG dX5_dueOn_1 rfl rfl ?_
  refine r_iconst (pc := 2) hG dX5_dueOn_2 ic_0 ?_
  refine r_istore_n (pc := 3) (ls' := [_, _, _, _]) hG dX5_dueOn_3 rfl rfl ?_
  have hb4 : bd (M.1 s 1 0) 9 := hpcs
  have hb4l := bd_lt hb4
  have lp4 : ∀ i, i ≤ (tn (M.1 s 1 0)) → ∀ b4 : Int32, b4 = itN i (st_X5_dueOn_4 M s a0) 0 → J G K M 4 [some (rf K (iS s)), some (.int a0), some (.int b4), some (.int (nI i))] [] := by
    refine up_ind (tn (M.1 s 1 0)) (fun i hi4 ih4 => ?_)
    intro b4 hg4
    refine r_iload_n (pc := 4) hG dX5_dueOn_4 rfl ?_
    refine r_aload_n (pc := 5) hG dX5_dueOn_5 rfl ?_
    refine gf_X5_personCount (pc := 6) hs hG dX5_dueOn_6 tw_173 ?_
    refine r_icmp_ge (pc := 9) (tgt := 50) hG dX5_dueOn_9 (by decide) (fun c1 => ?_) (fun c1 => ?_)
    · have e4 : i = (tn (M.1 s 1 0)) := by have := (bd_le hb4 (by omega)).mp c1; omega
      subst hg4
      subst e4
      refine r_iload_n (pc := 50) hG dX5_dueOn_50 rfl ?_
      exact hret _ _ _ _ dX5_dueOn_51 (Eq.symm (by unfold sp_X5_dueOn; exact rfl)) rfl
    · have hl4 : i < (tn (M.1 s 1 0)) := by have := mt (bd_le hb4 (by omega)).mpr c1; omega
      refine r_aload_n (pc := 12) hG dX5_dueOn_12 rfl ?_
      refine gf_X5_people (pc := 13) hs hG dX5_dueOn_13 tw_164 ?_
      refine r_iload_n (pc := 16) hG dX5_dueOn_16 rfl ?_
      refine aa_PA (pc := 17) hs hG dX5_dueOn_17 (ix_nI (by omega) (Nat.le_of_ble_eq_true rfl)) ?_
      refine gf_X2_due (pc := 18) hs (by omega) hG dX5_dueOn_18 tw_150 ?_
      refine r_iconst (pc := 21) hG dX5_dueOn_21 ic_m1 ?_
      refine r_icmp_eq (pc := 22) (tgt := 44) hG dX5_dueOn_22 (by decide) (fun c2 => ?_) (fun c2 => ?_)
      · refine r_iinc (pc := 44) (v := nI (i + 1)) (ls' := [_, _, _, _]) hG dX5_dueOn_44 rfl (nI_1 _) rfl rfl ?_
        refine r_goto (pc := 47) (tgt := 4) hG dX5_dueOn_47 (by decide) ?_
        have eN4 : b4 = st_X5_dueOn_4 M s a0 i (itN i (st_X5_dueOn_4 M s a0) 0) := by rw [← hg4]; unfold st_X5_dueOn_4; exact Eq.symm (if_pos c2)
        refine J.wk (ls' := [some (rf K (iS s)), some (.int a0), some (.int b4), some (.int (nI (i + 1)))]) ?_ (Eq.refl 4) (wk_s rfl (wk_s rfl (wk_s rfl (wk_s rfl wk_0))))
        exact ih4 hl4 b4 eN4
      · refine r_aload_n (pc := 25) hG dX5_dueOn_25 rfl ?_
        refine gf_X5_people (pc := 26) hs hG dX5_dueOn_26 tw_164 ?_
        refine r_iload_n (pc := 29) hG dX5_dueOn_29 rfl ?_
        refine aa_PA (pc := 30) hs hG dX5_dueOn_30 (ix_nI (by omega) (Nat.le_of_ble_eq_true rfl)) ?_
        refine gf_X2_due (pc := 31) hs (by omega) hG dX5_dueOn_31 tw_150 ?_
        refine r_iload_n (pc := 34) hG dX5_dueOn_34 rfl ?_
        refine r_icmp_ne (pc := 35) (tgt := 44) hG dX5_dueOn_35 (by decide) (fun c3 => ?_) (fun c3 => ?_)
        · refine r_iinc (pc := 44) (v := nI (i + 1)) (ls' := [_, _, _, _]) hG dX5_dueOn_44 rfl (nI_1 _) rfl rfl ?_
          refine r_goto (pc := 47) (tgt := 4) hG dX5_dueOn_47 (by decide) ?_
          have eN4 : b4 = st_X5_dueOn_4 M s a0 i (itN i (st_X5_dueOn_4 M s a0) 0) := by rw [← hg4]; unfold st_X5_dueOn_4; exact Eq.symm ((if_neg c2).trans (if_neg c3))
          refine J.wk (ls' := [some (rf K (iS s)), some (.int a0), some (.int b4), some (.int (nI (i + 1)))]) ?_ (Eq.refl 4) (wk_s rfl (wk_s rfl (wk_s rfl (wk_s rfl wk_0))))
          exact ih4 hl4 b4 eN4
        · refine r_iload_n (pc := 38) hG dX5_dueOn_38 rfl ?_
          refine r_iconst (pc := 39) hG dX5_dueOn_39 ic_1 ?_
          refine r_iload_n (pc := 40) hG dX5_dueOn_40 rfl ?_
          refine r_ishl (pc := 41) hG dX5_dueOn_41 ?_
          refine r_ior (pc := 42) hG dX5_dueOn_42 ?_
          refine r_istore_n (pc := 43) (ls' := [_, _, _, _]) hG dX5_dueOn_43 rfl rfl ?_
          refine r_iinc (pc := 44) (v := nI (i + 1)) (ls' := [_, _, _, _]) hG dX5_dueOn_44 rfl (nI_1 _) rfl rfl ?_
          refine r_goto (pc := 47) (tgt := 4) hG dX5_dueOn_47 (by decide) ?_
          have eN4 : b4 ||| (1 <<< ((nI i) &&& 31)) = st_X5_dueOn_4 M s a0 i (itN i (st_X5_dueOn_4 M s a0) 0) := by rw [← hg4]; unfold st_X5_dueOn_4; exact Eq.symm ((if_neg c2).trans (if_pos c3))
          refine J.wk (ls' := [some (rf K (iS s)), some (.int a0), some (.int (b4 ||| (1 <<< ((nI i) &&& 31)))), some (.int (nI (i + 1)))]) ?_ (Eq.refl 4) (wk_s rfl (wk_s rfl (wk_s rfl (wk_s rfl wk_0))))
          exact ih4 hl4 (b4 ||| (1 <<< ((nI i) &&& 31))) eN4
  exact (lp4 0 (Nat.zero_le _) _ rfl).wk (Eq.refl 4) (wk_s rfl (wk_s rfl (wk_s rfl (wk_s rfl wk_0))))

def st_X5_firstDue_4 (M : MT) (s : Nat) (i : Nat) (b4 : Int32) : Int32 :=
  if (M.1 s 13 i) = (-1) then
    b4
  else
    if b4 = (-1) then
      M.1 s 13 i
    else
      if b4 ≤ (M.1 s 13 i) then
        b4
      else
        M.1 s 13 i
def sp_X5_firstDue (M : MT) (s : Nat) : Int32 :=
  itN (tn (M.1 s 1 0)) (st_X5_firstDue_4 M s) (-1)
set_option maxRecDepth 20000 in
theorem c_X5_firstDue {K : KT} {M : MT} {s : Nat} (hs : s < 5) (hoks : OKs M s) : CM K 1 yX5_firstDue cX5_firstDue 4 (some FieldType.int) [rf K (iS s)] M (some (.int (sp_X5_firstDue M s))) M := by
  refine CM.ofI (by decide) [some (rf K (iS s)), none, none, none] rfl (Nat.le_of_ble_eq_true rfl) (Nat.le_of_ble_eq_true rfl) (fun G hG _ hret => ?_)
  obtain ⟨hwcs, hpcs, ⟨hcls, hcms⟩, hwis, hdas, hles, hk8s, ha8s, hWs, hPs⟩ := id hoks
  have hwls := bd_lt hwcs
  have hpls := bd_lt hpcs
  have hclsl := bd_lt hcls
  refine r_iconst (pc := 0) hG dX5_firstDue_0 ic_m1 ?_
  refine r_istore_n (pc := 1) (ls' := [_, _, _, _]) hG dX5_firstDue_1 rfl rfl ?_
  refine r_iconst (pc := 2) hG dX5_firstDue_2 ic_0 ?_
  refine r_istore_n (pc := 3) (ls' := [_, _, _, _]) hG dX5_firstDue_3 rfl rfl ?_
  have hb4 : bd (M.1 s 1 0) 9 := hpcs
  have hb4l := bd_lt hb4
  have lp4 : ∀ i, i ≤ (tn (M.1 s 1 0)) → ∀ b4 : Int32, b4 = itN i (st_X5_firstDue_4 M s) (-1) → J G K M 4 [some (rf K (iS s)), some (.int b4), some (.int (nI i)), none] [] := by
    refine up_ind (tn (M.1 s 1 0)) (fun i hi4 ih4 => ?_)
    intro b4 hg4
    refine r_iload_n (pc := 4) hG dX5_firstDue_4 rfl ?_
    refine r_aload_n (pc := 5) hG dX5_firstDue_5 rfl ?_
    refine gf_X5_personCount (pc := 6) hs hG dX5_firstDue_6 tw_173 ?_
    refine r_icmp_ge (pc := 9) (tgt := 45) hG dX5_firstDue_9 (by decide) (fun c1 => ?_) (fun c1 => ?_)
    · have e4 : i = (tn (M.1 s 1 0)) := by have := (bd_le hb4 (by omega)).mp c1; omega
      subst hg4
      subst e4
      refine r_iload_n (pc := 45) hG dX5_firstDue_45 rfl ?_
      exact hret _ _ _ _ dX5_firstDue_46 (Eq.symm (by unfold sp_X5_firstDue; exact rfl)) rfl
    · have hl4 : i < (tn (M.1 s 1 0)) := by have := mt (bd_le hb4 (by omega)).mpr c1; omega
      refine r_aload_n (pc := 12) hG dX5_firstDue_12 rfl ?_
      refine gf_X5_people (pc := 13) hs hG dX5_firstDue_13 tw_164 ?_
      refine r_iload_n (pc := 16) hG dX5_firstDue_16 rfl ?_
      refine aa_PA (pc := 17) hs hG dX5_firstDue_17 (ix_nI (by omega) (Nat.le_of_ble_eq_true rfl)) ?_
      refine gf_X2_due (pc := 18) hs (by omega) hG dX5_firstDue_18 tw_150 ?_
      refine r_istore_n (pc := 21) (ls' := [_, _, _, _]) hG dX5_firstDue_21 rfl rfl ?_
      refine r_iload_n (pc := 22) hG dX5_firstDue_22 rfl ?_
      refine r_iconst (pc := 23) hG dX5_firstDue_23 ic_m1 ?_
      refine r_icmp_eq (pc := 24) (tgt := 39) hG dX5_firstDue_24 (by decide) (fun c2 => ?_) (fun c2 => ?_)
      · refine r_iinc (pc := 39) (v := nI (i + 1)) (ls' := [_, _, _, _]) hG dX5_firstDue_39 rfl (nI_1 _) rfl rfl ?_
        refine r_goto (pc := 42) (tgt := 4) hG dX5_firstDue_42 (by decide) ?_
        have eN4 : b4 = st_X5_firstDue_4 M s i (itN i (st_X5_firstDue_4 M s) (-1)) := by rw [← hg4]; unfold st_X5_firstDue_4; exact Eq.symm (if_pos c2)
        refine J.wk (ls' := [some (rf K (iS s)), some (.int b4), some (.int (nI (i + 1))), none]) ?_ (Eq.refl 4) (wk_s rfl (wk_s rfl (wk_s rfl (wk_n wk_0))))
        exact ih4 hl4 b4 eN4
      · refine r_iload_n (pc := 27) hG dX5_firstDue_27 rfl ?_
        refine r_iconst (pc := 28) hG dX5_firstDue_28 ic_m1 ?_
        refine r_icmp_eq (pc := 29) (tgt := 37) hG dX5_firstDue_29 (by decide) (fun c3 => ?_) (fun c3 => ?_)
        · refine r_iload_n (pc := 37) hG dX5_firstDue_37 rfl ?_
          refine r_istore_n (pc := 38) (ls' := [_, _, _, _]) hG dX5_firstDue_38 rfl rfl ?_
          refine r_iinc (pc := 39) (v := nI (i + 1)) (ls' := [_, _, _, _]) hG dX5_firstDue_39 rfl (nI_1 _) rfl rfl ?_
          refine r_goto (pc := 42) (tgt := 4) hG dX5_firstDue_42 (by decide) ?_
          have eN4 : M.1 s 13 i = st_X5_firstDue_4 M s i (itN i (st_X5_firstDue_4 M s) (-1)) := by rw [← hg4]; unfold st_X5_firstDue_4; exact Eq.symm ((if_neg c2).trans (if_pos c3))
          refine J.wk (ls' := [some (rf K (iS s)), some (.int (M.1 s 13 i)), some (.int (nI (i + 1))), none]) ?_ (Eq.refl 4) (wk_s rfl (wk_s rfl (wk_s rfl (wk_n wk_0))))
          exact ih4 hl4 (M.1 s 13 i) eN4
        · refine r_iload_n (pc := 32) hG dX5_firstDue_32 rfl ?_
          refine r_iload_n (pc := 33) hG dX5_firstDue_33 rfl ?_
          refine r_icmp_ge (pc := 34) (tgt := 39) hG dX5_firstDue_34 (by decide) (fun c4 => ?_) (fun c4 => ?_)
          · refine r_iinc (pc := 39) (v := nI (i + 1)) (ls' := [_, _, _, _]) hG dX5_firstDue_39 rfl (nI_1 _) rfl rfl ?_
            refine r_goto (pc := 42) (tgt := 4) hG dX5_firstDue_42 (by decide) ?_
            have eN4 : b4 = st_X5_firstDue_4 M s i (itN i (st_X5_firstDue_4 M s) (-1)) := by rw [← hg4]; unfold st_X5_firstDue_4; exact Eq.symm ((if_neg c2).trans ((if_neg c3).trans (if_pos c4)))
            refine J.wk (ls' := [some (rf K (iS s)), some (.int b4), some (.int (nI (i + 1))), none]) ?_ (Eq.refl 4) (wk_s rfl (wk_s rfl (wk_s rfl (wk_n wk_0))))
            exact ih4 hl4 b4 eN4
          · refine r_iload_n (pc := 37) hG dX5_firstDue_37 rfl ?_
            refine r_istore_n (pc := 38) (ls' := [_, _, _, _]) hG dX5_firstDue_38 rfl rfl ?_
            refine r_iinc (pc := 39) (v := nI (i + 1)) (ls' := [_, _, _, _]) hG dX5_firstDue_39 rfl (nI_1 _) rfl rfl ?_
            refine r_goto (pc := 42) (tgt := 4) hG dX5_firstDue_42 (by decide) ?_
            have eN4 : M.1 s 13 i = st_X5_firstDue_4 M s i (itN i (st_X5_firstDue_4 M s) (-1)) := by rw [← hg4]; unfold st_X5_firstDue_4; exact Eq.symm ((if_neg c2).trans ((if_neg c3).trans (if_neg c4)))
            refine J.wk (ls' := [some (rf K (iS s)), some (.int (M.1 s 13 i)), some (.int (nI (i + 1))), none]) ?_ (Eq.refl 4) (wk_s rfl (wk_s rfl (wk_s rfl (wk_n wk_0))))
            exact ih4 hl4 (M.1 s 13 i) eN4
  exact (lp4 0 (Nat.zero_le _) _ rfl).wk (Eq.refl 4) (wk_s rfl (wk_s rfl (wk_s rfl (wk_n wk_0))))

def st_X5_lastDue_4 (M : MT) (s : Nat) (i : Nat) (b4 : Int32) : Int32 :=
  imax b4 (M.1 s 13 i)
def sp_X5_lastDue (M : MT) (s : Nat) : Int32 :=
  itN (tn (M.1 s 1 0)) (st_X5_lastDue_4 M s) (-1)
set_option maxRecDepth 20000 in
theorem c_X5_lastDue {K : KT} {M : MT} {s : Nat} (hs : s < 5) (hoks : OKs M s) : CM K 2 yX5_lastDue cX5_lastDue 3 (some FieldType.int) [rf K (iS s)] M (some (.int (sp_X5_lastDue M s))) M := by
  refine CM.ofI (by decide) [some (rf K (iS s)), none, none] rfl (Nat.le_of_ble_eq_true rfl) (Nat.le_of_ble_eq_true rfl) (fun G hG _ hret => ?_)
  obtain ⟨hwcs, hpcs, ⟨hcls, hcms⟩, hwis, hdas, hles, hk8s, ha8s, hWs, hPs⟩ := id hoks
  have hwls := bd_lt hwcs
  have hpls := bd_lt hpcs
  have hclsl := bd_lt hcls
  refine r_iconst (pc := 0) hG dX5_lastDue_0 ic_m1 ?_
  refine r_istore_n (pc := 1) (ls' := [_, _, _]) hG dX5_lastDue_1 rfl rfl ?_
  refine r_iconst (pc := 2) hG dX5_lastDue_2 ic_0 ?_
  refine r_istore_n (pc := 3) (ls' := [_, _, _]) hG dX5_lastDue_3 rfl rfl ?_
  have hb4 : bd (M.1 s 1 0) 9 := hpcs
  have hb4l := bd_lt hb4
  have lp4 : ∀ i, i ≤ (tn (M.1 s 1 0)) → ∀ b4 : Int32, b4 = itN i (st_X5_lastDue_4 M s) (-1) → J G K M 4 [some (rf K (iS s)), some (.int b4), some (.int (nI i))] [] := by
    refine up_ind (tn (M.1 s 1 0)) (fun i hi4 ih4 => ?_)
    intro b4 hg4
    refine r_iload_n (pc := 4) hG dX5_lastDue_4 rfl ?_
    refine r_aload_n (pc := 5) hG dX5_lastDue_5 rfl ?_
    refine gf_X5_personCount (pc := 6) hs hG dX5_lastDue_6 tw_173 ?_
    refine r_icmp_ge (pc := 9) (tgt := 32) hG dX5_lastDue_9 (by decide) (fun c1 => ?_) (fun c1 => ?_)
    · have e4 : i = (tn (M.1 s 1 0)) := by have := (bd_le hb4 (by omega)).mp c1; omega
      subst hg4
      subst e4
      refine r_iload_n (pc := 32) hG dX5_lastDue_32 rfl ?_
      exact hret _ _ _ _ dX5_lastDue_33 (Eq.symm (by unfold sp_X5_lastDue; exact rfl)) rfl
    · have hl4 : i < (tn (M.1 s 1 0)) := by have := mt (bd_le hb4 (by omega)).mpr c1; omega
      refine r_iload_n (pc := 12) hG dX5_lastDue_12 rfl ?_
      refine r_aload_n (pc := 13) hG dX5_lastDue_13 rfl ?_
      refine gf_X5_people (pc := 14) hs hG dX5_lastDue_14 tw_164 ?_
      refine r_iload_n (pc := 17) hG dX5_lastDue_17 rfl ?_
      refine aa_PA (pc := 18) hs hG dX5_lastDue_18 (ix_nI (by omega) (Nat.le_of_ble_eq_true rfl)) ?_
      refine gf_X2_due (pc := 19) hs (by omega) hG dX5_lastDue_19 tw_150 ?_
      refine r_mmax (pc := 22) hG dX5_lastDue_22 tw_988 (by decide) (Nat.le_of_ble_eq_true rfl) ?_
      refine r_istore_n (pc := 25) (ls' := [_, _, _]) hG dX5_lastDue_25 rfl rfl ?_
      refine r_iinc (pc := 26) (v := nI (i + 1)) (ls' := [_, _, _]) hG dX5_lastDue_26 rfl (nI_1 _) rfl rfl ?_
      refine r_goto (pc := 29) (tgt := 4) hG dX5_lastDue_29 (by decide) ?_
      have eN4 : imax b4 (M.1 s 13 i) = st_X5_lastDue_4 M s i (itN i (st_X5_lastDue_4 M s) (-1)) := by rw [← hg4]; unfold st_X5_lastDue_4; exact Eq.symm rfl
      refine J.wk (ls' := [some (rf K (iS s)), some (.int (imax b4 (M.1 s 13 i))), some (.int (nI (i + 1)))]) ?_ (Eq.refl 3) (wk_s rfl (wk_s rfl (wk_s rfl wk_0)))
      exact ih4 hl4 (imax b4 (M.1 s 13 i)) eN4
  exact (lp4 0 (Nat.zero_le _) _ rfl).wk (Eq.refl 3) (wk_s rfl (wk_s rfl (wk_s rfl wk_0)))

def st_X5_queueLength_5 (M : MT) (s : Nat) (a0 : Int32) (a1 : Int32) (i : Nat) (b5 : Int32) : Int32 :=
  if (M.1 s 12 i) = a0 then
    if (M.1 s 13 i) = a1 then
      b5 + 1
    else
      b5
  else
    b5
def sp_X5_queueLength (M : MT) (s : Nat) (a0 : Int32) (a1 : Int32) : Int32 :=
  itN (tn (M.1 s 1 0)) (st_X5_queueLength_5 M s a0 a1) 0
set_option maxRecDepth 20000 in
theorem c_X5_queueLength {K : KT} {M : MT} {s : Nat} {a0 : Int32} {a1 : Int32} (hs : s < 5) (hoks : OKs M s) : CM K 1 yX5_queueLength cX5_queueLength 5 (some FieldType.int) [rf K (iS s), .int a0, .int a1] M (some (.int (sp_X5_queueLength M s a0 a1))) M := by
  refine CM.ofI (by decide) [some (rf K (iS s)), some (.int a0), some (.int a1), none, none] rfl (Nat.le_of_ble_eq_true rfl) (Nat.le_of_ble_eq_true rfl) (fun G hG _ hret => ?_)
  obtain ⟨hwcs, hpcs, ⟨hcls, hcms⟩, hwis, hdas, hles, hk8s, ha8s, hWs, hPs⟩ := id hoks
  have hwls := bd_lt hwcs
  have hpls := bd_lt hpcs
  have hclsl := bd_lt hcls
  refine r_iconst (pc := 0) hG dX5_queueLength_0 ic_0 ?_
  refine r_istore_n (pc := 1) (ls' := [_, _, _, _, _]) hG dX5_queueLength_1 rfl rfl ?_
  refine r_iconst (pc := 2) hG dX5_queueLength_2 ic_0 ?_
  refine r_istore (pc := 3) (ls' := [_, _, _, _, _]) hG dX5_queueLength_3 rfl rfl ?_
  have hb5 : bd (M.1 s 1 0) 9 := hpcs
  have hb5l := bd_lt hb5
  have lp5 : ∀ i, i ≤ (tn (M.1 s 1 0)) → ∀ b5 : Int32, b5 = itN i (st_X5_queueLength_5 M s a0 a1) 0 → J G K M 5 [some (rf K (iS s)), some (.int a0), some (.int a1), some (.int b5), some (.int (nI i))] [] := by
    refine up_ind (tn (M.1 s 1 0)) (fun i hi5 ih5 => ?_)
    intro b5 hg5
    refine r_iload (pc := 5) hG dX5_queueLength_5 rfl ?_
    refine r_aload_n (pc := 7) hG dX5_queueLength_7 rfl ?_
    refine gf_X5_personCount (pc := 8) hs hG dX5_queueLength_8 tw_173 ?_
    refine r_icmp_ge (pc := 11) (tgt := 51) hG dX5_queueLength_11 (by decide) (fun c1 => ?_) (fun c1 => ?_)
    · have e5 : i = (tn (M.1 s 1 0)) := by have := (bd_le hb5 (by omega)).mp c1; omega
      subst hg5
      subst e5
      refine r_iload_n (pc := 51) hG dX5_queueLength_51 rfl ?_
      exact hret _ _ _ _ dX5_queueLength_52 (Eq.symm (by unfold sp_X5_queueLength; exact rfl)) rfl
    · have hl5 : i < (tn (M.1 s 1 0)) := by have := mt (bd_le hb5 (by omega)).mpr c1; omega
      refine r_aload_n (pc := 14) hG dX5_queueLength_14 rfl ?_
      refine gf_X5_people (pc := 15) hs hG dX5_queueLength_15 tw_164 ?_
      refine r_iload (pc := 18) hG dX5_queueLength_18 rfl ?_
      refine aa_PA (pc := 20) hs hG dX5_queueLength_20 (ix_nI (by omega) (Nat.le_of_ble_eq_true rfl)) ?_
      refine gf_X2_rose (pc := 21) hs (by omega) hG dX5_queueLength_21 tw_146 ?_
      refine r_iload_n (pc := 24) hG dX5_queueLength_24 rfl ?_
      refine r_icmp_ne (pc := 25) (tgt := 45) hG dX5_queueLength_25 (by decide) (fun c2 => ?_) (fun c2 => ?_)
      · refine r_iinc (pc := 45) (v := nI (i + 1)) (ls' := [_, _, _, _, _]) hG dX5_queueLength_45 rfl (nI_1 _) rfl rfl ?_
        refine r_goto (pc := 48) (tgt := 5) hG dX5_queueLength_48 (by decide) ?_
        have eN5 : b5 = st_X5_queueLength_5 M s a0 a1 i (itN i (st_X5_queueLength_5 M s a0 a1) 0) := by rw [← hg5]; unfold st_X5_queueLength_5; exact Eq.symm (if_neg c2)
        refine J.wk (ls' := [some (rf K (iS s)), some (.int a0), some (.int a1), some (.int b5), some (.int (nI (i + 1)))]) ?_ (Eq.refl 5) (wk_s rfl (wk_s rfl (wk_s rfl (wk_s rfl (wk_s rfl wk_0)))))
        exact ih5 hl5 b5 eN5
      · refine r_aload_n (pc := 28) hG dX5_queueLength_28 rfl ?_
        refine gf_X5_people (pc := 29) hs hG dX5_queueLength_29 tw_164 ?_
        refine r_iload (pc := 32) hG dX5_queueLength_32 rfl ?_
        refine aa_PA (pc := 34) hs hG dX5_queueLength_34 (ix_nI (by omega) (Nat.le_of_ble_eq_true rfl)) ?_
        refine gf_X2_due (pc := 35) hs (by omega) hG dX5_queueLength_35 tw_150 ?_
        refine r_iload_n (pc := 38) hG dX5_queueLength_38 rfl ?_
        refine r_icmp_ne (pc := 39) (tgt := 45) hG dX5_queueLength_39 (by decide) (fun c3 => ?_) (fun c3 => ?_)
        · refine r_iinc (pc := 45) (v := nI (i + 1)) (ls' := [_, _, _, _, _]) hG dX5_queueLength_45 rfl (nI_1 _) rfl rfl ?_
          refine r_goto (pc := 48) (tgt := 5) hG dX5_queueLength_48 (by decide) ?_
          have eN5 : b5 = st_X5_queueLength_5 M s a0 a1 i (itN i (st_X5_queueLength_5 M s a0 a1) 0) := by rw [← hg5]; unfold st_X5_queueLength_5; exact Eq.symm ((if_pos c2).trans (if_neg c3))
          refine J.wk (ls' := [some (rf K (iS s)), some (.int a0), some (.int a1), some (.int b5), some (.int (nI (i + 1)))]) ?_ (Eq.refl 5) (wk_s rfl (wk_s rfl (wk_s rfl (wk_s rfl (wk_s rfl wk_0)))))
          exact ih5 hl5 b5 eN5
        · refine r_iinc (pc := 42) (v := b5 + 1) (ls' := [_, _, _, _, _]) hG dX5_queueLength_42 rfl rfl rfl rfl ?_
          refine r_iinc (pc := 45) (v := nI (i + 1)) (ls' := [_, _, _, _, _]) hG dX5_queueLength_45 rfl (nI_1 _) rfl rfl ?_
          refine r_goto (pc := 48) (tgt := 5) hG dX5_queueLength_48 (by decide) ?_
          have eN5 : b5 + 1 = st_X5_queueLength_5 M s a0 a1 i (itN i (st_X5_queueLength_5 M s a0 a1) 0) := by rw [← hg5]; unfold st_X5_queueLength_5; exact Eq.symm ((if_pos c2).trans (if_pos c3))
          refine J.wk (ls' := [some (rf K (iS s)), some (.int a0), some (.int a1), some (.int (b5 + 1)), some (.int (nI (i + 1)))]) ?_ (Eq.refl 5) (wk_s rfl (wk_s rfl (wk_s rfl (wk_s rfl (wk_s rfl wk_0)))))
          exact ih5 hl5 (b5 + 1) eN5
  exact (lp5 0 (Nat.zero_le _) _ rfl).wk (Eq.refl 5) (wk_s rfl (wk_s rfl (wk_s rfl (wk_s rfl (wk_s rfl wk_0)))))

def sp_X5_waitsLonger (M : MT) (s : Nat) (s0 : Nat) (t0 : Nat) (s1 : Nat) (t1 : Nat) : Bool :=
  if (sp_X5_queueLength M s (M.1 s0 12 t0) (M.1 s0 13 t0)) = (sp_X5_queueLength M s (M.1 s1 12 t1) (M.1 s1 13 t1)) then
    if (M.1 s0 12 t0) = (M.1 s1 12 t1) then
      if (M.1 s1 13 t1) ≤ (M.1 s0 13 t0) then
        false
      else
        true
    else
      if (M.1 s1 12 t1) ≤ (M.1 s0 12 t0) then
        false
      else
        true
  else
    if (sp_X5_queueLength M s (M.1 s0 12 t0) (M.1 s0 13 t0)) ≤ (sp_X5_queueLength M s (M.1 s1 12 t1) (M.1 s1 13 t1)) then
      false
    else
      true
set_option maxRecDepth 20000 in
theorem c_X5_waitsLonger {K : KT} {M : MT} {s : Nat} {s0 : Nat} {t0 : Nat} {s1 : Nat} {t1 : Nat} (hs : s < 5) (hs0 : s0 < 5) (ht0 : t0 < 8) (hs1 : s1 < 5) (ht1 : t1 < 8) (hoks : OKs M s) : CM K 2 yX5_waitsLonger cX5_waitsLonger 5 (some FieldType.boolean) [rf K (iS s), rf K (iP s0 t0), rf K (iP s1 t1)] M (some (.int (bz (sp_X5_waitsLonger M s s0 t0 s1 t1)))) M := by
  refine CM.ofZ (by decide) [some (rf K (iS s)), some (rf K (iP s0 t0)), some (rf K (iP s1 t1)), none, none] rfl (Nat.le_of_ble_eq_true rfl) (Nat.le_of_ble_eq_true rfl) (fun G hG _ hret => ?_)
  obtain ⟨hwcs, hpcs, ⟨hcls, hcms⟩, hwis, hdas, hles, hk8s, ha8s, hWs, hPs⟩ := id hoks
  have hwls := bd_lt hwcs
  have hpls := bd_lt hpcs
  have hclsl := bd_lt hcls
  refine r_aload_n (pc := 0) hG dX5_waitsLonger_0 rfl ?_
  refine r_aload_n (pc := 1) hG dX5_waitsLonger_1 rfl ?_
  refine gf_X2_rose (pc := 2) hs0 ht0 hG dX5_waitsLonger_2 tw_146 ?_
  refine r_aload_n (pc := 5) hG dX5_waitsLonger_5 rfl ?_
  refine gf_X2_due (pc := 6) hs0 ht0 hG dX5_waitsLonger_6 tw_150 ?_
  refine cv_X5_queueLength (pc := 9) hs hG dX5_waitsLonger_9 tw_941 (c_X5_queueLength hs hoks) (by decide) (Nat.le_of_ble_eq_true rfl) ?_
  refine r_istore_n (pc := 12) (ls' := [_, _, _, _, _]) hG dX5_waitsLonger_12 rfl rfl ?_
  refine r_aload_n (pc := 13) hG dX5_waitsLonger_13 rfl ?_
  refine r_aload_n (pc := 14) hG dX5_waitsLonger_14 rfl ?_
  refine gf_X2_rose (pc := 15) hs1 ht1 hG dX5_waitsLonger_15 tw_146 ?_
  refine r_aload_n (pc := 18) hG dX5_waitsLonger_18 rfl ?_
  refine gf_X2_due (pc := 19) hs1 ht1 hG dX5_waitsLonger_19 tw_150 ?_
  refine cv_X5_queueLength (pc := 22) hs hG dX5_waitsLonger_22 tw_941 (c_X5_queueLength hs hoks) (by decide) (Nat.le_of_ble_eq_true rfl) ?_
  refine r_istore (pc := 25) (ls' := [_, _, _, _, _]) hG dX5_waitsLonger_25 rfl rfl ?_
  refine r_iload_n (pc := 27) hG dX5_waitsLonger_27 rfl ?_
  refine r_iload (pc := 28) hG dX5_waitsLonger_28 rfl ?_
  refine r_icmp_eq (pc := 30) (tgt := 45) hG dX5_waitsLonger_30 (by decide) (fun c1 => ?_) (fun c1 => ?_)
  · refine r_aload_n (pc := 45) hG dX5_waitsLonger_45 rfl ?_
    refine gf_X2_rose (pc := 46) hs0 ht0 hG dX5_waitsLonger_46 tw_146 ?_
    refine r_aload_n (pc := 49) hG dX5_waitsLonger_49 rfl ?_
    refine gf_X2_rose (pc := 50) hs1 ht1 hG dX5_waitsLonger_50 tw_146 ?_
    refine r_icmp_eq (pc := 53) (tgt := 75) hG dX5_waitsLonger_53 (by decide) (fun c2 => ?_) (fun c2 => ?_)
    · refine r_aload_n (pc := 75) hG dX5_waitsLonger_75 rfl ?_
      refine gf_X2_due (pc := 76) hs0 ht0 hG dX5_waitsLonger_76 tw_150 ?_
      refine r_aload_n (pc := 79) hG dX5_waitsLonger_79 rfl ?_
      refine gf_X2_due (pc := 80) hs1 ht1 hG dX5_waitsLonger_80 tw_150 ?_
      refine r_icmp_ge (pc := 83) (tgt := 90) hG dX5_waitsLonger_83 (by decide) (fun c3 => ?_) (fun c3 => ?_)
      · refine r_iconst (pc := 90) hG dX5_waitsLonger_90 ic_0 ?_
        exact hret _ _ _ _ dX5_waitsLonger_91 (bz_f (by unfold sp_X5_waitsLonger; exact ((if_pos c1).trans ((if_pos c2).trans (if_pos c3))))) rfl
      · refine r_iconst (pc := 86) hG dX5_waitsLonger_86 ic_1 ?_
        refine r_goto (pc := 87) (tgt := 91) hG dX5_waitsLonger_87 (by decide) ?_
        exact hret _ _ _ _ dX5_waitsLonger_91 (bz_t (by unfold sp_X5_waitsLonger; exact ((if_pos c1).trans ((if_pos c2).trans (if_neg c3))))) rfl
    · refine r_aload_n (pc := 56) hG dX5_waitsLonger_56 rfl ?_
      refine gf_X2_rose (pc := 57) hs0 ht0 hG dX5_waitsLonger_57 tw_146 ?_
      refine r_aload_n (pc := 60) hG dX5_waitsLonger_60 rfl ?_
      refine gf_X2_rose (pc := 61) hs1 ht1 hG dX5_waitsLonger_61 tw_146 ?_
      refine r_icmp_ge (pc := 64) (tgt := 71) hG dX5_waitsLonger_64 (by decide) (fun c4 => ?_) (fun c4 => ?_)
      · refine r_iconst (pc := 71) hG dX5_waitsLonger_71 ic_0 ?_
        refine r_goto (pc := 72) (tgt := 91) hG dX5_waitsLonger_72 (by decide) ?_
        exact hret _ _ _ _ dX5_waitsLonger_91 (bz_f (by unfold sp_X5_waitsLonger; exact ((if_pos c1).trans ((if_neg c2).trans (if_pos c4))))) rfl
      · refine r_iconst (pc := 67) hG dX5_waitsLonger_67 ic_1 ?_
        refine r_goto (pc := 68) (tgt := 91) hG dX5_waitsLonger_68 (by decide) ?_
        exact hret _ _ _ _ dX5_waitsLonger_91 (bz_t (by unfold sp_X5_waitsLonger; exact ((if_pos c1).trans ((if_neg c2).trans (if_neg c4))))) rfl
  · refine r_iload_n (pc := 33) hG dX5_waitsLonger_33 rfl ?_
    refine r_iload (pc := 34) hG dX5_waitsLonger_34 rfl ?_
    refine r_icmp_le (pc := 36) (tgt := 43) hG dX5_waitsLonger_36 (by decide) (fun c5 => ?_) (fun c5 => ?_)
    · refine r_iconst (pc := 43) hG dX5_waitsLonger_43 ic_0 ?_
      exact hret _ _ _ _ dX5_waitsLonger_44 (bz_f (by unfold sp_X5_waitsLonger; exact ((if_neg c1).trans (if_pos c5)))) rfl
    · refine r_iconst (pc := 39) hG dX5_waitsLonger_39 ic_1 ?_
      refine r_goto (pc := 40) (tgt := 44) hG dX5_waitsLonger_40 (by decide) ?_
      exact hret _ _ _ _ dX5_waitsLonger_44 (bz_t (by unfold sp_X5_waitsLonger; exact ((if_neg c1).trans (if_neg c5)))) rfl

def st_X5_longestWaiter_4 (M : MT) (s : Nat) (i : Nat) (b4 : Int32) : Int32 :=
  if (M.1 s 13 i) = (-1) then
    b4
  else
    if b4 = (-1) then
      nI i
    else
      if (sp_X5_waitsLonger M s s i s (tn b4)) = true then
        nI i
      else
        b4
def sp_X5_longestWaiter (M : MT) (s : Nat) : Int32 :=
  itN (tn (M.1 s 1 0)) (st_X5_longestWaiter_4 M s) (-1)
set_option maxRecDepth 20000 in
theorem c_X5_longestWaiter {K : KT} {M : MT} {s : Nat} (hs : s < 5) (hoks : OKs M s) : CM K 3 yX5_longestWaiter cX5_longestWaiter 3 (some FieldType.int) [rf K (iS s)] M (some (.int (sp_X5_longestWaiter M s))) M := by
  refine CM.ofI (by decide) [some (rf K (iS s)), none, none] rfl (Nat.le_of_ble_eq_true rfl) (Nat.le_of_ble_eq_true rfl) (fun G hG _ hret => ?_)
  obtain ⟨hwcs, hpcs, ⟨hcls, hcms⟩, hwis, hdas, hles, hk8s, ha8s, hWs, hPs⟩ := id hoks
  have hwls := bd_lt hwcs
  have hpls := bd_lt hpcs
  have hclsl := bd_lt hcls
  refine r_iconst (pc := 0) hG dX5_longestWaiter_0 ic_m1 ?_
  refine r_istore_n (pc := 1) (ls' := [_, _, _]) hG dX5_longestWaiter_1 rfl rfl ?_
  refine r_iconst (pc := 2) hG dX5_longestWaiter_2 ic_0 ?_
  refine r_istore_n (pc := 3) (ls' := [_, _, _]) hG dX5_longestWaiter_3 rfl rfl ?_
  have hb4 : bd (M.1 s 1 0) 9 := hpcs
  have hb4l := bd_lt hb4
  have lp4 : ∀ i, i ≤ (tn (M.1 s 1 0)) → ∀ b4 : Int32, b4 = itN i (st_X5_longestWaiter_4 M s) (-1) → J G K M 4 [some (rf K (iS s)), some (.int b4), some (.int (nI i))] [] := by
    refine up_ind (tn (M.1 s 1 0)) (fun i hi4 ih4 => ?_)
    intro b4 hg4
    have hv4 : b4 = -1 ∨ bd (b4) 8 := by subst hg4; exact itN_inv (fun x => x = -1 ∨ bd x 8) i (Or.inl rfl) (fun k b hk hb => by unfold st_X5_longestWaiter_4; (repeat' split) <;> first | exact hb | exact Or.inr (bd_nI (by omega) (Nat.le_of_ble_eq_true rfl)))
    refine r_iload_n (pc := 4) hG dX5_longestWaiter_4 rfl ?_
    refine r_aload_n (pc := 5) hG dX5_longestWaiter_5 rfl ?_
    refine gf_X5_personCount (pc := 6) hs hG dX5_longestWaiter_6 tw_173 ?_
    refine r_icmp_ge (pc := 9) (tgt := 57) hG dX5_longestWaiter_9 (by decide) (fun c1 => ?_) (fun c1 => ?_)
    · have e4 : i = (tn (M.1 s 1 0)) := by have := (bd_le hb4 (by omega)).mp c1; omega
      subst hg4
      subst e4
      refine r_iload_n (pc := 57) hG dX5_longestWaiter_57 rfl ?_
      exact hret _ _ _ _ dX5_longestWaiter_58 (Eq.symm (by unfold sp_X5_longestWaiter; exact rfl)) rfl
    · have hl4 : i < (tn (M.1 s 1 0)) := by have := mt (bd_le hb4 (by omega)).mpr c1; omega
      refine r_aload_n (pc := 12) hG dX5_longestWaiter_12 rfl ?_
      refine gf_X5_people (pc := 13) hs hG dX5_longestWaiter_13 tw_164 ?_
      refine r_iload_n (pc := 16) hG dX5_longestWaiter_16 rfl ?_
      refine aa_PA (pc := 17) hs hG dX5_longestWaiter_17 (ix_nI (by omega) (Nat.le_of_ble_eq_true rfl)) ?_
      refine gf_X2_due (pc := 18) hs (by omega) hG dX5_longestWaiter_18 tw_150 ?_
      refine r_iconst (pc := 21) hG dX5_longestWaiter_21 ic_m1 ?_
      refine r_icmp_eq (pc := 22) (tgt := 51) hG dX5_longestWaiter_22 (by decide) (fun c2 => ?_) (fun c2 => ?_)
      · refine r_iinc (pc := 51) (v := nI (i + 1)) (ls' := [_, _, _]) hG dX5_longestWaiter_51 rfl (nI_1 _) rfl rfl ?_
        refine r_goto (pc := 54) (tgt := 4) hG dX5_longestWaiter_54 (by decide) ?_
        have eN4 : b4 = st_X5_longestWaiter_4 M s i (itN i (st_X5_longestWaiter_4 M s) (-1)) := by rw [← hg4]; unfold st_X5_longestWaiter_4; exact Eq.symm (if_pos c2)
        refine J.wk (ls' := [some (rf K (iS s)), some (.int b4), some (.int (nI (i + 1)))]) ?_ (Eq.refl 3) (wk_s rfl (wk_s rfl (wk_s rfl wk_0)))
        exact ih4 hl4 b4 eN4
      · refine r_iload_n (pc := 25) hG dX5_longestWaiter_25 rfl ?_
        refine r_iconst (pc := 26) hG dX5_longestWaiter_26 ic_m1 ?_
        refine r_icmp_eq (pc := 27) (tgt := 49) hG dX5_longestWaiter_27 (by decide) (fun c3 => ?_) (fun c3 => ?_)
        · refine r_iload_n (pc := 49) hG dX5_longestWaiter_49 rfl ?_
          refine r_istore_n (pc := 50) (ls' := [_, _, _]) hG dX5_longestWaiter_50 rfl rfl ?_
          refine r_iinc (pc := 51) (v := nI (i + 1)) (ls' := [_, _, _]) hG dX5_longestWaiter_51 rfl (nI_1 _) rfl rfl ?_
          refine r_goto (pc := 54) (tgt := 4) hG dX5_longestWaiter_54 (by decide) ?_
          have eN4 : nI i = st_X5_longestWaiter_4 M s i (itN i (st_X5_longestWaiter_4 M s) (-1)) := by rw [← hg4]; unfold st_X5_longestWaiter_4; exact Eq.symm ((if_neg c2).trans (if_pos c3))
          refine J.wk (ls' := [some (rf K (iS s)), some (.int (nI i)), some (.int (nI (i + 1)))]) ?_ (Eq.refl 3) (wk_s rfl (wk_s rfl (wk_s rfl wk_0)))
          exact ih4 hl4 (nI i) eN4
        · refine r_aload_n (pc := 30) hG dX5_longestWaiter_30 rfl ?_
          refine r_aload_n (pc := 31) hG dX5_longestWaiter_31 rfl ?_
          refine gf_X5_people (pc := 32) hs hG dX5_longestWaiter_32 tw_164 ?_
          refine r_iload_n (pc := 35) hG dX5_longestWaiter_35 rfl ?_
          refine aa_PA (pc := 36) hs hG dX5_longestWaiter_36 (ix_nI (by omega) (Nat.le_of_ble_eq_true rfl)) ?_
          refine r_aload_n (pc := 37) hG dX5_longestWaiter_37 rfl ?_
          refine gf_X5_people (pc := 38) hs hG dX5_longestWaiter_38 tw_164 ?_
          refine r_iload_n (pc := 41) hG dX5_longestWaiter_41 rfl ?_
          refine aa_PA (pc := 42) hs hG dX5_longestWaiter_42 (ix_bd (Or.resolve_left hv4 c3)) ?_
          refine cv_X5_waitsLonger (pc := 43) hs hG dX5_longestWaiter_43 tw_937 (c_X5_waitsLonger hs hs (by omega) hs (bd_lt (Or.resolve_left hv4 c3)) hoks) (by decide) (Nat.le_of_ble_eq_true rfl) ?_
          refine r_ifz_eq (pc := 46) (tgt := 51) hG dX5_longestWaiter_46 (by decide) (fun c4 => ?_) (fun c4 => ?_)
          · refine r_iinc (pc := 51) (v := nI (i + 1)) (ls' := [_, _, _]) hG dX5_longestWaiter_51 rfl (nI_1 _) rfl rfl ?_
            refine r_goto (pc := 54) (tgt := 4) hG dX5_longestWaiter_54 (by decide) ?_
            have eN4 : b4 = st_X5_longestWaiter_4 M s i (itN i (st_X5_longestWaiter_4 M s) (-1)) := by rw [← hg4]; unfold st_X5_longestWaiter_4; exact Eq.symm ((if_neg c2).trans ((if_neg c3).trans (if_neg c4)))
            refine J.wk (ls' := [some (rf K (iS s)), some (.int b4), some (.int (nI (i + 1)))]) ?_ (Eq.refl 3) (wk_s rfl (wk_s rfl (wk_s rfl wk_0)))
            exact ih4 hl4 b4 eN4
          · refine r_iload_n (pc := 49) hG dX5_longestWaiter_49 rfl ?_
            refine r_istore_n (pc := 50) (ls' := [_, _, _]) hG dX5_longestWaiter_50 rfl rfl ?_
            refine r_iinc (pc := 51) (v := nI (i + 1)) (ls' := [_, _, _]) hG dX5_longestWaiter_51 rfl (nI_1 _) rfl rfl ?_
            refine r_goto (pc := 54) (tgt := 4) hG dX5_longestWaiter_54 (by decide) ?_
            have eN4 : nI i = st_X5_longestWaiter_4 M s i (itN i (st_X5_longestWaiter_4 M s) (-1)) := by rw [← hg4]; unfold st_X5_longestWaiter_4; exact Eq.symm ((if_neg c2).trans ((if_neg c3).trans (if_pos c4)))
            refine J.wk (ls' := [some (rf K (iS s)), some (.int (nI i)), some (.int (nI (i + 1)))]) ?_ (Eq.refl 3) (wk_s rfl (wk_s rfl (wk_s rfl wk_0)))
            exact ih4 hl4 (nI i) eN4
  exact (lp4 0 (Nat.zero_le _) _ rfl).wk (Eq.refl 3) (wk_s rfl (wk_s rfl (wk_s rfl wk_0)))

def sp_X5_isToldThrow (M : MT) (s : Nat) (a0 : Int64) : Bool :=
  if a0 < 0 then
    false
  else
    if (Int32.toInt64 (M.1 s 0 0)) ≤ (a0 / 100) then
      false
    else
      if 3 ≤ (lrm a0 10) then
        false
      else
        true
set_option maxRecDepth 20000 in
theorem c_X5_isToldThrow {K : KT} {M : MT} {s : Nat} {a0 : Int64} (hs : s < 5)  : CM K 1 yX5_isToldThrow cX5_isToldThrow 3 (some FieldType.boolean) [rf K (iS s), .long a0] M (some (.int (bz (sp_X5_isToldThrow M s a0)))) M := by
  refine CM.ofZ (by decide) [some (rf K (iS s)), some (.long a0), none] rfl (Nat.le_of_ble_eq_true rfl) (Nat.le_of_ble_eq_true rfl) (fun G hG _ hret => ?_)
  refine r_lload_n (pc := 0) hG dX5_isToldThrow_0 rfl ?_
  refine r_lconst (pc := 1) (v := 0) hG dX5_isToldThrow_1 (by decide) ?_
  refine r_lcmp (pc := 2) hG dX5_isToldThrow_2 ?_
  refine r_lc_lt (pc := 3) (tgt := 36) hG dX5_isToldThrow_3 (by decide) (fun c1 => ?_) (fun c1 => ?_)
  · refine r_iconst (pc := 36) hG dX5_isToldThrow_36 ic_0 ?_
    exact hret _ _ _ _ dX5_isToldThrow_37 (bz_f (by unfold sp_X5_isToldThrow; exact (if_pos c1))) rfl
  · refine r_lload_n (pc := 6) hG dX5_isToldThrow_6 rfl ?_
    refine r_ldc2 (pc := 7) hG dX5_isToldThrow_7 tw_874 ?_
    refine r_ldiv (pc := 10) hG dX5_isToldThrow_10 (by decide) ?_
    refine r_aload_n (pc := 11) hG dX5_isToldThrow_11 rfl ?_
    refine gf_X5_windowCount (pc := 12) hs hG dX5_isToldThrow_12 tw_169 ?_
    refine r_i2l (pc := 15) hG dX5_isToldThrow_15 ?_
    refine r_lcmp (pc := 16) hG dX5_isToldThrow_16 ?_
    refine r_lc_ge (pc := 17) (tgt := 36) hG dX5_isToldThrow_17 (by decide) (fun c2 => ?_) (fun c2 => ?_)
    · refine r_iconst (pc := 36) hG dX5_isToldThrow_36 ic_0 ?_
      exact hret _ _ _ _ dX5_isToldThrow_37 (bz_f (by unfold sp_X5_isToldThrow; exact ((if_neg c1).trans (if_pos c2)))) rfl
    · refine r_lload_n (pc := 20) hG dX5_isToldThrow_20 rfl ?_
      refine r_ldc2 (pc := 21) hG dX5_isToldThrow_21 tw_875 ?_
      refine r_lrem (pc := 24) hG dX5_isToldThrow_24 (by decide) ?_
      refine r_ldc2 (pc := 25) hG dX5_isToldThrow_25 tw_876 ?_
      refine r_lcmp (pc := 28) hG dX5_isToldThrow_28 ?_
      refine r_lc_ge (pc := 29) (tgt := 36) hG dX5_isToldThrow_29 (by decide) (fun c3 => ?_) (fun c3 => ?_)
      · refine r_iconst (pc := 36) hG dX5_isToldThrow_36 ic_0 ?_
        exact hret _ _ _ _ dX5_isToldThrow_37 (bz_f (by unfold sp_X5_isToldThrow; exact ((if_neg c1).trans ((if_neg c2).trans (if_pos c3))))) rfl
      · refine r_iconst (pc := 32) hG dX5_isToldThrow_32 ic_1 ?_
        refine r_goto (pc := 33) (tgt := 37) hG dX5_isToldThrow_33 (by decide) ?_
        exact hret _ _ _ _ dX5_isToldThrow_37 (bz_t (by unfold sp_X5_isToldThrow; exact ((if_neg c1).trans ((if_neg c2).trans (if_neg c3))))) rfl

def ps_X5_firstWrong_3 (M : MT) (s : Nat) (t0 : Nat) (a1 : Int32) (a2 : Int32) (i : Nat) : Bool :=
  if (sp_X5_isToldThrow M s (M.2.2 t0 (tn ((nI i) * a2)))) = true then
    false
  else
    true
def sp_X5_firstWrong (M : MT) (s : Nat) (t0 : Nat) (a1 : Int32) (a2 : Int32) : Int32 :=
  fndN (ps_X5_firstWrong_3 M s t0 a1 a2) (fun i => (if (sp_X5_isToldThrow M s (M.2.2 t0 (tn ((nI i) * a2)))) = true then
  (-1)
else
  nI i)) ((-1)) (tn a1) 0
set_option maxRecDepth 20000 in
theorem c_X5_firstWrong {K : KT} {M : MT} {s : Nat} {t0 : Nat} {a1 : Int32} {a2 : Int32} (hs : s < 5) (ht0 : t0 < 8) (ha1b : bd (a1) 41) (hst : ∀ i, i < tn a1 → bd (nI i * a2) 40) : CM K 2 yX5_firstWrong cX5_firstWrong 5 (some FieldType.int) [rf K (iS s), rf K (iR t0), .int a1, .int a2] M (some (.int (sp_X5_firstWrong M s t0 a1 a2))) M := by
  refine CM.ofI (by decide) [some (rf K (iS s)), some (rf K (iR t0)), some (.int a1), some (.int a2), none] rfl (Nat.le_of_ble_eq_true rfl) (Nat.le_of_ble_eq_true rfl) (fun G hG _ hret => ?_)
  refine r_iconst (pc := 0) hG dX5_firstWrong_0 ic_0 ?_
  refine r_istore (pc := 1) (ls' := [_, _, _, _, _]) hG dX5_firstWrong_1 rfl rfl ?_
  have hb3 : bd a1 41 := ha1b
  have hb3l := bd_lt hb3
  have lp3 : ∀ i, i ≤ (tn a1) → (∀ k, k < i → ps_X5_firstWrong_3 M s t0 a1 a2 k = false) → J G K M 3 [some (rf K (iS s)), some (rf K (iR t0)), some (.int a1), some (.int a2), some (.int (nI i))] [] := by
    refine up_ind (tn a1) (fun i hi3 ih3 => ?_)
    intro hp3
    refine r_iload (pc := 3) hG dX5_firstWrong_3 rfl ?_
    refine r_iload_n (pc := 5) hG dX5_firstWrong_5 rfl ?_
    refine r_icmp_ge (pc := 6) (tgt := 34) hG dX5_firstWrong_6 (by decide) (fun c1 => ?_) (fun c1 => ?_)
    · have e3 : i = (tn a1) := by have := (bd_le hb3 (by omega)).mp c1; omega
      subst e3
      refine r_iconst (pc := 34) hG dX5_firstWrong_34 ic_m1 ?_
      exact hret _ _ _ _ dX5_firstWrong_35 (Eq.symm (by unfold sp_X5_firstWrong; exact (fndN_none (tn a1) 0 (fun k _ hk => hp3 k (by omega))))) rfl
    · have hl3 : i < (tn a1) := by have := mt (bd_le hb3 (by omega)).mpr c1; omega
      refine r_aload_n (pc := 9) hG dX5_firstWrong_9 rfl ?_
      refine r_aload_n (pc := 10) hG dX5_firstWrong_10 rfl ?_
      refine gf_X3_elements (pc := 11) ht0 hG dX5_firstWrong_11 tw_327 ?_
      refine r_iload (pc := 14) hG dX5_firstWrong_14 rfl ?_
      refine r_iload_n (pc := 16) hG dX5_firstWrong_16 rfl ?_
      refine r_imul (pc := 17) hG dX5_firstWrong_17 ?_
      refine al_Ele (pc := 18) ht0 hG dX5_firstWrong_18 (ix_bd (hst i (by omega))) ?_
      refine cv_X5_isToldThrow (pc := 19) hs hG dX5_firstWrong_19 tw_870 (c_X5_isToldThrow hs) (by decide) (Nat.le_of_ble_eq_true rfl) ?_
      refine r_ifz_ne (pc := 22) (tgt := 28) hG dX5_firstWrong_22 (by decide) (fun c2 => ?_) (fun c2 => ?_)
      · refine r_iinc (pc := 28) (v := nI (i + 1)) (ls' := [_, _, _, _, _]) hG dX5_firstWrong_28 rfl (nI_1 _) rfl rfl ?_
        refine r_goto (pc := 31) (tgt := 3) hG dX5_firstWrong_31 (by decide) ?_
        exact (ih3 hl3 (fun k hk => (Nat.lt_or_eq_of_le (Nat.le_of_lt_succ hk)).elim (hp3 k) (fun q => by subst q; unfold ps_X5_firstWrong_3; exact (if_pos c2)))).wk (Eq.refl 5) (wk_s rfl (wk_s rfl (wk_s rfl (wk_s rfl (wk_s rfl wk_0)))))
      · refine r_iload (pc := 25) hG dX5_firstWrong_25 rfl ?_
        exact hret _ _ _ _ dX5_firstWrong_27 (Eq.symm (by unfold sp_X5_firstWrong; exact ((fndN_hit (tn a1) 0 i (Nat.zero_le _) (by omega) (by unfold ps_X5_firstWrong_3; exact (if_neg c2)) (fun k _ hk => hp3 k hk)).trans (if_neg c2)))) rfl
  exact (lp3 0 (Nat.zero_le _) (fun k hk => absurd hk (Nat.not_lt_zero k))).wk (Eq.refl 5) (wk_s rfl (wk_s rfl (wk_s rfl (wk_s rfl (wk_s rfl wk_0)))))

def ps_X5_tellsOfWindows_2 (M : MT) (s : Nat) (t0 : Nat) (a1 : Int32) (i : Nat) : Bool :=
  if (M.2.2 t0 (tn (2 * (nI i)))) < 0 then
    true
  else
    if (M.2.2 t0 (tn (2 * (nI i)))) < (Int32.toInt64 (M.1 s 0 0)) then
      false
    else
      true
def sp_X5_tellsOfWindows (M : MT) (s : Nat) (t0 : Nat) (a1 : Int32) : Bool :=
  fndN (ps_X5_tellsOfWindows_2 M s t0 a1) (fun i => (if (M.2.2 t0 (tn (2 * (nI i)))) < 0 then
  false
else
  if (M.2.2 t0 (tn (2 * (nI i)))) < (Int32.toInt64 (M.1 s 0 0)) then
    true
  else
    false)) (true) (tn a1) 0
set_option maxRecDepth 20000 in
theorem c_X5_tellsOfWindows {K : KT} {M : MT} {s : Nat} {t0 : Nat} {a1 : Int32} (hs : s < 5) (ht0 : t0 < 8) (ha1b : bd (a1) 21) : CM K 1 yX5_tellsOfWindows cX5_tellsOfWindows 6 (some FieldType.boolean) [rf K (iS s), rf K (iR t0), .int a1] M (some (.int (bz (sp_X5_tellsOfWindows M s t0 a1)))) M := by
  refine CM.ofZ (by decide) [some (rf K (iS s)), some (rf K (iR t0)), some (.int a1), none, none, none] rfl (Nat.le_of_ble_eq_true rfl) (Nat.le_of_ble_eq_true rfl) (fun G hG _ hret => ?_)
  refine r_iconst (pc := 0) hG dX5_tellsOfWindows_0 ic_0 ?_
  refine r_istore_n (pc := 1) (ls' := [_, _, _, _, _, _]) hG dX5_tellsOfWindows_1 rfl rfl ?_
  have hb2 : bd a1 21 := ha1b
  have hb2l := bd_lt hb2
  have lp2 : ∀ i, i ≤ (tn a1) → (∀ k, k < i → ps_X5_tellsOfWindows_2 M s t0 a1 k = false) → J G K M 2 [some (rf K (iS s)), some (rf K (iR t0)), some (.int a1), some (.int (nI i)), none, none] [] := by
    refine up_ind (tn a1) (fun i hi2 ih2 => ?_)
    intro hp2
    refine r_iload_n (pc := 2) hG dX5_tellsOfWindows_2 rfl ?_
    refine r_iload_n (pc := 3) hG dX5_tellsOfWindows_3 rfl ?_
    refine r_icmp_ge (pc := 4) (tgt := 43) hG dX5_tellsOfWindows_4 (by decide) (fun c1 => ?_) (fun c1 => ?_)
    · have e2 : i = (tn a1) := by have := (bd_le hb2 (by omega)).mp c1; omega
      subst e2
      refine r_iconst (pc := 43) hG dX5_tellsOfWindows_43 ic_1 ?_
      exact hret _ _ _ _ dX5_tellsOfWindows_44 (bz_t (by unfold sp_X5_tellsOfWindows; exact (fndN_none (tn a1) 0 (fun k _ hk => hp2 k (by omega))))) rfl
    · have hl2 : i < (tn a1) := by have := mt (bd_le hb2 (by omega)).mpr c1; omega
      refine r_aload_n (pc := 7) hG dX5_tellsOfWindows_7 rfl ?_
      refine gf_X3_elements (pc := 8) ht0 hG dX5_tellsOfWindows_8 tw_327 ?_
      refine r_iconst (pc := 11) hG dX5_tellsOfWindows_11 ic_2 ?_
      refine r_iload_n (pc := 12) hG dX5_tellsOfWindows_12 rfl ?_
      refine r_imul (pc := 13) hG dX5_tellsOfWindows_13 ?_
      refine al_Ele (pc := 14) ht0 hG dX5_tellsOfWindows_14 (ix_bd (two_bd (n := 20) (i := i) (by omega) (Nat.le_of_ble_eq_true rfl))) ?_
      refine r_lstore (pc := 15) (ls' := [_, _, _, _, _, _]) hG dX5_tellsOfWindows_15 rfl (Nat.le_of_ble_eq_true rfl) rfl ?_
      refine r_lload (pc := 17) hG dX5_tellsOfWindows_17 rfl ?_
      refine r_lconst (pc := 19) (v := 0) hG dX5_tellsOfWindows_19 (by decide) ?_
      refine r_lcmp (pc := 20) hG dX5_tellsOfWindows_20 ?_
      refine r_lc_lt (pc := 21) (tgt := 35) hG dX5_tellsOfWindows_21 (by decide) (fun c2 => ?_) (fun c2 => ?_)
      · refine r_iconst (pc := 35) hG dX5_tellsOfWindows_35 ic_0 ?_
        exact hret _ _ _ _ dX5_tellsOfWindows_36 (bz_f (by unfold sp_X5_tellsOfWindows; exact ((fndN_hit (tn a1) 0 i (Nat.zero_le _) (by omega) (by unfold ps_X5_tellsOfWindows_2; exact (if_pos c2)) (fun k _ hk => hp2 k hk)).trans (if_pos c2)))) rfl
      · refine r_lload (pc := 24) hG dX5_tellsOfWindows_24 rfl ?_
        refine r_aload_n (pc := 26) hG dX5_tellsOfWindows_26 rfl ?_
        refine gf_X5_windowCount (pc := 27) hs hG dX5_tellsOfWindows_27 tw_169 ?_
        refine r_i2l (pc := 30) hG dX5_tellsOfWindows_30 ?_
        refine r_lcmp (pc := 31) hG dX5_tellsOfWindows_31 ?_
        refine r_lc_lt (pc := 32) (tgt := 37) hG dX5_tellsOfWindows_32 (by decide) (fun c3 => ?_) (fun c3 => ?_)
        · refine r_iinc (pc := 37) (v := nI (i + 1)) (ls' := [_, _, _, _, _, _]) hG dX5_tellsOfWindows_37 rfl (nI_1 _) rfl rfl ?_
          refine r_goto (pc := 40) (tgt := 2) hG dX5_tellsOfWindows_40 (by decide) ?_
          exact (ih2 hl2 (fun k hk => (Nat.lt_or_eq_of_le (Nat.le_of_lt_succ hk)).elim (hp2 k) (fun q => by subst q; unfold ps_X5_tellsOfWindows_2; exact ((if_neg c2).trans (if_pos c3))))).wk (Eq.refl 6) (wk_s rfl (wk_s rfl (wk_s rfl (wk_s rfl (wk_n (wk_n wk_0))))))
        · refine r_iconst (pc := 35) hG dX5_tellsOfWindows_35 ic_0 ?_
          exact hret _ _ _ _ dX5_tellsOfWindows_36 (bz_f (by unfold sp_X5_tellsOfWindows; exact ((fndN_hit (tn a1) 0 i (Nat.zero_le _) (by omega) (by unfold ps_X5_tellsOfWindows_2; exact ((if_neg c2).trans (if_neg c3))) (fun k _ hk => hp2 k hk)).trans ((if_neg c2).trans (if_neg c3))))) rfl
  exact (lp2 0 (Nat.zero_le _) (fun k hk => absurd hk (Nat.not_lt_zero k))).wk (Eq.refl 6) (wk_s rfl (wk_s rfl (wk_s rfl (wk_s rfl (wk_n (wk_n wk_0))))))

def ps_X5_isSlowAsTold_3 (M : MT) (s : Nat) (t0 : Nat) (a1 : Int32) (a2 : Int32) (a3 : Int32) (i : Nat) : Bool :=
  if (Int32.toInt64 (sp_X8_slowness a2 a3 (M.1 s 7 (tn (Int64.toInt32 (M.2.2 t0 (tn (2 * (nI i))))))))) = (M.2.2 t0 (tn ((2 * (nI i)) + 1))) then
    false
  else
    true
def sp_X5_isSlowAsTold (M : MT) (s : Nat) (t0 : Nat) (a1 : Int32) (a2 : Int32) (a3 : Int32) : Bool :=
  fndN (ps_X5_isSlowAsTold_3 M s t0 a1 a2 a3) (fun i => (if (Int32.toInt64 (sp_X8_slowness a2 a3 (M.1 s 7 (tn (Int64.toInt32 (M.2.2 t0 (tn (2 * (nI i))))))))) = (M.2.2 t0 (tn ((2 * (nI i)) + 1))) then
  true
else
  false)) (true) (tn a1) 0
set_option maxRecDepth 20000 in
theorem c_X5_isSlowAsTold {K : KT} {M : MT} {s : Nat} {t0 : Nat} {a1 : Int32} {a2 : Int32} {a3 : Int32} (hs : s < 5) (ht0 : t0 < 8) (ha1b : bd (a1) 21) (hrw : ∀ i, i < tn a1 → bd (Int64.toInt32 (M.2.2 t0 (tn (2 * nI i)))) 8) : CM K 2 yX5_isSlowAsTold cX5_isSlowAsTold 7 (some FieldType.boolean) [rf K (iS s), rf K (iR t0), .int a1, .int a2, .int a3] M (some (.int (bz (sp_X5_isSlowAsTold M s t0 a1 a2 a3)))) M := by
  refine CM.ofZ (by decide) [some (rf K (iS s)), some (rf K (iR t0)), some (.int a1), some (.int a2), some (.int a3), none, none] rfl (Nat.le_of_ble_eq_true rfl) (Nat.le_of_ble_eq_true rfl) (fun G hG _ hret => ?_)
  refine r_iconst (pc := 0) hG dX5_isSlowAsTold_0 ic_0 ?_
  refine r_istore (pc := 1) (ls' := [_, _, _, _, _, _, _]) hG dX5_isSlowAsTold_1 rfl rfl ?_
  have hb3 : bd a1 21 := ha1b
  have hb3l := bd_lt hb3
  have lp3 : ∀ i, i ≤ (tn a1) → (∀ k, k < i → ps_X5_isSlowAsTold_3 M s t0 a1 a2 a3 k = false) → J G K M 3 [some (rf K (iS s)), some (rf K (iR t0)), some (.int a1), some (.int a2), some (.int a3), some (.int (nI i)), none] [] := by
    refine up_ind (tn a1) (fun i hi3 ih3 => ?_)
    intro hp3
    refine r_iload (pc := 3) hG dX5_isSlowAsTold_3 rfl ?_
    refine r_iload_n (pc := 5) hG dX5_isSlowAsTold_5 rfl ?_
    refine r_icmp_ge (pc := 6) (tgt := 61) hG dX5_isSlowAsTold_6 (by decide) (fun c1 => ?_) (fun c1 => ?_)
    · have e3 : i = (tn a1) := by have := (bd_le hb3 (by omega)).mp c1; omega
      subst e3
      refine r_iconst (pc := 61) hG dX5_isSlowAsTold_61 ic_1 ?_
      exact hret _ _ _ _ dX5_isSlowAsTold_62 (bz_t (by unfold sp_X5_isSlowAsTold; exact (fndN_none (tn a1) 0 (fun k _ hk => hp3 k (by omega))))) rfl
    · have hl3 : i < (tn a1) := by have := mt (bd_le hb3 (by omega)).mpr c1; omega
      refine r_aload_n (pc := 9) hG dX5_isSlowAsTold_9 rfl ?_
      refine gf_X3_elements (pc := 10) ht0 hG dX5_isSlowAsTold_10 tw_327 ?_
      refine r_iconst (pc := 13) hG dX5_isSlowAsTold_13 ic_2 ?_
      refine r_iload (pc := 14) hG dX5_isSlowAsTold_14 rfl ?_
      refine r_imul (pc := 16) hG dX5_isSlowAsTold_16 ?_
      refine al_Ele (pc := 17) ht0 hG dX5_isSlowAsTold_17 (ix_bd (two_bd (n := 20) (i := i) (by omega) (Nat.le_of_ble_eq_true rfl))) ?_
      refine r_l2i (pc := 18) hG dX5_isSlowAsTold_18 ?_
      refine r_istore (pc := 19) (ls' := [_, _, _, _, _, _, _]) hG dX5_isSlowAsTold_19 rfl rfl ?_
      refine r_iload_n (pc := 21) hG dX5_isSlowAsTold_21 rfl ?_
      refine r_iload (pc := 22) hG dX5_isSlowAsTold_22 rfl ?_
      refine r_aload_n (pc := 24) hG dX5_isSlowAsTold_24 rfl ?_
      refine gf_X5_windows (pc := 25) hs hG dX5_isSlowAsTold_25 tw_162 ?_
      refine r_iload (pc := 28) hG dX5_isSlowAsTold_28 rfl ?_
      refine aa_WA (pc := 30) hs hG dX5_isSlowAsTold_30 (ix_bd (hrw i (by omega))) ?_
      refine gf_X7_floor (pc := 31) hs (bd_lt (hrw i (by omega))) hG dX5_isSlowAsTold_31 tw_117 ?_
      refine cs_X8_slowness_n (pc := 34)  hG dX5_isSlowAsTold_34 nw_RX5_104 (c_X8_slowness) (by decide) (Nat.le_of_ble_eq_true rfl) ?_
      refine r_i2l (pc := 37) hG dX5_isSlowAsTold_37 ?_
      refine r_aload_n (pc := 38) hG dX5_isSlowAsTold_38 rfl ?_
      refine gf_X3_elements (pc := 39) ht0 hG dX5_isSlowAsTold_39 tw_327 ?_
      refine r_iconst (pc := 42) hG dX5_isSlowAsTold_42 ic_2 ?_
      refine r_iload (pc := 43) hG dX5_isSlowAsTold_43 rfl ?_
      refine r_imul (pc := 45) hG dX5_isSlowAsTold_45 ?_
      refine r_iconst (pc := 46) hG dX5_isSlowAsTold_46 ic_1 ?_
      refine r_iadd (pc := 47) hG dX5_isSlowAsTold_47 ?_
      refine al_Ele (pc := 48) ht0 hG dX5_isSlowAsTold_48 (ix_bd (two_bd1 (n := 20) (i := i) (by omega) (Nat.le_of_ble_eq_true rfl))) ?_
      refine r_lcmp (pc := 49) hG dX5_isSlowAsTold_49 ?_
      refine r_lc_eq (pc := 50) (tgt := 55) hG dX5_isSlowAsTold_50 (by decide) (fun c2 => ?_) (fun c2 => ?_)
      · refine r_iinc (pc := 55) (v := nI (i + 1)) (ls' := [_, _, _, _, _, _, _]) hG dX5_isSlowAsTold_55 rfl (nI_1 _) rfl rfl ?_
        refine r_goto (pc := 58) (tgt := 3) hG dX5_isSlowAsTold_58 (by decide) ?_
        exact (ih3 hl3 (fun k hk => (Nat.lt_or_eq_of_le (Nat.le_of_lt_succ hk)).elim (hp3 k) (fun q => by subst q; unfold ps_X5_isSlowAsTold_3; exact (if_pos c2)))).wk (Eq.refl 7) (wk_s rfl (wk_s rfl (wk_s rfl (wk_s rfl (wk_s rfl (wk_s rfl (wk_n wk_0)))))))
      · refine r_iconst (pc := 53) hG dX5_isSlowAsTold_53 ic_0 ?_
        exact hret _ _ _ _ dX5_isSlowAsTold_54 (bz_f (by unfold sp_X5_isSlowAsTold; exact ((fndN_hit (tn a1) 0 i (Nat.zero_le _) (by omega) (by unfold ps_X5_isSlowAsTold_3; exact (if_neg c2)) (fun k _ hk => hp3 k hk)).trans (if_neg c2)))) rfl
  exact (lp3 0 (Nat.zero_le _) (fun k hk => absurd hk (Nat.not_lt_zero k))).wk (Eq.refl 7) (wk_s rfl (wk_s rfl (wk_s rfl (wk_s rfl (wk_s rfl (wk_s rfl (wk_n wk_0)))))))

def st_X5_kindsThatFit_6 (M : MT) (s : Nat) (t0 : Nat) (a1 : Int32) (a2 : Int32) (i : Nat) (b6 : Int32) : Int32 :=
  if (sp_X5_isSlowAsTold M s t0 a1 (nI i) (M.1 s 10 (tn a2))) = true then
    b6 ||| (1 <<< ((nI i) &&& 31))
  else
    b6
def sp_X5_kindsThatFit (M : MT) (s : Nat) (t0 : Nat) (a1 : Int32) (a2 : Int32) : Int32 :=
  itN 6 (st_X5_kindsThatFit_6 M s t0 a1 a2) 0
set_option maxRecDepth 20000 in
theorem c_X5_kindsThatFit {K : KT} {M : MT} {s : Nat} {t0 : Nat} {a1 : Int32} {a2 : Int32} (hs : s < 5) (ht0 : t0 < 8) (ha1b : bd (a1) 21) (ha2b : bd (a2) 8) (hrw : ∀ i, i < tn a1 → bd (Int64.toInt32 (M.2.2 t0 (tn (2 * nI i)))) 8) : CM K 3 yX5_kindsThatFit cX5_kindsThatFit 6 (some FieldType.int) [rf K (iS s), rf K (iR t0), .int a1, .int a2] M (some (.int (sp_X5_kindsThatFit M s t0 a1 a2))) M := by
  refine CM.ofI (by decide) [some (rf K (iS s)), some (rf K (iR t0)), some (.int a1), some (.int a2), none, none] rfl (Nat.le_of_ble_eq_true rfl) (Nat.le_of_ble_eq_true rfl) (fun G hG _ hret => ?_)
  refine r_iconst (pc := 0) hG dX5_kindsThatFit_0 ic_0 ?_
  refine r_istore (pc := 1) (ls' := [_, _, _, _, _, _]) hG dX5_kindsThatFit_1 rfl rfl ?_
  refine r_iconst (pc := 3) hG dX5_kindsThatFit_3 ic_0 ?_
  refine r_istore (pc := 4) (ls' := [_, _, _, _, _, _]) hG dX5_kindsThatFit_4 rfl rfl ?_
  have lp6 : ∀ i, i ≤ 6 → ∀ b6 : Int32, b6 = itN i (st_X5_kindsThatFit_6 M s t0 a1 a2) 0 → J G K M 6 [some (rf K (iS s)), some (rf K (iR t0)), some (.int a1), some (.int a2), some (.int b6), some (.int (nI i))] [] := by
    refine up_ind 6 (fun i hi6 ih6 => ?_)
    intro b6 hg6
    refine r_iload (pc := 6) hG dX5_kindsThatFit_6 rfl ?_
    refine r_iconst (pc := 8) hG dX5_kindsThatFit_8 ic_5 ?_
    refine r_icmp_gt (pc := 9) (tgt := 47) hG dX5_kindsThatFit_9 (by decide) (fun c1 => ?_) (fun c1 => ?_)
    · have e6 : i = 6 := by have := (lt_nI (k := 5) (i := i) (Nat.le_of_ble_eq_true rfl) (by omega)).mp c1; omega
      subst hg6
      subst e6
      refine r_iload (pc := 47) hG dX5_kindsThatFit_47 rfl ?_
      exact hret _ _ _ _ dX5_kindsThatFit_49 (Eq.symm (by unfold sp_X5_kindsThatFit; exact rfl)) rfl
    · have hl6 : i < 6 := by have := mt (lt_nI (k := 5) (i := i) (Nat.le_of_ble_eq_true rfl) (by omega)).mpr c1; omega
      refine r_aload_n (pc := 12) hG dX5_kindsThatFit_12 rfl ?_
      refine r_aload_n (pc := 13) hG dX5_kindsThatFit_13 rfl ?_
      refine r_iload_n (pc := 14) hG dX5_kindsThatFit_14 rfl ?_
      refine r_iload (pc := 15) hG dX5_kindsThatFit_15 rfl ?_
      refine r_aload_n (pc := 17) hG dX5_kindsThatFit_17 rfl ?_
      refine gf_X5_people (pc := 18) hs hG dX5_kindsThatFit_18 tw_164 ?_
      refine r_iload_n (pc := 21) hG dX5_kindsThatFit_21 rfl ?_
      refine aa_PA (pc := 22) hs hG dX5_kindsThatFit_22 (ix_bd ha2b) ?_
      refine gf_X2_a (pc := 23) hs (bd_lt ha2b) hG dX5_kindsThatFit_23 tw_139 ?_
      refine cv_X5_isSlowAsTold (pc := 26) hs hG dX5_kindsThatFit_26 tw_898 (c_X5_isSlowAsTold hs ht0 ha1b hrw) (by decide) (Nat.le_of_ble_eq_true rfl) ?_
      refine r_ifz_eq (pc := 29) (tgt := 41) hG dX5_kindsThatFit_29 (by decide) (fun c2 => ?_) (fun c2 => ?_)
      · refine r_iinc (pc := 41) (v := nI (i + 1)) (ls' := [_, _, _, _, _, _]) hG dX5_kindsThatFit_41 rfl (nI_1 _) rfl rfl ?_
        refine r_goto (pc := 44) (tgt := 6) hG dX5_kindsThatFit_44 (by decide) ?_
        have eN6 : b6 = st_X5_kindsThatFit_6 M s t0 a1 a2 i (itN i (st_X5_kindsThatFit_6 M s t0 a1 a2) 0) := by rw [← hg6]; unfold st_X5_kindsThatFit_6; exact Eq.symm (if_neg c2)
        refine J.wk (ls' := [some (rf K (iS s)), some (rf K (iR t0)), some (.int a1), some (.int a2), some (.int b6), some (.int (nI (i + 1)))]) ?_ (Eq.refl 6) (wk_s rfl (wk_s rfl (wk_s rfl (wk_s rfl (wk_s rfl (wk_s rfl wk_0))))))
        exact ih6 hl6 b6 eN6
      · refine r_iload (pc := 32) hG dX5_kindsThatFit_32 rfl ?_
        refine r_iconst (pc := 34) hG dX5_kindsThatFit_34 ic_1 ?_
        refine r_iload (pc := 35) hG dX5_kindsThatFit_35 rfl ?_
        refine r_ishl (pc := 37) hG dX5_kindsThatFit_37 ?_
        refine r_ior (pc := 38) hG dX5_kindsThatFit_38 ?_
        refine r_istore (pc := 39) (ls' := [_, _, _, _, _, _]) hG dX5_kindsThatFit_39 rfl rfl ?_
        refine r_iinc (pc := 41) (v := nI (i + 1)) (ls' := [_, _, _, _, _, _]) hG dX5_kindsThatFit_41 rfl (nI_1 _) rfl rfl ?_
        refine r_goto (pc := 44) (tgt := 6) hG dX5_kindsThatFit_44 (by decide) ?_
        have eN6 : b6 ||| (1 <<< ((nI i) &&& 31)) = st_X5_kindsThatFit_6 M s t0 a1 a2 i (itN i (st_X5_kindsThatFit_6 M s t0 a1 a2) 0) := by rw [← hg6]; unfold st_X5_kindsThatFit_6; exact Eq.symm (if_pos c2)
        refine J.wk (ls' := [some (rf K (iS s)), some (rf K (iR t0)), some (.int a1), some (.int a2), some (.int (b6 ||| (1 <<< ((nI i) &&& 31)))), some (.int (nI (i + 1)))]) ?_ (Eq.refl 6) (wk_s rfl (wk_s rfl (wk_s rfl (wk_s rfl (wk_s rfl (wk_s rfl wk_0))))))
        exact ih6 hl6 (b6 ||| (1 <<< ((nI i) &&& 31))) eN6
  exact (lp6 0 (Nat.zero_le _) _ rfl).wk (Eq.refl 6) (wk_s rfl (wk_s rfl (wk_s rfl (wk_s rfl (wk_s rfl (wk_s rfl wk_0))))))

def sp_X5_draw (M : MT) (s : Nat) (a0 : Int32) : Int32 × MT :=
  if a0 ≤ 0 then
    (0, u1 M s 5 0 (((M.1 s 5 0) * 1103515245) + 12345))
  else
    (irm (ius ((u1 M s 5 0 (((M.1 s 5 0) * 1103515245) + 12345)).1 s 5 0) 16) a0, u1 M s 5 0 (((M.1 s 5 0) * 1103515245) + 12345))
set_option maxRecDepth 20000 in
theorem c_X5_draw {K : KT} {M : MT} {s : Nat} {a0 : Int32} (hs : s < 5)  : CM K 1 yX5_draw cX5_draw 2 (some FieldType.int) [rf K (iS s), .int a0] M (some (.int (sp_X5_draw M s a0).1)) (sp_X5_draw M s a0).2 := by
  refine CM.ofI (by decide) [some (rf K (iS s)), some (.int a0)] rfl (Nat.le_of_ble_eq_true rfl) (Nat.le_of_ble_eq_true rfl) (fun G hG _ hret => ?_)
  refine r_aload_n (pc := 0) hG dX5_draw_0 rfl ?_
  refine r_aload_n (pc := 1) hG dX5_draw_1 rfl ?_
  refine gf_X5_seed (pc := 2) hs hG dX5_draw_2 tw_193 ?_
  refine r_ldc (pc := 5) hG dX5_draw_5 tw_1137 ?_
  refine r_imul (pc := 7) hG dX5_draw_7 ?_
  refine r_sipush (pc := 8) hG dX5_draw_8 sc_12345 ?_
  refine r_iadd (pc := 11) hG dX5_draw_11 ?_
  refine pf_X5_seed (pc := 12) hs hG dX5_draw_12 tw_193 ?_
  refine r_iload_n (pc := 15) hG dX5_draw_15 rfl ?_
  refine r_if_le (pc := 16) (tgt := 31) hG dX5_draw_16 (by decide) (fun c1 => ?_) (fun c1 => ?_)
  · refine r_iconst (pc := 31) hG dX5_draw_31 ic_0 ?_
    exact hret _ _ _ _ dX5_draw_32 (pair_fst (show sp_X5_draw M s a0 = (0, u1 M s 5 0 (((M.1 s 5 0) * 1103515245) + 12345)) from (by unfold sp_X5_draw; exact (if_pos c1)))) (pair_snd (show sp_X5_draw M s a0 = (0, u1 M s 5 0 (((M.1 s 5 0) * 1103515245) + 12345)) from (by unfold sp_X5_draw; exact (if_pos c1))))
  · refine r_aload_n (pc := 19) hG dX5_draw_19 rfl ?_
    refine gf_X5_seed (pc := 20) hs hG dX5_draw_20 tw_193 ?_
    refine r_bipush (pc := 23) hG dX5_draw_23 bc_16 ?_
    refine r_iushr (pc := 25) hG dX5_draw_25 ?_
    refine r_iload_n (pc := 26) hG dX5_draw_26 rfl ?_
    refine r_irem (pc := 27) hG dX5_draw_27 (fun q => c1 (by rw [q]; decide)) ?_
    refine r_goto (pc := 28) (tgt := 32) hG dX5_draw_28 (by decide) ?_
    exact hret _ _ _ _ dX5_draw_32 (pair_fst (show sp_X5_draw M s a0 = (irm (ius ((u1 M s 5 0 (((M.1 s 5 0) * 1103515245) + 12345)).1 s 5 0) 16) a0, u1 M s 5 0 (((M.1 s 5 0) * 1103515245) + 12345)) from (by unfold sp_X5_draw; exact (if_neg c1)))) (pair_snd (show sp_X5_draw M s a0 = (irm (ius ((u1 M s 5 0 (((M.1 s 5 0) * 1103515245) + 12345)).1 s 5 0) 16) a0, u1 M s 5 0 (((M.1 s 5 0) * 1103515245) + 12345)) from (by unfold sp_X5_draw; exact (if_neg c1))))
