def st_X9_astray_12 (M : MT) (a0 : Int32) (i : Nat) (b12 : Int32 × MT) : Int32 × MT :=
  (b12.1 ||| (sp_X9_openTo (u1 b12.2 5 3 0 (nI i)) a0), u1 b12.2 5 3 0 (nI i))
def sp_X9_astray (M : MT) (a0 : Int32) : Int32 × MT :=
  ((itN 11 (st_X9_astray_12 M a0) (0, M)).1, u1 ((itN 11 (st_X9_astray_12 M a0) (0, M)).2) 5 3 0 (M.1 5 3 0))
set_option maxRecDepth 20000 in
theorem c_X9_astray {K : KT} {M : MT} {a0 : Int32}  (ha0b : bd (a0) 8) : CM K 5 yX9_astray cX9_astray 5 (some FieldType.int) [rf K 140, .int a0] M (some (.int (sp_X9_astray M a0).1)) (sp_X9_astray M a0).2 := by
  refine CM.ofI (by decide) [some (rf K 140), some (.int a0), none, none, none] rfl (Nat.le_of_ble_eq_true rfl) (Nat.le_of_ble_eq_true rfl) (fun G hG _ hret => ?_)
  refine r_aload_n (pc := 0) hG dX9_astray_0 rfl ?_
  refine gf_X9_ways (pc := 1)  hG dX9_astray_1 tw_1167 ?_
  refine r_iconst (pc := 4) hG dX9_astray_4 ic_0 ?_
  refine al_Mways (pc := 5)  hG dX9_astray_5 (ix_lit (j := 0) (by decide)) ?_
  refine r_istore_n (pc := 6) (ls' := [_, _, _, _, _]) hG dX9_astray_6 rfl rfl ?_
  refine r_iconst (pc := 7) hG dX9_astray_7 ic_0 ?_
  refine r_istore_n (pc := 8) (ls' := [_, _, _, _, _]) hG dX9_astray_8 rfl rfl ?_
  refine r_iconst (pc := 9) hG dX9_astray_9 ic_0 ?_
  refine r_istore (pc := 10) (ls' := [_, _, _, _, _]) hG dX9_astray_10 rfl rfl ?_
  have lp12 : ∀ i, i ≤ 11 → ∀ b12 : Int32 × MT, b12 = itN i (st_X9_astray_12 M a0) (0, M) → J G K b12.2 12 [some (rf K 140), some (.int a0), some (.int (M.1 5 3 0)), some (.int b12.1), some (.int (nI i))] [] := by
    refine up_ind 11 (fun i hi12 ih12 => ?_)
    intro b12 hg12
    refine r_iload (pc := 12) hG dX9_astray_12 rfl ?_
    refine r_bipush (pc := 14) hG dX9_astray_14 bc_11 ?_
    refine r_icmp_ge (pc := 16) (tgt := 41) hG dX9_astray_16 (by decide) (fun c1 => ?_) (fun c1 => ?_)
    · have e12 : i = 11 := by have := (le_nI (k := 11) (i := i) (Nat.le_of_ble_eq_true rfl) (by omega)).mp c1; omega
      subst hg12
      subst e12
      refine r_aload_n (pc := 41) hG dX9_astray_41 rfl ?_
      refine gf_X9_ways (pc := 42)  hG dX9_astray_42 tw_1167 ?_
      refine r_iconst (pc := 45) hG dX9_astray_45 ic_0 ?_
      refine r_iload_n (pc := 46) hG dX9_astray_46 rfl ?_
      refine as_Mways (pc := 47)  hG dX9_astray_47 (ix_lit (j := 0) (by decide)) ?_
      refine r_iload_n (pc := 48) hG dX9_astray_48 rfl ?_
      exact hret _ _ _ _ dX9_astray_49 (pair_fst (show sp_X9_astray M a0 = ((itN 11 (st_X9_astray_12 M a0) (0, M)).1, u1 ((itN 11 (st_X9_astray_12 M a0) (0, M)).2) 5 3 0 (M.1 5 3 0)) from (by unfold sp_X9_astray; exact rfl))) (pair_snd (show sp_X9_astray M a0 = ((itN 11 (st_X9_astray_12 M a0) (0, M)).1, u1 ((itN 11 (st_X9_astray_12 M a0) (0, M)).2) 5 3 0 (M.1 5 3 0)) from (by unfold sp_X9_astray; exact rfl)))
    · have hl12 : i < 11 := by have := mt (le_nI (k := 11) (i := i) (Nat.le_of_ble_eq_true rfl) (by omega)).mpr c1; omega
      refine r_aload_n (pc := 19) hG dX9_astray_19 rfl ?_
      refine gf_X9_ways (pc := 20)  hG dX9_astray_20 tw_1167 ?_
      refine r_iconst (pc := 23) hG dX9_astray_23 ic_0 ?_
      refine r_iload (pc := 24) hG dX9_astray_24 rfl ?_
      refine as_Mways (pc := 26)  hG dX9_astray_26 (ix_lit (j := 0) (by decide)) ?_
      refine r_iload_n (pc := 27) hG dX9_astray_27 rfl ?_
      refine r_aload_n (pc := 28) hG dX9_astray_28 rfl ?_
      refine r_iload_n (pc := 29) hG dX9_astray_29 rfl ?_
      refine cv_X9_openTo (pc := 30)  hG dX9_astray_30 tw_1495 (c_X9_openTo ha0b) (by decide) (Nat.le_of_ble_eq_true rfl) ?_
      refine r_ior (pc := 33) hG dX9_astray_33 ?_
      refine r_istore_n (pc := 34) (ls' := [_, _, _, _, _]) hG dX9_astray_34 rfl rfl ?_
      refine r_iinc (pc := 35) (v := nI (i + 1)) (ls' := [_, _, _, _, _]) hG dX9_astray_35 rfl (nI_1 _) rfl rfl ?_
      refine r_goto (pc := 38) (tgt := 12) hG dX9_astray_38 (by decide) ?_
      have eN12 : (b12.1 ||| (sp_X9_openTo (u1 b12.2 5 3 0 (nI i)) a0), u1 b12.2 5 3 0 (nI i)) = st_X9_astray_12 M a0 i (itN i (st_X9_astray_12 M a0) (0, M)) := by rw [← hg12]; unfold st_X9_astray_12; exact Eq.symm rfl
      refine J.wk (ls' := [some (rf K 140), some (.int a0), some (.int (M.1 5 3 0)), some (.int (b12.1 ||| (sp_X9_openTo (u1 b12.2 5 3 0 (nI i)) a0))), some (.int (nI (i + 1)))]) ?_ (Eq.refl 5) (wk_s rfl (wk_s rfl (wk_s rfl (wk_s rfl (wk_s rfl wk_0)))))
      exact ih12 hl12 (b12.1 ||| (sp_X9_openTo (u1 b12.2 5 3 0 (nI i)) a0), u1 b12.2 5 3 0 (nI i)) eN12
  exact (lp12 0 (Nat.zero_le _) _ rfl).wk (Eq.refl 5) (wk_s rfl (wk_s rfl (wk_s rfl (wk_s rfl (wk_s rfl wk_0)))))

def st_X9_windsFor_14 (M : MT) (a0 : Int32) (a1 : Int32) (a2 : Int32) (a3 : Int32) (i : Nat) (b14 : Int32 × MT) : Int32 × MT :=
  if (sp_X9_caughtBy (u1 b14.2 5 3 0 (nI i)) a1 a2 a3) = a0 then
    (b14.1 + 1, u1 b14.2 5 3 0 (nI i))
  else
    (b14.1, u1 b14.2 5 3 0 (nI i))
def sp_X9_windsFor (M : MT) (a0 : Int32) (a1 : Int32) (a2 : Int32) (a3 : Int32) : Int32 × MT :=
  ((itN 11 (st_X9_windsFor_14 M a0 a1 a2 a3) (0, M)).1, u1 ((itN 11 (st_X9_windsFor_14 M a0 a1 a2 a3) (0, M)).2) 5 3 0 (M.1 5 3 0))
set_option maxRecDepth 20000 in
theorem c_X9_windsFor {K : KT} {M : MT} {a0 : Int32} {a1 : Int32} {a2 : Int32} {a3 : Int32}  (ha1b : bd (a1) 8) (hpc5 : bd (M.1 5 1 0) 9) : CM K 6 yX9_windsFor cX9_windsFor 8 (some FieldType.int) [rf K 140, .int a0, .int a1, .int a2, .int a3] M (some (.int (sp_X9_windsFor M a0 a1 a2 a3).1)) (sp_X9_windsFor M a0 a1 a2 a3).2 := by
  refine CM.ofI (by decide) [some (rf K 140), some (.int a0), some (.int a1), some (.int a2), some (.int a3), none, none, none] rfl (Nat.le_of_ble_eq_true rfl) (Nat.le_of_ble_eq_true rfl) (fun G hG _ hret => ?_)
  have hpl5 := bd_lt hpc5
  refine r_aload_n (pc := 0) hG dX9_windsFor_0 rfl ?_
  refine gf_X9_ways (pc := 1)  hG dX9_windsFor_1 tw_1167 ?_
  refine r_iconst (pc := 4) hG dX9_windsFor_4 ic_0 ?_
  refine al_Mways (pc := 5)  hG dX9_windsFor_5 (ix_lit (j := 0) (by decide)) ?_
  refine r_istore (pc := 6) (ls' := [_, _, _, _, _, _, _, _]) hG dX9_windsFor_6 rfl rfl ?_
  refine r_iconst (pc := 8) hG dX9_windsFor_8 ic_0 ?_
  refine r_istore (pc := 9) (ls' := [_, _, _, _, _, _, _, _]) hG dX9_windsFor_9 rfl rfl ?_
  refine r_iconst (pc := 11) hG dX9_windsFor_11 ic_0 ?_
  refine r_istore (pc := 12) (ls' := [_, _, _, _, _, _, _, _]) hG dX9_windsFor_12 rfl rfl ?_
  have lp14 : ∀ i, i ≤ 11 → ∀ b14 : Int32 × MT, b14 = itN i (st_X9_windsFor_14 M a0 a1 a2 a3) (0, M) → J G K b14.2 14 [some (rf K 140), some (.int a0), some (.int a1), some (.int a2), some (.int a3), some (.int (M.1 5 3 0)), some (.int b14.1), some (.int (nI i))] [] := by
    refine up_ind 11 (fun i hi14 ih14 => ?_)
    intro b14 hg14
    have hp145 : bd (b14.2.1 5 1 0) 9 := by subst hg14; exact itN_inv (fun x : Int32 × MT => bd (x.2.1 5 1 0) 9) i hpc5 (fun k m hk hm => by unfold st_X9_windsFor_14; (repeat' split) <;> exact hm)
    refine r_iload (pc := 14) hG dX9_windsFor_14 rfl ?_
    refine r_bipush (pc := 16) hG dX9_windsFor_16 bc_11 ?_
    refine r_icmp_ge (pc := 18) (tgt := 50) hG dX9_windsFor_18 (by decide) (fun c1 => ?_) (fun c1 => ?_)
    · have e14 : i = 11 := by have := (le_nI (k := 11) (i := i) (Nat.le_of_ble_eq_true rfl) (by omega)).mp c1; omega
      subst hg14
      subst e14
      refine r_aload_n (pc := 50) hG dX9_windsFor_50 rfl ?_
      refine gf_X9_ways (pc := 51)  hG dX9_windsFor_51 tw_1167 ?_
      refine r_iconst (pc := 54) hG dX9_windsFor_54 ic_0 ?_
      refine r_iload (pc := 55) hG dX9_windsFor_55 rfl ?_
      refine as_Mways (pc := 57)  hG dX9_windsFor_57 (ix_lit (j := 0) (by decide)) ?_
      refine r_iload (pc := 58) hG dX9_windsFor_58 rfl ?_
      exact hret _ _ _ _ dX9_windsFor_60 (pair_fst (show sp_X9_windsFor M a0 a1 a2 a3 = ((itN 11 (st_X9_windsFor_14 M a0 a1 a2 a3) (0, M)).1, u1 ((itN 11 (st_X9_windsFor_14 M a0 a1 a2 a3) (0, M)).2) 5 3 0 (M.1 5 3 0)) from (by unfold sp_X9_windsFor; exact rfl))) (pair_snd (show sp_X9_windsFor M a0 a1 a2 a3 = ((itN 11 (st_X9_windsFor_14 M a0 a1 a2 a3) (0, M)).1, u1 ((itN 11 (st_X9_windsFor_14 M a0 a1 a2 a3) (0, M)).2) 5 3 0 (M.1 5 3 0)) from (by unfold sp_X9_windsFor; exact rfl)))
    · have hl14 : i < 11 := by have := mt (le_nI (k := 11) (i := i) (Nat.le_of_ble_eq_true rfl) (by omega)).mpr c1; omega
      refine r_aload_n (pc := 21) hG dX9_windsFor_21 rfl ?_
      refine gf_X9_ways (pc := 22)  hG dX9_windsFor_22 tw_1167 ?_
      refine r_iconst (pc := 25) hG dX9_windsFor_25 ic_0 ?_
      refine r_iload (pc := 26) hG dX9_windsFor_26 rfl ?_
      refine as_Mways (pc := 28)  hG dX9_windsFor_28 (ix_lit (j := 0) (by decide)) ?_
      refine r_aload_n (pc := 29) hG dX9_windsFor_29 rfl ?_
      refine r_iload_n (pc := 30) hG dX9_windsFor_30 rfl ?_
      refine r_iload_n (pc := 31) hG dX9_windsFor_31 rfl ?_
      refine r_iload (pc := 32) hG dX9_windsFor_32 rfl ?_
      refine cv_X9_caughtBy (pc := 34)  hG dX9_windsFor_34 tw_1450 (c_X9_caughtBy ha1b hp145) (by decide) (Nat.le_of_ble_eq_true rfl) ?_
      refine r_iload_n (pc := 37) hG dX9_windsFor_37 rfl ?_
      refine r_icmp_ne (pc := 38) (tgt := 44) hG dX9_windsFor_38 (by decide) (fun c2 => ?_) (fun c2 => ?_)
      · refine r_iinc (pc := 44) (v := nI (i + 1)) (ls' := [_, _, _, _, _, _, _, _]) hG dX9_windsFor_44 rfl (nI_1 _) rfl rfl ?_
        refine r_goto (pc := 47) (tgt := 14) hG dX9_windsFor_47 (by decide) ?_
        have eN14 : (b14.1, u1 b14.2 5 3 0 (nI i)) = st_X9_windsFor_14 M a0 a1 a2 a3 i (itN i (st_X9_windsFor_14 M a0 a1 a2 a3) (0, M)) := by rw [← hg14]; unfold st_X9_windsFor_14; exact Eq.symm (if_neg c2)
        refine J.wk (ls' := [some (rf K 140), some (.int a0), some (.int a1), some (.int a2), some (.int a3), some (.int (M.1 5 3 0)), some (.int b14.1), some (.int (nI (i + 1)))]) ?_ (Eq.refl 8) (wk_s rfl (wk_s rfl (wk_s rfl (wk_s rfl (wk_s rfl (wk_s rfl (wk_s rfl (wk_s rfl wk_0))))))))
        exact ih14 hl14 (b14.1, u1 b14.2 5 3 0 (nI i)) eN14
      · refine r_iinc (pc := 41) (v := b14.1 + 1) (ls' := [_, _, _, _, _, _, _, _]) hG dX9_windsFor_41 rfl rfl rfl rfl ?_
        refine r_iinc (pc := 44) (v := nI (i + 1)) (ls' := [_, _, _, _, _, _, _, _]) hG dX9_windsFor_44 rfl (nI_1 _) rfl rfl ?_
        refine r_goto (pc := 47) (tgt := 14) hG dX9_windsFor_47 (by decide) ?_
        have eN14 : (b14.1 + 1, u1 b14.2 5 3 0 (nI i)) = st_X9_windsFor_14 M a0 a1 a2 a3 i (itN i (st_X9_windsFor_14 M a0 a1 a2 a3) (0, M)) := by rw [← hg14]; unfold st_X9_windsFor_14; exact Eq.symm (if_pos c2)
        refine J.wk (ls' := [some (rf K 140), some (.int a0), some (.int a1), some (.int a2), some (.int a3), some (.int (M.1 5 3 0)), some (.int (b14.1 + 1)), some (.int (nI (i + 1)))]) ?_ (Eq.refl 8) (wk_s rfl (wk_s rfl (wk_s rfl (wk_s rfl (wk_s rfl (wk_s rfl (wk_s rfl (wk_s rfl wk_0))))))))
        exact ih14 hl14 (b14.1 + 1, u1 b14.2 5 3 0 (nI i)) eN14
  exact (lp14 0 (Nat.zero_le _) _ rfl).wk (Eq.refl 8) (wk_s rfl (wk_s rfl (wk_s rfl (wk_s rfl (wk_s rfl (wk_s rfl (wk_s rfl (wk_s rfl wk_0))))))))

def sp_X9_open (M : MT) (a0 : Int32) (a1 : Int32) : Int32 × MT :=
  if (sp_X9_isWindow M a0) = true then
    if (sp_X9_within a1 0 1) = true then
      if a1 = 0 then
        (sp_X9_openTo M a0, M)
      else
        ((sp_X9_astray M a0).1, (sp_X9_astray M a0).2)
    else
      ((sp_X9_no M (-2)).1, (sp_X9_no M (-2)).2)
  else
    ((sp_X9_no M (-2)).1, (sp_X9_no M (-2)).2)
set_option maxRecDepth 20000 in
theorem c_X9_open {K : KT} {M : MT} {a0 : Int32} {a1 : Int32}  (hokr : OKR M) : CM K 6 yX9_open cX9_open 3 (some FieldType.int) [rf K 140, .int a0, .int a1] M (some (.int (sp_X9_open M a0 a1).1)) (sp_X9_open M a0 a1).2 := by
  refine CM.ofI (by decide) [some (rf K 140), some (.int a0), some (.int a1)] rfl (Nat.le_of_ble_eq_true rfl) (Nat.le_of_ble_eq_true rfl) (fun G hG _ hret => ?_)
  obtain ⟨hok5, hhl, htp5⟩ := id hokr
  obtain ⟨hwc5, hpc5, ⟨hcl5, hcm5⟩, hwi5, hda5, hle5, hk85, ha85, hW5, hP5⟩ := id hok5
  have hwl5 := bd_lt hwc5
  have hpl5 := bd_lt hpc5
  have hcl5l := bd_lt hcl5
  refine r_aload_n (pc := 0) hG dX9_open_0 rfl ?_
  refine r_iload_n (pc := 1) hG dX9_open_1 rfl ?_
  refine cv_X9_isWindow (pc := 2)  hG dX9_open_2 tw_1430 (c_X9_isWindow) (by decide) (Nat.le_of_ble_eq_true rfl) ?_
  refine r_ifz_eq (pc := 5) (tgt := 17) hG dX9_open_5 (by decide) (fun c1 => ?_) (fun c1 => ?_)
  · refine r_aload_n (pc := 17) hG dX9_open_17 rfl ?_
    refine r_bipush (pc := 18) hG dX9_open_18 bc_m2 ?_
    refine cv_X9_no (pc := 20)  hG dX9_open_20 tw_1273 (c_X9_no (bd_lit (n := 7) (by decide))) (by decide) (Nat.le_of_ble_eq_true rfl) ?_
    exact hret _ _ _ _ dX9_open_23 (pair_fst (show sp_X9_open M a0 a1 = ((sp_X9_no M (-2)).1, (sp_X9_no M (-2)).2) from (by unfold sp_X9_open; exact (if_neg c1)))) (pair_snd (show sp_X9_open M a0 a1 = ((sp_X9_no M (-2)).1, (sp_X9_no M (-2)).2) from (by unfold sp_X9_open; exact (if_neg c1))))
  · refine r_iload_n (pc := 8) hG dX9_open_8 rfl ?_
    refine r_iconst (pc := 9) hG dX9_open_9 ic_0 ?_
    refine r_iconst (pc := 10) hG dX9_open_10 ic_1 ?_
    refine cs_X9_within (pc := 11)  hG dX9_open_11 tw_1270 (c_X9_within) (by decide) (Nat.le_of_ble_eq_true rfl) ?_
    refine r_ifz_ne (pc := 14) (tgt := 24) hG dX9_open_14 (by decide) (fun c2 => ?_) (fun c2 => ?_)
    · refine r_iload_n (pc := 24) hG dX9_open_24 rfl ?_
      refine r_if_ne (pc := 25) (tgt := 36) hG dX9_open_25 (by decide) (fun c3 => ?_) (fun c3 => ?_)
      · refine r_aload_n (pc := 36) hG dX9_open_36 rfl ?_
        refine r_iload_n (pc := 37) hG dX9_open_37 rfl ?_
        refine cv_X9_astray (pc := 38)  hG dX9_open_38 tw_1499 (c_X9_astray (hasW5 hwc5 c1)) (by decide) (Nat.le_of_ble_eq_true rfl) ?_
        exact hret _ _ _ _ dX9_open_41 (pair_fst (show sp_X9_open M a0 a1 = ((sp_X9_astray M a0).1, (sp_X9_astray M a0).2) from (by unfold sp_X9_open; exact ((if_pos c1).trans ((if_pos c2).trans (if_neg c3)))))) (pair_snd (show sp_X9_open M a0 a1 = ((sp_X9_astray M a0).1, (sp_X9_astray M a0).2) from (by unfold sp_X9_open; exact ((if_pos c1).trans ((if_pos c2).trans (if_neg c3))))))
      · refine r_aload_n (pc := 28) hG dX9_open_28 rfl ?_
        refine r_iload_n (pc := 29) hG dX9_open_29 rfl ?_
        refine cv_X9_openTo (pc := 30)  hG dX9_open_30 tw_1495 (c_X9_openTo (hasW5 hwc5 c1)) (by decide) (Nat.le_of_ble_eq_true rfl) ?_
        refine r_goto (pc := 33) (tgt := 41) hG dX9_open_33 (by decide) ?_
        exact hret _ _ _ _ dX9_open_41 (pair_fst (show sp_X9_open M a0 a1 = (sp_X9_openTo M a0, M) from (by unfold sp_X9_open; exact ((if_pos c1).trans ((if_pos c2).trans (if_pos c3)))))) (pair_snd (show sp_X9_open M a0 a1 = (sp_X9_openTo M a0, M) from (by unfold sp_X9_open; exact ((if_pos c1).trans ((if_pos c2).trans (if_pos c3))))))
    · refine r_aload_n (pc := 17) hG dX9_open_17 rfl ?_
      refine r_bipush (pc := 18) hG dX9_open_18 bc_m2 ?_
      refine cv_X9_no (pc := 20)  hG dX9_open_20 tw_1273 (c_X9_no (bd_lit (n := 7) (by decide))) (by decide) (Nat.le_of_ble_eq_true rfl) ?_
      exact hret _ _ _ _ dX9_open_23 (pair_fst (show sp_X9_open M a0 a1 = ((sp_X9_no M (-2)).1, (sp_X9_no M (-2)).2) from (by unfold sp_X9_open; exact ((if_pos c1).trans (if_neg c2))))) (pair_snd (show sp_X9_open M a0 a1 = ((sp_X9_no M (-2)).1, (sp_X9_no M (-2)).2) from (by unfold sp_X9_open; exact ((if_pos c1).trans (if_neg c2)))))

def sp_X9_chance (M : MT) (a0 : Int32) (a1 : Int32) (a2 : Int32) (a3 : Int32) : Int32 × MT :=
  if (sp_X9_isOne M a0) = true then
    if (sp_X9_isThrow M a1 a2 a3) = true then
      ((1000000 * ((sp_X9_windsFor M a0 a1 a2 a3).1)) / 11, (sp_X9_windsFor M a0 a1 a2 a3).2)
    else
      ((sp_X9_no M (-2)).1, (sp_X9_no M (-2)).2)
  else
    ((sp_X9_no M (-2)).1, (sp_X9_no M (-2)).2)
set_option maxRecDepth 20000 in
theorem c_X9_chance {K : KT} {M : MT} {a0 : Int32} {a1 : Int32} {a2 : Int32} {a3 : Int32}  (hokr : OKR M) : CM K 7 yX9_chance cX9_chance 5 (some FieldType.int) [rf K 140, .int a0, .int a1, .int a2, .int a3] M (some (.int (sp_X9_chance M a0 a1 a2 a3).1)) (sp_X9_chance M a0 a1 a2 a3).2 := by
  refine CM.ofI (by decide) [some (rf K 140), some (.int a0), some (.int a1), some (.int a2), some (.int a3)] rfl (Nat.le_of_ble_eq_true rfl) (Nat.le_of_ble_eq_true rfl) (fun G hG _ hret => ?_)
  obtain ⟨hok5, hhl, htp5⟩ := id hokr
  obtain ⟨hwc5, hpc5, ⟨hcl5, hcm5⟩, hwi5, hda5, hle5, hk85, ha85, hW5, hP5⟩ := id hok5
  have hwl5 := bd_lt hwc5
  have hpl5 := bd_lt hpc5
  have hcl5l := bd_lt hcl5
  refine r_aload_n (pc := 0) hG dX9_chance_0 rfl ?_
  refine r_iload_n (pc := 1) hG dX9_chance_1 rfl ?_
  refine cv_X9_isOne (pc := 2)  hG dX9_chance_2 tw_1308 (c_X9_isOne) (by decide) (Nat.le_of_ble_eq_true rfl) ?_
  refine r_ifz_eq (pc := 5) (tgt := 38) hG dX9_chance_5 (by decide) (fun c1 => ?_) (fun c1 => ?_)
  · refine r_aload_n (pc := 38) hG dX9_chance_38 rfl ?_
    refine r_bipush (pc := 39) hG dX9_chance_39 bc_m2 ?_
    refine cv_X9_no (pc := 41)  hG dX9_chance_41 tw_1273 (c_X9_no (bd_lit (n := 7) (by decide))) (by decide) (Nat.le_of_ble_eq_true rfl) ?_
    exact hret _ _ _ _ dX9_chance_44 (pair_fst (show sp_X9_chance M a0 a1 a2 a3 = ((sp_X9_no M (-2)).1, (sp_X9_no M (-2)).2) from (by unfold sp_X9_chance; exact (if_neg c1)))) (pair_snd (show sp_X9_chance M a0 a1 a2 a3 = ((sp_X9_no M (-2)).1, (sp_X9_no M (-2)).2) from (by unfold sp_X9_chance; exact (if_neg c1))))
  · refine r_aload_n (pc := 8) hG dX9_chance_8 rfl ?_
    refine r_iload_n (pc := 9) hG dX9_chance_9 rfl ?_
    refine r_iload_n (pc := 10) hG dX9_chance_10 rfl ?_
    refine r_iload (pc := 11) hG dX9_chance_11 rfl ?_
    refine cv_X9_isThrow (pc := 13)  hG dX9_chance_13 tw_1438 (c_X9_isThrow) (by decide) (Nat.le_of_ble_eq_true rfl) ?_
    refine r_ifz_eq (pc := 16) (tgt := 38) hG dX9_chance_16 (by decide) (fun c2 => ?_) (fun c2 => ?_)
    · refine r_aload_n (pc := 38) hG dX9_chance_38 rfl ?_
      refine r_bipush (pc := 39) hG dX9_chance_39 bc_m2 ?_
      refine cv_X9_no (pc := 41)  hG dX9_chance_41 tw_1273 (c_X9_no (bd_lit (n := 7) (by decide))) (by decide) (Nat.le_of_ble_eq_true rfl) ?_
      exact hret _ _ _ _ dX9_chance_44 (pair_fst (show sp_X9_chance M a0 a1 a2 a3 = ((sp_X9_no M (-2)).1, (sp_X9_no M (-2)).2) from (by unfold sp_X9_chance; exact ((if_pos c1).trans (if_neg c2))))) (pair_snd (show sp_X9_chance M a0 a1 a2 a3 = ((sp_X9_no M (-2)).1, (sp_X9_no M (-2)).2) from (by unfold sp_X9_chance; exact ((if_pos c1).trans (if_neg c2)))))
    · refine r_ldc_w (pc := 19) hG dX9_chance_19 tw_1558 ?_
      refine r_aload_n (pc := 22) hG dX9_chance_22 rfl ?_
      refine r_iload_n (pc := 23) hG dX9_chance_23 rfl ?_
      refine r_iload_n (pc := 24) hG dX9_chance_24 rfl ?_
      refine r_iload_n (pc := 25) hG dX9_chance_25 rfl ?_
      refine r_iload (pc := 26) hG dX9_chance_26 rfl ?_
      refine cv_X9_windsFor (pc := 28)  hG dX9_chance_28 tw_1559 (c_X9_windsFor (isThr5 hwc5 c2) hpc5) (by decide) (Nat.le_of_ble_eq_true rfl) ?_
      refine r_imul (pc := 31) hG dX9_chance_31 ?_
      refine r_bipush (pc := 32) hG dX9_chance_32 bc_11 ?_
      refine r_idiv (pc := 34) hG dX9_chance_34 (by decide) ?_
      refine r_goto (pc := 35) (tgt := 44) hG dX9_chance_35 (by decide) ?_
      exact hret _ _ _ _ dX9_chance_44 (pair_fst (show sp_X9_chance M a0 a1 a2 a3 = ((1000000 * ((sp_X9_windsFor M a0 a1 a2 a3).1)) / 11, (sp_X9_windsFor M a0 a1 a2 a3).2) from (by unfold sp_X9_chance; exact ((if_pos c1).trans (if_pos c2))))) (pair_snd (show sp_X9_chance M a0 a1 a2 a3 = ((1000000 * ((sp_X9_windsFor M a0 a1 a2 a3).1)) / 11, (sp_X9_windsFor M a0 a1 a2 a3).2) from (by unfold sp_X9_chance; exact ((if_pos c1).trans (if_pos c2)))))

theorem wF_p {M : MT} {a b c d : Int32} (h : bd (M.1 5 1 0) 9) : bd ((sp_X9_windsFor M a b c d).2.1 5 1 0) 9 := by
  unfold sp_X9_windsFor
  exact itN_inv (fun x : Int32 × MT => bd (x.2.1 5 1 0) 9) 11 h (fun k m hk hm => by unfold st_X9_windsFor_14; (repeat' split) <;> exact hm)

def st_X9_safest_31 (M : MT) (a0 : Int32) (a1 : Int32) (i : Nat) (b31 : Int32 × Int32 × MT) : Int32 × Int32 × MT :=
  if b31.2.1 < ((sp_X9_windsFor b31.2.2 a0 a1 ((nI i) / 3) (irm (nI i) 3)).1) then
    ((10 * ((nI i) / 3)) + (irm (nI i) 3), (sp_X9_windsFor b31.2.2 a0 a1 ((nI i) / 3) (irm (nI i) 3)).1, (sp_X9_windsFor b31.2.2 a0 a1 ((nI i) / 3) (irm (nI i) 3)).2)
  else
    (b31.1, b31.2.1, (sp_X9_windsFor b31.2.2 a0 a1 ((nI i) / 3) (irm (nI i) 3)).2)
def sp_X9_safest (M : MT) (a0 : Int32) (a1 : Int32) : Int32 × MT :=
  if (sp_X9_isOne M a0) = true then
    if (sp_X9_isWindow M a1) = true then
      ((itN 30 (st_X9_safest_31 M a0 a1) ((-1), 0, M)).1, (itN 30 (st_X9_safest_31 M a0 a1) ((-1), 0, M)).2.2)
    else
      ((sp_X9_no M (-2)).1, (sp_X9_no M (-2)).2)
  else
    ((sp_X9_no M (-2)).1, (sp_X9_no M (-2)).2)
set_option maxRecDepth 20000 in
theorem c_X9_safest {K : KT} {M : MT} {a0 : Int32} {a1 : Int32}  (hokr : OKR M) : CM K 7 yX9_safest cX9_safest 7 (some FieldType.int) [rf K 140, .int a0, .int a1] M (some (.int (sp_X9_safest M a0 a1).1)) (sp_X9_safest M a0 a1).2 := by
  refine CM.ofI (by decide) [some (rf K 140), some (.int a0), some (.int a1), none, none, none, none] rfl (Nat.le_of_ble_eq_true rfl) (Nat.le_of_ble_eq_true rfl) (fun G hG _ hret => ?_)
  obtain ⟨hok5, hhl, htp5⟩ := id hokr
  obtain ⟨hwc5, hpc5, ⟨hcl5, hcm5⟩, hwi5, hda5, hle5, hk85, ha85, hW5, hP5⟩ := id hok5
  have hwl5 := bd_lt hwc5
  have hpl5 := bd_lt hpc5
  have hcl5l := bd_lt hcl5
  refine r_aload_n (pc := 0) hG dX9_safest_0 rfl ?_
  refine r_iload_n (pc := 1) hG dX9_safest_1 rfl ?_
  refine cv_X9_isOne (pc := 2)  hG dX9_safest_2 tw_1308 (c_X9_isOne) (by decide) (Nat.le_of_ble_eq_true rfl) ?_
  refine r_ifz_eq (pc := 5) (tgt := 16) hG dX9_safest_5 (by decide) (fun c1 => ?_) (fun c1 => ?_)
  · refine r_aload_n (pc := 16) hG dX9_safest_16 rfl ?_
    refine r_bipush (pc := 17) hG dX9_safest_17 bc_m2 ?_
    refine cv_X9_no (pc := 19)  hG dX9_safest_19 tw_1273 (c_X9_no (bd_lit (n := 7) (by decide))) (by decide) (Nat.le_of_ble_eq_true rfl) ?_
    exact hret _ _ _ _ dX9_safest_22 (pair_fst (show sp_X9_safest M a0 a1 = ((sp_X9_no M (-2)).1, (sp_X9_no M (-2)).2) from (by unfold sp_X9_safest; exact (if_neg c1)))) (pair_snd (show sp_X9_safest M a0 a1 = ((sp_X9_no M (-2)).1, (sp_X9_no M (-2)).2) from (by unfold sp_X9_safest; exact (if_neg c1))))
  · refine r_aload_n (pc := 8) hG dX9_safest_8 rfl ?_
    refine r_iload_n (pc := 9) hG dX9_safest_9 rfl ?_
    refine cv_X9_isWindow (pc := 10)  hG dX9_safest_10 tw_1430 (c_X9_isWindow) (by decide) (Nat.le_of_ble_eq_true rfl) ?_
    refine r_ifz_ne (pc := 13) (tgt := 23) hG dX9_safest_13 (by decide) (fun c2 => ?_) (fun c2 => ?_)
    · refine r_iconst (pc := 23) hG dX9_safest_23 ic_m1 ?_
      refine r_istore_n (pc := 24) (ls' := [_, _, _, _, _, _, _]) hG dX9_safest_24 rfl rfl ?_
      refine r_iconst (pc := 25) hG dX9_safest_25 ic_0 ?_
      refine r_istore (pc := 26) (ls' := [_, _, _, _, _, _, _]) hG dX9_safest_26 rfl rfl ?_
      refine r_iconst (pc := 28) hG dX9_safest_28 ic_0 ?_
      refine r_istore (pc := 29) (ls' := [_, _, _, _, _, _, _]) hG dX9_safest_29 rfl rfl ?_
      have lp31 : ∀ i, i ≤ 30 → ∀ b31 : Int32 × Int32 × MT, b31 = itN i (st_X9_safest_31 M a0 a1) ((-1), 0, M) → J G K b31.2.2 31 [some (rf K 140), some (.int a0), some (.int a1), some (.int b31.1), some (.int b31.2.1), some (.int (nI i)), none] [] := by
        refine up_ind 30 (fun i hi31 ih31 => ?_)
        intro b31 hg31
        have hp315 : bd (b31.2.2.1 5 1 0) 9 := by subst hg31; exact itN_inv (fun x : Int32 × Int32 × MT => bd (x.2.2.1 5 1 0) 9) i hpc5 (fun k m hk hm => by unfold st_X9_safest_31; (repeat' split) <;> exact wF_p hm)
        refine r_iload (pc := 31) hG dX9_safest_31 rfl ?_
        refine r_bipush (pc := 33) hG dX9_safest_33 bc_30 ?_
        refine r_icmp_ge (pc := 35) (tgt := 87) hG dX9_safest_35 (by decide) (fun c3 => ?_) (fun c3 => ?_)
        · have e31 : i = 30 := by have := (le_nI (k := 30) (i := i) (Nat.le_of_ble_eq_true rfl) (by omega)).mp c3; omega
          subst hg31
          subst e31
          refine r_iload_n (pc := 87) hG dX9_safest_87 rfl ?_
          exact hret _ _ _ _ dX9_safest_88 (pair_fst (show sp_X9_safest M a0 a1 = ((itN 30 (st_X9_safest_31 M a0 a1) ((-1), 0, M)).1, (itN 30 (st_X9_safest_31 M a0 a1) ((-1), 0, M)).2.2) from (by unfold sp_X9_safest; exact ((if_pos c1).trans (if_pos c2))))) (pair_snd (show sp_X9_safest M a0 a1 = ((itN 30 (st_X9_safest_31 M a0 a1) ((-1), 0, M)).1, (itN 30 (st_X9_safest_31 M a0 a1) ((-1), 0, M)).2.2) from (by unfold sp_X9_safest; exact ((if_pos c1).trans (if_pos c2)))))
        · have hl31 : i < 30 := by have := mt (le_nI (k := 30) (i := i) (Nat.le_of_ble_eq_true rfl) (by omega)).mpr c3; omega
          refine r_aload_n (pc := 38) hG dX9_safest_38 rfl ?_
          refine r_iload_n (pc := 39) hG dX9_safest_39 rfl ?_
          refine r_iload_n (pc := 40) hG dX9_safest_40 rfl ?_
          refine r_iload (pc := 41) hG dX9_safest_41 rfl ?_
          refine r_iconst (pc := 43) hG dX9_safest_43 ic_3 ?_
          refine r_idiv (pc := 44) hG dX9_safest_44 (by decide) ?_
          refine r_iload (pc := 45) hG dX9_safest_45 rfl ?_
          refine r_iconst (pc := 47) hG dX9_safest_47 ic_3 ?_
          refine r_irem (pc := 48) hG dX9_safest_48 (by decide) ?_
          refine cv_X9_windsFor (pc := 49)  hG dX9_safest_49 tw_1559 (c_X9_windsFor (hasW5 hwc5 c2) hp315) (by decide) (Nat.le_of_ble_eq_true rfl) ?_
          refine r_istore (pc := 52) (ls' := [_, _, _, _, _, _, _]) hG dX9_safest_52 rfl rfl ?_
          refine r_iload (pc := 54) hG dX9_safest_54 rfl ?_
          refine r_iload (pc := 56) hG dX9_safest_56 rfl ?_
          refine r_icmp_gt (pc := 58) (tgt := 64) hG dX9_safest_58 (by decide) (fun c4 => ?_) (fun c4 => ?_)
          · refine r_iload (pc := 64) hG dX9_safest_64 rfl ?_
            refine r_istore (pc := 66) (ls' := [_, _, _, _, _, _, _]) hG dX9_safest_66 rfl rfl ?_
            refine r_bipush (pc := 68) hG dX9_safest_68 bc_10 ?_
            refine r_iload (pc := 70) hG dX9_safest_70 rfl ?_
            refine r_iconst (pc := 72) hG dX9_safest_72 ic_3 ?_
            refine r_idiv (pc := 73) hG dX9_safest_73 (by decide) ?_
            refine r_imul (pc := 74) hG dX9_safest_74 ?_
            refine r_iload (pc := 75) hG dX9_safest_75 rfl ?_
            refine r_iconst (pc := 77) hG dX9_safest_77 ic_3 ?_
            refine r_irem (pc := 78) hG dX9_safest_78 (by decide) ?_
            refine r_iadd (pc := 79) hG dX9_safest_79 ?_
            refine r_istore_n (pc := 80) (ls' := [_, _, _, _, _, _, _]) hG dX9_safest_80 rfl rfl ?_
            refine r_iinc (pc := 81) (v := nI (i + 1)) (ls' := [_, _, _, _, _, _, _]) hG dX9_safest_81 rfl (nI_1 _) rfl rfl ?_
            refine r_goto (pc := 84) (tgt := 31) hG dX9_safest_84 (by decide) ?_
            have eN31 : ((10 * ((nI i) / 3)) + (irm (nI i) 3), (sp_X9_windsFor b31.2.2 a0 a1 ((nI i) / 3) (irm (nI i) 3)).1, (sp_X9_windsFor b31.2.2 a0 a1 ((nI i) / 3) (irm (nI i) 3)).2) = st_X9_safest_31 M a0 a1 i (itN i (st_X9_safest_31 M a0 a1) ((-1), 0, M)) := by rw [← hg31]; unfold st_X9_safest_31; exact Eq.symm (if_pos c4)
            refine J.wk (ls' := [some (rf K 140), some (.int a0), some (.int a1), some (.int ((10 * ((nI i) / 3)) + (irm (nI i) 3))), some (.int ((sp_X9_windsFor b31.2.2 a0 a1 ((nI i) / 3) (irm (nI i) 3)).1)), some (.int (nI (i + 1))), none]) ?_ (Eq.refl 7) (wk_s rfl (wk_s rfl (wk_s rfl (wk_s rfl (wk_s rfl (wk_s rfl (wk_n wk_0)))))))
            exact ih31 hl31 ((10 * ((nI i) / 3)) + (irm (nI i) 3), (sp_X9_windsFor b31.2.2 a0 a1 ((nI i) / 3) (irm (nI i) 3)).1, (sp_X9_windsFor b31.2.2 a0 a1 ((nI i) / 3) (irm (nI i) 3)).2) eN31
          · refine r_goto (pc := 61) (tgt := 81) hG dX9_safest_61 (by decide) ?_
            refine r_iinc (pc := 81) (v := nI (i + 1)) (ls' := [_, _, _, _, _, _, _]) hG dX9_safest_81 rfl (nI_1 _) rfl rfl ?_
            refine r_goto (pc := 84) (tgt := 31) hG dX9_safest_84 (by decide) ?_
            have eN31 : (b31.1, b31.2.1, (sp_X9_windsFor b31.2.2 a0 a1 ((nI i) / 3) (irm (nI i) 3)).2) = st_X9_safest_31 M a0 a1 i (itN i (st_X9_safest_31 M a0 a1) ((-1), 0, M)) := by rw [← hg31]; unfold st_X9_safest_31; exact Eq.symm (if_neg c4)
            refine J.wk (ls' := [some (rf K 140), some (.int a0), some (.int a1), some (.int b31.1), some (.int b31.2.1), some (.int (nI (i + 1))), none]) ?_ (Eq.refl 7) (wk_s rfl (wk_s rfl (wk_s rfl (wk_s rfl (wk_s rfl (wk_s rfl (wk_n wk_0)))))))
            exact ih31 hl31 (b31.1, b31.2.1, (sp_X9_windsFor b31.2.2 a0 a1 ((nI i) / 3) (irm (nI i) 3)).2) eN31
      exact (lp31 0 (Nat.zero_le _) _ rfl).wk (Eq.refl 7) (wk_s rfl (wk_s rfl (wk_s rfl (wk_s rfl (wk_s rfl (wk_s rfl (wk_n wk_0)))))))
    · refine r_aload_n (pc := 16) hG dX9_safest_16 rfl ?_
      refine r_bipush (pc := 17) hG dX9_safest_17 bc_m2 ?_
      refine cv_X9_no (pc := 19)  hG dX9_safest_19 tw_1273 (c_X9_no (bd_lit (n := 7) (by decide))) (by decide) (Nat.le_of_ble_eq_true rfl) ?_
      exact hret _ _ _ _ dX9_safest_22 (pair_fst (show sp_X9_safest M a0 a1 = ((sp_X9_no M (-2)).1, (sp_X9_no M (-2)).2) from (by unfold sp_X9_safest; exact ((if_pos c1).trans (if_neg c2))))) (pair_snd (show sp_X9_safest M a0 a1 = ((sp_X9_no M (-2)).1, (sp_X9_no M (-2)).2) from (by unfold sp_X9_safest; exact ((if_pos c1).trans (if_neg c2)))))

def st_X9_windFor_41 (M : MT) (a0 : Int32) (a1 : Int32) (a2 : Int32) (a3 : Int32) (i : Nat) (b41 : Int32 × MT) : Int32 × MT :=
  if (sp_X9_caughtBy (u1 b41.2 5 3 0 (dn 11 i)) a1 a2 a3) = a0 then
    (dn 11 i, u1 b41.2 5 3 0 (dn 11 i))
  else
    (b41.1, u1 b41.2 5 3 0 (dn 11 i))
def sp_X9_windFor (M : MT) (a0 : Int32) (a1 : Int32) (a2 : Int32) (a3 : Int32) : Int32 × MT :=
  if (sp_X9_isOne M a0) = true then
    if (sp_X9_isThrow M a1 a2 a3) = true then
      ((itN 11 (st_X9_windFor_41 M a0 a1 a2 a3) ((-1), M)).1, u1 ((itN 11 (st_X9_windFor_41 M a0 a1 a2 a3) ((-1), M)).2) 5 3 0 (M.1 5 3 0))
    else
      ((sp_X9_no M (-2)).1, (sp_X9_no M (-2)).2)
  else
    ((sp_X9_no M (-2)).1, (sp_X9_no M (-2)).2)
set_option maxRecDepth 20000 in
theorem c_X9_windFor {K : KT} {M : MT} {a0 : Int32} {a1 : Int32} {a2 : Int32} {a3 : Int32}  (hokr : OKR M) : CM K 6 yX9_windFor cX9_windFor 8 (some FieldType.int) [rf K 140, .int a0, .int a1, .int a2, .int a3] M (some (.int (sp_X9_windFor M a0 a1 a2 a3).1)) (sp_X9_windFor M a0 a1 a2 a3).2 := by
  refine CM.ofI (by decide) [some (rf K 140), some (.int a0), some (.int a1), some (.int a2), some (.int a3), none, none, none] rfl (Nat.le_of_ble_eq_true rfl) (Nat.le_of_ble_eq_true rfl) (fun G hG _ hret => ?_)
  obtain ⟨hok5, hhl, htp5⟩ := id hokr
  obtain ⟨hwc5, hpc5, ⟨hcl5, hcm5⟩, hwi5, hda5, hle5, hk85, ha85, hW5, hP5⟩ := id hok5
  have hwl5 := bd_lt hwc5
  have hpl5 := bd_lt hpc5
  have hcl5l := bd_lt hcl5
  refine r_aload_n (pc := 0) hG dX9_windFor_0 rfl ?_
  refine r_iload_n (pc := 1) hG dX9_windFor_1 rfl ?_
  refine cv_X9_isOne (pc := 2)  hG dX9_windFor_2 tw_1308 (c_X9_isOne) (by decide) (Nat.le_of_ble_eq_true rfl) ?_
  refine r_ifz_eq (pc := 5) (tgt := 19) hG dX9_windFor_5 (by decide) (fun c1 => ?_) (fun c1 => ?_)
  · refine r_aload_n (pc := 19) hG dX9_windFor_19 rfl ?_
    refine r_bipush (pc := 20) hG dX9_windFor_20 bc_m2 ?_
    refine cv_X9_no (pc := 22)  hG dX9_windFor_22 tw_1273 (c_X9_no (bd_lit (n := 7) (by decide))) (by decide) (Nat.le_of_ble_eq_true rfl) ?_
    exact hret _ _ _ _ dX9_windFor_25 (pair_fst (show sp_X9_windFor M a0 a1 a2 a3 = ((sp_X9_no M (-2)).1, (sp_X9_no M (-2)).2) from (by unfold sp_X9_windFor; exact (if_neg c1)))) (pair_snd (show sp_X9_windFor M a0 a1 a2 a3 = ((sp_X9_no M (-2)).1, (sp_X9_no M (-2)).2) from (by unfold sp_X9_windFor; exact (if_neg c1))))
  · refine r_aload_n (pc := 8) hG dX9_windFor_8 rfl ?_
    refine r_iload_n (pc := 9) hG dX9_windFor_9 rfl ?_
    refine r_iload_n (pc := 10) hG dX9_windFor_10 rfl ?_
    refine r_iload (pc := 11) hG dX9_windFor_11 rfl ?_
    refine cv_X9_isThrow (pc := 13)  hG dX9_windFor_13 tw_1438 (c_X9_isThrow) (by decide) (Nat.le_of_ble_eq_true rfl) ?_
    refine r_ifz_ne (pc := 16) (tgt := 26) hG dX9_windFor_16 (by decide) (fun c2 => ?_) (fun c2 => ?_)
    · refine r_aload_n (pc := 26) hG dX9_windFor_26 rfl ?_
      refine gf_X9_ways (pc := 27)  hG dX9_windFor_27 tw_1167 ?_
      refine r_iconst (pc := 30) hG dX9_windFor_30 ic_0 ?_
      refine al_Mways (pc := 31)  hG dX9_windFor_31 (ix_lit (j := 0) (by decide)) ?_
      refine r_istore (pc := 32) (ls' := [_, _, _, _, _, _, _, _]) hG dX9_windFor_32 rfl rfl ?_
      refine r_iconst (pc := 34) hG dX9_windFor_34 ic_m1 ?_
      refine r_istore (pc := 35) (ls' := [_, _, _, _, _, _, _, _]) hG dX9_windFor_35 rfl rfl ?_
      refine r_bipush (pc := 37) hG dX9_windFor_37 bc_10 ?_
      refine r_istore (pc := 39) (ls' := [_, _, _, _, _, _, _, _]) hG dX9_windFor_39 rfl rfl ?_
      have lp41 : ∀ i, i ≤ 11 → ∀ b41 : Int32 × MT, b41 = itN i (st_X9_windFor_41 M a0 a1 a2 a3) ((-1), M) → J G K b41.2 41 [some (rf K 140), some (.int a0), some (.int a1), some (.int a2), some (.int a3), some (.int (M.1 5 3 0)), some (.int b41.1), some (.int (dn 11 i))] [] := by
        refine up_ind 11 (fun i hi41 ih41 => ?_)
        intro b41 hg41
        have hp415 : bd (b41.2.1 5 1 0) 9 := by subst hg41; exact itN_inv (fun x : Int32 × MT => bd (x.2.1 5 1 0) 9) i hpc5 (fun k m hk hm => by unfold st_X9_windFor_41; (repeat' split) <;> exact hm)
        refine r_iload (pc := 41) hG dX9_windFor_41 rfl ?_
        refine r_if_lt (pc := 43) (tgt := 76) hG dX9_windFor_43 (by decide) (fun c3 => ?_) (fun c3 => ?_)
        · have e41 : i = 11 := by have := (dn_neg (n := 11) (by omega)).mp c3; omega
          subst hg41
          subst e41
          refine r_aload_n (pc := 76) hG dX9_windFor_76 rfl ?_
          refine gf_X9_ways (pc := 77)  hG dX9_windFor_77 tw_1167 ?_
          refine r_iconst (pc := 80) hG dX9_windFor_80 ic_0 ?_
          refine r_iload (pc := 81) hG dX9_windFor_81 rfl ?_
          refine as_Mways (pc := 83)  hG dX9_windFor_83 (ix_lit (j := 0) (by decide)) ?_
          refine r_iload (pc := 84) hG dX9_windFor_84 rfl ?_
          exact hret _ _ _ _ dX9_windFor_86 (pair_fst (show sp_X9_windFor M a0 a1 a2 a3 = ((itN 11 (st_X9_windFor_41 M a0 a1 a2 a3) ((-1), M)).1, u1 ((itN 11 (st_X9_windFor_41 M a0 a1 a2 a3) ((-1), M)).2) 5 3 0 (M.1 5 3 0)) from (by unfold sp_X9_windFor; exact ((if_pos c1).trans (if_pos c2))))) (pair_snd (show sp_X9_windFor M a0 a1 a2 a3 = ((itN 11 (st_X9_windFor_41 M a0 a1 a2 a3) ((-1), M)).1, u1 ((itN 11 (st_X9_windFor_41 M a0 a1 a2 a3) ((-1), M)).2) 5 3 0 (M.1 5 3 0)) from (by unfold sp_X9_windFor; exact ((if_pos c1).trans (if_pos c2)))))
        · have hl41 : i < 11 := by have := mt (dn_neg (n := 11) (by omega)).mpr c3; omega
          refine r_aload_n (pc := 46) hG dX9_windFor_46 rfl ?_
          refine gf_X9_ways (pc := 47)  hG dX9_windFor_47 tw_1167 ?_
          refine r_iconst (pc := 50) hG dX9_windFor_50 ic_0 ?_
          refine r_iload (pc := 51) hG dX9_windFor_51 rfl ?_
          refine as_Mways (pc := 53)  hG dX9_windFor_53 (ix_lit (j := 0) (by decide)) ?_
          refine r_aload_n (pc := 54) hG dX9_windFor_54 rfl ?_
          refine r_iload_n (pc := 55) hG dX9_windFor_55 rfl ?_
          refine r_iload_n (pc := 56) hG dX9_windFor_56 rfl ?_
          refine r_iload (pc := 57) hG dX9_windFor_57 rfl ?_
          refine cv_X9_caughtBy (pc := 59)  hG dX9_windFor_59 tw_1450 (c_X9_caughtBy (isThr5 hwc5 c2) hp415) (by decide) (Nat.le_of_ble_eq_true rfl) ?_
          refine r_iload_n (pc := 62) hG dX9_windFor_62 rfl ?_
          refine r_icmp_ne (pc := 63) (tgt := 70) hG dX9_windFor_63 (by decide) (fun c4 => ?_) (fun c4 => ?_)
          · refine r_iinc (pc := 70) (v := (dn 11 i) + (-1)) (ls' := [_, _, _, _, _, _, _, _]) hG dX9_windFor_70 rfl rfl rfl rfl ?_
            refine r_goto (pc := 73) (tgt := 41) hG dX9_windFor_73 (by decide) ?_
            have eN41 : (b41.1, u1 b41.2 5 3 0 (dn 11 i)) = st_X9_windFor_41 M a0 a1 a2 a3 i (itN i (st_X9_windFor_41 M a0 a1 a2 a3) ((-1), M)) := by rw [← hg41]; unfold st_X9_windFor_41; exact Eq.symm (if_neg c4)
            refine J.wk (ls' := [some (rf K 140), some (.int a0), some (.int a1), some (.int a2), some (.int a3), some (.int (M.1 5 3 0)), some (.int b41.1), some (.int (dn 11 (i + 1)))]) ?_ (Eq.refl 8) (wk_s rfl (wk_s rfl (wk_s rfl (wk_s rfl (wk_s rfl (wk_s rfl (wk_s rfl (wk_s (congrArg Value.int (dn_step hl41 (by omega))) wk_0))))))))
            exact ih41 hl41 (b41.1, u1 b41.2 5 3 0 (dn 11 i)) eN41
          · refine r_iload (pc := 66) hG dX9_windFor_66 rfl ?_
            refine r_istore (pc := 68) (ls' := [_, _, _, _, _, _, _, _]) hG dX9_windFor_68 rfl rfl ?_
            refine r_iinc (pc := 70) (v := (dn 11 i) + (-1)) (ls' := [_, _, _, _, _, _, _, _]) hG dX9_windFor_70 rfl rfl rfl rfl ?_
            refine r_goto (pc := 73) (tgt := 41) hG dX9_windFor_73 (by decide) ?_
            have eN41 : (dn 11 i, u1 b41.2 5 3 0 (dn 11 i)) = st_X9_windFor_41 M a0 a1 a2 a3 i (itN i (st_X9_windFor_41 M a0 a1 a2 a3) ((-1), M)) := by rw [← hg41]; unfold st_X9_windFor_41; exact Eq.symm (if_pos c4)
            refine J.wk (ls' := [some (rf K 140), some (.int a0), some (.int a1), some (.int a2), some (.int a3), some (.int (M.1 5 3 0)), some (.int (dn 11 i)), some (.int (dn 11 (i + 1)))]) ?_ (Eq.refl 8) (wk_s rfl (wk_s rfl (wk_s rfl (wk_s rfl (wk_s rfl (wk_s rfl (wk_s rfl (wk_s (congrArg Value.int (dn_step hl41 (by omega))) wk_0))))))))
            exact ih41 hl41 (dn 11 i, u1 b41.2 5 3 0 (dn 11 i)) eN41
      exact (lp41 0 (Nat.zero_le _) _ rfl).wk (Eq.refl 8) (wk_s rfl (wk_s rfl (wk_s rfl (wk_s rfl (wk_s rfl (wk_s rfl (wk_s rfl (wk_s (congrArg Value.int (show dn 11 0 = 10 from by decide)) wk_0))))))))
    · refine r_aload_n (pc := 19) hG dX9_windFor_19 rfl ?_
      refine r_bipush (pc := 20) hG dX9_windFor_20 bc_m2 ?_
      refine cv_X9_no (pc := 22)  hG dX9_windFor_22 tw_1273 (c_X9_no (bd_lit (n := 7) (by decide))) (by decide) (Nat.le_of_ble_eq_true rfl) ?_
      exact hret _ _ _ _ dX9_windFor_25 (pair_fst (show sp_X9_windFor M a0 a1 a2 a3 = ((sp_X9_no M (-2)).1, (sp_X9_no M (-2)).2) from (by unfold sp_X9_windFor; exact ((if_pos c1).trans (if_neg c2))))) (pair_snd (show sp_X9_windFor M a0 a1 a2 a3 = ((sp_X9_no M (-2)).1, (sp_X9_no M (-2)).2) from (by unfold sp_X9_windFor; exact ((if_pos c1).trans (if_neg c2)))))

theorem nT_0 {M : MT} {a b : Int32} (hl : ∀ t, t < 8 → bd (M.2.1 33 t) 41 ∧ (M.2.1 32 t = -1 ∨ bd (M.2.1 32 t) 5 ∨ (10 ≤ M.2.1 32 t ∧ bd (M.2.1 32 t - 10) 8 ∧ tn (M.2.1 32 t - 10) < tn (M.1 5 1 0)))) (ha : bd a 8) (q : 0 ≤ sp_X9_noTold M a b) : bd (M.2.1 33 (tn a)) 41 ∧ b ≤ M.2.1 33 (tn a) ∧ sp_X9_isRow M a = true := by
  unfold sp_X9_noTold at q
  split at q
  · rename_i z
    split at q
    · rename_i y
      exact ⟨(hl _ (bd_lt ha)).1, y, z⟩
    · exact absurd q (by decide)
  · rename_i z
    exfalso
    unfold sp_X9_noRow at q
    split at q
    · rename_i z1
      split at q
      · rename_i z3
        rcases (hl _ (bd_lt ha)).2 with g | g | g
        · rw [g] at z3; exact absurd z3 (by decide)
        · apply z
          unfold sp_X9_isRow
          refine within_iff.mpr ⟨z3, ?_⟩
          have e := bd_eq g
          have hl := bd_lt g
          rw [e]
          exact (nI_le (a := tn (M.2.1 32 (tn a))) (b := 4) (by omega) (by omega))
        · exact absurd z1 (Int32.not_lt.mpr g.1)
      · exact absurd q (by decide)
    · exact absurd q (by decide)
theorem isTT {M : MT} {x : Int64} (hw : bd (M.1 5 0 0) 9) (q : sp_X9_isThrowTold M x = true) : ∃ k, k < 800 ∧ x = lN k ∧ k / 100 < tn (M.1 5 0 0) ∧ k % 10 < 3 := by
  unfold sp_X9_isThrowTold at q
  split at q
  · cases q
  · rename_i z
    split at q
    · cases q
    · rename_i z2
      split at q
      · cases q
      · rename_i z3
        obtain ⟨k, hk, e⟩ := lN_of0 z
        have hl := bd_lt hw
        have e1 : (100 : Int64) * Int32.toInt64 (M.1 5 0 0) = lN (100 * tn (M.1 5 0 0)) := by rw [wc_l hw]; exact (Int64.ofNat_mul 100 _).symm
        rw [e1, e] at z2
        have h2 : k < 100 * tn (M.1 5 0 0) := by
          rcases Nat.lt_or_ge k (100 * tn (M.1 5 0 0)) with y | y
          · exact y
          · exfalso
            apply z2
            apply Int64.le_iff_toInt_le.mpr
            rw [show (lN (100 * tn (M.1 5 0 0))).toInt = ((100 * tn (M.1 5 0 0) : Nat) : Int) from lg_ofNat_toInt (by omega), show (lN k).toInt = ((k : Nat) : Int) from lg_ofNat_toInt (by omega)]
            omega
        refine ⟨k, by omega, e, by omega, ?_⟩
        rw [e, show lrm (lN k) 10 = lN (k % 10) from pk_lRem (by omega) (by decide) (by decide)] at z3
        rcases Nat.lt_or_ge (k % 10) 3 with y | y
        · exact y
        · exfalso
          apply z3
          apply Int64.le_iff_toInt_le.mpr
          rw [show (lN (k % 10)).toInt = ((k % 10 : Nat) : Int) from lg_ofNat_toInt (by omega)]
          show (3 : Int) ≤ _
          omega
theorem isTT_bd {M : MT} {x : Int64} (hw : bd (M.1 5 0 0) 9) (q : sp_X9_isThrowTold M x = true) : bd (Int64.toInt32 x / 100) 8 := by
  obtain ⟨k, hk, rfl, h, _⟩ := isTT hw q
  have hl := bd_lt hw
  rw [lN_i, show (nI k / 100 : Int32) = nI (k / 100) from pk_div (by omega) (by decide) (by decide)]
  exact bd_nI (by omega) (by omega)

theorem wi_t {M : MT} {a : Int32} {i : Nat} (hw : bd (M.1 5 0 0) 9) (q : (if (sp_X9_isThrowTold M (sp_X9_toldAt M a (2 * (nI i)))) = true then false else true) = false) : bd ((Int64.toInt32 (M.2.2 8 (tn ((40 * a) + (2 * nI i))))) / 100) 8 := by
  split at q
  · rename_i z; exact isTT_bd hw z
  · cases q
theorem ki_t {M : MT} {a : Int32} {i : Nat} (hw : bd (M.1 5 0 0) 9) (q : (if (sp_X9_toldAt M a (2 * (nI i))) < 0 then true else if (sp_X9_toldAt M a (2 * (nI i))) < (Int32.toInt64 (M.1 5 0 0)) then false else true) = false) : bd (Int64.toInt32 (M.2.2 8 (tn ((40 * a) + (2 * nI i))))) 8 := by
  split at q
  · cases q
  · rename_i z
    split at q
    · rename_i z2
      obtain ⟨k, hk, e⟩ := lN_of0 z
      rw [wc_l hw, e] at z2
      have hl := bd_lt hw
      have g := Int64.lt_iff_toInt_lt.mp z2
      rw [show (lN (tn (M.1 5 0 0))).toInt = ((tn (M.1 5 0 0) : Nat) : Int) from lg_ofNat_toInt (by omega), show (lN k).toInt = ((k : Nat) : Int) from lg_ofNat_toInt (by omega)] at g
      have e2 : M.2.2 8 (tn ((40 * a) + (2 * nI i))) = lN k := e
      rw [e2, lN_i]
      exact bd_nI (by omega) (by omega)
    · cases q

def st_X9_winds_116 (M : MT) (a0 : Int32) (a1 : Int32) (i : Nat) (b95 : Int32 × MT) (i116 : Nat) (b116 : Int32) : Int32 :=
  if (Int32.toInt64 (sp_X9_landingTold (u1 b95.2 5 3 0 (nI i)) (sp_X9_toldAt (u1 b95.2 5 3 0 (nI i)) a0 (2 * (nI i116))))) = (sp_X9_toldAt (u1 b95.2 5 3 0 (nI i)) a0 ((2 * (nI i116)) + 1)) then
    b116
  else
    0
def st_X9_winds_95 (M : MT) (a0 : Int32) (a1 : Int32) (i : Nat) (b95 : Int32 × MT) : Int32 × MT :=
  if (itN (tn a1) (st_X9_winds_116 M a0 a1 i b95) 1) = 0 then
    (b95.1, u1 b95.2 5 3 0 (nI i))
  else
    (b95.1 ||| (1 <<< ((nI i) &&& 31)), u1 b95.2 5 3 0 (nI i))
def ps_X9_winds_46 (M : MT) (a0 : Int32) (a1 : Int32) (i : Nat) : Bool :=
  if (sp_X9_isThrowTold M (sp_X9_toldAt M a0 (2 * (nI i)))) = true then
    false
  else
    true
def sp_X9_winds (M : MT) (a0 : Int32) (a1 : Int32) : Int32 × MT :=
  if (sp_X9_isShelf a0) = true then
    if (sp_X9_within a1 0 20) = true then
      if 0 ≤ (sp_X9_noTold M a0 (2 * a1)) then
        fndN (ps_X9_winds_46 M a0 a1) (fun i => (if (sp_X9_isThrowTold M (sp_X9_toldAt M a0 (2 * (nI i)))) = true then
  ((itN 11 (st_X9_winds_95 M a0 a1) (0, M)).1, u1 ((itN 11 (st_X9_winds_95 M a0 a1) (0, M)).2) 5 3 0 (M.1 5 3 0))
else
  ((sp_X9_no M (-5)).1, (sp_X9_no M (-5)).2))) (((itN 11 (st_X9_winds_95 M a0 a1) (0, M)).1, u1 ((itN 11 (st_X9_winds_95 M a0 a1) (0, M)).2) 5 3 0 (M.1 5 3 0))) (tn a1) 0
      else
        ((sp_X9_no M (sp_X9_noTold M a0 (2 * a1))).1, (sp_X9_no M (sp_X9_noTold M a0 (2 * a1))).2)
    else
      ((sp_X9_no M (-2)).1, (sp_X9_no M (-2)).2)
  else
    ((sp_X9_no M (-2)).1, (sp_X9_no M (-2)).2)
set_option maxRecDepth 20000 in
theorem c_X9_winds {K : KT} {M : MT} {a0 : Int32} {a1 : Int32}  (hokr : OKR M) : CM K 5 yX9_winds cX9_winds 9 (some FieldType.int) [rf K 140, .int a0, .int a1] M (some (.int (sp_X9_winds M a0 a1).1)) (sp_X9_winds M a0 a1).2 := by
  refine CM.ofI (by decide) [some (rf K 140), some (.int a0), some (.int a1), none, none, none, none, none, none] rfl (Nat.le_of_ble_eq_true rfl) (Nat.le_of_ble_eq_true rfl) (fun G hG _ hret => ?_)
  obtain ⟨hok5, hhl, htp5⟩ := id hokr
  obtain ⟨hwc5, hpc5, ⟨hcl5, hcm5⟩, hwi5, hda5, hle5, hk85, ha85, hW5, hP5⟩ := id hok5
  have hwl5 := bd_lt hwc5
  have hpl5 := bd_lt hpc5
  have hcl5l := bd_lt hcl5
  refine r_iload_n (pc := 0) hG dX9_winds_0 rfl ?_
  refine cs_X9_isShelf (pc := 1)  hG dX9_winds_1 tw_1267 (c_X9_isShelf) (by decide) (Nat.le_of_ble_eq_true rfl) ?_
  refine r_ifz_eq (pc := 4) (tgt := 17) hG dX9_winds_4 (by decide) (fun c1 => ?_) (fun c1 => ?_)
  · refine r_aload_n (pc := 17) hG dX9_winds_17 rfl ?_
    refine r_bipush (pc := 18) hG dX9_winds_18 bc_m2 ?_
    refine cv_X9_no (pc := 20)  hG dX9_winds_20 tw_1273 (c_X9_no (bd_lit (n := 7) (by decide))) (by decide) (Nat.le_of_ble_eq_true rfl) ?_
    exact hret _ _ _ _ dX9_winds_23 (pair_fst (show sp_X9_winds M a0 a1 = ((sp_X9_no M (-2)).1, (sp_X9_no M (-2)).2) from (by unfold sp_X9_winds; exact (if_neg c1)))) (pair_snd (show sp_X9_winds M a0 a1 = ((sp_X9_no M (-2)).1, (sp_X9_no M (-2)).2) from (by unfold sp_X9_winds; exact (if_neg c1))))
  · refine r_iload_n (pc := 7) hG dX9_winds_7 rfl ?_
    refine r_iconst (pc := 8) hG dX9_winds_8 ic_0 ?_
    refine r_bipush (pc := 9) hG dX9_winds_9 bc_20 ?_
    refine cs_X9_within (pc := 11)  hG dX9_winds_11 tw_1270 (c_X9_within) (by decide) (Nat.le_of_ble_eq_true rfl) ?_
    refine r_ifz_ne (pc := 14) (tgt := 24) hG dX9_winds_14 (by decide) (fun c2 => ?_) (fun c2 => ?_)
    · refine r_aload_n (pc := 24) hG dX9_winds_24 rfl ?_
      refine r_iload_n (pc := 25) hG dX9_winds_25 rfl ?_
      refine r_iconst (pc := 26) hG dX9_winds_26 ic_2 ?_
      refine r_iload_n (pc := 27) hG dX9_winds_27 rfl ?_
      refine r_imul (pc := 28) hG dX9_winds_28 ?_
      refine cv_X9_noTold (pc := 29)  hG dX9_winds_29 tw_1531 (c_X9_noTold (isSh5 c1)) (by decide) (Nat.le_of_ble_eq_true rfl) ?_
      refine r_istore_n (pc := 32) (ls' := [_, _, _, _, _, _, _, _, _]) hG dX9_winds_32 rfl rfl ?_
      refine r_iload_n (pc := 33) hG dX9_winds_33 rfl ?_
      refine r_if_ge (pc := 34) (tgt := 43) hG dX9_winds_34 (by decide) (fun c3 => ?_) (fun c3 => ?_)
      · refine r_iconst (pc := 43) hG dX9_winds_43 ic_0 ?_
        refine r_istore (pc := 44) (ls' := [_, _, _, _, _, _, _, _, _]) hG dX9_winds_44 rfl rfl ?_
        have hb46 : bd a1 21 := (wi5_bd (n := 20) c2 rfl (Nat.le_of_ble_eq_true rfl))
        have hb46l := bd_lt hb46
        have lp46 : ∀ i, i ≤ (tn a1) → (∀ k, k < i → ps_X9_winds_46 M a0 a1 k = false) → J G K M 46 [some (rf K 140), some (.int a0), some (.int a1), some (.int (sp_X9_noTold M a0 (2 * a1))), some (.int (nI i)), none, none, none, none] [] := by
          refine up_ind (tn a1) (fun i hi46 ih46 => ?_)
          intro hp46
          refine r_iload (pc := 46) hG dX9_winds_46 rfl ?_
          refine r_iload_n (pc := 48) hG dX9_winds_48 rfl ?_
          refine r_icmp_ge (pc := 49) (tgt := 81) hG dX9_winds_49 (by decide) (fun c4 => ?_) (fun c4 => ?_)
          · have e46 : i = (tn a1) := by have := (bd_le hb46 (by omega)).mp c4; omega
            subst e46
            refine r_aload_n (pc := 81) hG dX9_winds_81 rfl ?_
            refine gf_X9_ways (pc := 82)  hG dX9_winds_82 tw_1167 ?_
            refine r_iconst (pc := 85) hG dX9_winds_85 ic_0 ?_
            refine al_Mways (pc := 86)  hG dX9_winds_86 (ix_lit (j := 0) (by decide)) ?_
            refine r_istore (pc := 87) (ls' := [_, _, _, _, _, _, _, _, _]) hG dX9_winds_87 rfl rfl ?_
            refine r_iconst (pc := 89) hG dX9_winds_89 ic_0 ?_
            refine r_istore (pc := 90) (ls' := [_, _, _, _, _, _, _, _, _]) hG dX9_winds_90 rfl rfl ?_
            refine r_iconst (pc := 92) hG dX9_winds_92 ic_0 ?_
            refine r_istore (pc := 93) (ls' := [_, _, _, _, _, _, _, _, _]) hG dX9_winds_93 rfl rfl ?_
            have lp95 : ∀ i, i ≤ 11 → ∀ b95 : Int32 × MT, b95 = itN i (st_X9_winds_95 M a0 a1) (0, M) → J G K b95.2 95 [some (rf K 140), some (.int a0), some (.int a1), some (.int (sp_X9_noTold M a0 (2 * a1))), some (.int (M.1 5 3 0)), some (.int b95.1), some (.int (nI i)), none, none] [] := by
              refine up_ind 11 (fun i hi95 ih95 => ?_)
              intro b95 hg95
              have hq95 : b95.2.2.2 8 = M.2.2 8 := by subst hg95; exact itN_inv (fun x : Int32 × MT => x.2.2.2 8 = M.2.2 8) i rfl (fun k m hk hm => by unfold st_X9_winds_95; (repeat' split) <;> exact hm)
              refine r_iload (pc := 95) hG dX9_winds_95 rfl ?_
              refine r_bipush (pc := 97) hG dX9_winds_97 bc_11 ?_
              refine r_icmp_ge (pc := 99) (tgt := 180) hG dX9_winds_99 (by decide) (fun c5 => ?_) (fun c5 => ?_)
              · have e95 : i = 11 := by have := (le_nI (k := 11) (i := i) (Nat.le_of_ble_eq_true rfl) (by omega)).mp c5; omega
                subst hg95
                subst e95
                refine r_aload_n (pc := 180) hG dX9_winds_180 rfl ?_
                refine gf_X9_ways (pc := 181)  hG dX9_winds_181 tw_1167 ?_
                refine r_iconst (pc := 184) hG dX9_winds_184 ic_0 ?_
                refine r_iload (pc := 185) hG dX9_winds_185 rfl ?_
                refine as_Mways (pc := 187)  hG dX9_winds_187 (ix_lit (j := 0) (by decide)) ?_
                refine r_iload (pc := 188) hG dX9_winds_188 rfl ?_
                exact hret _ _ _ _ dX9_winds_190 (pair_fst (show sp_X9_winds M a0 a1 = ((itN 11 (st_X9_winds_95 M a0 a1) (0, M)).1, u1 ((itN 11 (st_X9_winds_95 M a0 a1) (0, M)).2) 5 3 0 (M.1 5 3 0)) from (by unfold sp_X9_winds; exact ((if_pos c1).trans ((if_pos c2).trans ((if_pos c3).trans (fndN_none (tn a1) 0 (fun k _ hk => hp46 k (by omega))))))))) (pair_snd (show sp_X9_winds M a0 a1 = ((itN 11 (st_X9_winds_95 M a0 a1) (0, M)).1, u1 ((itN 11 (st_X9_winds_95 M a0 a1) (0, M)).2) 5 3 0 (M.1 5 3 0)) from (by unfold sp_X9_winds; exact ((if_pos c1).trans ((if_pos c2).trans ((if_pos c3).trans (fndN_none (tn a1) 0 (fun k _ hk => hp46 k (by omega)))))))))
              · have hl95 : i < 11 := by have := mt (le_nI (k := 11) (i := i) (Nat.le_of_ble_eq_true rfl) (by omega)).mpr c5; omega
                refine r_aload_n (pc := 102) hG dX9_winds_102 rfl ?_
                refine gf_X9_ways (pc := 103)  hG dX9_winds_103 tw_1167 ?_
                refine r_iconst (pc := 106) hG dX9_winds_106 ic_0 ?_
                refine r_iload (pc := 107) hG dX9_winds_107 rfl ?_
                refine as_Mways (pc := 109)  hG dX9_winds_109 (ix_lit (j := 0) (by decide)) ?_
                refine r_iconst (pc := 110) hG dX9_winds_110 ic_1 ?_
                refine r_istore (pc := 111) (ls' := [_, _, _, _, _, _, _, _, _]) hG dX9_winds_111 rfl rfl ?_
                refine r_iconst (pc := 113) hG dX9_winds_113 ic_0 ?_
                refine r_istore (pc := 114) (ls' := [_, _, _, _, _, _, _, _, _]) hG dX9_winds_114 rfl rfl ?_
                have hb116 : bd a1 21 := (wi5_bd (n := 20) c2 rfl (Nat.le_of_ble_eq_true rfl))
                have hb116l := bd_lt hb116
                have lp116 : ∀ i116, i116 ≤ (tn a1) → ∀ b116 : Int32, b116 = itN i116 (st_X9_winds_116 M a0 a1 i b95) 1 → J G K (u1 b95.2 5 3 0 (nI i)) 116 [some (rf K 140), some (.int a0), some (.int a1), some (.int (sp_X9_noTold M a0 (2 * a1))), some (.int (M.1 5 3 0)), some (.int b95.1), some (.int (nI i)), some (.int b116), some (.int (nI i116))] [] := by
                  refine up_ind (tn a1) (fun i116 hi116 ih116 => ?_)
                  intro b116 hg116
                  refine r_iload (pc := 116) hG dX9_winds_116 rfl ?_
                  refine r_iload_n (pc := 118) hG dX9_winds_118 rfl ?_
                  refine r_icmp_ge (pc := 119) (tgt := 160) hG dX9_winds_119 (by decide) (fun c6 => ?_) (fun c6 => ?_)
                  · have e116 : i116 = (tn a1) := by have := (bd_le hb116 (by omega)).mp c6; omega
                    subst hg116
                    subst e116
                    refine r_iload (pc := 160) hG dX9_winds_160 rfl ?_
                    refine r_if_eq (pc := 162) (tgt := 174) hG dX9_winds_162 (by decide) (fun c7 => ?_) (fun c7 => ?_)
                    · refine r_iinc (pc := 174) (v := nI (i + 1)) (ls' := [_, _, _, _, _, _, _, _, _]) hG dX9_winds_174 rfl (nI_1 _) rfl rfl ?_
                      refine r_goto (pc := 177) (tgt := 95) hG dX9_winds_177 (by decide) ?_
                      have eN95 : (b95.1, u1 b95.2 5 3 0 (nI i)) = st_X9_winds_95 M a0 a1 i (itN i (st_X9_winds_95 M a0 a1) (0, M)) := by rw [← hg95]; unfold st_X9_winds_95; exact Eq.symm (if_pos c7)
                      refine J.wk (ls' := [some (rf K 140), some (.int a0), some (.int a1), some (.int (sp_X9_noTold M a0 (2 * a1))), some (.int (M.1 5 3 0)), some (.int b95.1), some (.int (nI (i + 1))), none, none]) ?_ (Eq.refl 9) (wk_s rfl (wk_s rfl (wk_s rfl (wk_s rfl (wk_s rfl (wk_s rfl (wk_s rfl (wk_n (wk_n wk_0)))))))))
                      exact ih95 hl95 (b95.1, u1 b95.2 5 3 0 (nI i)) eN95
                    · refine r_iload (pc := 165) hG dX9_winds_165 rfl ?_
                      refine r_iconst (pc := 167) hG dX9_winds_167 ic_1 ?_
                      refine r_iload (pc := 168) hG dX9_winds_168 rfl ?_
                      refine r_ishl (pc := 170) hG dX9_winds_170 ?_
                      refine r_ior (pc := 171) hG dX9_winds_171 ?_
                      refine r_istore (pc := 172) (ls' := [_, _, _, _, _, _, _, _, _]) hG dX9_winds_172 rfl rfl ?_
                      refine r_iinc (pc := 174) (v := nI (i + 1)) (ls' := [_, _, _, _, _, _, _, _, _]) hG dX9_winds_174 rfl (nI_1 _) rfl rfl ?_
                      refine r_goto (pc := 177) (tgt := 95) hG dX9_winds_177 (by decide) ?_
                      have eN95 : (b95.1 ||| (1 <<< ((nI i) &&& 31)), u1 b95.2 5 3 0 (nI i)) = st_X9_winds_95 M a0 a1 i (itN i (st_X9_winds_95 M a0 a1) (0, M)) := by rw [← hg95]; unfold st_X9_winds_95; exact Eq.symm (if_neg c7)
                      refine J.wk (ls' := [some (rf K 140), some (.int a0), some (.int a1), some (.int (sp_X9_noTold M a0 (2 * a1))), some (.int (M.1 5 3 0)), some (.int (b95.1 ||| (1 <<< ((nI i) &&& 31)))), some (.int (nI (i + 1))), none, none]) ?_ (Eq.refl 9) (wk_s rfl (wk_s rfl (wk_s rfl (wk_s rfl (wk_s rfl (wk_s rfl (wk_s rfl (wk_n (wk_n wk_0)))))))))
                      exact ih95 hl95 (b95.1 ||| (1 <<< ((nI i) &&& 31)), u1 b95.2 5 3 0 (nI i)) eN95
                  · have hl116 : i116 < (tn a1) := by have := mt (bd_le hb116 (by omega)).mpr c6; omega
                    refine r_aload_n (pc := 122) hG dX9_winds_122 rfl ?_
                    refine r_aload_n (pc := 123) hG dX9_winds_123 rfl ?_
                    refine r_iload_n (pc := 124) hG dX9_winds_124 rfl ?_
                    refine r_iconst (pc := 125) hG dX9_winds_125 ic_2 ?_
                    refine r_iload (pc := 126) hG dX9_winds_126 rfl ?_
                    refine r_imul (pc := 128) hG dX9_winds_128 ?_
                    refine cv_X9_toldAt (pc := 129)  hG dX9_winds_129 tw_1535 (c_X9_toldAt (row_ix2 (isSh5 c1) (two_bd (n := 20) (i := i116) (by omega) (Nat.le_of_ble_eq_true rfl)))) (by decide) (Nat.le_of_ble_eq_true rfl) ?_
                    refine cv_X9_landingTold (pc := 132)  hG dX9_winds_132 tw_1546 (c_X9_landingTold (by show bd ((Int64.toInt32 (b95.2.2.2 8 (tn ((40 * a0) + (2 * nI i116))))) / 100) 8; rw [hq95]; exact wi_t hwc5 (hp46 i116 (by omega)))) (by decide) (Nat.le_of_ble_eq_true rfl) ?_
                    refine r_i2l (pc := 135) hG dX9_winds_135 ?_
                    refine r_aload_n (pc := 136) hG dX9_winds_136 rfl ?_
                    refine r_iload_n (pc := 137) hG dX9_winds_137 rfl ?_
                    refine r_iconst (pc := 138) hG dX9_winds_138 ic_2 ?_
                    refine r_iload (pc := 139) hG dX9_winds_139 rfl ?_
                    refine r_imul (pc := 141) hG dX9_winds_141 ?_
                    refine r_iconst (pc := 142) hG dX9_winds_142 ic_1 ?_
                    refine r_iadd (pc := 143) hG dX9_winds_143 ?_
                    refine cv_X9_toldAt (pc := 144)  hG dX9_winds_144 tw_1535 (c_X9_toldAt (row_ix2 (isSh5 c1) (two_bd1 (n := 20) (i := i116) (by omega) (Nat.le_of_ble_eq_true rfl)))) (by decide) (Nat.le_of_ble_eq_true rfl) ?_
                    refine r_lcmp (pc := 147) hG dX9_winds_147 ?_
                    refine r_lc_eq (pc := 148) (tgt := 154) hG dX9_winds_148 (by decide) (fun c8 => ?_) (fun c8 => ?_)
                    · refine r_iinc (pc := 154) (v := nI (i116 + 1)) (ls' := [_, _, _, _, _, _, _, _, _]) hG dX9_winds_154 rfl (nI_1 _) rfl rfl ?_
                      refine r_goto (pc := 157) (tgt := 116) hG dX9_winds_157 (by decide) ?_
                      have eN116 : b116 = st_X9_winds_116 M a0 a1 i b95 i116 (itN i116 (st_X9_winds_116 M a0 a1 i b95) 1) := by rw [← hg116]; unfold st_X9_winds_116; exact Eq.symm (if_pos c8)
                      refine J.wk (ls' := [some (rf K 140), some (.int a0), some (.int a1), some (.int (sp_X9_noTold M a0 (2 * a1))), some (.int (M.1 5 3 0)), some (.int b95.1), some (.int (nI i)), some (.int b116), some (.int (nI (i116 + 1)))]) ?_ (Eq.refl 9) (wk_s rfl (wk_s rfl (wk_s rfl (wk_s rfl (wk_s rfl (wk_s rfl (wk_s rfl (wk_s rfl (wk_s rfl wk_0)))))))))
                      exact ih116 hl116 b116 eN116
                    · refine r_iconst (pc := 151) hG dX9_winds_151 ic_0 ?_
                      refine r_istore (pc := 152) (ls' := [_, _, _, _, _, _, _, _, _]) hG dX9_winds_152 rfl rfl ?_
                      refine r_iinc (pc := 154) (v := nI (i116 + 1)) (ls' := [_, _, _, _, _, _, _, _, _]) hG dX9_winds_154 rfl (nI_1 _) rfl rfl ?_
                      refine r_goto (pc := 157) (tgt := 116) hG dX9_winds_157 (by decide) ?_
                      have eN116 : 0 = st_X9_winds_116 M a0 a1 i b95 i116 (itN i116 (st_X9_winds_116 M a0 a1 i b95) 1) := by rw [← hg116]; unfold st_X9_winds_116; exact Eq.symm (if_neg c8)
                      refine J.wk (ls' := [some (rf K 140), some (.int a0), some (.int a1), some (.int (sp_X9_noTold M a0 (2 * a1))), some (.int (M.1 5 3 0)), some (.int b95.1), some (.int (nI i)), some (.int 0), some (.int (nI (i116 + 1)))]) ?_ (Eq.refl 9) (wk_s rfl (wk_s rfl (wk_s rfl (wk_s rfl (wk_s rfl (wk_s rfl (wk_s rfl (wk_s rfl (wk_s rfl wk_0)))))))))
                      exact ih116 hl116 0 eN116
                exact (lp116 0 (Nat.zero_le _) _ rfl).wk (Eq.refl 9) (wk_s rfl (wk_s rfl (wk_s rfl (wk_s rfl (wk_s rfl (wk_s rfl (wk_s rfl (wk_s rfl (wk_s rfl wk_0)))))))))
            exact (lp95 0 (Nat.zero_le _) _ rfl).wk (Eq.refl 9) (wk_s rfl (wk_s rfl (wk_s rfl (wk_s rfl (wk_s rfl (wk_s rfl (wk_s rfl (wk_n (wk_n wk_0)))))))))
          · have hl46 : i < (tn a1) := by have := mt (bd_le hb46 (by omega)).mpr c4; omega
            refine r_aload_n (pc := 52) hG dX9_winds_52 rfl ?_
            refine r_aload_n (pc := 53) hG dX9_winds_53 rfl ?_
            refine r_iload_n (pc := 54) hG dX9_winds_54 rfl ?_
            refine r_iconst (pc := 55) hG dX9_winds_55 ic_2 ?_
            refine r_iload (pc := 56) hG dX9_winds_56 rfl ?_
            refine r_imul (pc := 58) hG dX9_winds_58 ?_
            refine cv_X9_toldAt (pc := 59)  hG dX9_winds_59 tw_1535 (c_X9_toldAt (row_ix2 (isSh5 c1) (two_bd (n := 20) (i := i) (by omega) (Nat.le_of_ble_eq_true rfl)))) (by decide) (Nat.le_of_ble_eq_true rfl) ?_
            refine cv_X9_isThrowTold (pc := 62)  hG dX9_winds_62 tw_1539 (c_X9_isThrowTold) (by decide) (Nat.le_of_ble_eq_true rfl) ?_
            refine r_ifz_ne (pc := 65) (tgt := 75) hG dX9_winds_65 (by decide) (fun c9 => ?_) (fun c9 => ?_)
            · refine r_iinc (pc := 75) (v := nI (i + 1)) (ls' := [_, _, _, _, _, _, _, _, _]) hG dX9_winds_75 rfl (nI_1 _) rfl rfl ?_
              refine r_goto (pc := 78) (tgt := 46) hG dX9_winds_78 (by decide) ?_
              exact (ih46 hl46 (fun k hk => (Nat.lt_or_eq_of_le (Nat.le_of_lt_succ hk)).elim (hp46 k) (fun q => by subst q; unfold ps_X9_winds_46; exact (if_pos c9)))).wk (Eq.refl 9) (wk_s rfl (wk_s rfl (wk_s rfl (wk_s rfl (wk_s rfl (wk_n (wk_n (wk_n (wk_n wk_0)))))))))
            · refine r_aload_n (pc := 68) hG dX9_winds_68 rfl ?_
              refine r_bipush (pc := 69) hG dX9_winds_69 bc_m5 ?_
              refine cv_X9_no (pc := 71)  hG dX9_winds_71 tw_1273 (c_X9_no (bd_lit (n := 7) (by decide))) (by decide) (Nat.le_of_ble_eq_true rfl) ?_
              exact hret _ _ _ _ dX9_winds_74 (pair_fst (show sp_X9_winds M a0 a1 = ((sp_X9_no M (-5)).1, (sp_X9_no M (-5)).2) from (by unfold sp_X9_winds; exact ((if_pos c1).trans ((if_pos c2).trans ((if_pos c3).trans ((fndN_hit (tn a1) 0 i (Nat.zero_le _) (by omega) (by unfold ps_X9_winds_46; exact (if_neg c9)) (fun k _ hk => hp46 k hk)).trans (if_neg c9)))))))) (pair_snd (show sp_X9_winds M a0 a1 = ((sp_X9_no M (-5)).1, (sp_X9_no M (-5)).2) from (by unfold sp_X9_winds; exact ((if_pos c1).trans ((if_pos c2).trans ((if_pos c3).trans ((fndN_hit (tn a1) 0 i (Nat.zero_le _) (by omega) (by unfold ps_X9_winds_46; exact (if_neg c9)) (fun k _ hk => hp46 k hk)).trans (if_neg c9))))))))
        exact (lp46 0 (Nat.zero_le _) (fun k hk => absurd hk (Nat.not_lt_zero k))).wk (Eq.refl 9) (wk_s rfl (wk_s rfl (wk_s rfl (wk_s rfl (wk_s rfl (wk_n (wk_n (wk_n (wk_n wk_0)))))))))
      · refine r_aload_n (pc := 37) hG dX9_winds_37 rfl ?_
        refine r_iload_n (pc := 38) hG dX9_winds_38 rfl ?_
        refine cv_X9_no (pc := 39)  hG dX9_winds_39 tw_1273 (c_X9_no ntB) (by decide) (Nat.le_of_ble_eq_true rfl) ?_
        exact hret _ _ _ _ dX9_winds_42 (pair_fst (show sp_X9_winds M a0 a1 = ((sp_X9_no M (sp_X9_noTold M a0 (2 * a1))).1, (sp_X9_no M (sp_X9_noTold M a0 (2 * a1))).2) from (by unfold sp_X9_winds; exact ((if_pos c1).trans ((if_pos c2).trans (if_neg c3)))))) (pair_snd (show sp_X9_winds M a0 a1 = ((sp_X9_no M (sp_X9_noTold M a0 (2 * a1))).1, (sp_X9_no M (sp_X9_noTold M a0 (2 * a1))).2) from (by unfold sp_X9_winds; exact ((if_pos c1).trans ((if_pos c2).trans (if_neg c3))))))
    · refine r_aload_n (pc := 17) hG dX9_winds_17 rfl ?_
      refine r_bipush (pc := 18) hG dX9_winds_18 bc_m2 ?_
      refine cv_X9_no (pc := 20)  hG dX9_winds_20 tw_1273 (c_X9_no (bd_lit (n := 7) (by decide))) (by decide) (Nat.le_of_ble_eq_true rfl) ?_
      exact hret _ _ _ _ dX9_winds_23 (pair_fst (show sp_X9_winds M a0 a1 = ((sp_X9_no M (-2)).1, (sp_X9_no M (-2)).2) from (by unfold sp_X9_winds; exact ((if_pos c1).trans (if_neg c2))))) (pair_snd (show sp_X9_winds M a0 a1 = ((sp_X9_no M (-2)).1, (sp_X9_no M (-2)).2) from (by unfold sp_X9_winds; exact ((if_pos c1).trans (if_neg c2)))))

def st_X9_kinds_143 (M : MT) (a0 : Int32) (a1 : Int32) (a2 : Int32) (i : Nat) (b122 : Int32 × MT) (i143 : Nat) (b143 : Int32) : Int32 :=
  if (Int32.toInt64 (sp_X9_slowTo (u1 b122.2 5 9 (tn a2) (nI i)) a2 (b122.2.1 5 7 (tn (Int64.toInt32 (sp_X9_toldAt (u1 b122.2 5 9 (tn a2) (nI i)) a0 (2 * (nI i143)))))))) = (sp_X9_toldAt (u1 b122.2 5 9 (tn a2) (nI i)) a0 ((2 * (nI i143)) + 1)) then
    b143
  else
    0
def st_X9_kinds_122 (M : MT) (a0 : Int32) (a1 : Int32) (a2 : Int32) (i : Nat) (b122 : Int32 × MT) : Int32 × MT :=
  if (itN (tn a1) (st_X9_kinds_143 M a0 a1 a2 i b122) 1) = 0 then
    (b122.1, u1 b122.2 5 9 (tn a2) (nI i))
  else
    (b122.1 ||| (1 <<< ((nI i) &&& 31)), u1 b122.2 5 9 (tn a2) (nI i))
def ps_X9_kinds_57 (M : MT) (a0 : Int32) (a1 : Int32) (a2 : Int32) (i : Nat) : Bool :=
  if (sp_X9_toldAt M a0 (2 * (nI i))) < 0 then
    true
  else
    if (sp_X9_toldAt M a0 (2 * (nI i))) < (Int32.toInt64 (M.1 5 0 0)) then
      false
    else
      true
def sp_X9_kinds (M : MT) (a0 : Int32) (a1 : Int32) (a2 : Int32) : Int32 × MT :=
  if (sp_X9_isShelf a0) = true then
    if (sp_X9_within a1 0 20) = true then
      if (sp_X9_isOne M a2) = true then
        if 0 ≤ (sp_X9_noTold M a0 (2 * a1)) then
          fndN (ps_X9_kinds_57 M a0 a1 a2) (fun i => (if (sp_X9_toldAt M a0 (2 * (nI i))) < 0 then
  ((sp_X9_no M (-5)).1, (sp_X9_no M (-5)).2)
else
  if (sp_X9_toldAt M a0 (2 * (nI i))) < (Int32.toInt64 (M.1 5 0 0)) then
    ((itN 6 (st_X9_kinds_122 M a0 a1 a2) (0, M)).1, u1 ((itN 6 (st_X9_kinds_122 M a0 a1 a2) (0, M)).2) 5 9 (tn a2) (M.1 5 9 (tn a2)))
  else
    ((sp_X9_no M (-5)).1, (sp_X9_no M (-5)).2))) (((itN 6 (st_X9_kinds_122 M a0 a1 a2) (0, M)).1, u1 ((itN 6 (st_X9_kinds_122 M a0 a1 a2) (0, M)).2) 5 9 (tn a2) (M.1 5 9 (tn a2)))) (tn a1) 0
        else
          ((sp_X9_no M (sp_X9_noTold M a0 (2 * a1))).1, (sp_X9_no M (sp_X9_noTold M a0 (2 * a1))).2)
      else
        ((sp_X9_no M (-2)).1, (sp_X9_no M (-2)).2)
    else
      ((sp_X9_no M (-2)).1, (sp_X9_no M (-2)).2)
  else
    ((sp_X9_no M (-2)).1, (sp_X9_no M (-2)).2)
set_option maxRecDepth 20000 in
theorem c_X9_kinds {K : KT} {M : MT} {a0 : Int32} {a1 : Int32} {a2 : Int32}  (hokr : OKR M) : CM K 4 yX9_kinds cX9_kinds 10 (some FieldType.int) [rf K 140, .int a0, .int a1, .int a2] M (some (.int (sp_X9_kinds M a0 a1 a2).1)) (sp_X9_kinds M a0 a1 a2).2 := by
  refine CM.ofI (by decide) [some (rf K 140), some (.int a0), some (.int a1), some (.int a2), none, none, none, none, none, none] rfl (Nat.le_of_ble_eq_true rfl) (Nat.le_of_ble_eq_true rfl) (fun G hG _ hret => ?_)
  obtain ⟨hok5, hhl, htp5⟩ := id hokr
  obtain ⟨hwc5, hpc5, ⟨hcl5, hcm5⟩, hwi5, hda5, hle5, hk85, ha85, hW5, hP5⟩ := id hok5
  have hwl5 := bd_lt hwc5
  have hpl5 := bd_lt hpc5
  have hcl5l := bd_lt hcl5
  refine r_iload_n (pc := 0) hG dX9_kinds_0 rfl ?_
  refine cs_X9_isShelf (pc := 1)  hG dX9_kinds_1 tw_1267 (c_X9_isShelf) (by decide) (Nat.le_of_ble_eq_true rfl) ?_
  refine r_ifz_eq (pc := 4) (tgt := 25) hG dX9_kinds_4 (by decide) (fun c1 => ?_) (fun c1 => ?_)
  · refine r_aload_n (pc := 25) hG dX9_kinds_25 rfl ?_
    refine r_bipush (pc := 26) hG dX9_kinds_26 bc_m2 ?_
    refine cv_X9_no (pc := 28)  hG dX9_kinds_28 tw_1273 (c_X9_no (bd_lit (n := 7) (by decide))) (by decide) (Nat.le_of_ble_eq_true rfl) ?_
    exact hret _ _ _ _ dX9_kinds_31 (pair_fst (show sp_X9_kinds M a0 a1 a2 = ((sp_X9_no M (-2)).1, (sp_X9_no M (-2)).2) from (by unfold sp_X9_kinds; exact (if_neg c1)))) (pair_snd (show sp_X9_kinds M a0 a1 a2 = ((sp_X9_no M (-2)).1, (sp_X9_no M (-2)).2) from (by unfold sp_X9_kinds; exact (if_neg c1))))
  · refine r_iload_n (pc := 7) hG dX9_kinds_7 rfl ?_
    refine r_iconst (pc := 8) hG dX9_kinds_8 ic_0 ?_
    refine r_bipush (pc := 9) hG dX9_kinds_9 bc_20 ?_
    refine cs_X9_within (pc := 11)  hG dX9_kinds_11 tw_1270 (c_X9_within) (by decide) (Nat.le_of_ble_eq_true rfl) ?_
    refine r_ifz_eq (pc := 14) (tgt := 25) hG dX9_kinds_14 (by decide) (fun c2 => ?_) (fun c2 => ?_)
    · refine r_aload_n (pc := 25) hG dX9_kinds_25 rfl ?_
      refine r_bipush (pc := 26) hG dX9_kinds_26 bc_m2 ?_
      refine cv_X9_no (pc := 28)  hG dX9_kinds_28 tw_1273 (c_X9_no (bd_lit (n := 7) (by decide))) (by decide) (Nat.le_of_ble_eq_true rfl) ?_
      exact hret _ _ _ _ dX9_kinds_31 (pair_fst (show sp_X9_kinds M a0 a1 a2 = ((sp_X9_no M (-2)).1, (sp_X9_no M (-2)).2) from (by unfold sp_X9_kinds; exact ((if_pos c1).trans (if_neg c2))))) (pair_snd (show sp_X9_kinds M a0 a1 a2 = ((sp_X9_no M (-2)).1, (sp_X9_no M (-2)).2) from (by unfold sp_X9_kinds; exact ((if_pos c1).trans (if_neg c2)))))
    · refine r_aload_n (pc := 17) hG dX9_kinds_17 rfl ?_
      refine r_iload_n (pc := 18) hG dX9_kinds_18 rfl ?_
      refine cv_X9_isOne (pc := 19)  hG dX9_kinds_19 tw_1308 (c_X9_isOne) (by decide) (Nat.le_of_ble_eq_true rfl) ?_
      refine r_ifz_ne (pc := 22) (tgt := 32) hG dX9_kinds_22 (by decide) (fun c3 => ?_) (fun c3 => ?_)
      · refine r_aload_n (pc := 32) hG dX9_kinds_32 rfl ?_
        refine r_iload_n (pc := 33) hG dX9_kinds_33 rfl ?_
        refine r_iconst (pc := 34) hG dX9_kinds_34 ic_2 ?_
        refine r_iload_n (pc := 35) hG dX9_kinds_35 rfl ?_
        refine r_imul (pc := 36) hG dX9_kinds_36 ?_
        refine cv_X9_noTold (pc := 37)  hG dX9_kinds_37 tw_1531 (c_X9_noTold (isSh5 c1)) (by decide) (Nat.le_of_ble_eq_true rfl) ?_
        refine r_istore (pc := 40) (ls' := [_, _, _, _, _, _, _, _, _, _]) hG dX9_kinds_40 rfl rfl ?_
        refine r_iload (pc := 42) hG dX9_kinds_42 rfl ?_
        refine r_if_ge (pc := 44) (tgt := 54) hG dX9_kinds_44 (by decide) (fun c4 => ?_) (fun c4 => ?_)
        · refine r_iconst (pc := 54) hG dX9_kinds_54 ic_0 ?_
          refine r_istore (pc := 55) (ls' := [_, _, _, _, _, _, _, _, _, _]) hG dX9_kinds_55 rfl rfl ?_
          have hb57 : bd a1 21 := (wi5_bd (n := 20) c2 rfl (Nat.le_of_ble_eq_true rfl))
          have hb57l := bd_lt hb57
          have lp57 : ∀ i, i ≤ (tn a1) → (∀ k, k < i → ps_X9_kinds_57 M a0 a1 a2 k = false) → J G K M 57 [some (rf K 140), some (.int a0), some (.int a1), some (.int a2), some (.int (sp_X9_noTold M a0 (2 * a1))), some (.int (nI i)), none, none, none, none] [] := by
            refine up_ind (tn a1) (fun i hi57 ih57 => ?_)
            intro hp57
            refine r_iload (pc := 57) hG dX9_kinds_57 rfl ?_
            refine r_iload_n (pc := 59) hG dX9_kinds_59 rfl ?_
            refine r_icmp_ge (pc := 60) (tgt := 108) hG dX9_kinds_60 (by decide) (fun c5 => ?_) (fun c5 => ?_)
            · have e57 : i = (tn a1) := by have := (bd_le hb57 (by omega)).mp c5; omega
              subst e57
              refine r_aload_n (pc := 108) hG dX9_kinds_108 rfl ?_
              refine gf_X9_kind (pc := 109)  hG dX9_kinds_109 tw_1174 ?_
              refine r_iload_n (pc := 112) hG dX9_kinds_112 rfl ?_
              refine al_Mkind (pc := 113)  hG dX9_kinds_113 (ix_bd (hasP5 hpc5 c3)) ?_
              refine r_istore (pc := 114) (ls' := [_, _, _, _, _, _, _, _, _, _]) hG dX9_kinds_114 rfl rfl ?_
              refine r_iconst (pc := 116) hG dX9_kinds_116 ic_0 ?_
              refine r_istore (pc := 117) (ls' := [_, _, _, _, _, _, _, _, _, _]) hG dX9_kinds_117 rfl rfl ?_
              refine r_iconst (pc := 119) hG dX9_kinds_119 ic_0 ?_
              refine r_istore (pc := 120) (ls' := [_, _, _, _, _, _, _, _, _, _]) hG dX9_kinds_120 rfl rfl ?_
              have lp122 : ∀ i, i ≤ 6 → ∀ b122 : Int32 × MT, b122 = itN i (st_X9_kinds_122 M a0 a1 a2) (0, M) → J G K b122.2 122 [some (rf K 140), some (.int a0), some (.int a1), some (.int a2), some (.int (sp_X9_noTold M a0 (2 * a1))), some (.int (M.1 5 9 (tn a2))), some (.int b122.1), some (.int (nI i)), none, none] [] := by
                refine up_ind 6 (fun i hi122 ih122 => ?_)
                intro b122 hg122
                have hq122 : b122.2.2.2 8 = M.2.2 8 := by subst hg122; exact itN_inv (fun x : Int32 × MT => x.2.2.2 8 = M.2.2 8) i rfl (fun k m hk hm => by unfold st_X9_kinds_122; (repeat' split) <;> exact hm)
                refine r_iload (pc := 122) hG dX9_kinds_122 rfl ?_
                refine r_bipush (pc := 124) hG dX9_kinds_124 bc_6 ?_
                refine r_icmp_ge (pc := 126) (tgt := 214) hG dX9_kinds_126 (by decide) (fun c6 => ?_) (fun c6 => ?_)
                · have e122 : i = 6 := by have := (le_nI (k := 6) (i := i) (Nat.le_of_ble_eq_true rfl) (by omega)).mp c6; omega
                  subst hg122
                  subst e122
                  refine r_aload_n (pc := 214) hG dX9_kinds_214 rfl ?_
                  refine gf_X9_kind (pc := 215)  hG dX9_kinds_215 tw_1174 ?_
                  refine r_iload_n (pc := 218) hG dX9_kinds_218 rfl ?_
                  refine r_iload (pc := 219) hG dX9_kinds_219 rfl ?_
                  refine as_Mkind (pc := 221)  hG dX9_kinds_221 (ix_bd (hasP5 hpc5 c3)) ?_
                  refine r_iload (pc := 222) hG dX9_kinds_222 rfl ?_
                  exact hret _ _ _ _ dX9_kinds_224 (pair_fst (show sp_X9_kinds M a0 a1 a2 = ((itN 6 (st_X9_kinds_122 M a0 a1 a2) (0, M)).1, u1 ((itN 6 (st_X9_kinds_122 M a0 a1 a2) (0, M)).2) 5 9 (tn a2) (M.1 5 9 (tn a2))) from (by unfold sp_X9_kinds; exact ((if_pos c1).trans ((if_pos c2).trans ((if_pos c3).trans ((if_pos c4).trans (fndN_none (tn a1) 0 (fun k _ hk => hp57 k (by omega)))))))))) (pair_snd (show sp_X9_kinds M a0 a1 a2 = ((itN 6 (st_X9_kinds_122 M a0 a1 a2) (0, M)).1, u1 ((itN 6 (st_X9_kinds_122 M a0 a1 a2) (0, M)).2) 5 9 (tn a2) (M.1 5 9 (tn a2))) from (by unfold sp_X9_kinds; exact ((if_pos c1).trans ((if_pos c2).trans ((if_pos c3).trans ((if_pos c4).trans (fndN_none (tn a1) 0 (fun k _ hk => hp57 k (by omega))))))))))
                · have hl122 : i < 6 := by have := mt (le_nI (k := 6) (i := i) (Nat.le_of_ble_eq_true rfl) (by omega)).mpr c6; omega
                  refine r_aload_n (pc := 129) hG dX9_kinds_129 rfl ?_
                  refine gf_X9_kind (pc := 130)  hG dX9_kinds_130 tw_1174 ?_
                  refine r_iload_n (pc := 133) hG dX9_kinds_133 rfl ?_
                  refine r_iload (pc := 134) hG dX9_kinds_134 rfl ?_
                  refine as_Mkind (pc := 136)  hG dX9_kinds_136 (ix_bd (hasP5 hpc5 c3)) ?_
                  refine r_iconst (pc := 137) hG dX9_kinds_137 ic_1 ?_
                  refine r_istore (pc := 138) (ls' := [_, _, _, _, _, _, _, _, _, _]) hG dX9_kinds_138 rfl rfl ?_
                  refine r_iconst (pc := 140) hG dX9_kinds_140 ic_0 ?_
                  refine r_istore (pc := 141) (ls' := [_, _, _, _, _, _, _, _, _, _]) hG dX9_kinds_141 rfl rfl ?_
                  have hb143 : bd a1 21 := (wi5_bd (n := 20) c2 rfl (Nat.le_of_ble_eq_true rfl))
                  have hb143l := bd_lt hb143
                  have lp143 : ∀ i143, i143 ≤ (tn a1) → ∀ b143 : Int32, b143 = itN i143 (st_X9_kinds_143 M a0 a1 a2 i b122) 1 → J G K (u1 b122.2 5 9 (tn a2) (nI i)) 143 [some (rf K 140), some (.int a0), some (.int a1), some (.int a2), some (.int (sp_X9_noTold M a0 (2 * a1))), some (.int (M.1 5 9 (tn a2))), some (.int b122.1), some (.int (nI i)), some (.int b143), some (.int (nI i143))] [] := by
                    refine up_ind (tn a1) (fun i143 hi143 ih143 => ?_)
                    intro b143 hg143
                    refine r_iload (pc := 143) hG dX9_kinds_143 rfl ?_
                    refine r_iload_n (pc := 145) hG dX9_kinds_145 rfl ?_
                    refine r_icmp_ge (pc := 146) (tgt := 194) hG dX9_kinds_146 (by decide) (fun c7 => ?_) (fun c7 => ?_)
                    · have e143 : i143 = (tn a1) := by have := (bd_le hb143 (by omega)).mp c7; omega
                      subst hg143
                      subst e143
                      refine r_iload (pc := 194) hG dX9_kinds_194 rfl ?_
                      refine r_if_eq (pc := 196) (tgt := 208) hG dX9_kinds_196 (by decide) (fun c8 => ?_) (fun c8 => ?_)
                      · refine r_iinc (pc := 208) (v := nI (i + 1)) (ls' := [_, _, _, _, _, _, _, _, _, _]) hG dX9_kinds_208 rfl (nI_1 _) rfl rfl ?_
                        refine r_goto (pc := 211) (tgt := 122) hG dX9_kinds_211 (by decide) ?_
                        have eN122 : (b122.1, u1 b122.2 5 9 (tn a2) (nI i)) = st_X9_kinds_122 M a0 a1 a2 i (itN i (st_X9_kinds_122 M a0 a1 a2) (0, M)) := by rw [← hg122]; unfold st_X9_kinds_122; exact Eq.symm (if_pos c8)
                        refine J.wk (ls' := [some (rf K 140), some (.int a0), some (.int a1), some (.int a2), some (.int (sp_X9_noTold M a0 (2 * a1))), some (.int (M.1 5 9 (tn a2))), some (.int b122.1), some (.int (nI (i + 1))), none, none]) ?_ (Eq.refl 10) (wk_s rfl (wk_s rfl (wk_s rfl (wk_s rfl (wk_s rfl (wk_s rfl (wk_s rfl (wk_s rfl (wk_n (wk_n wk_0))))))))))
                        exact ih122 hl122 (b122.1, u1 b122.2 5 9 (tn a2) (nI i)) eN122
                      · refine r_iload (pc := 199) hG dX9_kinds_199 rfl ?_
                        refine r_iconst (pc := 201) hG dX9_kinds_201 ic_1 ?_
                        refine r_iload (pc := 202) hG dX9_kinds_202 rfl ?_
                        refine r_ishl (pc := 204) hG dX9_kinds_204 ?_
                        refine r_ior (pc := 205) hG dX9_kinds_205 ?_
                        refine r_istore (pc := 206) (ls' := [_, _, _, _, _, _, _, _, _, _]) hG dX9_kinds_206 rfl rfl ?_
                        refine r_iinc (pc := 208) (v := nI (i + 1)) (ls' := [_, _, _, _, _, _, _, _, _, _]) hG dX9_kinds_208 rfl (nI_1 _) rfl rfl ?_
                        refine r_goto (pc := 211) (tgt := 122) hG dX9_kinds_211 (by decide) ?_
                        have eN122 : (b122.1 ||| (1 <<< ((nI i) &&& 31)), u1 b122.2 5 9 (tn a2) (nI i)) = st_X9_kinds_122 M a0 a1 a2 i (itN i (st_X9_kinds_122 M a0 a1 a2) (0, M)) := by rw [← hg122]; unfold st_X9_kinds_122; exact Eq.symm (if_neg c8)
                        refine J.wk (ls' := [some (rf K 140), some (.int a0), some (.int a1), some (.int a2), some (.int (sp_X9_noTold M a0 (2 * a1))), some (.int (M.1 5 9 (tn a2))), some (.int (b122.1 ||| (1 <<< ((nI i) &&& 31)))), some (.int (nI (i + 1))), none, none]) ?_ (Eq.refl 10) (wk_s rfl (wk_s rfl (wk_s rfl (wk_s rfl (wk_s rfl (wk_s rfl (wk_s rfl (wk_s rfl (wk_n (wk_n wk_0))))))))))
                        exact ih122 hl122 (b122.1 ||| (1 <<< ((nI i) &&& 31)), u1 b122.2 5 9 (tn a2) (nI i)) eN122
                    · have hl143 : i143 < (tn a1) := by have := mt (bd_le hb143 (by omega)).mpr c7; omega
                      refine r_aload_n (pc := 149) hG dX9_kinds_149 rfl ?_
                      refine r_iload_n (pc := 150) hG dX9_kinds_150 rfl ?_
                      refine r_aload_n (pc := 151) hG dX9_kinds_151 rfl ?_
                      refine gf_X9_floor (pc := 152)  hG dX9_kinds_152 tw_1171 ?_
                      refine r_aload_n (pc := 155) hG dX9_kinds_155 rfl ?_
                      refine r_iload_n (pc := 156) hG dX9_kinds_156 rfl ?_
                      refine r_iconst (pc := 157) hG dX9_kinds_157 ic_2 ?_
                      refine r_iload (pc := 158) hG dX9_kinds_158 rfl ?_
                      refine r_imul (pc := 160) hG dX9_kinds_160 ?_
                      refine cv_X9_toldAt (pc := 161)  hG dX9_kinds_161 tw_1535 (c_X9_toldAt (row_ix2 (isSh5 c1) (two_bd (n := 20) (i := i143) (by omega) (Nat.le_of_ble_eq_true rfl)))) (by decide) (Nat.le_of_ble_eq_true rfl) ?_
                      refine r_l2i (pc := 164) hG dX9_kinds_164 ?_
                      refine al_Mfloor (pc := 165)  hG dX9_kinds_165 (ix_bd (by show bd (Int64.toInt32 (b122.2.2.2 8 (tn ((40 * a0) + (2 * nI i143))))) 8; rw [hq122]; exact ki_t hwc5 (hp57 i143 (by omega)))) ?_
                      refine cv_X9_slowTo (pc := 166)  hG dX9_kinds_166 tw_1319 (c_X9_slowTo (hasP5 hpc5 c3)) (by decide) (Nat.le_of_ble_eq_true rfl) ?_
                      refine r_i2l (pc := 169) hG dX9_kinds_169 ?_
                      refine r_aload_n (pc := 170) hG dX9_kinds_170 rfl ?_
                      refine r_iload_n (pc := 171) hG dX9_kinds_171 rfl ?_
                      refine r_iconst (pc := 172) hG dX9_kinds_172 ic_2 ?_
                      refine r_iload (pc := 173) hG dX9_kinds_173 rfl ?_
                      refine r_imul (pc := 175) hG dX9_kinds_175 ?_
                      refine r_iconst (pc := 176) hG dX9_kinds_176 ic_1 ?_
                      refine r_iadd (pc := 177) hG dX9_kinds_177 ?_
                      refine cv_X9_toldAt (pc := 178)  hG dX9_kinds_178 tw_1535 (c_X9_toldAt (row_ix2 (isSh5 c1) (two_bd1 (n := 20) (i := i143) (by omega) (Nat.le_of_ble_eq_true rfl)))) (by decide) (Nat.le_of_ble_eq_true rfl) ?_
                      refine r_lcmp (pc := 181) hG dX9_kinds_181 ?_
                      refine r_lc_eq (pc := 182) (tgt := 188) hG dX9_kinds_182 (by decide) (fun c9 => ?_) (fun c9 => ?_)
                      · refine r_iinc (pc := 188) (v := nI (i143 + 1)) (ls' := [_, _, _, _, _, _, _, _, _, _]) hG dX9_kinds_188 rfl (nI_1 _) rfl rfl ?_
                        refine r_goto (pc := 191) (tgt := 143) hG dX9_kinds_191 (by decide) ?_
                        have eN143 : b143 = st_X9_kinds_143 M a0 a1 a2 i b122 i143 (itN i143 (st_X9_kinds_143 M a0 a1 a2 i b122) 1) := by rw [← hg143]; unfold st_X9_kinds_143; exact Eq.symm (if_pos c9)
                        refine J.wk (ls' := [some (rf K 140), some (.int a0), some (.int a1), some (.int a2), some (.int (sp_X9_noTold M a0 (2 * a1))), some (.int (M.1 5 9 (tn a2))), some (.int b122.1), some (.int (nI i)), some (.int b143), some (.int (nI (i143 + 1)))]) ?_ (Eq.refl 10) (wk_s rfl (wk_s rfl (wk_s rfl (wk_s rfl (wk_s rfl (wk_s rfl (wk_s rfl (wk_s rfl (wk_s rfl (wk_s rfl wk_0))))))))))
                        exact ih143 hl143 b143 eN143
                      · refine r_iconst (pc := 185) hG dX9_kinds_185 ic_0 ?_
                        refine r_istore (pc := 186) (ls' := [_, _, _, _, _, _, _, _, _, _]) hG dX9_kinds_186 rfl rfl ?_
                        refine r_iinc (pc := 188) (v := nI (i143 + 1)) (ls' := [_, _, _, _, _, _, _, _, _, _]) hG dX9_kinds_188 rfl (nI_1 _) rfl rfl ?_
                        refine r_goto (pc := 191) (tgt := 143) hG dX9_kinds_191 (by decide) ?_
                        have eN143 : 0 = st_X9_kinds_143 M a0 a1 a2 i b122 i143 (itN i143 (st_X9_kinds_143 M a0 a1 a2 i b122) 1) := by rw [← hg143]; unfold st_X9_kinds_143; exact Eq.symm (if_neg c9)
                        refine J.wk (ls' := [some (rf K 140), some (.int a0), some (.int a1), some (.int a2), some (.int (sp_X9_noTold M a0 (2 * a1))), some (.int (M.1 5 9 (tn a2))), some (.int b122.1), some (.int (nI i)), some (.int 0), some (.int (nI (i143 + 1)))]) ?_ (Eq.refl 10) (wk_s rfl (wk_s rfl (wk_s rfl (wk_s rfl (wk_s rfl (wk_s rfl (wk_s rfl (wk_s rfl (wk_s rfl (wk_s rfl wk_0))))))))))
                        exact ih143 hl143 0 eN143
                  exact (lp143 0 (Nat.zero_le _) _ rfl).wk (Eq.refl 10) (wk_s rfl (wk_s rfl (wk_s rfl (wk_s rfl (wk_s rfl (wk_s rfl (wk_s rfl (wk_s rfl (wk_s rfl (wk_s rfl wk_0))))))))))
              exact (lp122 0 (Nat.zero_le _) _ rfl).wk (Eq.refl 10) (wk_s rfl (wk_s rfl (wk_s rfl (wk_s rfl (wk_s rfl (wk_s rfl (wk_s rfl (wk_s rfl (wk_n (wk_n wk_0))))))))))
            · have hl57 : i < (tn a1) := by have := mt (bd_le hb57 (by omega)).mpr c5; omega
              refine r_aload_n (pc := 63) hG dX9_kinds_63 rfl ?_
              refine r_iload_n (pc := 64) hG dX9_kinds_64 rfl ?_
              refine r_iconst (pc := 65) hG dX9_kinds_65 ic_2 ?_
              refine r_iload (pc := 66) hG dX9_kinds_66 rfl ?_
              refine r_imul (pc := 68) hG dX9_kinds_68 ?_
              refine cv_X9_toldAt (pc := 69)  hG dX9_kinds_69 tw_1535 (c_X9_toldAt (row_ix2 (isSh5 c1) (two_bd (n := 20) (i := i) (by omega) (Nat.le_of_ble_eq_true rfl)))) (by decide) (Nat.le_of_ble_eq_true rfl) ?_
              refine r_lconst (pc := 72) (v := 0) hG dX9_kinds_72 (by decide) ?_
              refine r_lcmp (pc := 73) hG dX9_kinds_73 ?_
              refine r_lc_lt (pc := 74) (tgt := 95) hG dX9_kinds_74 (by decide) (fun c10 => ?_) (fun c10 => ?_)
              · refine r_aload_n (pc := 95) hG dX9_kinds_95 rfl ?_
                refine r_bipush (pc := 96) hG dX9_kinds_96 bc_m5 ?_
                refine cv_X9_no (pc := 98)  hG dX9_kinds_98 tw_1273 (c_X9_no (bd_lit (n := 7) (by decide))) (by decide) (Nat.le_of_ble_eq_true rfl) ?_
                exact hret _ _ _ _ dX9_kinds_101 (pair_fst (show sp_X9_kinds M a0 a1 a2 = ((sp_X9_no M (-5)).1, (sp_X9_no M (-5)).2) from (by unfold sp_X9_kinds; exact ((if_pos c1).trans ((if_pos c2).trans ((if_pos c3).trans ((if_pos c4).trans ((fndN_hit (tn a1) 0 i (Nat.zero_le _) (by omega) (by unfold ps_X9_kinds_57; exact (if_pos c10)) (fun k _ hk => hp57 k hk)).trans (if_pos c10))))))))) (pair_snd (show sp_X9_kinds M a0 a1 a2 = ((sp_X9_no M (-5)).1, (sp_X9_no M (-5)).2) from (by unfold sp_X9_kinds; exact ((if_pos c1).trans ((if_pos c2).trans ((if_pos c3).trans ((if_pos c4).trans ((fndN_hit (tn a1) 0 i (Nat.zero_le _) (by omega) (by unfold ps_X9_kinds_57; exact (if_pos c10)) (fun k _ hk => hp57 k hk)).trans (if_pos c10)))))))))
              · refine r_aload_n (pc := 77) hG dX9_kinds_77 rfl ?_
                refine r_iload_n (pc := 78) hG dX9_kinds_78 rfl ?_
                refine r_iconst (pc := 79) hG dX9_kinds_79 ic_2 ?_
                refine r_iload (pc := 80) hG dX9_kinds_80 rfl ?_
                refine r_imul (pc := 82) hG dX9_kinds_82 ?_
                refine cv_X9_toldAt (pc := 83)  hG dX9_kinds_83 tw_1535 (c_X9_toldAt (row_ix2 (isSh5 c1) (two_bd (n := 20) (i := i) (by omega) (Nat.le_of_ble_eq_true rfl)))) (by decide) (Nat.le_of_ble_eq_true rfl) ?_
                refine r_aload_n (pc := 86) hG dX9_kinds_86 rfl ?_
                refine gf_X9_windows (pc := 87)  hG dX9_kinds_87 tw_1169 ?_
                refine r_i2l (pc := 90) hG dX9_kinds_90 ?_
                refine r_lcmp (pc := 91) hG dX9_kinds_91 ?_
                refine r_lc_lt (pc := 92) (tgt := 102) hG dX9_kinds_92 (by decide) (fun c11 => ?_) (fun c11 => ?_)
                · refine r_iinc (pc := 102) (v := nI (i + 1)) (ls' := [_, _, _, _, _, _, _, _, _, _]) hG dX9_kinds_102 rfl (nI_1 _) rfl rfl ?_
                  refine r_goto (pc := 105) (tgt := 57) hG dX9_kinds_105 (by decide) ?_
                  exact (ih57 hl57 (fun k hk => (Nat.lt_or_eq_of_le (Nat.le_of_lt_succ hk)).elim (hp57 k) (fun q => by subst q; unfold ps_X9_kinds_57; exact ((if_neg c10).trans (if_pos c11))))).wk (Eq.refl 10) (wk_s rfl (wk_s rfl (wk_s rfl (wk_s rfl (wk_s rfl (wk_s rfl (wk_n (wk_n (wk_n (wk_n wk_0))))))))))
                · refine r_aload_n (pc := 95) hG dX9_kinds_95 rfl ?_
                  refine r_bipush (pc := 96) hG dX9_kinds_96 bc_m5 ?_
                  refine cv_X9_no (pc := 98)  hG dX9_kinds_98 tw_1273 (c_X9_no (bd_lit (n := 7) (by decide))) (by decide) (Nat.le_of_ble_eq_true rfl) ?_
                  exact hret _ _ _ _ dX9_kinds_101 (pair_fst (show sp_X9_kinds M a0 a1 a2 = ((sp_X9_no M (-5)).1, (sp_X9_no M (-5)).2) from (by unfold sp_X9_kinds; exact ((if_pos c1).trans ((if_pos c2).trans ((if_pos c3).trans ((if_pos c4).trans ((fndN_hit (tn a1) 0 i (Nat.zero_le _) (by omega) (by unfold ps_X9_kinds_57; exact ((if_neg c10).trans (if_neg c11))) (fun k _ hk => hp57 k hk)).trans ((if_neg c10).trans (if_neg c11)))))))))) (pair_snd (show sp_X9_kinds M a0 a1 a2 = ((sp_X9_no M (-5)).1, (sp_X9_no M (-5)).2) from (by unfold sp_X9_kinds; exact ((if_pos c1).trans ((if_pos c2).trans ((if_pos c3).trans ((if_pos c4).trans ((fndN_hit (tn a1) 0 i (Nat.zero_le _) (by omega) (by unfold ps_X9_kinds_57; exact ((if_neg c10).trans (if_neg c11))) (fun k _ hk => hp57 k hk)).trans ((if_neg c10).trans (if_neg c11))))))))))
          exact (lp57 0 (Nat.zero_le _) (fun k hk => absurd hk (Nat.not_lt_zero k))).wk (Eq.refl 10) (wk_s rfl (wk_s rfl (wk_s rfl (wk_s rfl (wk_s rfl (wk_s rfl (wk_n (wk_n (wk_n (wk_n wk_0))))))))))
        · refine r_aload_n (pc := 47) hG dX9_kinds_47 rfl ?_
          refine r_iload (pc := 48) hG dX9_kinds_48 rfl ?_
          refine cv_X9_no (pc := 50)  hG dX9_kinds_50 tw_1273 (c_X9_no ntB) (by decide) (Nat.le_of_ble_eq_true rfl) ?_
          exact hret _ _ _ _ dX9_kinds_53 (pair_fst (show sp_X9_kinds M a0 a1 a2 = ((sp_X9_no M (sp_X9_noTold M a0 (2 * a1))).1, (sp_X9_no M (sp_X9_noTold M a0 (2 * a1))).2) from (by unfold sp_X9_kinds; exact ((if_pos c1).trans ((if_pos c2).trans ((if_pos c3).trans (if_neg c4))))))) (pair_snd (show sp_X9_kinds M a0 a1 a2 = ((sp_X9_no M (sp_X9_noTold M a0 (2 * a1))).1, (sp_X9_no M (sp_X9_noTold M a0 (2 * a1))).2) from (by unfold sp_X9_kinds; exact ((if_pos c1).trans ((if_pos c2).trans ((if_pos c3).trans (if_neg c4)))))))
      · refine r_aload_n (pc := 25) hG dX9_kinds_25 rfl ?_
        refine r_bipush (pc := 26) hG dX9_kinds_26 bc_m2 ?_
        refine cv_X9_no (pc := 28)  hG dX9_kinds_28 tw_1273 (c_X9_no (bd_lit (n := 7) (by decide))) (by decide) (Nat.le_of_ble_eq_true rfl) ?_
        exact hret _ _ _ _ dX9_kinds_31 (pair_fst (show sp_X9_kinds M a0 a1 a2 = ((sp_X9_no M (-2)).1, (sp_X9_no M (-2)).2) from (by unfold sp_X9_kinds; exact ((if_pos c1).trans ((if_pos c2).trans (if_neg c3)))))) (pair_snd (show sp_X9_kinds M a0 a1 a2 = ((sp_X9_no M (-2)).1, (sp_X9_no M (-2)).2) from (by unfold sp_X9_kinds; exact ((if_pos c1).trans ((if_pos c2).trans (if_neg c3))))))
