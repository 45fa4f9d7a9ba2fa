def st_X9_move_63 (M : MT) (a0 : Int32) (a1 : Int32) (i : Nat) (b40 : Int32 × Int32 × MT) (i63 : Nat) (b63 : Int32) : Int32 :=
  if (((sp_X9_hitFrom (u1 b40.2.2 5 11 (tn a0) (nI i)) (nI i63)) >>> (a0 &&& 31)) &&& 1) = 1 then
    b63 + 1
  else
    b63
def st_X9_move_40 (M : MT) (a0 : Int32) (a1 : Int32) (i : Nat) (b40 : Int32 × Int32 × MT) : Int32 × Int32 × MT :=
  if b40.2.1 < (itN (tn (b40.2.2.1 5 0 0)) (st_X9_move_63 M a0 a1 i b40) 0) then
    (nI i, itN (tn (b40.2.2.1 5 0 0)) (st_X9_move_63 M a0 a1 i b40) 0, u1 b40.2.2 5 11 (tn a0) (nI i))
  else
    (b40.1, b40.2.1, u1 b40.2.2 5 11 (tn a0) (nI i))
def sp_X9_move (M : MT) (a0 : Int32) (a1 : Int32) : Int32 × MT :=
  if (sp_X9_isOne M a0) = true then
    if (sp_X9_within a1 0 1) = true then
      if a1 = 0 then
        ((itN (tn (M.1 5 2 0)) (st_X9_move_40 M a0 a1) (0, 0, M)).1, u1 ((itN (tn (M.1 5 2 0)) (st_X9_move_40 M a0 a1) (0, 0, M)).2.2) 5 11 (tn a0) (M.1 5 11 (tn a0)))
      else
        ((itN (tn (M.1 5 2 0)) (st_X9_move_40 M a0 a1) (0, 0, M)).2.1, u1 ((itN (tn (M.1 5 2 0)) (st_X9_move_40 M a0 a1) (0, 0, M)).2.2) 5 11 (tn a0) (M.1 5 11 (tn a0)))
    else
      ((sp_X9_no M (-2)).1, (sp_X9_no M (-2)).2)
  else
    ((sp_X9_no M (-2)).1, (sp_X9_no M (-2)).2)
set_option maxRecDepth 20000 in
theorem c_X9_move {K : KT} {M : MT} {a0 : Int32} {a1 : Int32}  (hokr : OKR M) : CM K 7 yX9_move cX9_move 9 (some FieldType.int) [rf K 140, .int a0, .int a1] M (some (.int (sp_X9_move M a0 a1).1)) (sp_X9_move M a0 a1).2 := by
  refine CM.ofI (by decide) [some (rf K 140), some (.int a0), some (.int a1), none, none, none, none, none, none] rfl (Nat.le_of_ble_eq_true rfl) (Nat.le_of_ble_eq_true rfl) (fun G hG _ hret => ?_)
  obtain ⟨hok5, hhl, htp5⟩ := id hokr
  obtain ⟨hwc5, hpc5, ⟨hcl5, hcm5⟩, hwi5, hda5, hle5, hk85, ha85, hW5, hP5⟩ := id hok5
  have hwl5 := bd_lt hwc5
  have hpl5 := bd_lt hpc5
  have hcl5l := bd_lt hcl5
  refine r_aload_n (pc := 0) hG dX9_move_0 rfl ?_
  refine r_iload_n (pc := 1) hG dX9_move_1 rfl ?_
  refine cv_X9_isOne (pc := 2)  hG dX9_move_2 tw_1308 (c_X9_isOne) (by decide) (Nat.le_of_ble_eq_true rfl) ?_
  refine r_ifz_eq (pc := 5) (tgt := 17) hG dX9_move_5 (by decide) (fun c1 => ?_) (fun c1 => ?_)
  · refine r_aload_n (pc := 17) hG dX9_move_17 rfl ?_
    refine r_bipush (pc := 18) hG dX9_move_18 bc_m2 ?_
    refine cv_X9_no (pc := 20)  hG dX9_move_20 tw_1273 (c_X9_no (bd_lit (n := 7) (by decide))) (by decide) (Nat.le_of_ble_eq_true rfl) ?_
    exact hret _ _ _ _ dX9_move_23 (pair_fst (show sp_X9_move M a0 a1 = ((sp_X9_no M (-2)).1, (sp_X9_no M (-2)).2) from (by unfold sp_X9_move; exact (if_neg c1)))) (pair_snd (show sp_X9_move M a0 a1 = ((sp_X9_no M (-2)).1, (sp_X9_no M (-2)).2) from (by unfold sp_X9_move; exact (if_neg c1))))
  · refine r_iload_n (pc := 8) hG dX9_move_8 rfl ?_
    refine r_iconst (pc := 9) hG dX9_move_9 ic_0 ?_
    refine r_iconst (pc := 10) hG dX9_move_10 ic_1 ?_
    refine cs_X9_within (pc := 11)  hG dX9_move_11 tw_1270 (c_X9_within) (by decide) (Nat.le_of_ble_eq_true rfl) ?_
    refine r_ifz_ne (pc := 14) (tgt := 24) hG dX9_move_14 (by decide) (fun c2 => ?_) (fun c2 => ?_)
    · refine r_aload_n (pc := 24) hG dX9_move_24 rfl ?_
      refine gf_X9_place (pc := 25)  hG dX9_move_25 tw_1176 ?_
      refine r_iload_n (pc := 28) hG dX9_move_28 rfl ?_
      refine al_Mplace (pc := 29)  hG dX9_move_29 (ix_bd (hasP5 hpc5 c1)) ?_
      refine r_istore_n (pc := 30) (ls' := [_, _, _, _, _, _, _, _, _]) hG dX9_move_30 rfl rfl ?_
      refine r_iconst (pc := 31) hG dX9_move_31 ic_0 ?_
      refine r_istore (pc := 32) (ls' := [_, _, _, _, _, _, _, _, _]) hG dX9_move_32 rfl rfl ?_
      refine r_iconst (pc := 34) hG dX9_move_34 ic_0 ?_
      refine r_istore (pc := 35) (ls' := [_, _, _, _, _, _, _, _, _]) hG dX9_move_35 rfl rfl ?_
      refine r_iconst (pc := 37) hG dX9_move_37 ic_0 ?_
      refine r_istore (pc := 38) (ls' := [_, _, _, _, _, _, _, _, _]) hG dX9_move_38 rfl rfl ?_
      have lp40 : ∀ i, i ≤ (tn (M.1 5 2 0)) → ∀ b40 : Int32 × Int32 × MT, b40 = itN i (st_X9_move_40 M a0 a1) (0, 0, M) → J G K b40.2.2 40 [some (rf K 140), some (.int a0), some (.int a1), some (.int (M.1 5 11 (tn a0))), some (.int b40.1), some (.int b40.2.1), some (.int (nI i)), none, none] [] := by
        refine up_ind (tn (M.1 5 2 0)) (fun i hi40 ih40 => ?_)
        intro b40 hg40
        have hq40 : b40.2.2.1 5 1 0 = M.1 5 1 0 ∧ b40.2.2.1 5 0 0 = M.1 5 0 0 ∧ b40.2.2.1 5 2 0 = M.1 5 2 0 := by subst hg40; exact itN_inv (fun x : Int32 × Int32 × MT => x.2.2.1 5 1 0 = M.1 5 1 0 ∧ x.2.2.1 5 0 0 = M.1 5 0 0 ∧ x.2.2.1 5 2 0 = M.1 5 2 0) i ⟨rfl, rfl, rfl⟩ (fun k m hk hm => by unfold st_X9_move_40; (repeat' split) <;> exact hm)
        have hp405 : bd (b40.2.2.1 5 1 0) 9 := by rw [hq40.1]; exact hpc5
        have hw405 : bd (b40.2.2.1 5 0 0) 9 := by rw [hq40.2.1]; exact hwc5
        refine r_iload (pc := 40) hG dX9_move_40 rfl ?_
        refine r_aload_n (pc := 42) hG dX9_move_42 rfl ?_
        refine gf_X9_n (pc := 43)  hG dX9_move_43 tw_1166 ?_
        refine r_icmp_ge (pc := 46) (tgt := 119) hG dX9_move_46 (by decide) (fun c3 => ?_) (fun c3 => ?_)
        · have e40 : i = (tn (M.1 5 2 0)) := by rw [hq40.2.2] at c3; have := (bd_le hcl5 (by omega)).mp c3; omega
          subst hg40
          subst e40
          refine r_aload_n (pc := 119) hG dX9_move_119 rfl ?_
          refine gf_X9_place (pc := 120)  hG dX9_move_120 tw_1176 ?_
          refine r_iload_n (pc := 123) hG dX9_move_123 rfl ?_
          refine r_iload_n (pc := 124) hG dX9_move_124 rfl ?_
          refine as_Mplace (pc := 125)  hG dX9_move_125 (ix_bd (hasP5 hpc5 c1)) ?_
          refine r_iload_n (pc := 126) hG dX9_move_126 rfl ?_
          refine r_if_ne (pc := 127) (tgt := 135) hG dX9_move_127 (by decide) (fun c4 => ?_) (fun c4 => ?_)
          · refine r_iload (pc := 135) hG dX9_move_135 rfl ?_
            exact hret _ _ _ _ dX9_move_137 (pair_fst (show sp_X9_move M a0 a1 = ((itN (tn (M.1 5 2 0)) (st_X9_move_40 M a0 a1) (0, 0, M)).2.1, u1 ((itN (tn (M.1 5 2 0)) (st_X9_move_40 M a0 a1) (0, 0, M)).2.2) 5 11 (tn a0) (M.1 5 11 (tn a0))) from (by unfold sp_X9_move; exact ((if_pos c1).trans ((if_pos c2).trans (if_neg c4)))))) (pair_snd (show sp_X9_move M a0 a1 = ((itN (tn (M.1 5 2 0)) (st_X9_move_40 M a0 a1) (0, 0, M)).2.1, u1 ((itN (tn (M.1 5 2 0)) (st_X9_move_40 M a0 a1) (0, 0, M)).2.2) 5 11 (tn a0) (M.1 5 11 (tn a0))) from (by unfold sp_X9_move; exact ((if_pos c1).trans ((if_pos c2).trans (if_neg c4))))))
          · refine r_iload (pc := 130) hG dX9_move_130 rfl ?_
            refine r_goto (pc := 132) (tgt := 137) hG dX9_move_132 (by decide) ?_
            exact hret _ _ _ _ dX9_move_137 (pair_fst (show sp_X9_move M a0 a1 = ((itN (tn (M.1 5 2 0)) (st_X9_move_40 M a0 a1) (0, 0, M)).1, u1 ((itN (tn (M.1 5 2 0)) (st_X9_move_40 M a0 a1) (0, 0, M)).2.2) 5 11 (tn a0) (M.1 5 11 (tn a0))) from (by unfold sp_X9_move; exact ((if_pos c1).trans ((if_pos c2).trans (if_pos c4)))))) (pair_snd (show sp_X9_move M a0 a1 = ((itN (tn (M.1 5 2 0)) (st_X9_move_40 M a0 a1) (0, 0, M)).1, u1 ((itN (tn (M.1 5 2 0)) (st_X9_move_40 M a0 a1) (0, 0, M)).2.2) 5 11 (tn a0) (M.1 5 11 (tn a0))) from (by unfold sp_X9_move; exact ((if_pos c1).trans ((if_pos c2).trans (if_pos c4))))))
        · have hl40 : i < (tn (M.1 5 2 0)) := by rw [hq40.2.2] at c3; have := mt (bd_le hcl5 (by omega)).mpr c3; omega
          refine r_aload_n (pc := 49) hG dX9_move_49 rfl ?_
          refine gf_X9_place (pc := 50)  hG dX9_move_50 tw_1176 ?_
          refine r_iload_n (pc := 53) hG dX9_move_53 rfl ?_
          refine r_iload (pc := 54) hG dX9_move_54 rfl ?_
          refine as_Mplace (pc := 56)  hG dX9_move_56 (ix_bd (hasP5 hpc5 c1)) ?_
          refine r_iconst (pc := 57) hG dX9_move_57 ic_0 ?_
          refine r_istore (pc := 58) (ls' := [_, _, _, _, _, _, _, _, _]) hG dX9_move_58 rfl rfl ?_
          refine r_iconst (pc := 60) hG dX9_move_60 ic_0 ?_
          refine r_istore (pc := 61) (ls' := [_, _, _, _, _, _, _, _, _]) hG dX9_move_61 rfl rfl ?_
          have hb63 : bd (b40.2.2.1 5 0 0) 9 := hw405
          have hb63l := bd_lt hb63
          have lp63 : ∀ i63, i63 ≤ (tn (b40.2.2.1 5 0 0)) → ∀ b63 : Int32, b63 = itN i63 (st_X9_move_63 M a0 a1 i b40) 0 → J G K (u1 b40.2.2 5 11 (tn a0) (nI i)) 63 [some (rf K 140), some (.int a0), some (.int a1), some (.int (M.1 5 11 (tn a0))), some (.int b40.1), some (.int b40.2.1), some (.int (nI i)), some (.int b63), some (.int (nI i63))] [] := by
            refine up_ind (tn (b40.2.2.1 5 0 0)) (fun i63 hi63 ih63 => ?_)
            intro b63 hg63
            refine r_iload (pc := 63) hG dX9_move_63 rfl ?_
            refine r_aload_n (pc := 65) hG dX9_move_65 rfl ?_
            refine gf_X9_windows (pc := 66)  hG dX9_move_66 tw_1169 ?_
            refine r_icmp_ge (pc := 69) (tgt := 95) hG dX9_move_69 (by decide) (fun c5 => ?_) (fun c5 => ?_)
            · have e63 : i63 = (tn (b40.2.2.1 5 0 0)) := by have := (bd_le hb63 (by omega)).mp c5; omega
              subst hg63
              subst e63
              refine r_iload (pc := 95) hG dX9_move_95 rfl ?_
              refine r_iload (pc := 97) hG dX9_move_97 rfl ?_
              refine r_icmp_gt (pc := 99) (tgt := 105) hG dX9_move_99 (by decide) (fun c6 => ?_) (fun c6 => ?_)
              · refine r_iload (pc := 105) hG dX9_move_105 rfl ?_
                refine r_istore (pc := 107) (ls' := [_, _, _, _, _, _, _, _, _]) hG dX9_move_107 rfl rfl ?_
                refine r_iload (pc := 109) hG dX9_move_109 rfl ?_
                refine r_istore (pc := 111) (ls' := [_, _, _, _, _, _, _, _, _]) hG dX9_move_111 rfl rfl ?_
                refine r_iinc (pc := 113) (v := nI (i + 1)) (ls' := [_, _, _, _, _, _, _, _, _]) hG dX9_move_113 rfl (nI_1 _) rfl rfl ?_
                refine r_goto (pc := 116) (tgt := 40) hG dX9_move_116 (by decide) ?_
                have eN40 : (nI i, itN (tn (b40.2.2.1 5 0 0)) (st_X9_move_63 M a0 a1 i b40) 0, u1 b40.2.2 5 11 (tn a0) (nI i)) = st_X9_move_40 M a0 a1 i (itN i (st_X9_move_40 M a0 a1) (0, 0, M)) := by rw [← hg40]; unfold st_X9_move_40; exact Eq.symm (if_pos c6)
                refine J.wk (ls' := [some (rf K 140), some (.int a0), some (.int a1), some (.int (M.1 5 11 (tn a0))), some (.int (nI i)), some (.int (itN (tn (b40.2.2.1 5 0 0)) (st_X9_move_63 M a0 a1 i b40) 0)), some (.int (nI (i + 1))), none, none]) ?_ (Eq.refl 9) (wk_s rfl (wk_s rfl (wk_s rfl (wk_s rfl (wk_s rfl (wk_s rfl (wk_s rfl (wk_n (wk_n wk_0)))))))))
                exact ih40 hl40 (nI i, itN (tn (b40.2.2.1 5 0 0)) (st_X9_move_63 M a0 a1 i b40) 0, u1 b40.2.2 5 11 (tn a0) (nI i)) eN40
              · refine r_goto (pc := 102) (tgt := 113) hG dX9_move_102 (by decide) ?_
                refine r_iinc (pc := 113) (v := nI (i + 1)) (ls' := [_, _, _, _, _, _, _, _, _]) hG dX9_move_113 rfl (nI_1 _) rfl rfl ?_
                refine r_goto (pc := 116) (tgt := 40) hG dX9_move_116 (by decide) ?_
                have eN40 : (b40.1, b40.2.1, u1 b40.2.2 5 11 (tn a0) (nI i)) = st_X9_move_40 M a0 a1 i (itN i (st_X9_move_40 M a0 a1) (0, 0, M)) := by rw [← hg40]; unfold st_X9_move_40; exact Eq.symm (if_neg c6)
                refine J.wk (ls' := [some (rf K 140), some (.int a0), some (.int a1), some (.int (M.1 5 11 (tn a0))), some (.int b40.1), some (.int b40.2.1), some (.int (nI (i + 1))), none, none]) ?_ (Eq.refl 9) (wk_s rfl (wk_s rfl (wk_s rfl (wk_s rfl (wk_s rfl (wk_s rfl (wk_s rfl (wk_n (wk_n wk_0)))))))))
                exact ih40 hl40 (b40.1, b40.2.1, u1 b40.2.2 5 11 (tn a0) (nI i)) eN40
            · have hl63 : i63 < (tn (b40.2.2.1 5 0 0)) := by have := mt (bd_le hb63 (by omega)).mpr c5; omega
              refine r_aload_n (pc := 72) hG dX9_move_72 rfl ?_
              refine r_iload (pc := 73) hG dX9_move_73 rfl ?_
              refine cv_X9_hitFrom (pc := 75)  hG dX9_move_75 tw_1487 (c_X9_hitFrom (bd_nI (by omega) (Nat.le_of_ble_eq_true rfl)) hp405) (by decide) (Nat.le_of_ble_eq_true rfl) ?_
              refine r_iload_n (pc := 78) hG dX9_move_78 rfl ?_
              refine r_ishr (pc := 79) hG dX9_move_79 ?_
              refine r_iconst (pc := 80) hG dX9_move_80 ic_1 ?_
              refine r_iand (pc := 81) hG dX9_move_81 ?_
              refine r_iconst (pc := 82) hG dX9_move_82 ic_1 ?_
              refine r_icmp_ne (pc := 83) (tgt := 89) hG dX9_move_83 (by decide) (fun c7 => ?_) (fun c7 => ?_)
              · refine r_iinc (pc := 89) (v := nI (i63 + 1)) (ls' := [_, _, _, _, _, _, _, _, _]) hG dX9_move_89 rfl (nI_1 _) rfl rfl ?_
                refine r_goto (pc := 92) (tgt := 63) hG dX9_move_92 (by decide) ?_
                have eN63 : b63 = st_X9_move_63 M a0 a1 i b40 i63 (itN i63 (st_X9_move_63 M a0 a1 i b40) 0) := by rw [← hg63]; unfold st_X9_move_63; exact Eq.symm (if_neg c7)
                refine J.wk (ls' := [some (rf K 140), some (.int a0), some (.int a1), some (.int (M.1 5 11 (tn a0))), some (.int b40.1), some (.int b40.2.1), some (.int (nI i)), some (.int b63), some (.int (nI (i63 + 1)))]) ?_ (Eq.refl 9) (wk_s rfl (wk_s rfl (wk_s rfl (wk_s rfl (wk_s rfl (wk_s rfl (wk_s rfl (wk_s rfl (wk_s rfl wk_0)))))))))
                exact ih63 hl63 b63 eN63
              · refine r_iinc (pc := 86) (v := b63 + 1) (ls' := [_, _, _, _, _, _, _, _, _]) hG dX9_move_86 rfl rfl rfl rfl ?_
                refine r_iinc (pc := 89) (v := nI (i63 + 1)) (ls' := [_, _, _, _, _, _, _, _, _]) hG dX9_move_89 rfl (nI_1 _) rfl rfl ?_
                refine r_goto (pc := 92) (tgt := 63) hG dX9_move_92 (by decide) ?_
                have eN63 : b63 + 1 = st_X9_move_63 M a0 a1 i b40 i63 (itN i63 (st_X9_move_63 M a0 a1 i b40) 0) := by rw [← hg63]; unfold st_X9_move_63; exact Eq.symm (if_pos c7)
                refine J.wk (ls' := [some (rf K 140), some (.int a0), some (.int a1), some (.int (M.1 5 11 (tn a0))), some (.int b40.1), some (.int b40.2.1), some (.int (nI i)), some (.int (b63 + 1)), some (.int (nI (i63 + 1)))]) ?_ (Eq.refl 9) (wk_s rfl (wk_s rfl (wk_s rfl (wk_s rfl (wk_s rfl (wk_s rfl (wk_s rfl (wk_s rfl (wk_s rfl wk_0)))))))))
                exact ih63 hl63 (b63 + 1) eN63
          exact (lp63 0 (Nat.zero_le _) _ rfl).wk (Eq.refl 9) (wk_s rfl (wk_s rfl (wk_s rfl (wk_s rfl (wk_s rfl (wk_s rfl (wk_s rfl (wk_s rfl (wk_s rfl wk_0)))))))))
      exact (lp40 0 (Nat.zero_le _) _ rfl).wk (Eq.refl 9) (wk_s rfl (wk_s rfl (wk_s rfl (wk_s rfl (wk_s rfl (wk_s rfl (wk_s rfl (wk_n (wk_n wk_0)))))))))
    · refine r_aload_n (pc := 17) hG dX9_move_17 rfl ?_
      refine r_bipush (pc := 18) hG dX9_move_18 bc_m2 ?_
      refine cv_X9_no (pc := 20)  hG dX9_move_20 tw_1273 (c_X9_no (bd_lit (n := 7) (by decide))) (by decide) (Nat.le_of_ble_eq_true rfl) ?_
      exact hret _ _ _ _ dX9_move_23 (pair_fst (show sp_X9_move M a0 a1 = ((sp_X9_no M (-2)).1, (sp_X9_no M (-2)).2) from (by unfold sp_X9_move; exact ((if_pos c1).trans (if_neg c2))))) (pair_snd (show sp_X9_move M a0 a1 = ((sp_X9_no M (-2)).1, (sp_X9_no M (-2)).2) from (by unfold sp_X9_move; exact ((if_pos c1).trans (if_neg c2)))))

def st_X9_behind_90 (M : MT) (a0 : Int32) (a1 : Int32) (a2 : Int32) (i : Nat) (b90 : Int32 × Int32 × Int32 × MT) : Int32 × Int32 × Int32 × MT :=
  if (sp_X9_landingTold b90.2.2.2 (sp_X9_toldAt b90.2.2.2 a0 (nI i))) = (-1) then
    (b90.1, b90.2.1, b90.2.2.1 + 1, b90.2.2.2)
  else
    if (sp_X9_catcher b90.2.2.2 (sp_X9_landingTold b90.2.2.2 (sp_X9_toldAt b90.2.2.2 a0 (nI i))) (-1)) = (-1) then
      (b90.1, b90.2.1 + 1, b90.2.2.1, b90.2.2.2)
    else
      (b90.1 + 1, b90.2.1, b90.2.2.1, u1 b90.2.2.2 5 12 (tn (sp_X9_catcher b90.2.2.2 (sp_X9_landingTold b90.2.2.2 (sp_X9_toldAt b90.2.2.2 a0 (nI i))) (-1))) ((Int64.toInt32 (sp_X9_toldAt b90.2.2.2 a0 (nI i))) / 100))
def st_X9_behind_175 (M : MT) (a0 : Int32) (a1 : Int32) (a2 : Int32) (i : Nat) (b175 : Int32) : Int32 :=
  if (((itN (tn a1) (st_X9_behind_90 M a0 a1 a2) (0, 0, 0, sp_X9_keepB M)).2.2.2).1 5 12 i) = (-1) then
    b175
  else
    b175 ||| (1 <<< ((nI i) &&& 31))
def sp_X9_behind (M : MT) (a0 : Int32) (a1 : Int32) (a2 : Int32) : Int32 × MT :=
  if (sp_X9_isShelf a0) = true then
    if (sp_X9_within a1 0 40) = true then
      if (sp_X9_within a2 0 3) = true then
        if 0 ≤ (sp_X9_noTold M a0 a1) then
          if (sp_X9_wrong M a0 a1) = (-1) then
            if a2 = 0 then
              (itN (tn (((itN (tn a1) (st_X9_behind_90 M a0 a1 a2) (0, 0, 0, sp_X9_keepB M)).2.2.2).1 5 1 0)) (st_X9_behind_175 M a0 a1 a2) 0, sp_X9_againB ((itN (tn a1) (st_X9_behind_90 M a0 a1 a2) (0, 0, 0, sp_X9_keepB M)).2.2.2))
            else
              if a2 = 1 then
                ((itN (tn a1) (st_X9_behind_90 M a0 a1 a2) (0, 0, 0, sp_X9_keepB M)).1, sp_X9_againB ((itN (tn a1) (st_X9_behind_90 M a0 a1 a2) (0, 0, 0, sp_X9_keepB M)).2.2.2))
              else
                if a2 = 2 then
                  ((itN (tn a1) (st_X9_behind_90 M a0 a1 a2) (0, 0, 0, sp_X9_keepB M)).2.1, sp_X9_againB ((itN (tn a1) (st_X9_behind_90 M a0 a1 a2) (0, 0, 0, sp_X9_keepB M)).2.2.2))
                else
                  ((itN (tn a1) (st_X9_behind_90 M a0 a1 a2) (0, 0, 0, sp_X9_keepB M)).2.2.1, sp_X9_againB ((itN (tn a1) (st_X9_behind_90 M a0 a1 a2) (0, 0, 0, sp_X9_keepB M)).2.2.2))
          else
            ((sp_X9_no M (-5)).1, (sp_X9_no M (-5)).2)
        else
          ((sp_X9_no M (sp_X9_noTold M a0 a1)).1, (sp_X9_no M (sp_X9_noTold M a0 a1)).2)
      else
        ((sp_X9_no M (-2)).1, (sp_X9_no M (-2)).2)
    else
      ((sp_X9_no M (-2)).1, (sp_X9_no M (-2)).2)
  else
    ((sp_X9_no M (-2)).1, (sp_X9_no M (-2)).2)
set_option maxRecDepth 20000 in
theorem c_X9_behind {K : KT} {M : MT} {a0 : Int32} {a1 : Int32} {a2 : Int32}  (hokr : OKR M) : CM K 5 yX9_behind cX9_behind 11 (some FieldType.int) [rf K 140, .int a0, .int a1, .int a2] M (some (.int (sp_X9_behind M a0 a1 a2).1)) (sp_X9_behind M a0 a1 a2).2 := by
  refine CM.ofI (by decide) [some (rf K 140), some (.int a0), some (.int a1), some (.int a2), none, none, none, none, none, none, none] rfl (Nat.le_of_ble_eq_true rfl) (Nat.le_of_ble_eq_true rfl) (fun G hG _ hret => ?_)
  obtain ⟨hok5, hhl, htp5⟩ := id hokr
  obtain ⟨hwc5, hpc5, ⟨hcl5, hcm5⟩, hwi5, hda5, hle5, hk85, ha85, hW5, hP5⟩ := id hok5
  have hwl5 := bd_lt hwc5
  have hpl5 := bd_lt hpc5
  have hcl5l := bd_lt hcl5
  refine r_iload_n (pc := 0) hG dX9_behind_0 rfl ?_
  refine cs_X9_isShelf (pc := 1)  hG dX9_behind_1 tw_1267 (c_X9_isShelf) (by decide) (Nat.le_of_ble_eq_true rfl) ?_
  refine r_ifz_eq (pc := 4) (tgt := 26) hG dX9_behind_4 (by decide) (fun c1 => ?_) (fun c1 => ?_)
  · refine r_aload_n (pc := 26) hG dX9_behind_26 rfl ?_
    refine r_bipush (pc := 27) hG dX9_behind_27 bc_m2 ?_
    refine cv_X9_no (pc := 29)  hG dX9_behind_29 tw_1273 (c_X9_no (bd_lit (n := 7) (by decide))) (by decide) (Nat.le_of_ble_eq_true rfl) ?_
    exact hret _ _ _ _ dX9_behind_32 (pair_fst (show sp_X9_behind M a0 a1 a2 = ((sp_X9_no M (-2)).1, (sp_X9_no M (-2)).2) from (by unfold sp_X9_behind; exact (if_neg c1)))) (pair_snd (show sp_X9_behind M a0 a1 a2 = ((sp_X9_no M (-2)).1, (sp_X9_no M (-2)).2) from (by unfold sp_X9_behind; exact (if_neg c1))))
  · refine r_iload_n (pc := 7) hG dX9_behind_7 rfl ?_
    refine r_iconst (pc := 8) hG dX9_behind_8 ic_0 ?_
    refine r_bipush (pc := 9) hG dX9_behind_9 bc_40 ?_
    refine cs_X9_within (pc := 11)  hG dX9_behind_11 tw_1270 (c_X9_within) (by decide) (Nat.le_of_ble_eq_true rfl) ?_
    refine r_ifz_eq (pc := 14) (tgt := 26) hG dX9_behind_14 (by decide) (fun c2 => ?_) (fun c2 => ?_)
    · refine r_aload_n (pc := 26) hG dX9_behind_26 rfl ?_
      refine r_bipush (pc := 27) hG dX9_behind_27 bc_m2 ?_
      refine cv_X9_no (pc := 29)  hG dX9_behind_29 tw_1273 (c_X9_no (bd_lit (n := 7) (by decide))) (by decide) (Nat.le_of_ble_eq_true rfl) ?_
      exact hret _ _ _ _ dX9_behind_32 (pair_fst (show sp_X9_behind M a0 a1 a2 = ((sp_X9_no M (-2)).1, (sp_X9_no M (-2)).2) from (by unfold sp_X9_behind; exact ((if_pos c1).trans (if_neg c2))))) (pair_snd (show sp_X9_behind M a0 a1 a2 = ((sp_X9_no M (-2)).1, (sp_X9_no M (-2)).2) from (by unfold sp_X9_behind; exact ((if_pos c1).trans (if_neg c2)))))
    · refine r_iload_n (pc := 17) hG dX9_behind_17 rfl ?_
      refine r_iconst (pc := 18) hG dX9_behind_18 ic_0 ?_
      refine r_iconst (pc := 19) hG dX9_behind_19 ic_3 ?_
      refine cs_X9_within (pc := 20)  hG dX9_behind_20 tw_1270 (c_X9_within) (by decide) (Nat.le_of_ble_eq_true rfl) ?_
      refine r_ifz_ne (pc := 23) (tgt := 33) hG dX9_behind_23 (by decide) (fun c3 => ?_) (fun c3 => ?_)
      · refine r_aload_n (pc := 33) hG dX9_behind_33 rfl ?_
        refine r_iload_n (pc := 34) hG dX9_behind_34 rfl ?_
        refine r_iload_n (pc := 35) hG dX9_behind_35 rfl ?_
        refine cv_X9_noTold (pc := 36)  hG dX9_behind_36 tw_1531 (c_X9_noTold (isSh5 c1)) (by decide) (Nat.le_of_ble_eq_true rfl) ?_
        refine r_istore (pc := 39) (ls' := [_, _, _, _, _, _, _, _, _, _, _]) hG dX9_behind_39 rfl rfl ?_
        refine r_iload (pc := 41) hG dX9_behind_41 rfl ?_
        refine r_if_ge (pc := 43) (tgt := 53) hG dX9_behind_43 (by decide) (fun c4 => ?_) (fun c4 => ?_)
        · refine r_aload_n (pc := 53) hG dX9_behind_53 rfl ?_
          refine r_iload_n (pc := 54) hG dX9_behind_54 rfl ?_
          refine r_iload_n (pc := 55) hG dX9_behind_55 rfl ?_
          refine cv_X9_wrong (pc := 56)  hG dX9_behind_56 tw_1662 (c_X9_wrong (isSh5 c1) (wi5_bd (n := 40) c2 rfl (Nat.le_of_ble_eq_true rfl))) (by decide) (Nat.le_of_ble_eq_true rfl) ?_
          refine r_iconst (pc := 59) hG dX9_behind_59 ic_m1 ?_
          refine r_icmp_eq (pc := 60) (tgt := 70) hG dX9_behind_60 (by decide) (fun c5 => ?_) (fun c5 => ?_)
          · refine r_aload_n (pc := 70) hG dX9_behind_70 rfl ?_
            refine r_aload_n (pc := 71) hG dX9_behind_71 rfl ?_
            refine gf_X9_before (pc := 72)  hG dX9_behind_72 tw_1192 ?_
            refine cv_X9_keep (pc := 75)  hG dX9_behind_75 tw_1367 (c_X9_keepB) (by decide) (Nat.le_of_ble_eq_true rfl) ?_
            refine r_iconst (pc := 78) hG dX9_behind_78 ic_0 ?_
            refine r_istore (pc := 79) (ls' := [_, _, _, _, _, _, _, _, _, _, _]) hG dX9_behind_79 rfl rfl ?_
            refine r_iconst (pc := 81) hG dX9_behind_81 ic_0 ?_
            refine r_istore (pc := 82) (ls' := [_, _, _, _, _, _, _, _, _, _, _]) hG dX9_behind_82 rfl rfl ?_
            refine r_iconst (pc := 84) hG dX9_behind_84 ic_0 ?_
            refine r_istore (pc := 85) (ls' := [_, _, _, _, _, _, _, _, _, _, _]) hG dX9_behind_85 rfl rfl ?_
            refine r_iconst (pc := 87) hG dX9_behind_87 ic_0 ?_
            refine r_istore (pc := 88) (ls' := [_, _, _, _, _, _, _, _, _, _, _]) hG dX9_behind_88 rfl rfl ?_
            have hb90 : bd a1 41 := (wi5_bd (n := 40) c2 rfl (Nat.le_of_ble_eq_true rfl))
            have hb90l := bd_lt hb90
            have lp90 : ∀ i, i ≤ (tn a1) → ∀ b90 : Int32 × Int32 × Int32 × MT, b90 = itN i (st_X9_behind_90 M a0 a1 a2) (0, 0, 0, sp_X9_keepB M) → J G K b90.2.2.2 90 [some (rf K 140), some (.int a0), some (.int a1), some (.int a2), some (.int (sp_X9_noTold M a0 a1)), some (.int b90.1), some (.int b90.2.1), some (.int b90.2.2.1), some (.int (nI i)), none, none] [] := by
              refine up_ind (tn a1) (fun i hi90 ih90 => ?_)
              intro b90 hg90
              have hq90 : b90.2.2.2.1 5 1 0 = M.1 5 1 0 ∧ b90.2.2.2.2.2 8 = M.2.2 8 := by subst hg90; exact itN_inv (fun x : Int32 × Int32 × Int32 × MT => x.2.2.2.1 5 1 0 = M.1 5 1 0 ∧ x.2.2.2.2.2 8 = M.2.2 8) i ⟨congrFun (congrFun (congrFun keepB_1 5) 1) 0, congrFun keepB_J 8⟩ (fun k m hk hm => by unfold st_X9_behind_90; (repeat' split) <;> exact hm)
              have hp905 : bd (b90.2.2.2.1 5 1 0) 9 := by rw [hq90.1]; exact hpc5
              refine r_iload (pc := 90) hG dX9_behind_90 rfl ?_
              refine r_iload_n (pc := 92) hG dX9_behind_92 rfl ?_
              refine r_icmp_ge (pc := 93) (tgt := 169) hG dX9_behind_93 (by decide) (fun c6 => ?_) (fun c6 => ?_)
              · have e90 : i = (tn a1) := by have := (bd_le hb90 (by omega)).mp c6; omega
                subst hg90
                subst e90
                refine r_iconst (pc := 169) hG dX9_behind_169 ic_0 ?_
                refine r_istore (pc := 170) (ls' := [_, _, _, _, _, _, _, _, _, _, _]) hG dX9_behind_170 rfl rfl ?_
                refine r_iconst (pc := 172) hG dX9_behind_172 ic_0 ?_
                refine r_istore (pc := 173) (ls' := [_, _, _, _, _, _, _, _, _, _, _]) hG dX9_behind_173 rfl rfl ?_
                have hb175 : bd (((itN (tn a1) (st_X9_behind_90 M a0 a1 a2) (0, 0, 0, sp_X9_keepB M)).2.2.2).1 5 1 0) 9 := hp905
                have hb175l := bd_lt hb175
                have lp175 : ∀ i, i ≤ (tn (((itN (tn a1) (st_X9_behind_90 M a0 a1 a2) (0, 0, 0, sp_X9_keepB M)).2.2.2).1 5 1 0)) → ∀ b175 : Int32, b175 = itN i (st_X9_behind_175 M a0 a1 a2) 0 → J G K ((itN (tn a1) (st_X9_behind_90 M a0 a1 a2) (0, 0, 0, sp_X9_keepB M)).2.2.2) 175 [some (rf K 140), some (.int a0), some (.int a1), some (.int a2), some (.int (sp_X9_noTold M a0 a1)), some (.int ((itN (tn a1) (st_X9_behind_90 M a0 a1 a2) (0, 0, 0, sp_X9_keepB M)).1)), some (.int ((itN (tn a1) (st_X9_behind_90 M a0 a1 a2) (0, 0, 0, sp_X9_keepB M)).2.1)), some (.int ((itN (tn a1) (st_X9_behind_90 M a0 a1 a2) (0, 0, 0, sp_X9_keepB M)).2.2.1)), some (.int b175), some (.int (nI i)), none] [] := by
                  refine up_ind (tn (((itN (tn a1) (st_X9_behind_90 M a0 a1 a2) (0, 0, 0, sp_X9_keepB M)).2.2.2).1 5 1 0)) (fun i hi175 ih175 => ?_)
                  intro b175 hg175
                  refine r_iload (pc := 175) hG dX9_behind_175 rfl ?_
                  refine r_aload_n (pc := 177) hG dX9_behind_177 rfl ?_
                  refine gf_X9_people (pc := 178)  hG dX9_behind_178 tw_1173 ?_
                  refine r_icmp_ge (pc := 181) (tgt := 210) hG dX9_behind_181 (by decide) (fun c7 => ?_) (fun c7 => ?_)
                  · have e175 : i = (tn (((itN (tn a1) (st_X9_behind_90 M a0 a1 a2) (0, 0, 0, sp_X9_keepB M)).2.2.2).1 5 1 0)) := by have := (bd_le hb175 (by omega)).mp c7; omega
                    subst hg175
                    subst e175
                    refine r_aload_n (pc := 210) hG dX9_behind_210 rfl ?_
                    refine r_aload_n (pc := 211) hG dX9_behind_211 rfl ?_
                    refine gf_X9_before (pc := 212)  hG dX9_behind_212 tw_1192 ?_
                    refine cv_X9_again (pc := 215)  hG dX9_behind_215 tw_1414 (c_X9_againB) (by decide) (Nat.le_of_ble_eq_true rfl) ?_
                    refine r_iload_n (pc := 218) hG dX9_behind_218 rfl ?_
                    refine r_if_ne (pc := 219) (tgt := 227) hG dX9_behind_219 (by decide) (fun c8 => ?_) (fun c8 => ?_)
                    · refine r_iload_n (pc := 227) hG dX9_behind_227 rfl ?_
                      refine r_iconst (pc := 228) hG dX9_behind_228 ic_1 ?_
                      refine r_icmp_ne (pc := 229) (tgt := 237) hG dX9_behind_229 (by decide) (fun c9 => ?_) (fun c9 => ?_)
                      · refine r_iload_n (pc := 237) hG dX9_behind_237 rfl ?_
                        refine r_iconst (pc := 238) hG dX9_behind_238 ic_2 ?_
                        refine r_icmp_ne (pc := 239) (tgt := 247) hG dX9_behind_239 (by decide) (fun c10 => ?_) (fun c10 => ?_)
                        · refine r_iload (pc := 247) hG dX9_behind_247 rfl ?_
                          exact hret _ _ _ _ dX9_behind_249 (pair_fst (show sp_X9_behind M a0 a1 a2 = ((itN (tn a1) (st_X9_behind_90 M a0 a1 a2) (0, 0, 0, sp_X9_keepB M)).2.2.1, sp_X9_againB ((itN (tn a1) (st_X9_behind_90 M a0 a1 a2) (0, 0, 0, sp_X9_keepB M)).2.2.2)) from (by unfold sp_X9_behind; exact ((if_pos c1).trans ((if_pos c2).trans ((if_pos c3).trans ((if_pos c4).trans ((if_pos c5).trans ((if_neg c8).trans ((if_neg c9).trans (if_neg c10))))))))))) (pair_snd (show sp_X9_behind M a0 a1 a2 = ((itN (tn a1) (st_X9_behind_90 M a0 a1 a2) (0, 0, 0, sp_X9_keepB M)).2.2.1, sp_X9_againB ((itN (tn a1) (st_X9_behind_90 M a0 a1 a2) (0, 0, 0, sp_X9_keepB M)).2.2.2)) from (by unfold sp_X9_behind; exact ((if_pos c1).trans ((if_pos c2).trans ((if_pos c3).trans ((if_pos c4).trans ((if_pos c5).trans ((if_neg c8).trans ((if_neg c9).trans (if_neg c10)))))))))))
                        · refine r_iload (pc := 242) hG dX9_behind_242 rfl ?_
                          refine r_goto (pc := 244) (tgt := 249) hG dX9_behind_244 (by decide) ?_
                          exact hret _ _ _ _ dX9_behind_249 (pair_fst (show sp_X9_behind M a0 a1 a2 = ((itN (tn a1) (st_X9_behind_90 M a0 a1 a2) (0, 0, 0, sp_X9_keepB M)).2.1, sp_X9_againB ((itN (tn a1) (st_X9_behind_90 M a0 a1 a2) (0, 0, 0, sp_X9_keepB M)).2.2.2)) from (by unfold sp_X9_behind; exact ((if_pos c1).trans ((if_pos c2).trans ((if_pos c3).trans ((if_pos c4).trans ((if_pos c5).trans ((if_neg c8).trans ((if_neg c9).trans (if_pos c10))))))))))) (pair_snd (show sp_X9_behind M a0 a1 a2 = ((itN (tn a1) (st_X9_behind_90 M a0 a1 a2) (0, 0, 0, sp_X9_keepB M)).2.1, sp_X9_againB ((itN (tn a1) (st_X9_behind_90 M a0 a1 a2) (0, 0, 0, sp_X9_keepB M)).2.2.2)) from (by unfold sp_X9_behind; exact ((if_pos c1).trans ((if_pos c2).trans ((if_pos c3).trans ((if_pos c4).trans ((if_pos c5).trans ((if_neg c8).trans ((if_neg c9).trans (if_pos c10)))))))))))
                      · refine r_iload (pc := 232) hG dX9_behind_232 rfl ?_
                        refine r_goto (pc := 234) (tgt := 249) hG dX9_behind_234 (by decide) ?_
                        exact hret _ _ _ _ dX9_behind_249 (pair_fst (show sp_X9_behind M a0 a1 a2 = ((itN (tn a1) (st_X9_behind_90 M a0 a1 a2) (0, 0, 0, sp_X9_keepB M)).1, sp_X9_againB ((itN (tn a1) (st_X9_behind_90 M a0 a1 a2) (0, 0, 0, sp_X9_keepB M)).2.2.2)) from (by unfold sp_X9_behind; exact ((if_pos c1).trans ((if_pos c2).trans ((if_pos c3).trans ((if_pos c4).trans ((if_pos c5).trans ((if_neg c8).trans (if_pos c9)))))))))) (pair_snd (show sp_X9_behind M a0 a1 a2 = ((itN (tn a1) (st_X9_behind_90 M a0 a1 a2) (0, 0, 0, sp_X9_keepB M)).1, sp_X9_againB ((itN (tn a1) (st_X9_behind_90 M a0 a1 a2) (0, 0, 0, sp_X9_keepB M)).2.2.2)) from (by unfold sp_X9_behind; exact ((if_pos c1).trans ((if_pos c2).trans ((if_pos c3).trans ((if_pos c4).trans ((if_pos c5).trans ((if_neg c8).trans (if_pos c9))))))))))
                    · refine r_iload (pc := 222) hG dX9_behind_222 rfl ?_
                      refine r_goto (pc := 224) (tgt := 249) hG dX9_behind_224 (by decide) ?_
                      exact hret _ _ _ _ dX9_behind_249 (pair_fst (show sp_X9_behind M a0 a1 a2 = (itN (tn (((itN (tn a1) (st_X9_behind_90 M a0 a1 a2) (0, 0, 0, sp_X9_keepB M)).2.2.2).1 5 1 0)) (st_X9_behind_175 M a0 a1 a2) 0, sp_X9_againB ((itN (tn a1) (st_X9_behind_90 M a0 a1 a2) (0, 0, 0, sp_X9_keepB M)).2.2.2)) from (by unfold sp_X9_behind; exact ((if_pos c1).trans ((if_pos c2).trans ((if_pos c3).trans ((if_pos c4).trans ((if_pos c5).trans (if_pos c8))))))))) (pair_snd (show sp_X9_behind M a0 a1 a2 = (itN (tn (((itN (tn a1) (st_X9_behind_90 M a0 a1 a2) (0, 0, 0, sp_X9_keepB M)).2.2.2).1 5 1 0)) (st_X9_behind_175 M a0 a1 a2) 0, sp_X9_againB ((itN (tn a1) (st_X9_behind_90 M a0 a1 a2) (0, 0, 0, sp_X9_keepB M)).2.2.2)) from (by unfold sp_X9_behind; exact ((if_pos c1).trans ((if_pos c2).trans ((if_pos c3).trans ((if_pos c4).trans ((if_pos c5).trans (if_pos c8)))))))))
                  · have hl175 : i < (tn (((itN (tn a1) (st_X9_behind_90 M a0 a1 a2) (0, 0, 0, sp_X9_keepB M)).2.2.2).1 5 1 0)) := by have := mt (bd_le hb175 (by omega)).mpr c7; omega
                    refine r_aload_n (pc := 184) hG dX9_behind_184 rfl ?_
                    refine gf_X9_rose (pc := 185)  hG dX9_behind_185 tw_1177 ?_
                    refine r_iload (pc := 188) hG dX9_behind_188 rfl ?_
                    refine al_Mrose (pc := 190)  hG dX9_behind_190 (ix_nI (by omega) (Nat.le_of_ble_eq_true rfl)) ?_
                    refine r_iconst (pc := 191) hG dX9_behind_191 ic_m1 ?_
                    refine r_icmp_eq (pc := 192) (tgt := 204) hG dX9_behind_192 (by decide) (fun c11 => ?_) (fun c11 => ?_)
                    · refine r_iinc (pc := 204) (v := nI (i + 1)) (ls' := [_, _, _, _, _, _, _, _, _, _, _]) hG dX9_behind_204 rfl (nI_1 _) rfl rfl ?_
                      refine r_goto (pc := 207) (tgt := 175) hG dX9_behind_207 (by decide) ?_
                      have eN175 : b175 = st_X9_behind_175 M a0 a1 a2 i (itN i (st_X9_behind_175 M a0 a1 a2) 0) := by rw [← hg175]; unfold st_X9_behind_175; exact Eq.symm (if_pos c11)
                      refine J.wk (ls' := [some (rf K 140), some (.int a0), some (.int a1), some (.int a2), some (.int (sp_X9_noTold M a0 a1)), some (.int ((itN (tn a1) (st_X9_behind_90 M a0 a1 a2) (0, 0, 0, sp_X9_keepB M)).1)), some (.int ((itN (tn a1) (st_X9_behind_90 M a0 a1 a2) (0, 0, 0, sp_X9_keepB M)).2.1)), some (.int ((itN (tn a1) (st_X9_behind_90 M a0 a1 a2) (0, 0, 0, sp_X9_keepB M)).2.2.1)), some (.int b175), some (.int (nI (i + 1))), none]) ?_ (Eq.refl 11) (wk_s rfl (wk_s rfl (wk_s rfl (wk_s rfl (wk_s rfl (wk_s rfl (wk_s rfl (wk_s rfl (wk_s rfl (wk_s rfl (wk_n wk_0)))))))))))
                      exact ih175 hl175 b175 eN175
                    · refine r_iload (pc := 195) hG dX9_behind_195 rfl ?_
                      refine r_iconst (pc := 197) hG dX9_behind_197 ic_1 ?_
                      refine r_iload (pc := 198) hG dX9_behind_198 rfl ?_
                      refine r_ishl (pc := 200) hG dX9_behind_200 ?_
                      refine r_ior (pc := 201) hG dX9_behind_201 ?_
                      refine r_istore (pc := 202) (ls' := [_, _, _, _, _, _, _, _, _, _, _]) hG dX9_behind_202 rfl rfl ?_
                      refine r_iinc (pc := 204) (v := nI (i + 1)) (ls' := [_, _, _, _, _, _, _, _, _, _, _]) hG dX9_behind_204 rfl (nI_1 _) rfl rfl ?_
                      refine r_goto (pc := 207) (tgt := 175) hG dX9_behind_207 (by decide) ?_
                      have eN175 : b175 ||| (1 <<< ((nI i) &&& 31)) = st_X9_behind_175 M a0 a1 a2 i (itN i (st_X9_behind_175 M a0 a1 a2) 0) := by rw [← hg175]; unfold st_X9_behind_175; exact Eq.symm (if_neg c11)
                      refine J.wk (ls' := [some (rf K 140), some (.int a0), some (.int a1), some (.int a2), some (.int (sp_X9_noTold M a0 a1)), some (.int ((itN (tn a1) (st_X9_behind_90 M a0 a1 a2) (0, 0, 0, sp_X9_keepB M)).1)), some (.int ((itN (tn a1) (st_X9_behind_90 M a0 a1 a2) (0, 0, 0, sp_X9_keepB M)).2.1)), some (.int ((itN (tn a1) (st_X9_behind_90 M a0 a1 a2) (0, 0, 0, sp_X9_keepB M)).2.2.1)), some (.int (b175 ||| (1 <<< ((nI i) &&& 31)))), some (.int (nI (i + 1))), none]) ?_ (Eq.refl 11) (wk_s rfl (wk_s rfl (wk_s rfl (wk_s rfl (wk_s rfl (wk_s rfl (wk_s rfl (wk_s rfl (wk_s rfl (wk_s rfl (wk_n wk_0)))))))))))
                      exact ih175 hl175 (b175 ||| (1 <<< ((nI i) &&& 31))) eN175
                exact (lp175 0 (Nat.zero_le _) _ rfl).wk (Eq.refl 11) (wk_s rfl (wk_s rfl (wk_s rfl (wk_s rfl (wk_s rfl (wk_s rfl (wk_s rfl (wk_s rfl (wk_s rfl (wk_s rfl (wk_n wk_0)))))))))))
              · have hl90 : i < (tn a1) := by have := mt (bd_le hb90 (by omega)).mpr c6; omega
                refine r_aload_n (pc := 96) hG dX9_behind_96 rfl ?_
                refine r_aload_n (pc := 97) hG dX9_behind_97 rfl ?_
                refine r_iload_n (pc := 98) hG dX9_behind_98 rfl ?_
                refine r_iload (pc := 99) hG dX9_behind_99 rfl ?_
                refine cv_X9_toldAt (pc := 101)  hG dX9_behind_101 tw_1535 (c_X9_toldAt (row_ix (isSh5 c1) (by omega))) (by decide) (Nat.le_of_ble_eq_true rfl) ?_
                refine cv_X9_landingTold (pc := 104)  hG dX9_behind_104 tw_1546 (c_X9_landingTold (by show bd ((Int64.toInt32 (b90.2.2.2.2.2 8 (tn ((40 * a0) + nI i)))) / 100) 8; rw [hq90.2]; exact isTT_bd hwc5 (wr_none (wi5_bd (n := 40) c2 rfl (Nat.le_of_ble_eq_true rfl)) c5 i hl90))) (by decide) (Nat.le_of_ble_eq_true rfl) ?_
                refine r_istore (pc := 107) (ls' := [_, _, _, _, _, _, _, _, _, _, _]) hG dX9_behind_107 rfl rfl ?_
                refine r_aload_n (pc := 109) hG dX9_behind_109 rfl ?_
                refine r_iload (pc := 110) hG dX9_behind_110 rfl ?_
                refine r_iconst (pc := 112) hG dX9_behind_112 ic_m1 ?_
                refine cv_X9_catcher (pc := 113)  hG dX9_behind_113 tw_1454 (c_X9_catcher hp905) (by decide) (Nat.le_of_ble_eq_true rfl) ?_
                refine r_istore (pc := 116) (ls' := [_, _, _, _, _, _, _, _, _, _, _]) hG dX9_behind_116 rfl rfl ?_
                refine r_iload (pc := 118) hG dX9_behind_118 rfl ?_
                refine r_iconst (pc := 120) hG dX9_behind_120 ic_m1 ?_
                refine r_icmp_ne (pc := 121) (tgt := 130) hG dX9_behind_121 (by decide) (fun c12 => ?_) (fun c12 => ?_)
                · refine r_iload (pc := 130) hG dX9_behind_130 rfl ?_
                  refine r_iconst (pc := 132) hG dX9_behind_132 ic_m1 ?_
                  refine r_icmp_ne (pc := 133) (tgt := 142) hG dX9_behind_133 (by decide) (fun c13 => ?_) (fun c13 => ?_)
                  · refine r_iinc (pc := 142) (v := b90.1 + 1) (ls' := [_, _, _, _, _, _, _, _, _, _, _]) hG dX9_behind_142 rfl rfl rfl rfl ?_
                    refine r_aload_n (pc := 145) hG dX9_behind_145 rfl ?_
                    refine gf_X9_rose (pc := 146)  hG dX9_behind_146 tw_1177 ?_
                    refine r_iload (pc := 149) hG dX9_behind_149 rfl ?_
                    refine r_aload_n (pc := 151) hG dX9_behind_151 rfl ?_
                    refine r_iload_n (pc := 152) hG dX9_behind_152 rfl ?_
                    refine r_iload (pc := 153) hG dX9_behind_153 rfl ?_
                    refine cv_X9_toldAt (pc := 155)  hG dX9_behind_155 tw_1535 (c_X9_toldAt (row_ix (isSh5 c1) (by omega))) (by decide) (Nat.le_of_ble_eq_true rfl) ?_
                    refine r_l2i (pc := 158) hG dX9_behind_158 ?_
                    refine r_bipush (pc := 159) hG dX9_behind_159 bc_100 ?_
                    refine r_idiv (pc := 161) hG dX9_behind_161 (by decide) ?_
                    refine as_Mrose (pc := 162)  hG dX9_behind_162 (ix_bd (ca5 hp905 c13).1) ?_
                    refine r_iinc (pc := 163) (v := nI (i + 1)) (ls' := [_, _, _, _, _, _, _, _, _, _, _]) hG dX9_behind_163 rfl (nI_1 _) rfl rfl ?_
                    refine r_goto (pc := 166) (tgt := 90) hG dX9_behind_166 (by decide) ?_
                    have eN90 : (b90.1 + 1, b90.2.1, b90.2.2.1, u1 b90.2.2.2 5 12 (tn (sp_X9_catcher b90.2.2.2 (sp_X9_landingTold b90.2.2.2 (sp_X9_toldAt b90.2.2.2 a0 (nI i))) (-1))) ((Int64.toInt32 (sp_X9_toldAt b90.2.2.2 a0 (nI i))) / 100)) = st_X9_behind_90 M a0 a1 a2 i (itN i (st_X9_behind_90 M a0 a1 a2) (0, 0, 0, sp_X9_keepB M)) := by rw [← hg90]; unfold st_X9_behind_90; exact Eq.symm ((if_neg c12).trans (if_neg c13))
                    refine J.wk (ls' := [some (rf K 140), some (.int a0), some (.int a1), some (.int a2), some (.int (sp_X9_noTold M a0 a1)), some (.int (b90.1 + 1)), some (.int b90.2.1), some (.int b90.2.2.1), some (.int (nI (i + 1))), none, none]) ?_ (Eq.refl 11) (wk_s rfl (wk_s rfl (wk_s rfl (wk_s rfl (wk_s rfl (wk_s rfl (wk_s rfl (wk_s rfl (wk_s rfl (wk_n (wk_n wk_0)))))))))))
                    exact ih90 hl90 (b90.1 + 1, b90.2.1, b90.2.2.1, u1 b90.2.2.2 5 12 (tn (sp_X9_catcher b90.2.2.2 (sp_X9_landingTold b90.2.2.2 (sp_X9_toldAt b90.2.2.2 a0 (nI i))) (-1))) ((Int64.toInt32 (sp_X9_toldAt b90.2.2.2 a0 (nI i))) / 100)) eN90
                  · refine r_iinc (pc := 136) (v := b90.2.1 + 1) (ls' := [_, _, _, _, _, _, _, _, _, _, _]) hG dX9_behind_136 rfl rfl rfl rfl ?_
                    refine r_goto (pc := 139) (tgt := 163) hG dX9_behind_139 (by decide) ?_
                    refine r_iinc (pc := 163) (v := nI (i + 1)) (ls' := [_, _, _, _, _, _, _, _, _, _, _]) hG dX9_behind_163 rfl (nI_1 _) rfl rfl ?_
                    refine r_goto (pc := 166) (tgt := 90) hG dX9_behind_166 (by decide) ?_
                    have eN90 : (b90.1, b90.2.1 + 1, b90.2.2.1, b90.2.2.2) = st_X9_behind_90 M a0 a1 a2 i (itN i (st_X9_behind_90 M a0 a1 a2) (0, 0, 0, sp_X9_keepB M)) := by rw [← hg90]; unfold st_X9_behind_90; exact Eq.symm ((if_neg c12).trans (if_pos c13))
                    refine J.wk (ls' := [some (rf K 140), some (.int a0), some (.int a1), some (.int a2), some (.int (sp_X9_noTold M a0 a1)), some (.int b90.1), some (.int (b90.2.1 + 1)), some (.int b90.2.2.1), some (.int (nI (i + 1))), none, none]) ?_ (Eq.refl 11) (wk_s rfl (wk_s rfl (wk_s rfl (wk_s rfl (wk_s rfl (wk_s rfl (wk_s rfl (wk_s rfl (wk_s rfl (wk_n (wk_n wk_0)))))))))))
                    exact ih90 hl90 (b90.1, b90.2.1 + 1, b90.2.2.1, b90.2.2.2) eN90
                · refine r_iinc (pc := 124) (v := b90.2.2.1 + 1) (ls' := [_, _, _, _, _, _, _, _, _, _, _]) hG dX9_behind_124 rfl rfl rfl rfl ?_
                  refine r_goto (pc := 127) (tgt := 163) hG dX9_behind_127 (by decide) ?_
                  refine r_iinc (pc := 163) (v := nI (i + 1)) (ls' := [_, _, _, _, _, _, _, _, _, _, _]) hG dX9_behind_163 rfl (nI_1 _) rfl rfl ?_
                  refine r_goto (pc := 166) (tgt := 90) hG dX9_behind_166 (by decide) ?_
                  have eN90 : (b90.1, b90.2.1, b90.2.2.1 + 1, b90.2.2.2) = st_X9_behind_90 M a0 a1 a2 i (itN i (st_X9_behind_90 M a0 a1 a2) (0, 0, 0, sp_X9_keepB M)) := by rw [← hg90]; unfold st_X9_behind_90; exact Eq.symm (if_pos c12)
                  refine J.wk (ls' := [some (rf K 140), some (.int a0), some (.int a1), some (.int a2), some (.int (sp_X9_noTold M a0 a1)), some (.int b90.1), some (.int b90.2.1), some (.int (b90.2.2.1 + 1)), some (.int (nI (i + 1))), none, none]) ?_ (Eq.refl 11) (wk_s rfl (wk_s rfl (wk_s rfl (wk_s rfl (wk_s rfl (wk_s rfl (wk_s rfl (wk_s rfl (wk_s rfl (wk_n (wk_n wk_0)))))))))))
                  exact ih90 hl90 (b90.1, b90.2.1, b90.2.2.1 + 1, b90.2.2.2) eN90
            exact (lp90 0 (Nat.zero_le _) _ rfl).wk (Eq.refl 11) (wk_s rfl (wk_s rfl (wk_s rfl (wk_s rfl (wk_s rfl (wk_s rfl (wk_s rfl (wk_s rfl (wk_s rfl (wk_n (wk_n wk_0)))))))))))
          · refine r_aload_n (pc := 63) hG dX9_behind_63 rfl ?_
            refine r_bipush (pc := 64) hG dX9_behind_64 bc_m5 ?_
            refine cv_X9_no (pc := 66)  hG dX9_behind_66 tw_1273 (c_X9_no (bd_lit (n := 7) (by decide))) (by decide) (Nat.le_of_ble_eq_true rfl) ?_
            exact hret _ _ _ _ dX9_behind_69 (pair_fst (show sp_X9_behind M a0 a1 a2 = ((sp_X9_no M (-5)).1, (sp_X9_no M (-5)).2) from (by unfold sp_X9_behind; exact ((if_pos c1).trans ((if_pos c2).trans ((if_pos c3).trans ((if_pos c4).trans (if_neg c5)))))))) (pair_snd (show sp_X9_behind M a0 a1 a2 = ((sp_X9_no M (-5)).1, (sp_X9_no M (-5)).2) from (by unfold sp_X9_behind; exact ((if_pos c1).trans ((if_pos c2).trans ((if_pos c3).trans ((if_pos c4).trans (if_neg c5))))))))
        · refine r_aload_n (pc := 46) hG dX9_behind_46 rfl ?_
          refine r_iload (pc := 47) hG dX9_behind_47 rfl ?_
          refine cv_X9_no (pc := 49)  hG dX9_behind_49 tw_1273 (c_X9_no ntB) (by decide) (Nat.le_of_ble_eq_true rfl) ?_
          exact hret _ _ _ _ dX9_behind_52 (pair_fst (show sp_X9_behind M a0 a1 a2 = ((sp_X9_no M (sp_X9_noTold M a0 a1)).1, (sp_X9_no M (sp_X9_noTold M a0 a1)).2) from (by unfold sp_X9_behind; exact ((if_pos c1).trans ((if_pos c2).trans ((if_pos c3).trans (if_neg c4))))))) (pair_snd (show sp_X9_behind M a0 a1 a2 = ((sp_X9_no M (sp_X9_noTold M a0 a1)).1, (sp_X9_no M (sp_X9_noTold M a0 a1)).2) from (by unfold sp_X9_behind; exact ((if_pos c1).trans ((if_pos c2).trans ((if_pos c3).trans (if_neg c4)))))))
      · refine r_aload_n (pc := 26) hG dX9_behind_26 rfl ?_
        refine r_bipush (pc := 27) hG dX9_behind_27 bc_m2 ?_
        refine cv_X9_no (pc := 29)  hG dX9_behind_29 tw_1273 (c_X9_no (bd_lit (n := 7) (by decide))) (by decide) (Nat.le_of_ble_eq_true rfl) ?_
        exact hret _ _ _ _ dX9_behind_32 (pair_fst (show sp_X9_behind M a0 a1 a2 = ((sp_X9_no M (-2)).1, (sp_X9_no M (-2)).2) from (by unfold sp_X9_behind; exact ((if_pos c1).trans ((if_pos c2).trans (if_neg c3)))))) (pair_snd (show sp_X9_behind M a0 a1 a2 = ((sp_X9_no M (-2)).1, (sp_X9_no M (-2)).2) from (by unfold sp_X9_behind; exact ((if_pos c1).trans ((if_pos c2).trans (if_neg c3))))))
