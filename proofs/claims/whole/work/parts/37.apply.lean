def sp_X6_apply (M : MT) (a0 : Int32) : MT :=
  if a0 = 0 then
    (u1 M 4 2 0 (M.2.1 8 0))
  else
    if a0 = 1 then
      ((sp_X5_addWindow M 4 (M.2.1 8 0) (M.2.1 8 1) (M.2.1 8 2)).2)
    else
      if a0 = 2 then
        ((sp_X5_addPerson M 4 (M.2.1 8 0) (M.2.1 8 1) (M.2.1 8 2)).2)
      else
        if a0 = 3 then
          (u1 M 4 11 (tn (M.2.1 8 0)) (M.2.1 8 1))
        else
          if a0 = 4 then
            (u1 M 4 3 0 (M.2.1 8 0))
          else
            if a0 = 5 then
              (u1 M 4 3 1 (M.2.1 8 0))
            else
              (u1 M 4 3 2 (M.2.1 8 0))
set_option maxRecDepth 20000 in
theorem c_X6_apply {K : KT} {M : MT} {a0 : Int32}  (ha1 : a0 = 1 → bd (M.1 4 0 0) 8) (ha2 : a0 = 2 → bd (M.1 4 1 0) 8) (ha3 : a0 = 3 → bd (M.2.1 8 0) 8) : CM K 3 yX6_apply cX6_apply 2 none [rf K 9, .int a0] M none (sp_X6_apply M a0) := by
  refine CM.ofV (by decide) [some (rf K 9), some (.int a0)] rfl (Nat.le_of_ble_eq_true rfl) (Nat.le_of_ble_eq_true rfl) (fun G hG _ hret => ?_)
  refine r_iload_n (pc := 0) hG dX6_apply_0 rfl ?_
  by_cases c1 : a0 = 0
  · refine r_tableIn (pc := 1) (tgt := 40) (off := 39) hG dX6_apply_1 (by rw [c1]; decide) (by rw [c1]; decide) (by rw [c1]; rfl) (by decide) ?_
    refine r_aload_n (pc := 40) hG dX6_apply_40 rfl ?_
    refine gf_X6_draft (pc := 41)  hG dX6_apply_41 tw_289 ?_
    refine r_aload_n (pc := 44) hG dX6_apply_44 rfl ?_
    refine gf_X6_numbers (pc := 45)  hG dX6_apply_45 tw_291 ?_
    refine r_iconst (pc := 48) hG dX6_apply_48 ic_0 ?_
    refine al_Num (pc := 49)  hG dX6_apply_49 (ix_lit (j := 0) (by decide)) ?_
    refine pf_X5_cells (pc := 50) (by omega) hG dX6_apply_50 tw_180 ?_
    refine r_goto (pc := 53) (tgt := 185) hG dX6_apply_53 (by decide) ?_
    exact hret _ _ _ dX6_apply_185 (Eq.symm (by unfold sp_X6_apply; exact (if_pos c1)))
  · by_cases c2 : a0 = 1
    · refine r_tableIn (pc := 1) (tgt := 56) (off := 55) hG dX6_apply_1 (by rw [c2]; decide) (by rw [c2]; decide) (by rw [c2]; rfl) (by decide) ?_
      refine r_aload_n (pc := 56) hG dX6_apply_56 rfl ?_
      refine gf_X6_draft (pc := 57)  hG dX6_apply_57 tw_289 ?_
      refine r_aload_n (pc := 60) hG dX6_apply_60 rfl ?_
      refine gf_X6_numbers (pc := 61)  hG dX6_apply_61 tw_291 ?_
      refine r_iconst (pc := 64) hG dX6_apply_64 ic_0 ?_
      refine al_Num (pc := 65)  hG dX6_apply_65 (ix_lit (j := 0) (by decide)) ?_
      refine r_aload_n (pc := 66) hG dX6_apply_66 rfl ?_
      refine gf_X6_numbers (pc := 67)  hG dX6_apply_67 tw_291 ?_
      refine r_iconst (pc := 70) hG dX6_apply_70 ic_1 ?_
      refine al_Num (pc := 71)  hG dX6_apply_71 (ix_lit (j := 1) (by decide)) ?_
      refine r_aload_n (pc := 72) hG dX6_apply_72 rfl ?_
      refine gf_X6_numbers (pc := 73)  hG dX6_apply_73 tw_291 ?_
      refine r_iconst (pc := 76) hG dX6_apply_76 ic_2 ?_
      refine al_Num (pc := 77)  hG dX6_apply_77 (ix_lit (j := 2) (by decide)) ?_
      refine cv_X5_addWindow (pc := 78) (by omega) hG dX6_apply_78 tw_648 (c_X5_addWindow (by omega) (ha1 c2)) (by decide) (Nat.le_of_ble_eq_true rfl) ?_
      refine r_pop (pc := 81) hG dX6_apply_81 rfl ?_
      refine r_goto (pc := 82) (tgt := 185) hG dX6_apply_82 (by decide) ?_
      exact hret _ _ _ dX6_apply_185 (Eq.symm (by unfold sp_X6_apply; exact ((if_neg c1).trans (if_pos c2))))
    · by_cases c3 : a0 = 2
      · refine r_tableIn (pc := 1) (tgt := 85) (off := 84) hG dX6_apply_1 (by rw [c3]; decide) (by rw [c3]; decide) (by rw [c3]; rfl) (by decide) ?_
        refine r_aload_n (pc := 85) hG dX6_apply_85 rfl ?_
        refine gf_X6_draft (pc := 86)  hG dX6_apply_86 tw_289 ?_
        refine r_aload_n (pc := 89) hG dX6_apply_89 rfl ?_
        refine gf_X6_numbers (pc := 90)  hG dX6_apply_90 tw_291 ?_
        refine r_iconst (pc := 93) hG dX6_apply_93 ic_0 ?_
        refine al_Num (pc := 94)  hG dX6_apply_94 (ix_lit (j := 0) (by decide)) ?_
        refine r_aload_n (pc := 95) hG dX6_apply_95 rfl ?_
        refine gf_X6_numbers (pc := 96)  hG dX6_apply_96 tw_291 ?_
        refine r_iconst (pc := 99) hG dX6_apply_99 ic_1 ?_
        refine al_Num (pc := 100)  hG dX6_apply_100 (ix_lit (j := 1) (by decide)) ?_
        refine r_aload_n (pc := 101) hG dX6_apply_101 rfl ?_
        refine gf_X6_numbers (pc := 102)  hG dX6_apply_102 tw_291 ?_
        refine r_iconst (pc := 105) hG dX6_apply_105 ic_2 ?_
        refine al_Num (pc := 106)  hG dX6_apply_106 (ix_lit (j := 2) (by decide)) ?_
        refine cv_X5_addPerson (pc := 107) (by omega) hG dX6_apply_107 tw_649 (c_X5_addPerson (by omega) (ha2 c3)) (by decide) (Nat.le_of_ble_eq_true rfl) ?_
        refine r_pop (pc := 110) hG dX6_apply_110 rfl ?_
        refine r_goto (pc := 111) (tgt := 185) hG dX6_apply_111 (by decide) ?_
        exact hret _ _ _ dX6_apply_185 (Eq.symm (by unfold sp_X6_apply; exact ((if_neg c1).trans ((if_neg c2).trans (if_pos c3)))))
      · by_cases c4 : a0 = 3
        · refine r_tableIn (pc := 1) (tgt := 114) (off := 113) hG dX6_apply_1 (by rw [c4]; decide) (by rw [c4]; decide) (by rw [c4]; rfl) (by decide) ?_
          refine r_aload_n (pc := 114) hG dX6_apply_114 rfl ?_
          refine gf_X6_draft (pc := 115)  hG dX6_apply_115 tw_289 ?_
          refine gf_X5_people (pc := 118) (by omega) hG dX6_apply_118 tw_168 ?_
          refine r_aload_n (pc := 121) hG dX6_apply_121 rfl ?_
          refine gf_X6_numbers (pc := 122)  hG dX6_apply_122 tw_291 ?_
          refine r_iconst (pc := 125) hG dX6_apply_125 ic_0 ?_
          refine al_Num (pc := 126)  hG dX6_apply_126 (ix_lit (j := 0) (by decide)) ?_
          refine aa_PA (pc := 127) (by omega) hG dX6_apply_127 (ix_bd (ha3 c4)) ?_
          refine r_aload_n (pc := 128) hG dX6_apply_128 rfl ?_
          refine gf_X6_numbers (pc := 129)  hG dX6_apply_129 tw_291 ?_
          refine r_iconst (pc := 132) hG dX6_apply_132 ic_1 ?_
          refine al_Num (pc := 133)  hG dX6_apply_133 (ix_lit (j := 1) (by decide)) ?_
          refine pf_X2_at (pc := 134) (by omega) (bd_lt (ha3 c4)) hG dX6_apply_134 tw_144 ?_
          refine r_goto (pc := 137) (tgt := 185) hG dX6_apply_137 (by decide) ?_
          exact hret _ _ _ dX6_apply_185 (Eq.symm (by unfold sp_X6_apply; exact ((if_neg c1).trans ((if_neg c2).trans ((if_neg c3).trans (if_pos c4))))))
        · by_cases c5 : a0 = 4
          · refine r_tableIn (pc := 1) (tgt := 140) (off := 139) hG dX6_apply_1 (by rw [c5]; decide) (by rw [c5]; decide) (by rw [c5]; rfl) (by decide) ?_
            refine r_aload_n (pc := 140) hG dX6_apply_140 rfl ?_
            refine gf_X6_draft (pc := 141)  hG dX6_apply_141 tw_289 ?_
            refine r_aload_n (pc := 144) hG dX6_apply_144 rfl ?_
            refine gf_X6_numbers (pc := 145)  hG dX6_apply_145 tw_291 ?_
            refine r_iconst (pc := 148) hG dX6_apply_148 ic_0 ?_
            refine al_Num (pc := 149)  hG dX6_apply_149 (ix_lit (j := 0) (by decide)) ?_
            refine pf_X5_wind (pc := 150) (by omega) hG dX6_apply_150 tw_184 ?_
            refine r_goto (pc := 153) (tgt := 185) hG dX6_apply_153 (by decide) ?_
            exact hret _ _ _ dX6_apply_185 (Eq.symm (by unfold sp_X6_apply; exact ((if_neg c1).trans ((if_neg c2).trans ((if_neg c3).trans ((if_neg c4).trans (if_pos c5)))))))
          · by_cases c6 : a0 = 5
            · refine r_tableIn (pc := 1) (tgt := 156) (off := 155) hG dX6_apply_1 (by rw [c6]; decide) (by rw [c6]; decide) (by rw [c6]; rfl) (by decide) ?_
              refine r_aload_n (pc := 156) hG dX6_apply_156 rfl ?_
              refine gf_X6_draft (pc := 157)  hG dX6_apply_157 tw_289 ?_
              refine r_aload_n (pc := 160) hG dX6_apply_160 rfl ?_
              refine gf_X6_numbers (pc := 161)  hG dX6_apply_161 tw_291 ?_
              refine r_iconst (pc := 164) hG dX6_apply_164 ic_0 ?_
              refine al_Num (pc := 165)  hG dX6_apply_165 (ix_lit (j := 0) (by decide)) ?_
              refine pf_X5_day (pc := 166) (by omega) hG dX6_apply_166 tw_187 ?_
              refine r_goto (pc := 169) (tgt := 185) hG dX6_apply_169 (by decide) ?_
              exact hret _ _ _ dX6_apply_185 (Eq.symm (by unfold sp_X6_apply; exact ((if_neg c1).trans ((if_neg c2).trans ((if_neg c3).trans ((if_neg c4).trans ((if_neg c5).trans (if_pos c6))))))))
            · have nc1 : Int32.toInt a0 ≠ 0 := fun q => c1 (Int32.toInt_inj.mp q)
              have nc2 : Int32.toInt a0 ≠ 1 := fun q => c2 (Int32.toInt_inj.mp q)
              have nc3 : Int32.toInt a0 ≠ 2 := fun q => c3 (Int32.toInt_inj.mp q)
              have nc4 : Int32.toInt a0 ≠ 3 := fun q => c4 (Int32.toInt_inj.mp q)
              have nc5 : Int32.toInt a0 ≠ 4 := fun q => c5 (Int32.toInt_inj.mp q)
              have nc6 : Int32.toInt a0 ≠ 5 := fun q => c6 (Int32.toInt_inj.mp q)
              refine r_tableOut (pc := 1) (tgt := 172) hG dX6_apply_1 (by omega) (by decide) ?_
              refine r_aload_n (pc := 172) hG dX6_apply_172 rfl ?_
              refine gf_X6_draft (pc := 173)  hG dX6_apply_173 tw_289 ?_
              refine r_aload_n (pc := 176) hG dX6_apply_176 rfl ?_
              refine gf_X6_numbers (pc := 177)  hG dX6_apply_177 tw_291 ?_
              refine r_iconst (pc := 180) hG dX6_apply_180 ic_0 ?_
              refine al_Num (pc := 181)  hG dX6_apply_181 (ix_lit (j := 0) (by decide)) ?_
              refine pf_X5_lent (pc := 182) (by omega) hG dX6_apply_182 tw_190 ?_
              exact hret _ _ _ dX6_apply_185 (Eq.symm (by unfold sp_X6_apply; exact ((if_neg c1).trans ((if_neg c2).trans ((if_neg c3).trans ((if_neg c4).trans ((if_neg c5).trans (if_neg c6))))))))
