theorem cp_bd {i n len : Int32} (hl : bd len 41) (hn : ¬ n < 0) (hi : ¬ i < 0) (c : (Int32.toInt64 i) + (Int32.toInt64 n) ≤ Int32.toInt64 len) : tn i + tn n ≤ tn len ∧ bd n 41 := by
  obtain ⟨k, hk, rfl⟩ := nI_of hi
  obtain ⟨m, hm, rfl⟩ := nI_of hn
  have h2 := bd_lt hl
  rw [bd_eq hl, nI_l hk, nI_l hm, nI_l (by omega), lN_add] at c
  have := (pk_lLE (by omega) (by omega)).mp c
  rw [tn_nI hk, tn_nI hm]
  exact ⟨by omega, bd_nI (by omega) (by omega)⟩
theorem cp_ix {a b : Int32} {k n : Nat} (ha : bd a 8) (hb : ¬ b < 0) (hk : k < n) (h : tn b + n ≤ 40) : ((40 * a) + b) + nI k = nI (40 * tn a + tn b + k) ∧ bd (((40 * a) + b) + nI k) 320 := by
  obtain ⟨j, hj, rfl⟩ := nI_of hb
  have hl := bd_lt ha
  rw [tn_nI hj] at h ⊢
  have e : (40 : Int32) * a = nI (40 * tn a) := (congrArg (fun z => (40 : Int32) * z) (bd_eq ha)).trans (Int32.ofNat_mul 40 _).symm
  have e2 : ((40 * a) + nI j) + nI k = nI (40 * tn a + j + k) := by rw [e, nI_add, nI_add]
  rw [e2]
  exact ⟨rfl, bd_nI (by omega) (by omega)⟩
theorem dn_in {n i : Nat} (h : i < n) : dn n i = nI (n - 1 - i) := by unfold dn; rw [if_pos h]

def st_X9_copy_225 (M : MT) (a0 : Int32) (a1 : Int32) (a2 : Int32) (a3 : Int32) (a4 : Int32) (i : Nat) (b225 : MT) : MT :=
  u3 b225 8 (tn (((40 * a1) + a3) + (nI i))) (b225.2.2 8 (tn (((40 * a0) + a2) + (nI i))))
def st_X9_copy_179 (M : MT) (a0 : Int32) (a1 : Int32) (a2 : Int32) (a3 : Int32) (a4 : Int32) (i : Nat) (b179 : MT) : MT :=
  u3 b179 8 (tn (((40 * a1) + a3) + (dn (tn a4) i))) (b179.2.2 8 (tn (((40 * a0) + a2) + (dn (tn a4) i))))
def sp_X9_copy (M : MT) (a0 : Int32) (a1 : Int32) (a2 : Int32) (a3 : Int32) (a4 : Int32) : Int32 × MT :=
  if (sp_X9_isShelf a0) = true then
    if (sp_X9_isShelf a1) = true then
      if 10 ≤ (M.2.1 32 (tn a0)) then
        ((sp_X9_no M (-3)).1, (sp_X9_no M (-3)).2)
      else
        if 10 ≤ (M.2.1 32 (tn a1)) then
          ((sp_X9_no M (-3)).1, (sp_X9_no M (-3)).2)
        else
          if (sp_X9_isRow M a0) = true then
            if (sp_X9_isRow M a1) = true then
              if (M.2.1 32 (tn a0)) = (M.2.1 32 (tn a1)) then
                if (M.2.1 32 (tn a0)) < 0 then
                  ((sp_X9_no M (-4)).1, (sp_X9_no M (-4)).2)
                else
                  if 0 ≤ (M.2.1 32 (tn a1)) then
                    if a4 < 0 then
                      ((sp_X9_no M (-2)).1, (sp_X9_no M (-2)).2)
                    else
                      if a2 < 0 then
                        ((sp_X9_no M (-2)).1, (sp_X9_no M (-2)).2)
                      else
                        if a3 < 0 then
                          ((sp_X9_no M (-2)).1, (sp_X9_no M (-2)).2)
                        else
                          if (Int32.toInt64 (M.2.1 33 (tn a0))) < ((Int32.toInt64 a2) + (Int32.toInt64 a4)) then
                            ((sp_X9_no M (-2)).1, (sp_X9_no M (-2)).2)
                          else
                            if ((Int32.toInt64 a3) + (Int32.toInt64 a4)) ≤ (Int32.toInt64 (M.2.1 33 (tn a1))) then
                              if a0 = a1 then
                                if a3 ≤ a2 then
                                  (a4, itN (tn a4) (st_X9_copy_225 M a0 a1 a2 a3 a4) M)
                                else
                                  (a4, itN (tn a4) (st_X9_copy_179 M a0 a1 a2 a3 a4) M)
                              else
                                (a4, itN (tn a4) (st_X9_copy_225 M a0 a1 a2 a3 a4) M)
                            else
                              ((sp_X9_no M (-2)).1, (sp_X9_no M (-2)).2)
                  else
                    ((sp_X9_no M (-4)).1, (sp_X9_no M (-4)).2)
              else
                ((sp_X9_no M (-3)).1, (sp_X9_no M (-3)).2)
            else
              if (M.2.1 32 (tn a0)) < 0 then
                ((sp_X9_no M (-4)).1, (sp_X9_no M (-4)).2)
              else
                if 0 ≤ (M.2.1 32 (tn a1)) then
                  if a4 < 0 then
                    ((sp_X9_no M (-2)).1, (sp_X9_no M (-2)).2)
                  else
                    if a2 < 0 then
                      ((sp_X9_no M (-2)).1, (sp_X9_no M (-2)).2)
                    else
                      if a3 < 0 then
                        ((sp_X9_no M (-2)).1, (sp_X9_no M (-2)).2)
                      else
                        if (Int32.toInt64 (M.2.1 33 (tn a0))) < ((Int32.toInt64 a2) + (Int32.toInt64 a4)) then
                          ((sp_X9_no M (-2)).1, (sp_X9_no M (-2)).2)
                        else
                          if ((Int32.toInt64 a3) + (Int32.toInt64 a4)) ≤ (Int32.toInt64 (M.2.1 33 (tn a1))) then
                            if a0 = a1 then
                              if a3 ≤ a2 then
                                (a4, itN (tn a4) (st_X9_copy_225 M a0 a1 a2 a3 a4) M)
                              else
                                (a4, itN (tn a4) (st_X9_copy_179 M a0 a1 a2 a3 a4) M)
                            else
                              (a4, itN (tn a4) (st_X9_copy_225 M a0 a1 a2 a3 a4) M)
                          else
                            ((sp_X9_no M (-2)).1, (sp_X9_no M (-2)).2)
                else
                  ((sp_X9_no M (-4)).1, (sp_X9_no M (-4)).2)
          else
            if (M.2.1 32 (tn a0)) < 0 then
              ((sp_X9_no M (-4)).1, (sp_X9_no M (-4)).2)
            else
              if 0 ≤ (M.2.1 32 (tn a1)) then
                if a4 < 0 then
                  ((sp_X9_no M (-2)).1, (sp_X9_no M (-2)).2)
                else
                  if a2 < 0 then
                    ((sp_X9_no M (-2)).1, (sp_X9_no M (-2)).2)
                  else
                    if a3 < 0 then
                      ((sp_X9_no M (-2)).1, (sp_X9_no M (-2)).2)
                    else
                      if (Int32.toInt64 (M.2.1 33 (tn a0))) < ((Int32.toInt64 a2) + (Int32.toInt64 a4)) then
                        ((sp_X9_no M (-2)).1, (sp_X9_no M (-2)).2)
                      else
                        if ((Int32.toInt64 a3) + (Int32.toInt64 a4)) ≤ (Int32.toInt64 (M.2.1 33 (tn a1))) then
                          if a0 = a1 then
                            if a3 ≤ a2 then
                              (a4, itN (tn a4) (st_X9_copy_225 M a0 a1 a2 a3 a4) M)
                            else
                              (a4, itN (tn a4) (st_X9_copy_179 M a0 a1 a2 a3 a4) M)
                          else
                            (a4, itN (tn a4) (st_X9_copy_225 M a0 a1 a2 a3 a4) M)
                        else
                          ((sp_X9_no M (-2)).1, (sp_X9_no M (-2)).2)
              else
                ((sp_X9_no M (-4)).1, (sp_X9_no M (-4)).2)
    else
      ((sp_X9_no M (-2)).1, (sp_X9_no M (-2)).2)
  else
    ((sp_X9_no M (-2)).1, (sp_X9_no M (-2)).2)
set_option maxRecDepth 20000 in
theorem c_X9_copy {K : KT} {M : MT} {a0 : Int32} {a1 : Int32} {a2 : Int32} {a3 : Int32} {a4 : Int32}  (hokr : OKR M) : CM K 3 yX9_copy cX9_copy 7 (some FieldType.int) [rf K 140, .int a0, .int a1, .int a2, .int a3, .int a4] M (some (.int (sp_X9_copy M a0 a1 a2 a3 a4).1)) (sp_X9_copy M a0 a1 a2 a3 a4).2 := by
  refine CM.ofI (by decide) [some (rf K 140), some (.int a0), some (.int a1), some (.int a2), some (.int a3), some (.int a4), none] rfl (Nat.le_of_ble_eq_true rfl) (Nat.le_of_ble_eq_true rfl) (fun G hG _ hret => ?_)
  obtain ⟨hok5, hhl, htp5⟩ := id hokr
  obtain ⟨hwc5, hpc5, ⟨hcl5, hcm5⟩, hwi5, hda5, hle5, hk85, ha85, hW5, hP5⟩ := id hok5
  have hwl5 := bd_lt hwc5
  have hpl5 := bd_lt hpc5
  have hcl5l := bd_lt hcl5
  refine r_iload_n (pc := 0) hG dX9_copy_0 rfl ?_
  refine cs_X9_isShelf (pc := 1)  hG dX9_copy_1 tw_1267 (c_X9_isShelf) (by decide) (Nat.le_of_ble_eq_true rfl) ?_
  refine r_ifz_eq (pc := 4) (tgt := 14) hG dX9_copy_4 (by decide) (fun c1 => ?_) (fun c1 => ?_)
  · refine r_aload_n (pc := 14) hG dX9_copy_14 rfl ?_
    refine r_bipush (pc := 15) hG dX9_copy_15 bc_m2 ?_
    refine cv_X9_no (pc := 17)  hG dX9_copy_17 tw_1273 (c_X9_no (bd_lit (n := 7) (by decide))) (by decide) (Nat.le_of_ble_eq_true rfl) ?_
    exact hret _ _ _ _ dX9_copy_20 (pair_fst (show sp_X9_copy M a0 a1 a2 a3 a4 = ((sp_X9_no M (-2)).1, (sp_X9_no M (-2)).2) from (by unfold sp_X9_copy; exact (if_neg c1)))) (pair_snd (show sp_X9_copy M a0 a1 a2 a3 a4 = ((sp_X9_no M (-2)).1, (sp_X9_no M (-2)).2) from (by unfold sp_X9_copy; exact (if_neg c1))))
  · refine r_iload_n (pc := 7) hG dX9_copy_7 rfl ?_
    refine cs_X9_isShelf (pc := 8)  hG dX9_copy_8 tw_1267 (c_X9_isShelf) (by decide) (Nat.le_of_ble_eq_true rfl) ?_
    refine r_ifz_ne (pc := 11) (tgt := 21) hG dX9_copy_11 (by decide) (fun c2 => ?_) (fun c2 => ?_)
    · refine r_aload_n (pc := 21) hG dX9_copy_21 rfl ?_
      refine gf_X9_holding (pc := 22)  hG dX9_copy_22 tw_1186 ?_
      refine r_iload_n (pc := 25) hG dX9_copy_25 rfl ?_
      refine al_Mholding (pc := 26)  hG dX9_copy_26 (ix_bd (isSh5 c1)) ?_
      refine r_bipush (pc := 27) hG dX9_copy_27 bc_10 ?_
      refine r_icmp_ge (pc := 29) (tgt := 74) hG dX9_copy_29 (by decide) (fun c3 => ?_) (fun c3 => ?_)
      · refine r_aload_n (pc := 74) hG dX9_copy_74 rfl ?_
        refine r_bipush (pc := 75) hG dX9_copy_75 bc_m3 ?_
        refine cv_X9_no (pc := 77)  hG dX9_copy_77 tw_1273 (c_X9_no (bd_lit (n := 7) (by decide))) (by decide) (Nat.le_of_ble_eq_true rfl) ?_
        exact hret _ _ _ _ dX9_copy_80 (pair_fst (show sp_X9_copy M a0 a1 a2 a3 a4 = ((sp_X9_no M (-3)).1, (sp_X9_no M (-3)).2) from (by unfold sp_X9_copy; exact ((if_pos c1).trans ((if_pos c2).trans (if_pos c3)))))) (pair_snd (show sp_X9_copy M a0 a1 a2 a3 a4 = ((sp_X9_no M (-3)).1, (sp_X9_no M (-3)).2) from (by unfold sp_X9_copy; exact ((if_pos c1).trans ((if_pos c2).trans (if_pos c3))))))
      · refine r_aload_n (pc := 32) hG dX9_copy_32 rfl ?_
        refine gf_X9_holding (pc := 33)  hG dX9_copy_33 tw_1186 ?_
        refine r_iload_n (pc := 36) hG dX9_copy_36 rfl ?_
        refine al_Mholding (pc := 37)  hG dX9_copy_37 (ix_bd (isSh5 c2)) ?_
        refine r_bipush (pc := 38) hG dX9_copy_38 bc_10 ?_
        refine r_icmp_ge (pc := 40) (tgt := 74) hG dX9_copy_40 (by decide) (fun c4 => ?_) (fun c4 => ?_)
        · refine r_aload_n (pc := 74) hG dX9_copy_74 rfl ?_
          refine r_bipush (pc := 75) hG dX9_copy_75 bc_m3 ?_
          refine cv_X9_no (pc := 77)  hG dX9_copy_77 tw_1273 (c_X9_no (bd_lit (n := 7) (by decide))) (by decide) (Nat.le_of_ble_eq_true rfl) ?_
          exact hret _ _ _ _ dX9_copy_80 (pair_fst (show sp_X9_copy M a0 a1 a2 a3 a4 = ((sp_X9_no M (-3)).1, (sp_X9_no M (-3)).2) from (by unfold sp_X9_copy; exact ((if_pos c1).trans ((if_pos c2).trans ((if_neg c3).trans (if_pos c4))))))) (pair_snd (show sp_X9_copy M a0 a1 a2 a3 a4 = ((sp_X9_no M (-3)).1, (sp_X9_no M (-3)).2) from (by unfold sp_X9_copy; exact ((if_pos c1).trans ((if_pos c2).trans ((if_neg c3).trans (if_pos c4)))))))
        · refine r_aload_n (pc := 43) hG dX9_copy_43 rfl ?_
          refine r_iload_n (pc := 44) hG dX9_copy_44 rfl ?_
          refine cv_X9_isRow (pc := 45)  hG dX9_copy_45 tw_1281 (c_X9_isRow (isSh5 c1)) (by decide) (Nat.le_of_ble_eq_true rfl) ?_
          refine r_ifz_eq (pc := 48) (tgt := 81) hG dX9_copy_48 (by decide) (fun c5 => ?_) (fun c5 => ?_)
          · refine r_aload_n (pc := 81) hG dX9_copy_81 rfl ?_
            refine gf_X9_holding (pc := 82)  hG dX9_copy_82 tw_1186 ?_
            refine r_iload_n (pc := 85) hG dX9_copy_85 rfl ?_
            refine al_Mholding (pc := 86)  hG dX9_copy_86 (ix_bd (isSh5 c1)) ?_
            refine r_if_lt (pc := 87) (tgt := 99) hG dX9_copy_87 (by decide) (fun c6 => ?_) (fun c6 => ?_)
            · refine r_aload_n (pc := 99) hG dX9_copy_99 rfl ?_
              refine r_bipush (pc := 100) hG dX9_copy_100 bc_m4 ?_
              refine cv_X9_no (pc := 102)  hG dX9_copy_102 tw_1273 (c_X9_no (bd_lit (n := 7) (by decide))) (by decide) (Nat.le_of_ble_eq_true rfl) ?_
              exact hret _ _ _ _ dX9_copy_105 (pair_fst (show sp_X9_copy M a0 a1 a2 a3 a4 = ((sp_X9_no M (-4)).1, (sp_X9_no M (-4)).2) from (by unfold sp_X9_copy; exact ((if_pos c1).trans ((if_pos c2).trans ((if_neg c3).trans ((if_neg c4).trans ((if_neg c5).trans (if_pos c6))))))))) (pair_snd (show sp_X9_copy M a0 a1 a2 a3 a4 = ((sp_X9_no M (-4)).1, (sp_X9_no M (-4)).2) from (by unfold sp_X9_copy; exact ((if_pos c1).trans ((if_pos c2).trans ((if_neg c3).trans ((if_neg c4).trans ((if_neg c5).trans (if_pos c6)))))))))
            · refine r_aload_n (pc := 90) hG dX9_copy_90 rfl ?_
              refine gf_X9_holding (pc := 91)  hG dX9_copy_91 tw_1186 ?_
              refine r_iload_n (pc := 94) hG dX9_copy_94 rfl ?_
              refine al_Mholding (pc := 95)  hG dX9_copy_95 (ix_bd (isSh5 c2)) ?_
              refine r_if_ge (pc := 96) (tgt := 106) hG dX9_copy_96 (by decide) (fun c7 => ?_) (fun c7 => ?_)
              · refine r_iload (pc := 106) hG dX9_copy_106 rfl ?_
                refine r_if_lt (pc := 108) (tgt := 155) hG dX9_copy_108 (by decide) (fun c8 => ?_) (fun c8 => ?_)
                · refine r_aload_n (pc := 155) hG dX9_copy_155 rfl ?_
                  refine r_bipush (pc := 156) hG dX9_copy_156 bc_m2 ?_
                  refine cv_X9_no (pc := 158)  hG dX9_copy_158 tw_1273 (c_X9_no (bd_lit (n := 7) (by decide))) (by decide) (Nat.le_of_ble_eq_true rfl) ?_
                  exact hret _ _ _ _ dX9_copy_161 (pair_fst (show sp_X9_copy M a0 a1 a2 a3 a4 = ((sp_X9_no M (-2)).1, (sp_X9_no M (-2)).2) from (by unfold sp_X9_copy; exact ((if_pos c1).trans ((if_pos c2).trans ((if_neg c3).trans ((if_neg c4).trans ((if_neg c5).trans ((if_neg c6).trans ((if_pos c7).trans (if_pos c8))))))))))) (pair_snd (show sp_X9_copy M a0 a1 a2 a3 a4 = ((sp_X9_no M (-2)).1, (sp_X9_no M (-2)).2) from (by unfold sp_X9_copy; exact ((if_pos c1).trans ((if_pos c2).trans ((if_neg c3).trans ((if_neg c4).trans ((if_neg c5).trans ((if_neg c6).trans ((if_pos c7).trans (if_pos c8)))))))))))
                · refine r_iload_n (pc := 111) hG dX9_copy_111 rfl ?_
                  refine r_if_lt (pc := 112) (tgt := 155) hG dX9_copy_112 (by decide) (fun c9 => ?_) (fun c9 => ?_)
                  · refine r_aload_n (pc := 155) hG dX9_copy_155 rfl ?_
                    refine r_bipush (pc := 156) hG dX9_copy_156 bc_m2 ?_
                    refine cv_X9_no (pc := 158)  hG dX9_copy_158 tw_1273 (c_X9_no (bd_lit (n := 7) (by decide))) (by decide) (Nat.le_of_ble_eq_true rfl) ?_
                    exact hret _ _ _ _ dX9_copy_161 (pair_fst (show sp_X9_copy M a0 a1 a2 a3 a4 = ((sp_X9_no M (-2)).1, (sp_X9_no M (-2)).2) from (by unfold sp_X9_copy; exact ((if_pos c1).trans ((if_pos c2).trans ((if_neg c3).trans ((if_neg c4).trans ((if_neg c5).trans ((if_neg c6).trans ((if_pos c7).trans ((if_neg c8).trans (if_pos c9)))))))))))) (pair_snd (show sp_X9_copy M a0 a1 a2 a3 a4 = ((sp_X9_no M (-2)).1, (sp_X9_no M (-2)).2) from (by unfold sp_X9_copy; exact ((if_pos c1).trans ((if_pos c2).trans ((if_neg c3).trans ((if_neg c4).trans ((if_neg c5).trans ((if_neg c6).trans ((if_pos c7).trans ((if_neg c8).trans (if_pos c9))))))))))))
                  · refine r_iload (pc := 115) hG dX9_copy_115 rfl ?_
                    refine r_if_lt (pc := 117) (tgt := 155) hG dX9_copy_117 (by decide) (fun c10 => ?_) (fun c10 => ?_)
                    · refine r_aload_n (pc := 155) hG dX9_copy_155 rfl ?_
                      refine r_bipush (pc := 156) hG dX9_copy_156 bc_m2 ?_
                      refine cv_X9_no (pc := 158)  hG dX9_copy_158 tw_1273 (c_X9_no (bd_lit (n := 7) (by decide))) (by decide) (Nat.le_of_ble_eq_true rfl) ?_
                      exact hret _ _ _ _ dX9_copy_161 (pair_fst (show sp_X9_copy M a0 a1 a2 a3 a4 = ((sp_X9_no M (-2)).1, (sp_X9_no M (-2)).2) from (by unfold sp_X9_copy; exact ((if_pos c1).trans ((if_pos c2).trans ((if_neg c3).trans ((if_neg c4).trans ((if_neg c5).trans ((if_neg c6).trans ((if_pos c7).trans ((if_neg c8).trans ((if_neg c9).trans (if_pos c10))))))))))))) (pair_snd (show sp_X9_copy M a0 a1 a2 a3 a4 = ((sp_X9_no M (-2)).1, (sp_X9_no M (-2)).2) from (by unfold sp_X9_copy; exact ((if_pos c1).trans ((if_pos c2).trans ((if_neg c3).trans ((if_neg c4).trans ((if_neg c5).trans ((if_neg c6).trans ((if_pos c7).trans ((if_neg c8).trans ((if_neg c9).trans (if_pos c10)))))))))))))
                    · refine r_iload_n (pc := 120) hG dX9_copy_120 rfl ?_
                      refine r_i2l (pc := 121) hG dX9_copy_121 ?_
                      refine r_iload (pc := 122) hG dX9_copy_122 rfl ?_
                      refine r_i2l (pc := 124) hG dX9_copy_124 ?_
                      refine r_ladd (pc := 125) hG dX9_copy_125 ?_
                      refine r_aload_n (pc := 126) hG dX9_copy_126 rfl ?_
                      refine gf_X9_rowLength (pc := 127)  hG dX9_copy_127 tw_1187 ?_
                      refine r_iload_n (pc := 130) hG dX9_copy_130 rfl ?_
                      refine al_MrowLength (pc := 131)  hG dX9_copy_131 (ix_bd (isSh5 c1)) ?_
                      refine r_i2l (pc := 132) hG dX9_copy_132 ?_
                      refine r_lcmp (pc := 133) hG dX9_copy_133 ?_
                      refine r_lc_gt (pc := 134) (tgt := 155) hG dX9_copy_134 (by decide) (fun c11 => ?_) (fun c11 => ?_)
                      · refine r_aload_n (pc := 155) hG dX9_copy_155 rfl ?_
                        refine r_bipush (pc := 156) hG dX9_copy_156 bc_m2 ?_
                        refine cv_X9_no (pc := 158)  hG dX9_copy_158 tw_1273 (c_X9_no (bd_lit (n := 7) (by decide))) (by decide) (Nat.le_of_ble_eq_true rfl) ?_
                        exact hret _ _ _ _ dX9_copy_161 (pair_fst (show sp_X9_copy M a0 a1 a2 a3 a4 = ((sp_X9_no M (-2)).1, (sp_X9_no M (-2)).2) from (by unfold sp_X9_copy; exact ((if_pos c1).trans ((if_pos c2).trans ((if_neg c3).trans ((if_neg c4).trans ((if_neg c5).trans ((if_neg c6).trans ((if_pos c7).trans ((if_neg c8).trans ((if_neg c9).trans ((if_neg c10).trans (if_pos c11)))))))))))))) (pair_snd (show sp_X9_copy M a0 a1 a2 a3 a4 = ((sp_X9_no M (-2)).1, (sp_X9_no M (-2)).2) from (by unfold sp_X9_copy; exact ((if_pos c1).trans ((if_pos c2).trans ((if_neg c3).trans ((if_neg c4).trans ((if_neg c5).trans ((if_neg c6).trans ((if_pos c7).trans ((if_neg c8).trans ((if_neg c9).trans ((if_neg c10).trans (if_pos c11))))))))))))))
                      · refine r_iload (pc := 137) hG dX9_copy_137 rfl ?_
                        refine r_i2l (pc := 139) hG dX9_copy_139 ?_
                        refine r_iload (pc := 140) hG dX9_copy_140 rfl ?_
                        refine r_i2l (pc := 142) hG dX9_copy_142 ?_
                        refine r_ladd (pc := 143) hG dX9_copy_143 ?_
                        refine r_aload_n (pc := 144) hG dX9_copy_144 rfl ?_
                        refine gf_X9_rowLength (pc := 145)  hG dX9_copy_145 tw_1187 ?_
                        refine r_iload_n (pc := 148) hG dX9_copy_148 rfl ?_
                        refine al_MrowLength (pc := 149)  hG dX9_copy_149 (ix_bd (isSh5 c2)) ?_
                        refine r_i2l (pc := 150) hG dX9_copy_150 ?_
                        refine r_lcmp (pc := 151) hG dX9_copy_151 ?_
                        refine r_lc_le (pc := 152) (tgt := 162) hG dX9_copy_152 (by decide) (fun c12 => ?_) (fun c12 => ?_)
                        · refine r_iload_n (pc := 162) hG dX9_copy_162 rfl ?_
                          refine r_iload_n (pc := 163) hG dX9_copy_163 rfl ?_
                          refine r_icmp_ne (pc := 164) (tgt := 222) hG dX9_copy_164 (by decide) (fun c13 => ?_) (fun c13 => ?_)
                          · refine r_iconst (pc := 222) hG dX9_copy_222 ic_0 ?_
                            refine r_istore (pc := 223) (ls' := [_, _, _, _, _, _, _]) hG dX9_copy_223 rfl rfl ?_
                            have hb2 := cp_bd (hhl _ (bd_lt (isSh5 c1))).1 c8 c9 (Int64.not_lt.mp c11); have hb3 := cp_bd (hhl _ (bd_lt (isSh5 c2))).1 c8 c10 c12; have hl2 := bd_lt (hhl _ (bd_lt (isSh5 c1))).1; have hl3 := bd_lt (hhl _ (bd_lt (isSh5 c2))).1; have hn4 := hb2.2; have hn4l := bd_lt hn4
                            have hb225 : bd a4 41 := hn4
                            have hb225l := bd_lt hb225
                            have lp225 : ∀ i, i ≤ (tn a4) → ∀ b225 : MT, b225 = itN i (st_X9_copy_225 M a0 a1 a2 a3 a4) M → J G K b225 225 [some (rf K 140), some (.int a0), some (.int a1), some (.int a2), some (.int a3), some (.int a4), some (.int (nI i))] [] := by
                              refine up_ind (tn a4) (fun i hi225 ih225 => ?_)
                              intro b225 hg225
                              refine r_iload (pc := 225) hG dX9_copy_225 rfl ?_
                              refine r_iload (pc := 227) hG dX9_copy_227 rfl ?_
                              refine r_icmp_ge (pc := 229) (tgt := 267) hG dX9_copy_229 (by decide) (fun c14 => ?_) (fun c14 => ?_)
                              · have e225 : i = (tn a4) := by have := (bd_le hb225 (by omega)).mp c14; omega
                                subst hg225
                                subst e225
                                refine r_iload (pc := 267) hG dX9_copy_267 rfl ?_
                                exact hret _ _ _ _ dX9_copy_269 (pair_fst (show sp_X9_copy M a0 a1 a2 a3 a4 = (a4, itN (tn a4) (st_X9_copy_225 M a0 a1 a2 a3 a4) M) from (by unfold sp_X9_copy; exact ((if_pos c1).trans ((if_pos c2).trans ((if_neg c3).trans ((if_neg c4).trans ((if_neg c5).trans ((if_neg c6).trans ((if_pos c7).trans ((if_neg c8).trans ((if_neg c9).trans ((if_neg c10).trans ((if_neg c11).trans ((if_pos c12).trans (if_neg c13)))))))))))))))) (pair_snd (show sp_X9_copy M a0 a1 a2 a3 a4 = (a4, itN (tn a4) (st_X9_copy_225 M a0 a1 a2 a3 a4) M) from (by unfold sp_X9_copy; exact ((if_pos c1).trans ((if_pos c2).trans ((if_neg c3).trans ((if_neg c4).trans ((if_neg c5).trans ((if_neg c6).trans ((if_pos c7).trans ((if_neg c8).trans ((if_neg c9).trans ((if_neg c10).trans ((if_neg c11).trans ((if_pos c12).trans (if_neg c13))))))))))))))))
                              · have hl225 : i < (tn a4) := by have := mt (bd_le hb225 (by omega)).mpr c14; omega
                                refine r_aload_n (pc := 232) hG dX9_copy_232 rfl ?_
                                refine gf_X9_rowOf (pc := 233)  hG dX9_copy_233 tw_1188 ?_
                                refine r_bipush (pc := 236) hG dX9_copy_236 bc_40 ?_
                                refine r_iload_n (pc := 238) hG dX9_copy_238 rfl ?_
                                refine r_imul (pc := 239) hG dX9_copy_239 ?_
                                refine r_iload (pc := 240) hG dX9_copy_240 rfl ?_
                                refine r_iadd (pc := 242) hG dX9_copy_242 ?_
                                refine r_iload (pc := 243) hG dX9_copy_243 rfl ?_
                                refine r_iadd (pc := 245) hG dX9_copy_245 ?_
                                refine r_aload_n (pc := 246) hG dX9_copy_246 rfl ?_
                                refine gf_X9_rowOf (pc := 247)  hG dX9_copy_247 tw_1188 ?_
                                refine r_bipush (pc := 250) hG dX9_copy_250 bc_40 ?_
                                refine r_iload_n (pc := 252) hG dX9_copy_252 rfl ?_
                                refine r_imul (pc := 253) hG dX9_copy_253 ?_
                                refine r_iload_n (pc := 254) hG dX9_copy_254 rfl ?_
                                refine r_iadd (pc := 255) hG dX9_copy_255 ?_
                                refine r_iload (pc := 256) hG dX9_copy_256 rfl ?_
                                refine r_iadd (pc := 258) hG dX9_copy_258 ?_
                                refine al_MrowOf (pc := 259)  hG dX9_copy_259 (ix_bd (cp_ix (isSh5 c1) c9 (n := tn a4) (by omega) (by omega)).2) ?_
                                refine as_MrowOf (pc := 260)  hG dX9_copy_260 (ix_bd (cp_ix (isSh5 c2) c10 (n := tn a4) (by omega) (by omega)).2) ?_
                                refine r_iinc (pc := 261) (v := nI (i + 1)) (ls' := [_, _, _, _, _, _, _]) hG dX9_copy_261 rfl (nI_1 _) rfl rfl ?_
                                refine r_goto (pc := 264) (tgt := 225) hG dX9_copy_264 (by decide) ?_
                                have eN225 : u3 b225 8 (tn (((40 * a1) + a3) + (nI i))) (b225.2.2 8 (tn (((40 * a0) + a2) + (nI i)))) = st_X9_copy_225 M a0 a1 a2 a3 a4 i (itN i (st_X9_copy_225 M a0 a1 a2 a3 a4) M) := by rw [← hg225]; unfold st_X9_copy_225; exact Eq.symm rfl
                                refine J.wk (ls' := [some (rf K 140), some (.int a0), some (.int a1), some (.int a2), some (.int a3), some (.int a4), some (.int (nI (i + 1)))]) ?_ (Eq.refl 7) (wk_s rfl (wk_s rfl (wk_s rfl (wk_s rfl (wk_s rfl (wk_s rfl (wk_s rfl wk_0)))))))
                                exact ih225 hl225 (u3 b225 8 (tn (((40 * a1) + a3) + (nI i))) (b225.2.2 8 (tn (((40 * a0) + a2) + (nI i))))) eN225
                            exact (lp225 0 (Nat.zero_le _) _ rfl).wk (Eq.refl 7) (wk_s rfl (wk_s rfl (wk_s rfl (wk_s rfl (wk_s rfl (wk_s rfl (wk_s rfl wk_0)))))))
                          · refine r_iload_n (pc := 167) hG dX9_copy_167 rfl ?_
                            refine r_iload (pc := 168) hG dX9_copy_168 rfl ?_
                            refine r_icmp_ge (pc := 170) (tgt := 222) hG dX9_copy_170 (by decide) (fun c15 => ?_) (fun c15 => ?_)
                            · refine r_iconst (pc := 222) hG dX9_copy_222 ic_0 ?_
                              refine r_istore (pc := 223) (ls' := [_, _, _, _, _, _, _]) hG dX9_copy_223 rfl rfl ?_
                              have hb2 := cp_bd (hhl _ (bd_lt (isSh5 c1))).1 c8 c9 (Int64.not_lt.mp c11); have hb3 := cp_bd (hhl _ (bd_lt (isSh5 c2))).1 c8 c10 c12; have hl2 := bd_lt (hhl _ (bd_lt (isSh5 c1))).1; have hl3 := bd_lt (hhl _ (bd_lt (isSh5 c2))).1; have hn4 := hb2.2; have hn4l := bd_lt hn4
                              have hb225 : bd a4 41 := hn4
                              have hb225l := bd_lt hb225
                              have lp225 : ∀ i, i ≤ (tn a4) → ∀ b225 : MT, b225 = itN i (st_X9_copy_225 M a0 a1 a2 a3 a4) M → J G K b225 225 [some (rf K 140), some (.int a0), some (.int a1), some (.int a2), some (.int a3), some (.int a4), some (.int (nI i))] [] := by
                                refine up_ind (tn a4) (fun i hi225 ih225 => ?_)
                                intro b225 hg225
                                refine r_iload (pc := 225) hG dX9_copy_225 rfl ?_
                                refine r_iload (pc := 227) hG dX9_copy_227 rfl ?_
                                refine r_icmp_ge (pc := 229) (tgt := 267) hG dX9_copy_229 (by decide) (fun c16 => ?_) (fun c16 => ?_)
                                · have e225 : i = (tn a4) := by have := (bd_le hb225 (by omega)).mp c16; omega
                                  subst hg225
                                  subst e225
                                  refine r_iload (pc := 267) hG dX9_copy_267 rfl ?_
                                  exact hret _ _ _ _ dX9_copy_269 (pair_fst (show sp_X9_copy M a0 a1 a2 a3 a4 = (a4, itN (tn a4) (st_X9_copy_225 M a0 a1 a2 a3 a4) M) from (by unfold sp_X9_copy; exact ((if_pos c1).trans ((if_pos c2).trans ((if_neg c3).trans ((if_neg c4).trans ((if_neg c5).trans ((if_neg c6).trans ((if_pos c7).trans ((if_neg c8).trans ((if_neg c9).trans ((if_neg c10).trans ((if_neg c11).trans ((if_pos c12).trans ((if_pos c13).trans (if_pos c15))))))))))))))))) (pair_snd (show sp_X9_copy M a0 a1 a2 a3 a4 = (a4, itN (tn a4) (st_X9_copy_225 M a0 a1 a2 a3 a4) M) from (by unfold sp_X9_copy; exact ((if_pos c1).trans ((if_pos c2).trans ((if_neg c3).trans ((if_neg c4).trans ((if_neg c5).trans ((if_neg c6).trans ((if_pos c7).trans ((if_neg c8).trans ((if_neg c9).trans ((if_neg c10).trans ((if_neg c11).trans ((if_pos c12).trans ((if_pos c13).trans (if_pos c15)))))))))))))))))
                                · have hl225 : i < (tn a4) := by have := mt (bd_le hb225 (by omega)).mpr c16; omega
                                  refine r_aload_n (pc := 232) hG dX9_copy_232 rfl ?_
                                  refine gf_X9_rowOf (pc := 233)  hG dX9_copy_233 tw_1188 ?_
                                  refine r_bipush (pc := 236) hG dX9_copy_236 bc_40 ?_
                                  refine r_iload_n (pc := 238) hG dX9_copy_238 rfl ?_
                                  refine r_imul (pc := 239) hG dX9_copy_239 ?_
                                  refine r_iload (pc := 240) hG dX9_copy_240 rfl ?_
                                  refine r_iadd (pc := 242) hG dX9_copy_242 ?_
                                  refine r_iload (pc := 243) hG dX9_copy_243 rfl ?_
                                  refine r_iadd (pc := 245) hG dX9_copy_245 ?_
                                  refine r_aload_n (pc := 246) hG dX9_copy_246 rfl ?_
                                  refine gf_X9_rowOf (pc := 247)  hG dX9_copy_247 tw_1188 ?_
                                  refine r_bipush (pc := 250) hG dX9_copy_250 bc_40 ?_
                                  refine r_iload_n (pc := 252) hG dX9_copy_252 rfl ?_
                                  refine r_imul (pc := 253) hG dX9_copy_253 ?_
                                  refine r_iload_n (pc := 254) hG dX9_copy_254 rfl ?_
                                  refine r_iadd (pc := 255) hG dX9_copy_255 ?_
                                  refine r_iload (pc := 256) hG dX9_copy_256 rfl ?_
                                  refine r_iadd (pc := 258) hG dX9_copy_258 ?_
                                  refine al_MrowOf (pc := 259)  hG dX9_copy_259 (ix_bd (cp_ix (isSh5 c1) c9 (n := tn a4) (by omega) (by omega)).2) ?_
                                  refine as_MrowOf (pc := 260)  hG dX9_copy_260 (ix_bd (cp_ix (isSh5 c2) c10 (n := tn a4) (by omega) (by omega)).2) ?_
                                  refine r_iinc (pc := 261) (v := nI (i + 1)) (ls' := [_, _, _, _, _, _, _]) hG dX9_copy_261 rfl (nI_1 _) rfl rfl ?_
                                  refine r_goto (pc := 264) (tgt := 225) hG dX9_copy_264 (by decide) ?_
                                  have eN225 : u3 b225 8 (tn (((40 * a1) + a3) + (nI i))) (b225.2.2 8 (tn (((40 * a0) + a2) + (nI i)))) = st_X9_copy_225 M a0 a1 a2 a3 a4 i (itN i (st_X9_copy_225 M a0 a1 a2 a3 a4) M) := by rw [← hg225]; unfold st_X9_copy_225; exact Eq.symm rfl
                                  refine J.wk (ls' := [some (rf K 140), some (.int a0), some (.int a1), some (.int a2), some (.int a3), some (.int a4), some (.int (nI (i + 1)))]) ?_ (Eq.refl 7) (wk_s rfl (wk_s rfl (wk_s rfl (wk_s rfl (wk_s rfl (wk_s rfl (wk_s rfl wk_0)))))))
                                  exact ih225 hl225 (u3 b225 8 (tn (((40 * a1) + a3) + (nI i))) (b225.2.2 8 (tn (((40 * a0) + a2) + (nI i))))) eN225
                              exact (lp225 0 (Nat.zero_le _) _ rfl).wk (Eq.refl 7) (wk_s rfl (wk_s rfl (wk_s rfl (wk_s rfl (wk_s rfl (wk_s rfl (wk_s rfl wk_0)))))))
                            · refine r_iload (pc := 173) hG dX9_copy_173 rfl ?_
                              refine r_iconst (pc := 175) hG dX9_copy_175 ic_1 ?_
                              refine r_isub (pc := 176) hG dX9_copy_176 ?_
                              refine r_istore (pc := 177) (ls' := [_, _, _, _, _, _, _]) hG dX9_copy_177 rfl rfl ?_
                              have hb2 := cp_bd (hhl _ (bd_lt (isSh5 c1))).1 c8 c9 (Int64.not_lt.mp c11); have hb3 := cp_bd (hhl _ (bd_lt (isSh5 c2))).1 c8 c10 c12; have hl2 := bd_lt (hhl _ (bd_lt (isSh5 c1))).1; have hl3 := bd_lt (hhl _ (bd_lt (isSh5 c2))).1; have hn4 := hb2.2; have hn4l := bd_lt hn4
                              have lp179 : ∀ i, i ≤ (tn a4) → ∀ b179 : MT, b179 = itN i (st_X9_copy_179 M a0 a1 a2 a3 a4) M → J G K b179 179 [some (rf K 140), some (.int a0), some (.int a1), some (.int a2), some (.int a3), some (.int a4), some (.int (dn (tn a4) i))] [] := by
                                refine up_ind (tn a4) (fun i hi179 ih179 => ?_)
                                intro b179 hg179
                                refine r_iload (pc := 179) hG dX9_copy_179 rfl ?_
                                refine r_if_lt (pc := 181) (tgt := 219) hG dX9_copy_181 (by decide) (fun c17 => ?_) (fun c17 => ?_)
                                · have e179 : i = (tn a4) := by have := (dn_neg (by omega)).mp c17; omega
                                  subst hg179
                                  subst e179
                                  refine r_goto (pc := 219) (tgt := 267) hG dX9_copy_219 (by decide) ?_
                                  refine r_iload (pc := 267) hG dX9_copy_267 rfl ?_
                                  exact hret _ _ _ _ dX9_copy_269 (pair_fst (show sp_X9_copy M a0 a1 a2 a3 a4 = (a4, itN (tn a4) (st_X9_copy_179 M a0 a1 a2 a3 a4) M) from (by unfold sp_X9_copy; exact ((if_pos c1).trans ((if_pos c2).trans ((if_neg c3).trans ((if_neg c4).trans ((if_neg c5).trans ((if_neg c6).trans ((if_pos c7).trans ((if_neg c8).trans ((if_neg c9).trans ((if_neg c10).trans ((if_neg c11).trans ((if_pos c12).trans ((if_pos c13).trans (if_neg c15))))))))))))))))) (pair_snd (show sp_X9_copy M a0 a1 a2 a3 a4 = (a4, itN (tn a4) (st_X9_copy_179 M a0 a1 a2 a3 a4) M) from (by unfold sp_X9_copy; exact ((if_pos c1).trans ((if_pos c2).trans ((if_neg c3).trans ((if_neg c4).trans ((if_neg c5).trans ((if_neg c6).trans ((if_pos c7).trans ((if_neg c8).trans ((if_neg c9).trans ((if_neg c10).trans ((if_neg c11).trans ((if_pos c12).trans ((if_pos c13).trans (if_neg c15)))))))))))))))))
                                · have hl179 : i < (tn a4) := by have := mt (dn_neg (by omega)).mpr c17; omega
                                  refine r_aload_n (pc := 184) hG dX9_copy_184 rfl ?_
                                  refine gf_X9_rowOf (pc := 185)  hG dX9_copy_185 tw_1188 ?_
                                  refine r_bipush (pc := 188) hG dX9_copy_188 bc_40 ?_
                                  refine r_iload_n (pc := 190) hG dX9_copy_190 rfl ?_
                                  refine r_imul (pc := 191) hG dX9_copy_191 ?_
                                  refine r_iload (pc := 192) hG dX9_copy_192 rfl ?_
                                  refine r_iadd (pc := 194) hG dX9_copy_194 ?_
                                  refine r_iload (pc := 195) hG dX9_copy_195 rfl ?_
                                  refine r_iadd (pc := 197) hG dX9_copy_197 ?_
                                  refine r_aload_n (pc := 198) hG dX9_copy_198 rfl ?_
                                  refine gf_X9_rowOf (pc := 199)  hG dX9_copy_199 tw_1188 ?_
                                  refine r_bipush (pc := 202) hG dX9_copy_202 bc_40 ?_
                                  refine r_iload_n (pc := 204) hG dX9_copy_204 rfl ?_
                                  refine r_imul (pc := 205) hG dX9_copy_205 ?_
                                  refine r_iload_n (pc := 206) hG dX9_copy_206 rfl ?_
                                  refine r_iadd (pc := 207) hG dX9_copy_207 ?_
                                  refine r_iload (pc := 208) hG dX9_copy_208 rfl ?_
                                  refine r_iadd (pc := 210) hG dX9_copy_210 ?_
                                  refine al_MrowOf (pc := 211)  hG dX9_copy_211 (ix_bd (by rw [dn_in (by omega)]; exact (cp_ix (isSh5 c1) c9 (n := tn a4) (by omega) (by omega)).2)) ?_
                                  refine as_MrowOf (pc := 212)  hG dX9_copy_212 (ix_bd (by rw [dn_in (by omega)]; exact (cp_ix (isSh5 c2) c10 (n := tn a4) (by omega) (by omega)).2)) ?_
                                  refine r_iinc (pc := 213) (v := (dn (tn a4) i) + (-1)) (ls' := [_, _, _, _, _, _, _]) hG dX9_copy_213 rfl rfl rfl rfl ?_
                                  refine r_goto (pc := 216) (tgt := 179) hG dX9_copy_216 (by decide) ?_
                                  have eN179 : u3 b179 8 (tn (((40 * a1) + a3) + (dn (tn a4) i))) (b179.2.2 8 (tn (((40 * a0) + a2) + (dn (tn a4) i)))) = st_X9_copy_179 M a0 a1 a2 a3 a4 i (itN i (st_X9_copy_179 M a0 a1 a2 a3 a4) M) := by rw [← hg179]; unfold st_X9_copy_179; exact Eq.symm rfl
                                  refine J.wk (ls' := [some (rf K 140), some (.int a0), some (.int a1), some (.int a2), some (.int a3), some (.int a4), some (.int (dn (tn a4) (i + 1)))]) ?_ (Eq.refl 7) (wk_s rfl (wk_s rfl (wk_s rfl (wk_s rfl (wk_s rfl (wk_s rfl (wk_s (congrArg Value.int (dn_step hl179 (by omega))) wk_0)))))))
                                  exact ih179 hl179 (u3 b179 8 (tn (((40 * a1) + a3) + (dn (tn a4) i))) (b179.2.2 8 (tn (((40 * a0) + a2) + (dn (tn a4) i))))) eN179
                              exact (lp179 0 (Nat.zero_le _) _ rfl).wk (Eq.refl 7) (wk_s rfl (wk_s rfl (wk_s rfl (wk_s rfl (wk_s rfl (wk_s rfl (wk_s (congrArg Value.int (dn_0 (k := 41) hn4 (Nat.le_of_ble_eq_true rfl) rfl)) wk_0)))))))
                        · refine r_aload_n (pc := 155) hG dX9_copy_155 rfl ?_
                          refine r_bipush (pc := 156) hG dX9_copy_156 bc_m2 ?_
                          refine cv_X9_no (pc := 158)  hG dX9_copy_158 tw_1273 (c_X9_no (bd_lit (n := 7) (by decide))) (by decide) (Nat.le_of_ble_eq_true rfl) ?_
                          exact hret _ _ _ _ dX9_copy_161 (pair_fst (show sp_X9_copy M a0 a1 a2 a3 a4 = ((sp_X9_no M (-2)).1, (sp_X9_no M (-2)).2) from (by unfold sp_X9_copy; exact ((if_pos c1).trans ((if_pos c2).trans ((if_neg c3).trans ((if_neg c4).trans ((if_neg c5).trans ((if_neg c6).trans ((if_pos c7).trans ((if_neg c8).trans ((if_neg c9).trans ((if_neg c10).trans ((if_neg c11).trans (if_neg c12))))))))))))))) (pair_snd (show sp_X9_copy M a0 a1 a2 a3 a4 = ((sp_X9_no M (-2)).1, (sp_X9_no M (-2)).2) from (by unfold sp_X9_copy; exact ((if_pos c1).trans ((if_pos c2).trans ((if_neg c3).trans ((if_neg c4).trans ((if_neg c5).trans ((if_neg c6).trans ((if_pos c7).trans ((if_neg c8).trans ((if_neg c9).trans ((if_neg c10).trans ((if_neg c11).trans (if_neg c12)))))))))))))))
              · refine r_aload_n (pc := 99) hG dX9_copy_99 rfl ?_
                refine r_bipush (pc := 100) hG dX9_copy_100 bc_m4 ?_
                refine cv_X9_no (pc := 102)  hG dX9_copy_102 tw_1273 (c_X9_no (bd_lit (n := 7) (by decide))) (by decide) (Nat.le_of_ble_eq_true rfl) ?_
                exact hret _ _ _ _ dX9_copy_105 (pair_fst (show sp_X9_copy M a0 a1 a2 a3 a4 = ((sp_X9_no M (-4)).1, (sp_X9_no M (-4)).2) from (by unfold sp_X9_copy; exact ((if_pos c1).trans ((if_pos c2).trans ((if_neg c3).trans ((if_neg c4).trans ((if_neg c5).trans ((if_neg c6).trans (if_neg c7)))))))))) (pair_snd (show sp_X9_copy M a0 a1 a2 a3 a4 = ((sp_X9_no M (-4)).1, (sp_X9_no M (-4)).2) from (by unfold sp_X9_copy; exact ((if_pos c1).trans ((if_pos c2).trans ((if_neg c3).trans ((if_neg c4).trans ((if_neg c5).trans ((if_neg c6).trans (if_neg c7))))))))))
          · refine r_aload_n (pc := 51) hG dX9_copy_51 rfl ?_
            refine r_iload_n (pc := 52) hG dX9_copy_52 rfl ?_
            refine cv_X9_isRow (pc := 53)  hG dX9_copy_53 tw_1281 (c_X9_isRow (isSh5 c2)) (by decide) (Nat.le_of_ble_eq_true rfl) ?_
            refine r_ifz_eq (pc := 56) (tgt := 81) hG dX9_copy_56 (by decide) (fun c18 => ?_) (fun c18 => ?_)
            · refine r_aload_n (pc := 81) hG dX9_copy_81 rfl ?_
              refine gf_X9_holding (pc := 82)  hG dX9_copy_82 tw_1186 ?_
              refine r_iload_n (pc := 85) hG dX9_copy_85 rfl ?_
              refine al_Mholding (pc := 86)  hG dX9_copy_86 (ix_bd (isSh5 c1)) ?_
              refine r_if_lt (pc := 87) (tgt := 99) hG dX9_copy_87 (by decide) (fun c19 => ?_) (fun c19 => ?_)
              · refine r_aload_n (pc := 99) hG dX9_copy_99 rfl ?_
                refine r_bipush (pc := 100) hG dX9_copy_100 bc_m4 ?_
                refine cv_X9_no (pc := 102)  hG dX9_copy_102 tw_1273 (c_X9_no (bd_lit (n := 7) (by decide))) (by decide) (Nat.le_of_ble_eq_true rfl) ?_
                exact hret _ _ _ _ dX9_copy_105 (pair_fst (show sp_X9_copy M a0 a1 a2 a3 a4 = ((sp_X9_no M (-4)).1, (sp_X9_no M (-4)).2) from (by unfold sp_X9_copy; exact ((if_pos c1).trans ((if_pos c2).trans ((if_neg c3).trans ((if_neg c4).trans ((if_pos c5).trans ((if_neg c18).trans (if_pos c19)))))))))) (pair_snd (show sp_X9_copy M a0 a1 a2 a3 a4 = ((sp_X9_no M (-4)).1, (sp_X9_no M (-4)).2) from (by unfold sp_X9_copy; exact ((if_pos c1).trans ((if_pos c2).trans ((if_neg c3).trans ((if_neg c4).trans ((if_pos c5).trans ((if_neg c18).trans (if_pos c19))))))))))
              · refine r_aload_n (pc := 90) hG dX9_copy_90 rfl ?_
                refine gf_X9_holding (pc := 91)  hG dX9_copy_91 tw_1186 ?_
                refine r_iload_n (pc := 94) hG dX9_copy_94 rfl ?_
                refine al_Mholding (pc := 95)  hG dX9_copy_95 (ix_bd (isSh5 c2)) ?_
                refine r_if_ge (pc := 96) (tgt := 106) hG dX9_copy_96 (by decide) (fun c20 => ?_) (fun c20 => ?_)
                · refine r_iload (pc := 106) hG dX9_copy_106 rfl ?_
                  refine r_if_lt (pc := 108) (tgt := 155) hG dX9_copy_108 (by decide) (fun c21 => ?_) (fun c21 => ?_)
                  · refine r_aload_n (pc := 155) hG dX9_copy_155 rfl ?_
                    refine r_bipush (pc := 156) hG dX9_copy_156 bc_m2 ?_
                    refine cv_X9_no (pc := 158)  hG dX9_copy_158 tw_1273 (c_X9_no (bd_lit (n := 7) (by decide))) (by decide) (Nat.le_of_ble_eq_true rfl) ?_
                    exact hret _ _ _ _ dX9_copy_161 (pair_fst (show sp_X9_copy M a0 a1 a2 a3 a4 = ((sp_X9_no M (-2)).1, (sp_X9_no M (-2)).2) from (by unfold sp_X9_copy; exact ((if_pos c1).trans ((if_pos c2).trans ((if_neg c3).trans ((if_neg c4).trans ((if_pos c5).trans ((if_neg c18).trans ((if_neg c19).trans ((if_pos c20).trans (if_pos c21)))))))))))) (pair_snd (show sp_X9_copy M a0 a1 a2 a3 a4 = ((sp_X9_no M (-2)).1, (sp_X9_no M (-2)).2) from (by unfold sp_X9_copy; exact ((if_pos c1).trans ((if_pos c2).trans ((if_neg c3).trans ((if_neg c4).trans ((if_pos c5).trans ((if_neg c18).trans ((if_neg c19).trans ((if_pos c20).trans (if_pos c21))))))))))))
                  · refine r_iload_n (pc := 111) hG dX9_copy_111 rfl ?_
                    refine r_if_lt (pc := 112) (tgt := 155) hG dX9_copy_112 (by decide) (fun c22 => ?_) (fun c22 => ?_)
                    · refine r_aload_n (pc := 155) hG dX9_copy_155 rfl ?_
                      refine r_bipush (pc := 156) hG dX9_copy_156 bc_m2 ?_
                      refine cv_X9_no (pc := 158)  hG dX9_copy_158 tw_1273 (c_X9_no (bd_lit (n := 7) (by decide))) (by decide) (Nat.le_of_ble_eq_true rfl) ?_
                      exact hret _ _ _ _ dX9_copy_161 (pair_fst (show sp_X9_copy M a0 a1 a2 a3 a4 = ((sp_X9_no M (-2)).1, (sp_X9_no M (-2)).2) from (by unfold sp_X9_copy; exact ((if_pos c1).trans ((if_pos c2).trans ((if_neg c3).trans ((if_neg c4).trans ((if_pos c5).trans ((if_neg c18).trans ((if_neg c19).trans ((if_pos c20).trans ((if_neg c21).trans (if_pos c22))))))))))))) (pair_snd (show sp_X9_copy M a0 a1 a2 a3 a4 = ((sp_X9_no M (-2)).1, (sp_X9_no M (-2)).2) from (by unfold sp_X9_copy; exact ((if_pos c1).trans ((if_pos c2).trans ((if_neg c3).trans ((if_neg c4).trans ((if_pos c5).trans ((if_neg c18).trans ((if_neg c19).trans ((if_pos c20).trans ((if_neg c21).trans (if_pos c22)))))))))))))
                    · refine r_iload (pc := 115) hG dX9_copy_115 rfl ?_
                      refine r_if_lt (pc := 117) (tgt := 155) hG dX9_copy_117 (by decide) (fun c23 => ?_) (fun c23 => ?_)
                      · refine r_aload_n (pc := 155) hG dX9_copy_155 rfl ?_
                        refine r_bipush (pc := 156) hG dX9_copy_156 bc_m2 ?_
                        refine cv_X9_no (pc := 158)  hG dX9_copy_158 tw_1273 (c_X9_no (bd_lit (n := 7) (by decide))) (by decide) (Nat.le_of_ble_eq_true rfl) ?_
                        exact hret _ _ _ _ dX9_copy_161 (pair_fst (show sp_X9_copy M a0 a1 a2 a3 a4 = ((sp_X9_no M (-2)).1, (sp_X9_no M (-2)).2) from (by unfold sp_X9_copy; exact ((if_pos c1).trans ((if_pos c2).trans ((if_neg c3).trans ((if_neg c4).trans ((if_pos c5).trans ((if_neg c18).trans ((if_neg c19).trans ((if_pos c20).trans ((if_neg c21).trans ((if_neg c22).trans (if_pos c23)))))))))))))) (pair_snd (show sp_X9_copy M a0 a1 a2 a3 a4 = ((sp_X9_no M (-2)).1, (sp_X9_no M (-2)).2) from (by unfold sp_X9_copy; exact ((if_pos c1).trans ((if_pos c2).trans ((if_neg c3).trans ((if_neg c4).trans ((if_pos c5).trans ((if_neg c18).trans ((if_neg c19).trans ((if_pos c20).trans ((if_neg c21).trans ((if_neg c22).trans (if_pos c23))))))))))))))
                      · refine r_iload_n (pc := 120) hG dX9_copy_120 rfl ?_
                        refine r_i2l (pc := 121) hG dX9_copy_121 ?_
                        refine r_iload (pc := 122) hG dX9_copy_122 rfl ?_
                        refine r_i2l (pc := 124) hG dX9_copy_124 ?_
                        refine r_ladd (pc := 125) hG dX9_copy_125 ?_
                        refine r_aload_n (pc := 126) hG dX9_copy_126 rfl ?_
                        refine gf_X9_rowLength (pc := 127)  hG dX9_copy_127 tw_1187 ?_
                        refine r_iload_n (pc := 130) hG dX9_copy_130 rfl ?_
                        refine al_MrowLength (pc := 131)  hG dX9_copy_131 (ix_bd (isSh5 c1)) ?_
                        refine r_i2l (pc := 132) hG dX9_copy_132 ?_
                        refine r_lcmp (pc := 133) hG dX9_copy_133 ?_
                        refine r_lc_gt (pc := 134) (tgt := 155) hG dX9_copy_134 (by decide) (fun c24 => ?_) (fun c24 => ?_)
                        · refine r_aload_n (pc := 155) hG dX9_copy_155 rfl ?_
                          refine r_bipush (pc := 156) hG dX9_copy_156 bc_m2 ?_
                          refine cv_X9_no (pc := 158)  hG dX9_copy_158 tw_1273 (c_X9_no (bd_lit (n := 7) (by decide))) (by decide) (Nat.le_of_ble_eq_true rfl) ?_
                          exact hret _ _ _ _ dX9_copy_161 (pair_fst (show sp_X9_copy M a0 a1 a2 a3 a4 = ((sp_X9_no M (-2)).1, (sp_X9_no M (-2)).2) from (by unfold sp_X9_copy; exact ((if_pos c1).trans ((if_pos c2).trans ((if_neg c3).trans ((if_neg c4).trans ((if_pos c5).trans ((if_neg c18).trans ((if_neg c19).trans ((if_pos c20).trans ((if_neg c21).trans ((if_neg c22).trans ((if_neg c23).trans (if_pos c24))))))))))))))) (pair_snd (show sp_X9_copy M a0 a1 a2 a3 a4 = ((sp_X9_no M (-2)).1, (sp_X9_no M (-2)).2) from (by unfold sp_X9_copy; exact ((if_pos c1).trans ((if_pos c2).trans ((if_neg c3).trans ((if_neg c4).trans ((if_pos c5).trans ((if_neg c18).trans ((if_neg c19).trans ((if_pos c20).trans ((if_neg c21).trans ((if_neg c22).trans ((if_neg c23).trans (if_pos c24)))))))))))))))
                        · refine r_iload (pc := 137) hG dX9_copy_137 rfl ?_
                          refine r_i2l (pc := 139) hG dX9_copy_139 ?_
                          refine r_iload (pc := 140) hG dX9_copy_140 rfl ?_
                          refine r_i2l (pc := 142) hG dX9_copy_142 ?_
                          refine r_ladd (pc := 143) hG dX9_copy_143 ?_
                          refine r_aload_n (pc := 144) hG dX9_copy_144 rfl ?_
                          refine gf_X9_rowLength (pc := 145)  hG dX9_copy_145 tw_1187 ?_
                          refine r_iload_n (pc := 148) hG dX9_copy_148 rfl ?_
                          refine al_MrowLength (pc := 149)  hG dX9_copy_149 (ix_bd (isSh5 c2)) ?_
                          refine r_i2l (pc := 150) hG dX9_copy_150 ?_
                          refine r_lcmp (pc := 151) hG dX9_copy_151 ?_
                          refine r_lc_le (pc := 152) (tgt := 162) hG dX9_copy_152 (by decide) (fun c25 => ?_) (fun c25 => ?_)
                          · refine r_iload_n (pc := 162) hG dX9_copy_162 rfl ?_
                            refine r_iload_n (pc := 163) hG dX9_copy_163 rfl ?_
                            refine r_icmp_ne (pc := 164) (tgt := 222) hG dX9_copy_164 (by decide) (fun c26 => ?_) (fun c26 => ?_)
                            · refine r_iconst (pc := 222) hG dX9_copy_222 ic_0 ?_
                              refine r_istore (pc := 223) (ls' := [_, _, _, _, _, _, _]) hG dX9_copy_223 rfl rfl ?_
                              have hb2 := cp_bd (hhl _ (bd_lt (isSh5 c1))).1 c21 c22 (Int64.not_lt.mp c24); have hb3 := cp_bd (hhl _ (bd_lt (isSh5 c2))).1 c21 c23 c25; have hl2 := bd_lt (hhl _ (bd_lt (isSh5 c1))).1; have hl3 := bd_lt (hhl _ (bd_lt (isSh5 c2))).1; have hn4 := hb2.2; have hn4l := bd_lt hn4
                              have hb225 : bd a4 41 := hn4
                              have hb225l := bd_lt hb225
                              have lp225 : ∀ i, i ≤ (tn a4) → ∀ b225 : MT, b225 = itN i (st_X9_copy_225 M a0 a1 a2 a3 a4) M → J G K b225 225 [some (rf K 140), some (.int a0), some (.int a1), some (.int a2), some (.int a3), some (.int a4), some (.int (nI i))] [] := by
                                refine up_ind (tn a4) (fun i hi225 ih225 => ?_)
                                intro b225 hg225
                                refine r_iload (pc := 225) hG dX9_copy_225 rfl ?_
                                refine r_iload (pc := 227) hG dX9_copy_227 rfl ?_
                                refine r_icmp_ge (pc := 229) (tgt := 267) hG dX9_copy_229 (by decide) (fun c27 => ?_) (fun c27 => ?_)
                                · have e225 : i = (tn a4) := by have := (bd_le hb225 (by omega)).mp c27; omega
                                  subst hg225
                                  subst e225
                                  refine r_iload (pc := 267) hG dX9_copy_267 rfl ?_
                                  exact hret _ _ _ _ dX9_copy_269 (pair_fst (show sp_X9_copy M a0 a1 a2 a3 a4 = (a4, itN (tn a4) (st_X9_copy_225 M a0 a1 a2 a3 a4) M) from (by unfold sp_X9_copy; exact ((if_pos c1).trans ((if_pos c2).trans ((if_neg c3).trans ((if_neg c4).trans ((if_pos c5).trans ((if_neg c18).trans ((if_neg c19).trans ((if_pos c20).trans ((if_neg c21).trans ((if_neg c22).trans ((if_neg c23).trans ((if_neg c24).trans ((if_pos c25).trans (if_neg c26))))))))))))))))) (pair_snd (show sp_X9_copy M a0 a1 a2 a3 a4 = (a4, itN (tn a4) (st_X9_copy_225 M a0 a1 a2 a3 a4) M) from (by unfold sp_X9_copy; exact ((if_pos c1).trans ((if_pos c2).trans ((if_neg c3).trans ((if_neg c4).trans ((if_pos c5).trans ((if_neg c18).trans ((if_neg c19).trans ((if_pos c20).trans ((if_neg c21).trans ((if_neg c22).trans ((if_neg c23).trans ((if_neg c24).trans ((if_pos c25).trans (if_neg c26)))))))))))))))))
                                · have hl225 : i < (tn a4) := by have := mt (bd_le hb225 (by omega)).mpr c27; omega
                                  refine r_aload_n (pc := 232) hG dX9_copy_232 rfl ?_
                                  refine gf_X9_rowOf (pc := 233)  hG dX9_copy_233 tw_1188 ?_
                                  refine r_bipush (pc := 236) hG dX9_copy_236 bc_40 ?_
                                  refine r_iload_n (pc := 238) hG dX9_copy_238 rfl ?_
                                  refine r_imul (pc := 239) hG dX9_copy_239 ?_
                                  refine r_iload (pc := 240) hG dX9_copy_240 rfl ?_
                                  refine r_iadd (pc := 242) hG dX9_copy_242 ?_
                                  refine r_iload (pc := 243) hG dX9_copy_243 rfl ?_
                                  refine r_iadd (pc := 245) hG dX9_copy_245 ?_
                                  refine r_aload_n (pc := 246) hG dX9_copy_246 rfl ?_
                                  refine gf_X9_rowOf (pc := 247)  hG dX9_copy_247 tw_1188 ?_
                                  refine r_bipush (pc := 250) hG dX9_copy_250 bc_40 ?_
                                  refine r_iload_n (pc := 252) hG dX9_copy_252 rfl ?_
                                  refine r_imul (pc := 253) hG dX9_copy_253 ?_
                                  refine r_iload_n (pc := 254) hG dX9_copy_254 rfl ?_
                                  refine r_iadd (pc := 255) hG dX9_copy_255 ?_
                                  refine r_iload (pc := 256) hG dX9_copy_256 rfl ?_
                                  refine r_iadd (pc := 258) hG dX9_copy_258 ?_
                                  refine al_MrowOf (pc := 259)  hG dX9_copy_259 (ix_bd (cp_ix (isSh5 c1) c22 (n := tn a4) (by omega) (by omega)).2) ?_
                                  refine as_MrowOf (pc := 260)  hG dX9_copy_260 (ix_bd (cp_ix (isSh5 c2) c23 (n := tn a4) (by omega) (by omega)).2) ?_
                                  refine r_iinc (pc := 261) (v := nI (i + 1)) (ls' := [_, _, _, _, _, _, _]) hG dX9_copy_261 rfl (nI_1 _) rfl rfl ?_
                                  refine r_goto (pc := 264) (tgt := 225) hG dX9_copy_264 (by decide) ?_
                                  have eN225 : u3 b225 8 (tn (((40 * a1) + a3) + (nI i))) (b225.2.2 8 (tn (((40 * a0) + a2) + (nI i)))) = st_X9_copy_225 M a0 a1 a2 a3 a4 i (itN i (st_X9_copy_225 M a0 a1 a2 a3 a4) M) := by rw [← hg225]; unfold st_X9_copy_225; exact Eq.symm rfl
                                  refine J.wk (ls' := [some (rf K 140), some (.int a0), some (.int a1), some (.int a2), some (.int a3), some (.int a4), some (.int (nI (i + 1)))]) ?_ (Eq.refl 7) (wk_s rfl (wk_s rfl (wk_s rfl (wk_s rfl (wk_s rfl (wk_s rfl (wk_s rfl wk_0)))))))
                                  exact ih225 hl225 (u3 b225 8 (tn (((40 * a1) + a3) + (nI i))) (b225.2.2 8 (tn (((40 * a0) + a2) + (nI i))))) eN225
                              exact (lp225 0 (Nat.zero_le _) _ rfl).wk (Eq.refl 7) (wk_s rfl (wk_s rfl (wk_s rfl (wk_s rfl (wk_s rfl (wk_s rfl (wk_s rfl wk_0)))))))
                            · refine r_iload_n (pc := 167) hG dX9_copy_167 rfl ?_
                              refine r_iload (pc := 168) hG dX9_copy_168 rfl ?_
                              refine r_icmp_ge (pc := 170) (tgt := 222) hG dX9_copy_170 (by decide) (fun c28 => ?_) (fun c28 => ?_)
                              · refine r_iconst (pc := 222) hG dX9_copy_222 ic_0 ?_
                                refine r_istore (pc := 223) (ls' := [_, _, _, _, _, _, _]) hG dX9_copy_223 rfl rfl ?_
                                have hb2 := cp_bd (hhl _ (bd_lt (isSh5 c1))).1 c21 c22 (Int64.not_lt.mp c24); have hb3 := cp_bd (hhl _ (bd_lt (isSh5 c2))).1 c21 c23 c25; have hl2 := bd_lt (hhl _ (bd_lt (isSh5 c1))).1; have hl3 := bd_lt (hhl _ (bd_lt (isSh5 c2))).1; have hn4 := hb2.2; have hn4l := bd_lt hn4
                                have hb225 : bd a4 41 := hn4
                                have hb225l := bd_lt hb225
                                have lp225 : ∀ i, i ≤ (tn a4) → ∀ b225 : MT, b225 = itN i (st_X9_copy_225 M a0 a1 a2 a3 a4) M → J G K b225 225 [some (rf K 140), some (.int a0), some (.int a1), some (.int a2), some (.int a3), some (.int a4), some (.int (nI i))] [] := by
                                  refine up_ind (tn a4) (fun i hi225 ih225 => ?_)
                                  intro b225 hg225
                                  refine r_iload (pc := 225) hG dX9_copy_225 rfl ?_
                                  refine r_iload (pc := 227) hG dX9_copy_227 rfl ?_
                                  refine r_icmp_ge (pc := 229) (tgt := 267) hG dX9_copy_229 (by decide) (fun c29 => ?_) (fun c29 => ?_)
                                  · have e225 : i = (tn a4) := by have := (bd_le hb225 (by omega)).mp c29; omega
                                    subst hg225
                                    subst e225
                                    refine r_iload (pc := 267) hG dX9_copy_267 rfl ?_
                                    exact hret _ _ _ _ dX9_copy_269 (pair_fst (show sp_X9_copy M a0 a1 a2 a3 a4 = (a4, itN (tn a4) (st_X9_copy_225 M a0 a1 a2 a3 a4) M) from (by unfold sp_X9_copy; exact ((if_pos c1).trans ((if_pos c2).trans ((if_neg c3).trans ((if_neg c4).trans ((if_pos c5).trans ((if_neg c18).trans ((if_neg c19).trans ((if_pos c20).trans ((if_neg c21).trans ((if_neg c22).trans ((if_neg c23).trans ((if_neg c24).trans ((if_pos c25).trans ((if_pos c26).trans (if_pos c28)))))))))))))))))) (pair_snd (show sp_X9_copy M a0 a1 a2 a3 a4 = (a4, itN (tn a4) (st_X9_copy_225 M a0 a1 a2 a3 a4) M) from (by unfold sp_X9_copy; exact ((if_pos c1).trans ((if_pos c2).trans ((if_neg c3).trans ((if_neg c4).trans ((if_pos c5).trans ((if_neg c18).trans ((if_neg c19).trans ((if_pos c20).trans ((if_neg c21).trans ((if_neg c22).trans ((if_neg c23).trans ((if_neg c24).trans ((if_pos c25).trans ((if_pos c26).trans (if_pos c28))))))))))))))))))
                                  · have hl225 : i < (tn a4) := by have := mt (bd_le hb225 (by omega)).mpr c29; omega
                                    refine r_aload_n (pc := 232) hG dX9_copy_232 rfl ?_
                                    refine gf_X9_rowOf (pc := 233)  hG dX9_copy_233 tw_1188 ?_
                                    refine r_bipush (pc := 236) hG dX9_copy_236 bc_40 ?_
                                    refine r_iload_n (pc := 238) hG dX9_copy_238 rfl ?_
                                    refine r_imul (pc := 239) hG dX9_copy_239 ?_
                                    refine r_iload (pc := 240) hG dX9_copy_240 rfl ?_
                                    refine r_iadd (pc := 242) hG dX9_copy_242 ?_
                                    refine r_iload (pc := 243) hG dX9_copy_243 rfl ?_
                                    refine r_iadd (pc := 245) hG dX9_copy_245 ?_
                                    refine r_aload_n (pc := 246) hG dX9_copy_246 rfl ?_
                                    refine gf_X9_rowOf (pc := 247)  hG dX9_copy_247 tw_1188 ?_
                                    refine r_bipush (pc := 250) hG dX9_copy_250 bc_40 ?_
                                    refine r_iload_n (pc := 252) hG dX9_copy_252 rfl ?_
                                    refine r_imul (pc := 253) hG dX9_copy_253 ?_
                                    refine r_iload_n (pc := 254) hG dX9_copy_254 rfl ?_
                                    refine r_iadd (pc := 255) hG dX9_copy_255 ?_
                                    refine r_iload (pc := 256) hG dX9_copy_256 rfl ?_
                                    refine r_iadd (pc := 258) hG dX9_copy_258 ?_
                                    refine al_MrowOf (pc := 259)  hG dX9_copy_259 (ix_bd (cp_ix (isSh5 c1) c22 (n := tn a4) (by omega) (by omega)).2) ?_
                                    refine as_MrowOf (pc := 260)  hG dX9_copy_260 (ix_bd (cp_ix (isSh5 c2) c23 (n := tn a4) (by omega) (by omega)).2) ?_
                                    refine r_iinc (pc := 261) (v := nI (i + 1)) (ls' := [_, _, _, _, _, _, _]) hG dX9_copy_261 rfl (nI_1 _) rfl rfl ?_
                                    refine r_goto (pc := 264) (tgt := 225) hG dX9_copy_264 (by decide) ?_
                                    have eN225 : u3 b225 8 (tn (((40 * a1) + a3) + (nI i))) (b225.2.2 8 (tn (((40 * a0) + a2) + (nI i)))) = st_X9_copy_225 M a0 a1 a2 a3 a4 i (itN i (st_X9_copy_225 M a0 a1 a2 a3 a4) M) := by rw [← hg225]; unfold st_X9_copy_225; exact Eq.symm rfl
                                    refine J.wk (ls' := [some (rf K 140), some (.int a0), some (.int a1), some (.int a2), some (.int a3), some (.int a4), some (.int (nI (i + 1)))]) ?_ (Eq.refl 7) (wk_s rfl (wk_s rfl (wk_s rfl (wk_s rfl (wk_s rfl (wk_s rfl (wk_s rfl wk_0)))))))
                                    exact ih225 hl225 (u3 b225 8 (tn (((40 * a1) + a3) + (nI i))) (b225.2.2 8 (tn (((40 * a0) + a2) + (nI i))))) eN225
                                exact (lp225 0 (Nat.zero_le _) _ rfl).wk (Eq.refl 7) (wk_s rfl (wk_s rfl (wk_s rfl (wk_s rfl (wk_s rfl (wk_s rfl (wk_s rfl wk_0)))))))
                              · refine r_iload (pc := 173) hG dX9_copy_173 rfl ?_
                                refine r_iconst (pc := 175) hG dX9_copy_175 ic_1 ?_
                                refine r_isub (pc := 176) hG dX9_copy_176 ?_
                                refine r_istore (pc := 177) (ls' := [_, _, _, _, _, _, _]) hG dX9_copy_177 rfl rfl ?_
                                have hb2 := cp_bd (hhl _ (bd_lt (isSh5 c1))).1 c21 c22 (Int64.not_lt.mp c24); have hb3 := cp_bd (hhl _ (bd_lt (isSh5 c2))).1 c21 c23 c25; have hl2 := bd_lt (hhl _ (bd_lt (isSh5 c1))).1; have hl3 := bd_lt (hhl _ (bd_lt (isSh5 c2))).1; have hn4 := hb2.2; have hn4l := bd_lt hn4
                                have lp179 : ∀ i, i ≤ (tn a4) → ∀ b179 : MT, b179 = itN i (st_X9_copy_179 M a0 a1 a2 a3 a4) M → J G K b179 179 [some (rf K 140), some (.int a0), some (.int a1), some (.int a2), some (.int a3), some (.int a4), some (.int (dn (tn a4) i))] [] := by
                                  refine up_ind (tn a4) (fun i hi179 ih179 => ?_)
                                  intro b179 hg179
                                  refine r_iload (pc := 179) hG dX9_copy_179 rfl ?_
                                  refine r_if_lt (pc := 181) (tgt := 219) hG dX9_copy_181 (by decide) (fun c30 => ?_) (fun c30 => ?_)
                                  · have e179 : i = (tn a4) := by have := (dn_neg (by omega)).mp c30; omega
                                    subst hg179
                                    subst e179
                                    refine r_goto (pc := 219) (tgt := 267) hG dX9_copy_219 (by decide) ?_
                                    refine r_iload (pc := 267) hG dX9_copy_267 rfl ?_
                                    exact hret _ _ _ _ dX9_copy_269 (pair_fst (show sp_X9_copy M a0 a1 a2 a3 a4 = (a4, itN (tn a4) (st_X9_copy_179 M a0 a1 a2 a3 a4) M) from (by unfold sp_X9_copy; exact ((if_pos c1).trans ((if_pos c2).trans ((if_neg c3).trans ((if_neg c4).trans ((if_pos c5).trans ((if_neg c18).trans ((if_neg c19).trans ((if_pos c20).trans ((if_neg c21).trans ((if_neg c22).trans ((if_neg c23).trans ((if_neg c24).trans ((if_pos c25).trans ((if_pos c26).trans (if_neg c28)))))))))))))))))) (pair_snd (show sp_X9_copy M a0 a1 a2 a3 a4 = (a4, itN (tn a4) (st_X9_copy_179 M a0 a1 a2 a3 a4) M) from (by unfold sp_X9_copy; exact ((if_pos c1).trans ((if_pos c2).trans ((if_neg c3).trans ((if_neg c4).trans ((if_pos c5).trans ((if_neg c18).trans ((if_neg c19).trans ((if_pos c20).trans ((if_neg c21).trans ((if_neg c22).trans ((if_neg c23).trans ((if_neg c24).trans ((if_pos c25).trans ((if_pos c26).trans (if_neg c28))))))))))))))))))
                                  · have hl179 : i < (tn a4) := by have := mt (dn_neg (by omega)).mpr c30; omega
                                    refine r_aload_n (pc := 184) hG dX9_copy_184 rfl ?_
                                    refine gf_X9_rowOf (pc := 185)  hG dX9_copy_185 tw_1188 ?_
                                    refine r_bipush (pc := 188) hG dX9_copy_188 bc_40 ?_
                                    refine r_iload_n (pc := 190) hG dX9_copy_190 rfl ?_
                                    refine r_imul (pc := 191) hG dX9_copy_191 ?_
                                    refine r_iload (pc := 192) hG dX9_copy_192 rfl ?_
                                    refine r_iadd (pc := 194) hG dX9_copy_194 ?_
                                    refine r_iload (pc := 195) hG dX9_copy_195 rfl ?_
                                    refine r_iadd (pc := 197) hG dX9_copy_197 ?_
                                    refine r_aload_n (pc := 198) hG dX9_copy_198 rfl ?_
                                    refine gf_X9_rowOf (pc := 199)  hG dX9_copy_199 tw_1188 ?_
                                    refine r_bipush (pc := 202) hG dX9_copy_202 bc_40 ?_
                                    refine r_iload_n (pc := 204) hG dX9_copy_204 rfl ?_
                                    refine r_imul (pc := 205) hG dX9_copy_205 ?_
                                    refine r_iload_n (pc := 206) hG dX9_copy_206 rfl ?_
                                    refine r_iadd (pc := 207) hG dX9_copy_207 ?_
                                    refine r_iload (pc := 208) hG dX9_copy_208 rfl ?_
                                    refine r_iadd (pc := 210) hG dX9_copy_210 ?_
                                    refine al_MrowOf (pc := 211)  hG dX9_copy_211 (ix_bd (by rw [dn_in (by omega)]; exact (cp_ix (isSh5 c1) c22 (n := tn a4) (by omega) (by omega)).2)) ?_
                                    refine as_MrowOf (pc := 212)  hG dX9_copy_212 (ix_bd (by rw [dn_in (by omega)]; exact (cp_ix (isSh5 c2) c23 (n := tn a4) (by omega) (by omega)).2)) ?_
                                    refine r_iinc (pc := 213) (v := (dn (tn a4) i) + (-1)) (ls' := [_, _, _, _, _, _, _]) hG dX9_copy_213 rfl rfl rfl rfl ?_
                                    refine r_goto (pc := 216) (tgt := 179) hG dX9_copy_216 (by decide) ?_
                                    have eN179 : u3 b179 8 (tn (((40 * a1) + a3) + (dn (tn a4) i))) (b179.2.2 8 (tn (((40 * a0) + a2) + (dn (tn a4) i)))) = st_X9_copy_179 M a0 a1 a2 a3 a4 i (itN i (st_X9_copy_179 M a0 a1 a2 a3 a4) M) := by rw [← hg179]; unfold st_X9_copy_179; exact Eq.symm rfl
                                    refine J.wk (ls' := [some (rf K 140), some (.int a0), some (.int a1), some (.int a2), some (.int a3), some (.int a4), some (.int (dn (tn a4) (i + 1)))]) ?_ (Eq.refl 7) (wk_s rfl (wk_s rfl (wk_s rfl (wk_s rfl (wk_s rfl (wk_s rfl (wk_s (congrArg Value.int (dn_step hl179 (by omega))) wk_0)))))))
                                    exact ih179 hl179 (u3 b179 8 (tn (((40 * a1) + a3) + (dn (tn a4) i))) (b179.2.2 8 (tn (((40 * a0) + a2) + (dn (tn a4) i))))) eN179
                                exact (lp179 0 (Nat.zero_le _) _ rfl).wk (Eq.refl 7) (wk_s rfl (wk_s rfl (wk_s rfl (wk_s rfl (wk_s rfl (wk_s rfl (wk_s (congrArg Value.int (dn_0 (k := 41) hn4 (Nat.le_of_ble_eq_true rfl) rfl)) wk_0)))))))
                          · refine r_aload_n (pc := 155) hG dX9_copy_155 rfl ?_
                            refine r_bipush (pc := 156) hG dX9_copy_156 bc_m2 ?_
                            refine cv_X9_no (pc := 158)  hG dX9_copy_158 tw_1273 (c_X9_no (bd_lit (n := 7) (by decide))) (by decide) (Nat.le_of_ble_eq_true rfl) ?_
                            exact hret _ _ _ _ dX9_copy_161 (pair_fst (show sp_X9_copy M a0 a1 a2 a3 a4 = ((sp_X9_no M (-2)).1, (sp_X9_no M (-2)).2) from (by unfold sp_X9_copy; exact ((if_pos c1).trans ((if_pos c2).trans ((if_neg c3).trans ((if_neg c4).trans ((if_pos c5).trans ((if_neg c18).trans ((if_neg c19).trans ((if_pos c20).trans ((if_neg c21).trans ((if_neg c22).trans ((if_neg c23).trans ((if_neg c24).trans (if_neg c25)))))))))))))))) (pair_snd (show sp_X9_copy M a0 a1 a2 a3 a4 = ((sp_X9_no M (-2)).1, (sp_X9_no M (-2)).2) from (by unfold sp_X9_copy; exact ((if_pos c1).trans ((if_pos c2).trans ((if_neg c3).trans ((if_neg c4).trans ((if_pos c5).trans ((if_neg c18).trans ((if_neg c19).trans ((if_pos c20).trans ((if_neg c21).trans ((if_neg c22).trans ((if_neg c23).trans ((if_neg c24).trans (if_neg c25))))))))))))))))
                · refine r_aload_n (pc := 99) hG dX9_copy_99 rfl ?_
                  refine r_bipush (pc := 100) hG dX9_copy_100 bc_m4 ?_
                  refine cv_X9_no (pc := 102)  hG dX9_copy_102 tw_1273 (c_X9_no (bd_lit (n := 7) (by decide))) (by decide) (Nat.le_of_ble_eq_true rfl) ?_
                  exact hret _ _ _ _ dX9_copy_105 (pair_fst (show sp_X9_copy M a0 a1 a2 a3 a4 = ((sp_X9_no M (-4)).1, (sp_X9_no M (-4)).2) from (by unfold sp_X9_copy; exact ((if_pos c1).trans ((if_pos c2).trans ((if_neg c3).trans ((if_neg c4).trans ((if_pos c5).trans ((if_neg c18).trans ((if_neg c19).trans (if_neg c20))))))))))) (pair_snd (show sp_X9_copy M a0 a1 a2 a3 a4 = ((sp_X9_no M (-4)).1, (sp_X9_no M (-4)).2) from (by unfold sp_X9_copy; exact ((if_pos c1).trans ((if_pos c2).trans ((if_neg c3).trans ((if_neg c4).trans ((if_pos c5).trans ((if_neg c18).trans ((if_neg c19).trans (if_neg c20)))))))))))
            · refine r_aload_n (pc := 59) hG dX9_copy_59 rfl ?_
              refine gf_X9_holding (pc := 60)  hG dX9_copy_60 tw_1186 ?_
              refine r_iload_n (pc := 63) hG dX9_copy_63 rfl ?_
              refine al_Mholding (pc := 64)  hG dX9_copy_64 (ix_bd (isSh5 c1)) ?_
              refine r_aload_n (pc := 65) hG dX9_copy_65 rfl ?_
              refine gf_X9_holding (pc := 66)  hG dX9_copy_66 tw_1186 ?_
              refine r_iload_n (pc := 69) hG dX9_copy_69 rfl ?_
              refine al_Mholding (pc := 70)  hG dX9_copy_70 (ix_bd (isSh5 c2)) ?_
              refine r_icmp_eq (pc := 71) (tgt := 81) hG dX9_copy_71 (by decide) (fun c31 => ?_) (fun c31 => ?_)
              · refine r_aload_n (pc := 81) hG dX9_copy_81 rfl ?_
                refine gf_X9_holding (pc := 82)  hG dX9_copy_82 tw_1186 ?_
                refine r_iload_n (pc := 85) hG dX9_copy_85 rfl ?_
                refine al_Mholding (pc := 86)  hG dX9_copy_86 (ix_bd (isSh5 c1)) ?_
                refine r_if_lt (pc := 87) (tgt := 99) hG dX9_copy_87 (by decide) (fun c32 => ?_) (fun c32 => ?_)
                · refine r_aload_n (pc := 99) hG dX9_copy_99 rfl ?_
                  refine r_bipush (pc := 100) hG dX9_copy_100 bc_m4 ?_
                  refine cv_X9_no (pc := 102)  hG dX9_copy_102 tw_1273 (c_X9_no (bd_lit (n := 7) (by decide))) (by decide) (Nat.le_of_ble_eq_true rfl) ?_
                  exact hret _ _ _ _ dX9_copy_105 (pair_fst (show sp_X9_copy M a0 a1 a2 a3 a4 = ((sp_X9_no M (-4)).1, (sp_X9_no M (-4)).2) from (by unfold sp_X9_copy; exact ((if_pos c1).trans ((if_pos c2).trans ((if_neg c3).trans ((if_neg c4).trans ((if_pos c5).trans ((if_pos c18).trans ((if_pos c31).trans (if_pos c32))))))))))) (pair_snd (show sp_X9_copy M a0 a1 a2 a3 a4 = ((sp_X9_no M (-4)).1, (sp_X9_no M (-4)).2) from (by unfold sp_X9_copy; exact ((if_pos c1).trans ((if_pos c2).trans ((if_neg c3).trans ((if_neg c4).trans ((if_pos c5).trans ((if_pos c18).trans ((if_pos c31).trans (if_pos c32)))))))))))
                · refine r_aload_n (pc := 90) hG dX9_copy_90 rfl ?_
                  refine gf_X9_holding (pc := 91)  hG dX9_copy_91 tw_1186 ?_
                  refine r_iload_n (pc := 94) hG dX9_copy_94 rfl ?_
                  refine al_Mholding (pc := 95)  hG dX9_copy_95 (ix_bd (isSh5 c2)) ?_
                  refine r_if_ge (pc := 96) (tgt := 106) hG dX9_copy_96 (by decide) (fun c33 => ?_) (fun c33 => ?_)
                  · refine r_iload (pc := 106) hG dX9_copy_106 rfl ?_
                    refine r_if_lt (pc := 108) (tgt := 155) hG dX9_copy_108 (by decide) (fun c34 => ?_) (fun c34 => ?_)
                    · refine r_aload_n (pc := 155) hG dX9_copy_155 rfl ?_
                      refine r_bipush (pc := 156) hG dX9_copy_156 bc_m2 ?_
                      refine cv_X9_no (pc := 158)  hG dX9_copy_158 tw_1273 (c_X9_no (bd_lit (n := 7) (by decide))) (by decide) (Nat.le_of_ble_eq_true rfl) ?_
                      exact hret _ _ _ _ dX9_copy_161 (pair_fst (show sp_X9_copy M a0 a1 a2 a3 a4 = ((sp_X9_no M (-2)).1, (sp_X9_no M (-2)).2) from (by unfold sp_X9_copy; exact ((if_pos c1).trans ((if_pos c2).trans ((if_neg c3).trans ((if_neg c4).trans ((if_pos c5).trans ((if_pos c18).trans ((if_pos c31).trans ((if_neg c32).trans ((if_pos c33).trans (if_pos c34))))))))))))) (pair_snd (show sp_X9_copy M a0 a1 a2 a3 a4 = ((sp_X9_no M (-2)).1, (sp_X9_no M (-2)).2) from (by unfold sp_X9_copy; exact ((if_pos c1).trans ((if_pos c2).trans ((if_neg c3).trans ((if_neg c4).trans ((if_pos c5).trans ((if_pos c18).trans ((if_pos c31).trans ((if_neg c32).trans ((if_pos c33).trans (if_pos c34)))))))))))))
                    · refine r_iload_n (pc := 111) hG dX9_copy_111 rfl ?_
                      refine r_if_lt (pc := 112) (tgt := 155) hG dX9_copy_112 (by decide) (fun c35 => ?_) (fun c35 => ?_)
                      · refine r_aload_n (pc := 155) hG dX9_copy_155 rfl ?_
                        refine r_bipush (pc := 156) hG dX9_copy_156 bc_m2 ?_
                        refine cv_X9_no (pc := 158)  hG dX9_copy_158 tw_1273 (c_X9_no (bd_lit (n := 7) (by decide))) (by decide) (Nat.le_of_ble_eq_true rfl) ?_
                        exact hret _ _ _ _ dX9_copy_161 (pair_fst (show sp_X9_copy M a0 a1 a2 a3 a4 = ((sp_X9_no M (-2)).1, (sp_X9_no M (-2)).2) from (by unfold sp_X9_copy; exact ((if_pos c1).trans ((if_pos c2).trans ((if_neg c3).trans ((if_neg c4).trans ((if_pos c5).trans ((if_pos c18).trans ((if_pos c31).trans ((if_neg c32).trans ((if_pos c33).trans ((if_neg c34).trans (if_pos c35)))))))))))))) (pair_snd (show sp_X9_copy M a0 a1 a2 a3 a4 = ((sp_X9_no M (-2)).1, (sp_X9_no M (-2)).2) from (by unfold sp_X9_copy; exact ((if_pos c1).trans ((if_pos c2).trans ((if_neg c3).trans ((if_neg c4).trans ((if_pos c5).trans ((if_pos c18).trans ((if_pos c31).trans ((if_neg c32).trans ((if_pos c33).trans ((if_neg c34).trans (if_pos c35))))))))))))))
                      · refine r_iload (pc := 115) hG dX9_copy_115 rfl ?_
                        refine r_if_lt (pc := 117) (tgt := 155) hG dX9_copy_117 (by decide) (fun c36 => ?_) (fun c36 => ?_)
                        · refine r_aload_n (pc := 155) hG dX9_copy_155 rfl ?_
                          refine r_bipush (pc := 156) hG dX9_copy_156 bc_m2 ?_
                          refine cv_X9_no (pc := 158)  hG dX9_copy_158 tw_1273 (c_X9_no (bd_lit (n := 7) (by decide))) (by decide) (Nat.le_of_ble_eq_true rfl) ?_
                          exact hret _ _ _ _ dX9_copy_161 (pair_fst (show sp_X9_copy M a0 a1 a2 a3 a4 = ((sp_X9_no M (-2)).1, (sp_X9_no M (-2)).2) from (by unfold sp_X9_copy; exact ((if_pos c1).trans ((if_pos c2).trans ((if_neg c3).trans ((if_neg c4).trans ((if_pos c5).trans ((if_pos c18).trans ((if_pos c31).trans ((if_neg c32).trans ((if_pos c33).trans ((if_neg c34).trans ((if_neg c35).trans (if_pos c36))))))))))))))) (pair_snd (show sp_X9_copy M a0 a1 a2 a3 a4 = ((sp_X9_no M (-2)).1, (sp_X9_no M (-2)).2) from (by unfold sp_X9_copy; exact ((if_pos c1).trans ((if_pos c2).trans ((if_neg c3).trans ((if_neg c4).trans ((if_pos c5).trans ((if_pos c18).trans ((if_pos c31).trans ((if_neg c32).trans ((if_pos c33).trans ((if_neg c34).trans ((if_neg c35).trans (if_pos c36)))))))))))))))
                        · refine r_iload_n (pc := 120) hG dX9_copy_120 rfl ?_
                          refine r_i2l (pc := 121) hG dX9_copy_121 ?_
                          refine r_iload (pc := 122) hG dX9_copy_122 rfl ?_
                          refine r_i2l (pc := 124) hG dX9_copy_124 ?_
                          refine r_ladd (pc := 125) hG dX9_copy_125 ?_
                          refine r_aload_n (pc := 126) hG dX9_copy_126 rfl ?_
                          refine gf_X9_rowLength (pc := 127)  hG dX9_copy_127 tw_1187 ?_
                          refine r_iload_n (pc := 130) hG dX9_copy_130 rfl ?_
                          refine al_MrowLength (pc := 131)  hG dX9_copy_131 (ix_bd (isSh5 c1)) ?_
                          refine r_i2l (pc := 132) hG dX9_copy_132 ?_
                          refine r_lcmp (pc := 133) hG dX9_copy_133 ?_
                          refine r_lc_gt (pc := 134) (tgt := 155) hG dX9_copy_134 (by decide) (fun c37 => ?_) (fun c37 => ?_)
                          · refine r_aload_n (pc := 155) hG dX9_copy_155 rfl ?_
                            refine r_bipush (pc := 156) hG dX9_copy_156 bc_m2 ?_
                            refine cv_X9_no (pc := 158)  hG dX9_copy_158 tw_1273 (c_X9_no (bd_lit (n := 7) (by decide))) (by decide) (Nat.le_of_ble_eq_true rfl) ?_
                            exact hret _ _ _ _ dX9_copy_161 (pair_fst (show sp_X9_copy M a0 a1 a2 a3 a4 = ((sp_X9_no M (-2)).1, (sp_X9_no M (-2)).2) from (by unfold sp_X9_copy; exact ((if_pos c1).trans ((if_pos c2).trans ((if_neg c3).trans ((if_neg c4).trans ((if_pos c5).trans ((if_pos c18).trans ((if_pos c31).trans ((if_neg c32).trans ((if_pos c33).trans ((if_neg c34).trans ((if_neg c35).trans ((if_neg c36).trans (if_pos c37)))))))))))))))) (pair_snd (show sp_X9_copy M a0 a1 a2 a3 a4 = ((sp_X9_no M (-2)).1, (sp_X9_no M (-2)).2) from (by unfold sp_X9_copy; exact ((if_pos c1).trans ((if_pos c2).trans ((if_neg c3).trans ((if_neg c4).trans ((if_pos c5).trans ((if_pos c18).trans ((if_pos c31).trans ((if_neg c32).trans ((if_pos c33).trans ((if_neg c34).trans ((if_neg c35).trans ((if_neg c36).trans (if_pos c37))))))))))))))))
                          · refine r_iload (pc := 137) hG dX9_copy_137 rfl ?_
                            refine r_i2l (pc := 139) hG dX9_copy_139 ?_
                            refine r_iload (pc := 140) hG dX9_copy_140 rfl ?_
                            refine r_i2l (pc := 142) hG dX9_copy_142 ?_
                            refine r_ladd (pc := 143) hG dX9_copy_143 ?_
                            refine r_aload_n (pc := 144) hG dX9_copy_144 rfl ?_
                            refine gf_X9_rowLength (pc := 145)  hG dX9_copy_145 tw_1187 ?_
                            refine r_iload_n (pc := 148) hG dX9_copy_148 rfl ?_
                            refine al_MrowLength (pc := 149)  hG dX9_copy_149 (ix_bd (isSh5 c2)) ?_
                            refine r_i2l (pc := 150) hG dX9_copy_150 ?_
                            refine r_lcmp (pc := 151) hG dX9_copy_151 ?_
                            refine r_lc_le (pc := 152) (tgt := 162) hG dX9_copy_152 (by decide) (fun c38 => ?_) (fun c38 => ?_)
                            · refine r_iload_n (pc := 162) hG dX9_copy_162 rfl ?_
                              refine r_iload_n (pc := 163) hG dX9_copy_163 rfl ?_
                              refine r_icmp_ne (pc := 164) (tgt := 222) hG dX9_copy_164 (by decide) (fun c39 => ?_) (fun c39 => ?_)
                              · refine r_iconst (pc := 222) hG dX9_copy_222 ic_0 ?_
                                refine r_istore (pc := 223) (ls' := [_, _, _, _, _, _, _]) hG dX9_copy_223 rfl rfl ?_
                                have hb2 := cp_bd (hhl _ (bd_lt (isSh5 c1))).1 c34 c35 (Int64.not_lt.mp c37); have hb3 := cp_bd (hhl _ (bd_lt (isSh5 c2))).1 c34 c36 c38; have hl2 := bd_lt (hhl _ (bd_lt (isSh5 c1))).1; have hl3 := bd_lt (hhl _ (bd_lt (isSh5 c2))).1; have hn4 := hb2.2; have hn4l := bd_lt hn4
                                have hb225 : bd a4 41 := hn4
                                have hb225l := bd_lt hb225
                                have lp225 : ∀ i, i ≤ (tn a4) → ∀ b225 : MT, b225 = itN i (st_X9_copy_225 M a0 a1 a2 a3 a4) M → J G K b225 225 [some (rf K 140), some (.int a0), some (.int a1), some (.int a2), some (.int a3), some (.int a4), some (.int (nI i))] [] := by
                                  refine up_ind (tn a4) (fun i hi225 ih225 => ?_)
                                  intro b225 hg225
                                  refine r_iload (pc := 225) hG dX9_copy_225 rfl ?_
                                  refine r_iload (pc := 227) hG dX9_copy_227 rfl ?_
                                  refine r_icmp_ge (pc := 229) (tgt := 267) hG dX9_copy_229 (by decide) (fun c40 => ?_) (fun c40 => ?_)
                                  · have e225 : i = (tn a4) := by have := (bd_le hb225 (by omega)).mp c40; omega
                                    subst hg225
                                    subst e225
                                    refine r_iload (pc := 267) hG dX9_copy_267 rfl ?_
                                    exact hret _ _ _ _ dX9_copy_269 (pair_fst (show sp_X9_copy M a0 a1 a2 a3 a4 = (a4, itN (tn a4) (st_X9_copy_225 M a0 a1 a2 a3 a4) M) from (by unfold sp_X9_copy; exact ((if_pos c1).trans ((if_pos c2).trans ((if_neg c3).trans ((if_neg c4).trans ((if_pos c5).trans ((if_pos c18).trans ((if_pos c31).trans ((if_neg c32).trans ((if_pos c33).trans ((if_neg c34).trans ((if_neg c35).trans ((if_neg c36).trans ((if_neg c37).trans ((if_pos c38).trans (if_neg c39)))))))))))))))))) (pair_snd (show sp_X9_copy M a0 a1 a2 a3 a4 = (a4, itN (tn a4) (st_X9_copy_225 M a0 a1 a2 a3 a4) M) from (by unfold sp_X9_copy; exact ((if_pos c1).trans ((if_pos c2).trans ((if_neg c3).trans ((if_neg c4).trans ((if_pos c5).trans ((if_pos c18).trans ((if_pos c31).trans ((if_neg c32).trans ((if_pos c33).trans ((if_neg c34).trans ((if_neg c35).trans ((if_neg c36).trans ((if_neg c37).trans ((if_pos c38).trans (if_neg c39))))))))))))))))))
                                  · have hl225 : i < (tn a4) := by have := mt (bd_le hb225 (by omega)).mpr c40; omega
                                    refine r_aload_n (pc := 232) hG dX9_copy_232 rfl ?_
                                    refine gf_X9_rowOf (pc := 233)  hG dX9_copy_233 tw_1188 ?_
                                    refine r_bipush (pc := 236) hG dX9_copy_236 bc_40 ?_
                                    refine r_iload_n (pc := 238) hG dX9_copy_238 rfl ?_
                                    refine r_imul (pc := 239) hG dX9_copy_239 ?_
                                    refine r_iload (pc := 240) hG dX9_copy_240 rfl ?_
                                    refine r_iadd (pc := 242) hG dX9_copy_242 ?_
                                    refine r_iload (pc := 243) hG dX9_copy_243 rfl ?_
                                    refine r_iadd (pc := 245) hG dX9_copy_245 ?_
                                    refine r_aload_n (pc := 246) hG dX9_copy_246 rfl ?_
                                    refine gf_X9_rowOf (pc := 247)  hG dX9_copy_247 tw_1188 ?_
                                    refine r_bipush (pc := 250) hG dX9_copy_250 bc_40 ?_
                                    refine r_iload_n (pc := 252) hG dX9_copy_252 rfl ?_
                                    refine r_imul (pc := 253) hG dX9_copy_253 ?_
                                    refine r_iload_n (pc := 254) hG dX9_copy_254 rfl ?_
                                    refine r_iadd (pc := 255) hG dX9_copy_255 ?_
                                    refine r_iload (pc := 256) hG dX9_copy_256 rfl ?_
                                    refine r_iadd (pc := 258) hG dX9_copy_258 ?_
                                    refine al_MrowOf (pc := 259)  hG dX9_copy_259 (ix_bd (cp_ix (isSh5 c1) c35 (n := tn a4) (by omega) (by omega)).2) ?_
                                    refine as_MrowOf (pc := 260)  hG dX9_copy_260 (ix_bd (cp_ix (isSh5 c2) c36 (n := tn a4) (by omega) (by omega)).2) ?_
                                    refine r_iinc (pc := 261) (v := nI (i + 1)) (ls' := [_, _, _, _, _, _, _]) hG dX9_copy_261 rfl (nI_1 _) rfl rfl ?_
                                    refine r_goto (pc := 264) (tgt := 225) hG dX9_copy_264 (by decide) ?_
                                    have eN225 : u3 b225 8 (tn (((40 * a1) + a3) + (nI i))) (b225.2.2 8 (tn (((40 * a0) + a2) + (nI i)))) = st_X9_copy_225 M a0 a1 a2 a3 a4 i (itN i (st_X9_copy_225 M a0 a1 a2 a3 a4) M) := by rw [← hg225]; unfold st_X9_copy_225; exact Eq.symm rfl
                                    refine J.wk (ls' := [some (rf K 140), some (.int a0), some (.int a1), some (.int a2), some (.int a3), some (.int a4), some (.int (nI (i + 1)))]) ?_ (Eq.refl 7) (wk_s rfl (wk_s rfl (wk_s rfl (wk_s rfl (wk_s rfl (wk_s rfl (wk_s rfl wk_0)))))))
                                    exact ih225 hl225 (u3 b225 8 (tn (((40 * a1) + a3) + (nI i))) (b225.2.2 8 (tn (((40 * a0) + a2) + (nI i))))) eN225
                                exact (lp225 0 (Nat.zero_le _) _ rfl).wk (Eq.refl 7) (wk_s rfl (wk_s rfl (wk_s rfl (wk_s rfl (wk_s rfl (wk_s rfl (wk_s rfl wk_0)))))))
                              · refine r_iload_n (pc := 167) hG dX9_copy_167 rfl ?_
                                refine r_iload (pc := 168) hG dX9_copy_168 rfl ?_
                                refine r_icmp_ge (pc := 170) (tgt := 222) hG dX9_copy_170 (by decide) (fun c41 => ?_) (fun c41 => ?_)
                                · refine r_iconst (pc := 222) hG dX9_copy_222 ic_0 ?_
                                  refine r_istore (pc := 223) (ls' := [_, _, _, _, _, _, _]) hG dX9_copy_223 rfl rfl ?_
                                  have hb2 := cp_bd (hhl _ (bd_lt (isSh5 c1))).1 c34 c35 (Int64.not_lt.mp c37); have hb3 := cp_bd (hhl _ (bd_lt (isSh5 c2))).1 c34 c36 c38; have hl2 := bd_lt (hhl _ (bd_lt (isSh5 c1))).1; have hl3 := bd_lt (hhl _ (bd_lt (isSh5 c2))).1; have hn4 := hb2.2; have hn4l := bd_lt hn4
                                  have hb225 : bd a4 41 := hn4
                                  have hb225l := bd_lt hb225
                                  have lp225 : ∀ i, i ≤ (tn a4) → ∀ b225 : MT, b225 = itN i (st_X9_copy_225 M a0 a1 a2 a3 a4) M → J G K b225 225 [some (rf K 140), some (.int a0), some (.int a1), some (.int a2), some (.int a3), some (.int a4), some (.int (nI i))] [] := by
                                    refine up_ind (tn a4) (fun i hi225 ih225 => ?_)
                                    intro b225 hg225
                                    refine r_iload (pc := 225) hG dX9_copy_225 rfl ?_
                                    refine r_iload (pc := 227) hG dX9_copy_227 rfl ?_
                                    refine r_icmp_ge (pc := 229) (tgt := 267) hG dX9_copy_229 (by decide) (fun c42 => ?_) (fun c42 => ?_)
                                    · have e225 : i = (tn a4) := by have := (bd_le hb225 (by omega)).mp c42; omega
                                      subst hg225
                                      subst e225
                                      refine r_iload (pc := 267) hG dX9_copy_267 rfl ?_
                                      exact hret _ _ _ _ dX9_copy_269 (pair_fst (show sp_X9_copy M a0 a1 a2 a3 a4 = (a4, itN (tn a4) (st_X9_copy_225 M a0 a1 a2 a3 a4) M) from (by unfold sp_X9_copy; exact ((if_pos c1).trans ((if_pos c2).trans ((if_neg c3).trans ((if_neg c4).trans ((if_pos c5).trans ((if_pos c18).trans ((if_pos c31).trans ((if_neg c32).trans ((if_pos c33).trans ((if_neg c34).trans ((if_neg c35).trans ((if_neg c36).trans ((if_neg c37).trans ((if_pos c38).trans ((if_pos c39).trans (if_pos c41))))))))))))))))))) (pair_snd (show sp_X9_copy M a0 a1 a2 a3 a4 = (a4, itN (tn a4) (st_X9_copy_225 M a0 a1 a2 a3 a4) M) from (by unfold sp_X9_copy; exact ((if_pos c1).trans ((if_pos c2).trans ((if_neg c3).trans ((if_neg c4).trans ((if_pos c5).trans ((if_pos c18).trans ((if_pos c31).trans ((if_neg c32).trans ((if_pos c33).trans ((if_neg c34).trans ((if_neg c35).trans ((if_neg c36).trans ((if_neg c37).trans ((if_pos c38).trans ((if_pos c39).trans (if_pos c41)))))))))))))))))))
                                    · have hl225 : i < (tn a4) := by have := mt (bd_le hb225 (by omega)).mpr c42; omega
                                      refine r_aload_n (pc := 232) hG dX9_copy_232 rfl ?_
                                      refine gf_X9_rowOf (pc := 233)  hG dX9_copy_233 tw_1188 ?_
                                      refine r_bipush (pc := 236) hG dX9_copy_236 bc_40 ?_
                                      refine r_iload_n (pc := 238) hG dX9_copy_238 rfl ?_
                                      refine r_imul (pc := 239) hG dX9_copy_239 ?_
                                      refine r_iload (pc := 240) hG dX9_copy_240 rfl ?_
                                      refine r_iadd (pc := 242) hG dX9_copy_242 ?_
                                      refine r_iload (pc := 243) hG dX9_copy_243 rfl ?_
                                      refine r_iadd (pc := 245) hG dX9_copy_245 ?_
                                      refine r_aload_n (pc := 246) hG dX9_copy_246 rfl ?_
                                      refine gf_X9_rowOf (pc := 247)  hG dX9_copy_247 tw_1188 ?_
                                      refine r_bipush (pc := 250) hG dX9_copy_250 bc_40 ?_
                                      refine r_iload_n (pc := 252) hG dX9_copy_252 rfl ?_
                                      refine r_imul (pc := 253) hG dX9_copy_253 ?_
                                      refine r_iload_n (pc := 254) hG dX9_copy_254 rfl ?_
                                      refine r_iadd (pc := 255) hG dX9_copy_255 ?_
                                      refine r_iload (pc := 256) hG dX9_copy_256 rfl ?_
                                      refine r_iadd (pc := 258) hG dX9_copy_258 ?_
                                      refine al_MrowOf (pc := 259)  hG dX9_copy_259 (ix_bd (cp_ix (isSh5 c1) c35 (n := tn a4) (by omega) (by omega)).2) ?_
                                      refine as_MrowOf (pc := 260)  hG dX9_copy_260 (ix_bd (cp_ix (isSh5 c2) c36 (n := tn a4) (by omega) (by omega)).2) ?_
                                      refine r_iinc (pc := 261) (v := nI (i + 1)) (ls' := [_, _, _, _, _, _, _]) hG dX9_copy_261 rfl (nI_1 _) rfl rfl ?_
                                      refine r_goto (pc := 264) (tgt := 225) hG dX9_copy_264 (by decide) ?_
                                      have eN225 : u3 b225 8 (tn (((40 * a1) + a3) + (nI i))) (b225.2.2 8 (tn (((40 * a0) + a2) + (nI i)))) = st_X9_copy_225 M a0 a1 a2 a3 a4 i (itN i (st_X9_copy_225 M a0 a1 a2 a3 a4) M) := by rw [← hg225]; unfold st_X9_copy_225; exact Eq.symm rfl
                                      refine J.wk (ls' := [some (rf K 140), some (.int a0), some (.int a1), some (.int a2), some (.int a3), some (.int a4), some (.int (nI (i + 1)))]) ?_ (Eq.refl 7) (wk_s rfl (wk_s rfl (wk_s rfl (wk_s rfl (wk_s rfl (wk_s rfl (wk_s rfl wk_0)))))))
                                      exact ih225 hl225 (u3 b225 8 (tn (((40 * a1) + a3) + (nI i))) (b225.2.2 8 (tn (((40 * a0) + a2) + (nI i))))) eN225
                                  exact (lp225 0 (Nat.zero_le _) _ rfl).wk (Eq.refl 7) (wk_s rfl (wk_s rfl (wk_s rfl (wk_s rfl (wk_s rfl (wk_s rfl (wk_s rfl wk_0)))))))
                                · refine r_iload (pc := 173) hG dX9_copy_173 rfl ?_
                                  refine r_iconst (pc := 175) hG dX9_copy_175 ic_1 ?_
                                  refine r_isub (pc := 176) hG dX9_copy_176 ?_
                                  refine r_istore (pc := 177) (ls' := [_, _, _, _, _, _, _]) hG dX9_copy_177 rfl rfl ?_
                                  have hb2 := cp_bd (hhl _ (bd_lt (isSh5 c1))).1 c34 c35 (Int64.not_lt.mp c37); have hb3 := cp_bd (hhl _ (bd_lt (isSh5 c2))).1 c34 c36 c38; have hl2 := bd_lt (hhl _ (bd_lt (isSh5 c1))).1; have hl3 := bd_lt (hhl _ (bd_lt (isSh5 c2))).1; have hn4 := hb2.2; have hn4l := bd_lt hn4
                                  have lp179 : ∀ i, i ≤ (tn a4) → ∀ b179 : MT, b179 = itN i (st_X9_copy_179 M a0 a1 a2 a3 a4) M → J G K b179 179 [some (rf K 140), some (.int a0), some (.int a1), some (.int a2), some (.int a3), some (.int a4), some (.int (dn (tn a4) i))] [] := by
                                    refine up_ind (tn a4) (fun i hi179 ih179 => ?_)
                                    intro b179 hg179
                                    refine r_iload (pc := 179) hG dX9_copy_179 rfl ?_
                                    refine r_if_lt (pc := 181) (tgt := 219) hG dX9_copy_181 (by decide) (fun c43 => ?_) (fun c43 => ?_)
                                    · have e179 : i = (tn a4) := by have := (dn_neg (by omega)).mp c43; omega
                                      subst hg179
                                      subst e179
                                      refine r_goto (pc := 219) (tgt := 267) hG dX9_copy_219 (by decide) ?_
                                      refine r_iload (pc := 267) hG dX9_copy_267 rfl ?_
                                      exact hret _ _ _ _ dX9_copy_269 (pair_fst (show sp_X9_copy M a0 a1 a2 a3 a4 = (a4, itN (tn a4) (st_X9_copy_179 M a0 a1 a2 a3 a4) M) from (by unfold sp_X9_copy; exact ((if_pos c1).trans ((if_pos c2).trans ((if_neg c3).trans ((if_neg c4).trans ((if_pos c5).trans ((if_pos c18).trans ((if_pos c31).trans ((if_neg c32).trans ((if_pos c33).trans ((if_neg c34).trans ((if_neg c35).trans ((if_neg c36).trans ((if_neg c37).trans ((if_pos c38).trans ((if_pos c39).trans (if_neg c41))))))))))))))))))) (pair_snd (show sp_X9_copy M a0 a1 a2 a3 a4 = (a4, itN (tn a4) (st_X9_copy_179 M a0 a1 a2 a3 a4) M) from (by unfold sp_X9_copy; exact ((if_pos c1).trans ((if_pos c2).trans ((if_neg c3).trans ((if_neg c4).trans ((if_pos c5).trans ((if_pos c18).trans ((if_pos c31).trans ((if_neg c32).trans ((if_pos c33).trans ((if_neg c34).trans ((if_neg c35).trans ((if_neg c36).trans ((if_neg c37).trans ((if_pos c38).trans ((if_pos c39).trans (if_neg c41)))))))))))))))))))
                                    · have hl179 : i < (tn a4) := by have := mt (dn_neg (by omega)).mpr c43; omega
                                      refine r_aload_n (pc := 184) hG dX9_copy_184 rfl ?_
                                      refine gf_X9_rowOf (pc := 185)  hG dX9_copy_185 tw_1188 ?_
                                      refine r_bipush (pc := 188) hG dX9_copy_188 bc_40 ?_
                                      refine r_iload_n (pc := 190) hG dX9_copy_190 rfl ?_
                                      refine r_imul (pc := 191) hG dX9_copy_191 ?_
                                      refine r_iload (pc := 192) hG dX9_copy_192 rfl ?_
                                      refine r_iadd (pc := 194) hG dX9_copy_194 ?_
                                      refine r_iload (pc := 195) hG dX9_copy_195 rfl ?_
                                      refine r_iadd (pc := 197) hG dX9_copy_197 ?_
                                      refine r_aload_n (pc := 198) hG dX9_copy_198 rfl ?_
                                      refine gf_X9_rowOf (pc := 199)  hG dX9_copy_199 tw_1188 ?_
                                      refine r_bipush (pc := 202) hG dX9_copy_202 bc_40 ?_
                                      refine r_iload_n (pc := 204) hG dX9_copy_204 rfl ?_
                                      refine r_imul (pc := 205) hG dX9_copy_205 ?_
                                      refine r_iload_n (pc := 206) hG dX9_copy_206 rfl ?_
                                      refine r_iadd (pc := 207) hG dX9_copy_207 ?_
                                      refine r_iload (pc := 208) hG dX9_copy_208 rfl ?_
                                      refine r_iadd (pc := 210) hG dX9_copy_210 ?_
                                      refine al_MrowOf (pc := 211)  hG dX9_copy_211 (ix_bd (by rw [dn_in (by omega)]; exact (cp_ix (isSh5 c1) c35 (n := tn a4) (by omega) (by omega)).2)) ?_
                                      refine as_MrowOf (pc := 212)  hG dX9_copy_212 (ix_bd (by rw [dn_in (by omega)]; exact (cp_ix (isSh5 c2) c36 (n := tn a4) (by omega) (by omega)).2)) ?_
                                      refine r_iinc (pc := 213) (v := (dn (tn a4) i) + (-1)) (ls' := [_, _, _, _, _, _, _]) hG dX9_copy_213 rfl rfl rfl rfl ?_
                                      refine r_goto (pc := 216) (tgt := 179) hG dX9_copy_216 (by decide) ?_
                                      have eN179 : u3 b179 8 (tn (((40 * a1) + a3) + (dn (tn a4) i))) (b179.2.2 8 (tn (((40 * a0) + a2) + (dn (tn a4) i)))) = st_X9_copy_179 M a0 a1 a2 a3 a4 i (itN i (st_X9_copy_179 M a0 a1 a2 a3 a4) M) := by rw [← hg179]; unfold st_X9_copy_179; exact Eq.symm rfl
                                      refine J.wk (ls' := [some (rf K 140), some (.int a0), some (.int a1), some (.int a2), some (.int a3), some (.int a4), some (.int (dn (tn a4) (i + 1)))]) ?_ (Eq.refl 7) (wk_s rfl (wk_s rfl (wk_s rfl (wk_s rfl (wk_s rfl (wk_s rfl (wk_s (congrArg Value.int (dn_step hl179 (by omega))) wk_0)))))))
                                      exact ih179 hl179 (u3 b179 8 (tn (((40 * a1) + a3) + (dn (tn a4) i))) (b179.2.2 8 (tn (((40 * a0) + a2) + (dn (tn a4) i))))) eN179
                                  exact (lp179 0 (Nat.zero_le _) _ rfl).wk (Eq.refl 7) (wk_s rfl (wk_s rfl (wk_s rfl (wk_s rfl (wk_s rfl (wk_s rfl (wk_s (congrArg Value.int (dn_0 (k := 41) hn4 (Nat.le_of_ble_eq_true rfl) rfl)) wk_0)))))))
                            · refine r_aload_n (pc := 155) hG dX9_copy_155 rfl ?_
                              refine r_bipush (pc := 156) hG dX9_copy_156 bc_m2 ?_
                              refine cv_X9_no (pc := 158)  hG dX9_copy_158 tw_1273 (c_X9_no (bd_lit (n := 7) (by decide))) (by decide) (Nat.le_of_ble_eq_true rfl) ?_
                              exact hret _ _ _ _ dX9_copy_161 (pair_fst (show sp_X9_copy M a0 a1 a2 a3 a4 = ((sp_X9_no M (-2)).1, (sp_X9_no M (-2)).2) from (by unfold sp_X9_copy; exact ((if_pos c1).trans ((if_pos c2).trans ((if_neg c3).trans ((if_neg c4).trans ((if_pos c5).trans ((if_pos c18).trans ((if_pos c31).trans ((if_neg c32).trans ((if_pos c33).trans ((if_neg c34).trans ((if_neg c35).trans ((if_neg c36).trans ((if_neg c37).trans (if_neg c38))))))))))))))))) (pair_snd (show sp_X9_copy M a0 a1 a2 a3 a4 = ((sp_X9_no M (-2)).1, (sp_X9_no M (-2)).2) from (by unfold sp_X9_copy; exact ((if_pos c1).trans ((if_pos c2).trans ((if_neg c3).trans ((if_neg c4).trans ((if_pos c5).trans ((if_pos c18).trans ((if_pos c31).trans ((if_neg c32).trans ((if_pos c33).trans ((if_neg c34).trans ((if_neg c35).trans ((if_neg c36).trans ((if_neg c37).trans (if_neg c38)))))))))))))))))
                  · refine r_aload_n (pc := 99) hG dX9_copy_99 rfl ?_
                    refine r_bipush (pc := 100) hG dX9_copy_100 bc_m4 ?_
                    refine cv_X9_no (pc := 102)  hG dX9_copy_102 tw_1273 (c_X9_no (bd_lit (n := 7) (by decide))) (by decide) (Nat.le_of_ble_eq_true rfl) ?_
                    exact hret _ _ _ _ dX9_copy_105 (pair_fst (show sp_X9_copy M a0 a1 a2 a3 a4 = ((sp_X9_no M (-4)).1, (sp_X9_no M (-4)).2) from (by unfold sp_X9_copy; exact ((if_pos c1).trans ((if_pos c2).trans ((if_neg c3).trans ((if_neg c4).trans ((if_pos c5).trans ((if_pos c18).trans ((if_pos c31).trans ((if_neg c32).trans (if_neg c33)))))))))))) (pair_snd (show sp_X9_copy M a0 a1 a2 a3 a4 = ((sp_X9_no M (-4)).1, (sp_X9_no M (-4)).2) from (by unfold sp_X9_copy; exact ((if_pos c1).trans ((if_pos c2).trans ((if_neg c3).trans ((if_neg c4).trans ((if_pos c5).trans ((if_pos c18).trans ((if_pos c31).trans ((if_neg c32).trans (if_neg c33))))))))))))
              · refine r_aload_n (pc := 74) hG dX9_copy_74 rfl ?_
                refine r_bipush (pc := 75) hG dX9_copy_75 bc_m3 ?_
                refine cv_X9_no (pc := 77)  hG dX9_copy_77 tw_1273 (c_X9_no (bd_lit (n := 7) (by decide))) (by decide) (Nat.le_of_ble_eq_true rfl) ?_
                exact hret _ _ _ _ dX9_copy_80 (pair_fst (show sp_X9_copy M a0 a1 a2 a3 a4 = ((sp_X9_no M (-3)).1, (sp_X9_no M (-3)).2) from (by unfold sp_X9_copy; exact ((if_pos c1).trans ((if_pos c2).trans ((if_neg c3).trans ((if_neg c4).trans ((if_pos c5).trans ((if_pos c18).trans (if_neg c31)))))))))) (pair_snd (show sp_X9_copy M a0 a1 a2 a3 a4 = ((sp_X9_no M (-3)).1, (sp_X9_no M (-3)).2) from (by unfold sp_X9_copy; exact ((if_pos c1).trans ((if_pos c2).trans ((if_neg c3).trans ((if_neg c4).trans ((if_pos c5).trans ((if_pos c18).trans (if_neg c31))))))))))
    · refine r_aload_n (pc := 14) hG dX9_copy_14 rfl ?_
      refine r_bipush (pc := 15) hG dX9_copy_15 bc_m2 ?_
      refine cv_X9_no (pc := 17)  hG dX9_copy_17 tw_1273 (c_X9_no (bd_lit (n := 7) (by decide))) (by decide) (Nat.le_of_ble_eq_true rfl) ?_
      exact hret _ _ _ _ dX9_copy_20 (pair_fst (show sp_X9_copy M a0 a1 a2 a3 a4 = ((sp_X9_no M (-2)).1, (sp_X9_no M (-2)).2) from (by unfold sp_X9_copy; exact ((if_pos c1).trans (if_neg c2))))) (pair_snd (show sp_X9_copy M a0 a1 a2 a3 a4 = ((sp_X9_no M (-2)).1, (sp_X9_no M (-2)).2) from (by unfold sp_X9_copy; exact ((if_pos c1).trans (if_neg c2)))))
