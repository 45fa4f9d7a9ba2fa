/-! ===== spells, verb ===== -/
def sp_X6_spells (M : MT) (i : Nat) : Bool := decide (nI (kTx i).length = (M.2.1 6 3) - (M.2.1 6 2) ∧ ∀ j, j < (kTx i).length → M.2.1 7 (tn ((M.2.1 6 2) + nI j)) = (kTx i).getD j 0)
theorem te_sub {M : MT} (h : teB M) : (M.2.1 6 3) - (M.2.1 6 2) = nI (tn (M.2.1 6 3) - tn (M.2.1 6 2)) := by
  obtain ⟨h1, h2, h3⟩ := h
  have l1 := bd_lt h1
  have l2 := bd_lt h2
  have e : nI (tn (M.2.1 6 3) - tn (M.2.1 6 2)) + nI (tn (M.2.1 6 2)) = nI (tn (M.2.1 6 3)) := by
    rw [nI_add]
    congr 1
    omega
  rw [← bd_eq h1, ← bd_eq h2] at e
  have z := congrArg (fun x => x - M.2.1 6 2) e
  rw [Int32.add_sub_cancel] at z
  exact z.symm
theorem c_X6_spells {K : KT} {M : MT} {i : Nat} (hi : i < 7) (hte : teB M) : CM K 5 yX6_spells cX6_spells 3 (some .boolean) [rf K 9, rf K (210 + i)] M (some (.int (bz (sp_X6_spells M i)))) M := by
  refine CM.ofZ (by decide) [some (rf K 9), some (rf K (210 + i)), none] rfl (Nat.le_of_ble_eq_true rfl) (Nat.le_of_ble_eq_true rfl) (fun G hG _ hret => ?_)
  have hs := kTx_small i hi
  obtain ⟨hst, hen, hse⟩ := id hte
  have hstl := bd_lt hst
  have henl := bd_lt hen
  refine r_aload_n (pc := 0) hG dX6_spells_0 rfl ?_
  refine J_callVS (As := []) (st := []) (pc := 1) hi hG dX6_spells_1 (c_J0_length hi) (by decide) (by decide) tw_567 tw_568 tw_569 tw_84 tw_570 hy_J0_length (Nat.le_of_ble_eq_true rfl) ?_
  refine r_aload_n (pc := 4) hG dX6_spells_4 rfl ?_
  refine gf_X6_end (pc := 5) hG dX6_spells_5 tw_294 ?_
  refine r_aload_n (pc := 8) hG dX6_spells_8 rfl ?_
  refine gf_X6_start (pc := 9) hG dX6_spells_9 tw_293 ?_
  refine r_isub (pc := 12) hG dX6_spells_12 ?_
  refine r_icmp_eq (x := nI (kTx i).length) (pc := 13) (tgt := 18) hG dX6_spells_13 (by decide) (fun c => ?_) (fun c => ?_)
  · have hlen : (kTx i).length = tn (M.2.1 6 3) - tn (M.2.1 6 2) := by
      rw [te_sub hte] at c
      have := congrArg tn c
      rw [tn_nI (by omega), tn_nI (by omega)] at this
      exact this
    refine r_iconst (pc := 18) hG dX6_spells_18 ic_0 ?_
    refine r_istore_n (pc := 19) (ls' := [_, _, _]) hG dX6_spells_19 rfl rfl ?_
    have lp : ∀ k, k ≤ (kTx i).length → (∀ j, j < k → M.2.1 7 (tn ((M.2.1 6 2) + nI j)) = (kTx i).getD j 0) → J G K M 20 [some (rf K 9), some (rf K (210 + i)), some (.int (nI k))] [] := by
      refine up_ind (kTx i).length (fun k hk ih => ?_)
      intro hp
      refine r_iload_n (pc := 20) hG dX6_spells_20 rfl ?_
      refine r_aload_n (pc := 21) hG dX6_spells_21 rfl ?_
      refine J_callVS (As := []) (st := [.int (nI k)]) (pc := 22) hi hG dX6_spells_22 (c_J0_length hi) (by decide) (by decide) tw_567 tw_568 tw_569 tw_84 tw_570 hy_J0_length (Nat.le_of_ble_eq_true rfl) ?_
      refine r_icmp_ge (x := nI k) (y := nI (kTx i).length) (pc := 25) (tgt := 55) hG dX6_spells_25 (by decide) (fun q => ?_) (fun q => ?_)
      · have e : k = (kTx i).length := by
          have := (nI_leI (by omega) (by omega)).mp q
          omega
        refine r_iconst (pc := 55) hG dX6_spells_55 ic_1 ?_
        have t : sp_X6_spells M i = true := by
          unfold sp_X6_spells
          exact decide_eq_true ⟨c, fun j hj => hp j (by omega)⟩
        exact hret _ _ _ _ dX6_spells_56 (by rw [t]; rfl) rfl
      · have hl : k < (kTx i).length := by
          have := mt (nI_leI (by omega) (by omega)).mpr q
          omega
        refine r_aload_n (pc := 28) hG dX6_spells_28 rfl ?_
        refine gf_X6_letters (pc := 29) hG dX6_spells_29 tw_285 ?_
        refine r_aload_n (pc := 32) hG dX6_spells_32 rfl ?_
        refine gf_X6_start (pc := 33) hG dX6_spells_33 tw_293 ?_
        refine r_iload_n (pc := 36) hG dX6_spells_36 rfl ?_
        refine r_iadd (pc := 37) hG dX6_spells_37 ?_
        refine al_Let (pc := 38) hG dX6_spells_38 (ix_bd (off_bd hst hen (by omega))) ?_
        refine r_aload_n (pc := 39) hG dX6_spells_39 rfl ?_
        refine r_iload_n (pc := 40) hG dX6_spells_40 rfl ?_
        refine J_callVS (As := [.int (nI k)]) (pc := 41) hi hG dX6_spells_41 (c_J0_charAt hi hl) (by decide) (by decide) tw_577 tw_578 tw_579 tw_84 tw_580 hy_J0_charAt (Nat.le_of_ble_eq_true rfl) ?_
        refine r_icmp_eq (x := M.2.1 7 (tn ((M.2.1 6 2) + nI k))) (y := (kTx i).getD k 0) (pc := 44) (tgt := 49) hG dX6_spells_44 (by decide) (fun q => ?_) (fun q => ?_)
        · refine r_iinc (pc := 49) (v := nI (k + 1)) (ls' := [_, _, _]) hG dX6_spells_49 rfl (nI_1 _) rfl rfl ?_
          refine r_goto (pc := 52) (tgt := 20) hG dX6_spells_52 (by decide) ?_
          exact ih hl (fun j hj => (Nat.lt_or_eq_of_le (Nat.le_of_lt_succ hj)).elim (hp j) (fun z => by rw [z]; exact q))
        · refine r_iconst (pc := 47) hG dX6_spells_47 ic_0 ?_
          have t : sp_X6_spells M i = false := by
            unfold sp_X6_spells
            exact decide_eq_false (fun z => q (z.2 k hl))
          exact hret _ _ _ _ dX6_spells_48 (by rw [t]; rfl) rfl
    exact lp 0 (Nat.zero_le _) (fun j hj => absurd hj (Nat.not_lt_zero j))
  · refine r_iconst (pc := 16) hG dX6_spells_16 ic_0 ?_
    have t : sp_X6_spells M i = false := by
      unfold sp_X6_spells
      exact decide_eq_false (fun z => c z.1)
    exact hret _ _ _ _ dX6_spells_17 (by rw [t]; rfl) rfl
def sp_X6_verb (M : MT) : Int32 :=
  if sp_X6_spells M 0 = true then 0 else
  if sp_X6_spells M 1 = true then 1 else
  if sp_X6_spells M 2 = true then 2 else
  if sp_X6_spells M 3 = true then 3 else
  if sp_X6_spells M 4 = true then 4 else
  if sp_X6_spells M 5 = true then 5 else
  if sp_X6_spells M 6 = true then 6 else
  -1
theorem c_X6_verb {K : KT} {M : MT} (hte : teB M) : CM K 6 yX6_verb cX6_verb 1 (some .int) [rf K 9] M (some (.int (sp_X6_verb M))) M := by
  refine CM.ofI (by decide) [some (rf K 9)] rfl (Nat.le_of_ble_eq_true rfl) (Nat.le_of_ble_eq_true rfl) (fun G hG _ hret => ?_)
  refine r_aload_n (pc := 0) hG dX6_verb_0 rfl ?_
  refine r_ldcS (i := 0) (pc := 1) hG dX6_verb_1 List.mem_cons_self ?_
  refine cv_X6_spells (a0 := ad K (210 + 0)) (pc := 3) hG dX6_verb_3 tw_563 (c_X6_spells (i := 0) (by decide) hte) (by decide) (Nat.le_of_ble_eq_true rfl) ?_
  refine r_ifz_eq (b := sp_X6_spells M 0) (pc := 6) (tgt := 11) hG dX6_verb_6 (by decide) (fun c0 => ?_) (fun c0 => ?_)
  rotate_left
  · refine r_iconst (pc := 9) hG dX6_verb_9 ic_0 ?_
    exact hret _ _ _ _ dX6_verb_10 (Eq.symm (by unfold sp_X6_verb; exact (if_pos c0))) rfl
  refine r_aload_n (pc := 11) hG dX6_verb_11 rfl ?_
  refine r_ldcS (i := 1) (pc := 12) hG dX6_verb_12 (List.mem_cons_of_mem _ List.mem_cons_self) ?_
  refine cv_X6_spells (a0 := ad K (210 + 1)) (pc := 14) hG dX6_verb_14 tw_563 (c_X6_spells (i := 1) (by decide) hte) (by decide) (Nat.le_of_ble_eq_true rfl) ?_
  refine r_ifz_eq (b := sp_X6_spells M 1) (pc := 17) (tgt := 22) hG dX6_verb_17 (by decide) (fun c1 => ?_) (fun c1 => ?_)
  rotate_left
  · refine r_iconst (pc := 20) hG dX6_verb_20 ic_1 ?_
    exact hret _ _ _ _ dX6_verb_21 (Eq.symm (by unfold sp_X6_verb; exact ((if_neg c0).trans (if_pos c1)))) rfl
  refine r_aload_n (pc := 22) hG dX6_verb_22 rfl ?_
  refine r_ldcS (i := 2) (pc := 23) hG dX6_verb_23 (List.mem_cons_of_mem _ (List.mem_cons_of_mem _ List.mem_cons_self)) ?_
  refine cv_X6_spells (a0 := ad K (210 + 2)) (pc := 25) hG dX6_verb_25 tw_563 (c_X6_spells (i := 2) (by decide) hte) (by decide) (Nat.le_of_ble_eq_true rfl) ?_
  refine r_ifz_eq (b := sp_X6_spells M 2) (pc := 28) (tgt := 33) hG dX6_verb_28 (by decide) (fun c2 => ?_) (fun c2 => ?_)
  rotate_left
  · refine r_iconst (pc := 31) hG dX6_verb_31 ic_2 ?_
    exact hret _ _ _ _ dX6_verb_32 (Eq.symm (by unfold sp_X6_verb; exact ((if_neg c0).trans ((if_neg c1).trans (if_pos c2))))) rfl
  refine r_aload_n (pc := 33) hG dX6_verb_33 rfl ?_
  refine r_ldcS (i := 3) (pc := 34) hG dX6_verb_34 (List.mem_cons_of_mem _ (List.mem_cons_of_mem _ (List.mem_cons_of_mem _ List.mem_cons_self))) ?_
  refine cv_X6_spells (a0 := ad K (210 + 3)) (pc := 36) hG dX6_verb_36 tw_563 (c_X6_spells (i := 3) (by decide) hte) (by decide) (Nat.le_of_ble_eq_true rfl) ?_
  refine r_ifz_eq (b := sp_X6_spells M 3) (pc := 39) (tgt := 44) hG dX6_verb_39 (by decide) (fun c3 => ?_) (fun c3 => ?_)
  rotate_left
  · refine r_iconst (pc := 42) hG dX6_verb_42 ic_3 ?_
    exact hret _ _ _ _ dX6_verb_43 (Eq.symm (by unfold sp_X6_verb; exact ((if_neg c0).trans ((if_neg c1).trans ((if_neg c2).trans (if_pos c3)))))) rfl
  refine r_aload_n (pc := 44) hG dX6_verb_44 rfl ?_
  refine r_ldcS (i := 4) (pc := 45) hG dX6_verb_45 (List.mem_cons_of_mem _ (List.mem_cons_of_mem _ (List.mem_cons_of_mem _ (List.mem_cons_of_mem _ List.mem_cons_self)))) ?_
  refine cv_X6_spells (a0 := ad K (210 + 4)) (pc := 47) hG dX6_verb_47 tw_563 (c_X6_spells (i := 4) (by decide) hte) (by decide) (Nat.le_of_ble_eq_true rfl) ?_
  refine r_ifz_eq (b := sp_X6_spells M 4) (pc := 50) (tgt := 55) hG dX6_verb_50 (by decide) (fun c4 => ?_) (fun c4 => ?_)
  rotate_left
  · refine r_iconst (pc := 53) hG dX6_verb_53 ic_4 ?_
    exact hret _ _ _ _ dX6_verb_54 (Eq.symm (by unfold sp_X6_verb; exact ((if_neg c0).trans ((if_neg c1).trans ((if_neg c2).trans ((if_neg c3).trans (if_pos c4))))))) rfl
  refine r_aload_n (pc := 55) hG dX6_verb_55 rfl ?_
  refine r_ldcS (i := 5) (pc := 56) hG dX6_verb_56 (List.mem_cons_of_mem _ (List.mem_cons_of_mem _ (List.mem_cons_of_mem _ (List.mem_cons_of_mem _ (List.mem_cons_of_mem _ List.mem_cons_self))))) ?_
  refine cv_X6_spells (a0 := ad K (210 + 5)) (pc := 58) hG dX6_verb_58 tw_563 (c_X6_spells (i := 5) (by decide) hte) (by decide) (Nat.le_of_ble_eq_true rfl) ?_
  refine r_ifz_eq (b := sp_X6_spells M 5) (pc := 61) (tgt := 66) hG dX6_verb_61 (by decide) (fun c5 => ?_) (fun c5 => ?_)
  rotate_left
  · refine r_iconst (pc := 64) hG dX6_verb_64 ic_5 ?_
    exact hret _ _ _ _ dX6_verb_65 (Eq.symm (by unfold sp_X6_verb; exact ((if_neg c0).trans ((if_neg c1).trans ((if_neg c2).trans ((if_neg c3).trans ((if_neg c4).trans (if_pos c5)))))))) rfl
  refine r_aload_n (pc := 66) hG dX6_verb_66 rfl ?_
  refine r_ldcS (i := 6) (pc := 67) hG dX6_verb_67 (List.mem_cons_of_mem _ (List.mem_cons_of_mem _ (List.mem_cons_of_mem _ (List.mem_cons_of_mem _ (List.mem_cons_of_mem _ (List.mem_cons_of_mem _ List.mem_cons_self)))))) ?_
  refine cv_X6_spells (a0 := ad K (210 + 6)) (pc := 69) hG dX6_verb_69 tw_563 (c_X6_spells (i := 6) (by decide) hte) (by decide) (Nat.le_of_ble_eq_true rfl) ?_
  refine r_ifz_eq (b := sp_X6_spells M 6) (pc := 72) (tgt := 80) hG dX6_verb_72 (by decide) (fun c6 => ?_) (fun c6 => ?_)
  · refine r_iconst (pc := 80) hG dX6_verb_80 ic_m1 ?_
    exact hret _ _ _ _ dX6_verb_81 (Eq.symm (by unfold sp_X6_verb; exact ((if_neg c0).trans ((if_neg c1).trans ((if_neg c2).trans ((if_neg c3).trans ((if_neg c4).trans ((if_neg c5).trans (if_neg c6))))))))) rfl
  · refine r_bipush (pc := 75) hG dX6_verb_75 bc_6 ?_
    refine r_goto (pc := 77) (tgt := 81) hG dX6_verb_77 (by decide) ?_
    exact hret _ _ _ _ dX6_verb_81 (Eq.symm (by unfold sp_X6_verb; exact ((if_neg c0).trans ((if_neg c1).trans ((if_neg c2).trans ((if_neg c3).trans ((if_neg c4).trans ((if_neg c5).trans (if_pos c6))))))))) rfl
