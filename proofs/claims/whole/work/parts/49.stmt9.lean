/-! ===== the reference: one statement of the tape ===== -/
def tkR (M : MT) : Prop := bd (M.2.1 30 0) 251 ∧ bd (M.2.1 30 2) 251 ∧ tn (M.2.1 30 2) ≤ tn (M.2.1 30 0)
def teR (M : MT) : Prop := bd (M.2.1 30 1) 251 ∧ bd (M.2.1 30 2) 251 ∧ tn (M.2.1 30 1) ≤ tn (M.2.1 30 2)
theorem nx_1 {M : MT} : (sp_X9_next M).1 = M.1 := by
  unfold sp_X9_next; (repeat' split) <;> rfl
theorem nx_J {M : MT} : (sp_X9_next M).2.2 = M.2.2 := by
  unfold sp_X9_next; (repeat' split) <;> rfl
theorem nx_2 {M : MT} {a b : Nat} (h : ¬ (a = 30 ∧ 1 ≤ b ∧ b ≤ 4)) : (sp_X9_next M).2.1 a b = M.2.1 a b := by
  have key : ∀ t f e v, (rpM M t f e v).2.1 a b = M.2.1 a b := by
    intro t f e v
    show (if a = 30 then _ else _) = _
    by_cases ha : a = 30
    · have hb : b ≠ 1 ∧ b ≠ 2 ∧ b ≠ 3 ∧ b ≠ 4 := by omega
      rw [if_pos ha, if_neg hb.1, if_neg hb.2.1, if_neg hb.2.2.1, if_neg hb.2.2.2]
    · rw [if_neg ha]
  unfold sp_X9_next; (repeat' split) <;> exact key _ _ _ _
/-- from, to, size: where the token lies -/
theorem nx_p {M : MT} (h : tkR M) : ∃ s e, (sp_X9_next M).2.1 30 1 = nI s ∧ (sp_X9_next M).2.1 30 2 = nI e ∧ tn (M.2.1 30 2) ≤ s ∧ s ≤ e ∧ e ≤ tn (M.2.1 30 0) ∧ ((sp_X9_next M).2.1 30 3 = 119 → s < e) := by
  have h1 := nx1_le h.2.2
  unfold sp_X9_next
  generalize nx1 M = s at h1 ⊢
  split
  · exact ⟨s, s, rfl, rfl, h1.1, Nat.le_refl _, h1.2, fun q => absurd (show (101 : Int32) = 119 from q) (by decide)⟩
  · rename_i hlt
    split
    · have hw := nxW_le (M := M) (e := s + 1) (by omega)
      exact ⟨s, _, rfl, rfl, h1.1, by omega, hw.2, fun _ => by omega⟩
    · split
      · have hd := nxD_le (M := M) (f := s) (tn (M.2.1 30 0) - (s + 1)) (s + 1) (M.2.1 31 s - 48)
        exact ⟨s, _, rfl, rfl, h1.1, by omega, by omega, fun _ => by omega⟩
      · exact ⟨s, s + 1, rfl, rfl, h1.1, by omega, by omega, fun _ => by omega⟩
theorem nx_tk {M : MT} (h : tkR M) : tkR (sp_X9_next M) ∧ teR (sp_X9_next M) := by
  obtain ⟨s, e, e1, e2, h1, h2, h3, _⟩ := nx_p h
  have hl := bd_lt h.1
  have e0 : (sp_X9_next M).2.1 30 0 = M.2.1 30 0 := nx_2 (by omega)
  unfold tkR teR
  rw [e0, e1, e2]
  refine ⟨⟨h.1, bd_nI (by omega) (by omega), ?_⟩, bd_nI (by omega) (by omega), bd_nI (by omega) (by omega), ?_⟩
  · rw [tn_nI (by omega)]; omega
  · rw [tn_nI (by omega), tn_nI (by omega)]; omega
theorem nx_to {M : MT} (h : tkR M) : tn (M.2.1 30 2) ≤ tn ((sp_X9_next M).2.1 30 2) ∧ ((sp_X9_next M).2.1 30 3 = 119 → tn (M.2.1 30 2) < tn ((sp_X9_next M).2.1 30 2)) := by
  obtain ⟨s, e, e1, e2, h1, h2, h3, h4⟩ := nx_p h
  have hl := bd_lt h.1
  rw [e2, tn_nI (by omega)]
  exact ⟨by omega, fun q => by have := h4 q; omega⟩
theorem c_X9_nextt {K : KT} {M : MT} (h : tkR M) : CM K 3 yX9_next cX9_next 2 none [rf K 140] M none (sp_X9_next M) := c_X9_next h.1 h.2.1 h.2.2
theorem te_sub9 {M : MT} (h : teR M) : (M.2.1 30 2) - (M.2.1 30 1) = nI (tn (M.2.1 30 2) - tn (M.2.1 30 1)) := by
  obtain ⟨h1, h2, h3⟩ := h
  have l1 := bd_lt h1
  have l2 := bd_lt h2
  have z : (M.2.1 30 2) - (M.2.1 30 1) = nI (tn (M.2.1 30 2)) - nI (tn (M.2.1 30 1)) := by rw [← bd_eq h1, ← bd_eq h2]
  rw [z, pk_sub h3]
def sp_X9_isWord (M : MT) (i : Nat) : Bool := decide (M.2.1 30 3 = 119 ∧ (M.2.1 30 2) - (M.2.1 30 1) = nI (kTx i).length ∧ ∀ j, j < (kTx i).length → M.2.1 31 (tn ((M.2.1 30 1) + nI j)) = (kTx i).getD j 0)

theorem c_X9_isWord {K : KT} {M : MT} {i : Nat} (hi : i < 7) (hte : teR M) : CM K 5 yX9_isWord cX9_isWord 3 (some .boolean) [rf K 140, rf K (210 + i)] M (some (.int (bz (sp_X9_isWord M i)))) M := by
  refine CM.ofZ (by decide) [some (rf K 140), some (rf K (210 + i)), none] rfl (Nat.le_of_ble_eq_true rfl) (Nat.le_of_ble_eq_true rfl) (fun G hG _ hret => ?_)
  have hs := kTx_small i hi
  obtain ⟨hst, hen, hse⟩ := id hte
  have hstl := bd_lt hst
  have henl := bd_lt hen
  have no : ¬ (M.2.1 30 3 = 119 ∧ (M.2.1 30 2) - (M.2.1 30 1) = nI (kTx i).length) → J G K M 25 [some (rf K 140), some (rf K (210 + i)), none] [] := by
    intro z
    have t : sp_X9_isWord M i = false := decide_eq_false (fun y => z ⟨y.1, y.2.1⟩)
    refine r_iconst (pc := 25) hG dX9_isWord_25 ic_0 ?_
    exact hret _ _ _ _ dX9_isWord_26 (by rw [t]; rfl) rfl
  refine r_aload_n (pc := 0) hG dX9_isWord_0 rfl ?_
  refine gf_X9_token (pc := 1)  hG dX9_isWord_1 tw_1184 ?_
  refine r_bipush (pc := 4) hG dX9_isWord_4 bc_119 ?_
  refine r_icmp_ne (pc := 6) (tgt := 25) hG dX9_isWord_6 (by decide) (fun a => no (fun z => a z.1)) (fun a => ?_)
  refine r_aload_n (pc := 9) hG dX9_isWord_9 rfl ?_
  refine gf_X9_to (pc := 10)  hG dX9_isWord_10 tw_1183 ?_
  refine r_aload_n (pc := 13) hG dX9_isWord_13 rfl ?_
  refine gf_X9_from (pc := 14)  hG dX9_isWord_14 tw_1182 ?_
  refine r_isub (pc := 17) hG dX9_isWord_17 ?_
  refine r_aload_n (pc := 18) hG dX9_isWord_18 rfl ?_
  refine J_callVS (As := []) (pc := 19) hi hG dX9_isWord_19 (c_J0_length hi) (by decide) (by decide) tw_1390 tw_568 tw_569 tw_84 tw_570 hy_J0_length (Nat.le_of_ble_eq_true rfl) ?_
  refine r_icmp_eq (y := nI (kTx i).length) (pc := 22) (tgt := 27) hG dX9_isWord_22 (by decide) (fun c => ?_) (fun c => no (fun z => c z.2))
  have hlen : (kTx i).length = tn (M.2.1 30 2) - tn (M.2.1 30 1) := by
    have := congrArg tn ((te_sub9 hte).symm.trans c)
    rw [tn_nI (by omega), tn_nI (by omega)] at this
    exact this.symm
  refine r_iconst (pc := 27) hG dX9_isWord_27 ic_0 ?_
  refine r_istore_n (pc := 28) (ls' := [_, _, _]) hG dX9_isWord_28 rfl rfl ?_
  have lp : ∀ k, k ≤ (kTx i).length → (∀ j, j < k → M.2.1 31 (tn ((M.2.1 30 1) + nI j)) = (kTx i).getD j 0) → J G K M 29 [some (rf K 140), some (rf K (210 + i)), some (.int (nI k))] [] := by
    refine up_ind (kTx i).length (fun k hk ih => ?_)
    intro hp
    refine r_iload_n (pc := 29) hG dX9_isWord_29 rfl ?_
    refine r_aload_n (pc := 30) hG dX9_isWord_30 rfl ?_
    refine J_callVS (As := []) (st := [.int (nI k)]) (pc := 31) hi hG dX9_isWord_31 (c_J0_length hi) (by decide) (by decide) tw_1390 tw_568 tw_569 tw_84 tw_570 hy_J0_length (Nat.le_of_ble_eq_true rfl) ?_
    refine r_icmp_ge (x := nI k) (y := nI (kTx i).length) (pc := 34) (tgt := 64) hG dX9_isWord_34 (by decide) (fun q => ?_) (fun q => ?_)
    · have e : k = (kTx i).length := by
        have := (nI_leI (by omega) (by omega)).mp q
        omega
      refine r_iconst (pc := 64) hG dX9_isWord_64 ic_1 ?_
      have t : sp_X9_isWord M i = true := decide_eq_true ⟨a, c, fun j hj => hp j (by omega)⟩
      exact hret _ _ _ _ dX9_isWord_65 (by rw [t]; rfl) rfl
    · have hl : k < (kTx i).length := by
        have := mt (nI_leI (by omega) (by omega)).mpr q
        omega
      refine r_aload_n (pc := 37) hG dX9_isWord_37 rfl ?_
      refine gf_X9_tape (pc := 38)  hG dX9_isWord_38 tw_1181 ?_
      refine r_aload_n (pc := 41) hG dX9_isWord_41 rfl ?_
      refine gf_X9_from (pc := 42)  hG dX9_isWord_42 tw_1182 ?_
      refine r_iload_n (pc := 45) hG dX9_isWord_45 rfl ?_
      refine r_iadd (pc := 46) hG dX9_isWord_46 ?_
      refine al_Mtape (pc := 47)  hG dX9_isWord_47 (ix_bd (off_bd hst hen (by omega))) ?_
      refine r_aload_n (pc := 48) hG dX9_isWord_48 rfl ?_
      refine r_iload_n (pc := 49) hG dX9_isWord_49 rfl ?_
      refine J_callVS (As := [.int (nI k)]) (pc := 50) hi hG dX9_isWord_50 (c_J0_charAt hi hl) (by decide) (by decide) tw_1391 tw_578 tw_579 tw_84 tw_580 hy_J0_charAt (Nat.le_of_ble_eq_true rfl) ?_
      refine r_icmp_eq (x := M.2.1 31 (tn ((M.2.1 30 1) + nI k))) (y := (kTx i).getD k 0) (pc := 53) (tgt := 58) hG dX9_isWord_53 (by decide) (fun q => ?_) (fun q => ?_)
      · refine r_iinc (pc := 58) (v := nI (k + 1)) (ls' := [_, _, _]) hG dX9_isWord_58 rfl (nI_1 _) rfl rfl ?_
        refine r_goto (pc := 61) (tgt := 29) hG dX9_isWord_61 (by decide) ?_
        exact ih hl (fun j hj => (Nat.lt_or_eq_of_le (Nat.le_of_lt_succ hj)).elim (hp j) (fun z => by rw [z]; exact q))
      · refine r_iconst (pc := 56) hG dX9_isWord_56 ic_0 ?_
        have t : sp_X9_isWord M i = false := decide_eq_false (fun z => q (z.2.2 k hl))
        exact hret _ _ _ _ dX9_isWord_57 (by rw [t]; rfl) rfl
  exact lp 0 (Nat.zero_le _) (fun j hj => absurd hj (Nat.not_lt_zero j))

def sp_X9_number (M : MT) (a0 : Int32) (a1 : Int32) : Int32 × MT :=
  if ((sp_X9_next M).2.1 30 3) = 48 then
    if (sp_X9_within ((sp_X9_next M).2.1 30 4) a0 a1) = true then
      ((sp_X9_next M).2.1 30 4, sp_X9_next M)
    else
      ((-1), sp_X9_next M)
  else
    ((-1), sp_X9_next M)
set_option maxRecDepth 20000 in
theorem c_X9_number {K : KT} {M : MT} {a0 : Int32} {a1 : Int32}  (htk : tkR M) : CM K 4 yX9_number cX9_number 3 (some FieldType.int) [rf K 140, .int a0, .int a1] M (some (.int (sp_X9_number M a0 a1).1)) (sp_X9_number M a0 a1).2 := by
  refine CM.ofI (by decide) [some (rf K 140), some (.int a0), some (.int a1)] rfl (Nat.le_of_ble_eq_true rfl) (Nat.le_of_ble_eq_true rfl) (fun G hG _ hret => ?_)
  refine r_aload_n (pc := 0) hG dX9_number_0 rfl ?_
  refine cv_X9_next (pc := 1)  hG dX9_number_1 tw_1371 (c_X9_nextt htk) (by decide) (Nat.le_of_ble_eq_true rfl) ?_
  refine r_aload_n (pc := 4) hG dX9_number_4 rfl ?_
  refine gf_X9_token (pc := 5)  hG dX9_number_5 tw_1184 ?_
  refine r_bipush (pc := 8) hG dX9_number_8 bc_48 ?_
  refine r_icmp_ne (pc := 10) (tgt := 32) hG dX9_number_10 (by decide) (fun c1 => ?_) (fun c1 => ?_)
  · refine r_iconst (pc := 32) hG dX9_number_32 ic_m1 ?_
    exact hret _ _ _ _ dX9_number_33 (pair_fst (show sp_X9_number M a0 a1 = ((-1), sp_X9_next M) from (by unfold sp_X9_number; exact (if_neg c1)))) (pair_snd (show sp_X9_number M a0 a1 = ((-1), sp_X9_next M) from (by unfold sp_X9_number; exact (if_neg c1))))
  · refine r_aload_n (pc := 13) hG dX9_number_13 rfl ?_
    refine gf_X9_value (pc := 14)  hG dX9_number_14 tw_1185 ?_
    refine r_iload_n (pc := 17) hG dX9_number_17 rfl ?_
    refine r_iload_n (pc := 18) hG dX9_number_18 rfl ?_
    refine cs_X9_within (pc := 19)  hG dX9_number_19 tw_1270 (c_X9_within) (by decide) (Nat.le_of_ble_eq_true rfl) ?_
    refine r_ifz_eq (pc := 22) (tgt := 32) hG dX9_number_22 (by decide) (fun c2 => ?_) (fun c2 => ?_)
    · refine r_iconst (pc := 32) hG dX9_number_32 ic_m1 ?_
      exact hret _ _ _ _ dX9_number_33 (pair_fst (show sp_X9_number M a0 a1 = ((-1), sp_X9_next M) from (by unfold sp_X9_number; exact ((if_pos c1).trans (if_neg c2))))) (pair_snd (show sp_X9_number M a0 a1 = ((-1), sp_X9_next M) from (by unfold sp_X9_number; exact ((if_pos c1).trans (if_neg c2)))))
    · refine r_aload_n (pc := 25) hG dX9_number_25 rfl ?_
      refine gf_X9_value (pc := 26)  hG dX9_number_26 tw_1185 ?_
      refine r_goto (pc := 29) (tgt := 33) hG dX9_number_29 (by decide) ?_
      exact hret _ _ _ _ dX9_number_33 (pair_fst (show sp_X9_number M a0 a1 = ((sp_X9_next M).2.1 30 4, sp_X9_next M) from (by unfold sp_X9_number; exact ((if_pos c1).trans (if_pos c2))))) (pair_snd (show sp_X9_number M a0 a1 = ((sp_X9_next M).2.1 30 4, sp_X9_next M) from (by unfold sp_X9_number; exact ((if_pos c1).trans (if_pos c2)))))

theorem nu_2 {M : MT} {a b : Int32} : (sp_X9_number M a b).2 = sp_X9_next M := by
  unfold sp_X9_number; (repeat' split) <;> rfl
theorem nu_tk {M : MT} {a b : Int32} (h : tkR M) : tkR (sp_X9_number M a b).2 := by
  rw [nu_2]; exact (nx_tk h).1
theorem nu_1 {M : MT} {a b : Int32} : (sp_X9_number M a b).2.1 = M.1 := by
  rw [nu_2]; exact nx_1
theorem nu_in {M : MT} {a b : Int32} (h : ¬ (sp_X9_number M a b).1 = -1) : a ≤ (sp_X9_number M a b).1 ∧ (sp_X9_number M a b).1 ≤ b := by
  unfold sp_X9_number at h ⊢
  split
  · rename_i c
    rw [if_pos c] at h
    split
    · rename_i c2
      exact within_iff.mp (w98 ▸ c2)
    · rename_i c2
      rw [if_neg c2] at h
      exact absurd rfl h
  · rename_i c
    rw [if_neg c] at h
    exact absurd rfl h

def sp_X9_cellTold (M : MT) : Int32 × MT :=
  ((sp_X9_number M 0 ((M.1 5 2 0) - 1)).1, (sp_X9_number M 0 ((M.1 5 2 0) - 1)).2)
set_option maxRecDepth 20000 in
theorem c_X9_cellTold {K : KT} {M : MT}   (htk : tkR M) : CM K 5 yX9_cellTold cX9_cellTold 1 (some FieldType.int) [rf K 140] M (some (.int (sp_X9_cellTold M).1)) (sp_X9_cellTold M).2 := by
  refine CM.ofI (by decide) [some (rf K 140)] rfl (Nat.le_of_ble_eq_true rfl) (Nat.le_of_ble_eq_true rfl) (fun G hG _ hret => ?_)
  refine r_aload_n (pc := 0) hG dX9_cellTold_0 rfl ?_
  refine r_iconst (pc := 1) hG dX9_cellTold_1 ic_0 ?_
  refine r_aload_n (pc := 2) hG dX9_cellTold_2 rfl ?_
  refine gf_X9_n (pc := 3)  hG dX9_cellTold_3 tw_1166 ?_
  refine r_iconst (pc := 6) hG dX9_cellTold_6 ic_1 ?_
  refine r_isub (pc := 7) hG dX9_cellTold_7 ?_
  refine cv_X9_number (pc := 8)  hG dX9_cellTold_8 tw_1400 (c_X9_number htk) (by decide) (Nat.le_of_ble_eq_true rfl) ?_
  exact hret _ _ _ _ dX9_cellTold_11 (pair_fst (show sp_X9_cellTold M = ((sp_X9_number M 0 ((M.1 5 2 0) - 1)).1, (sp_X9_number M 0 ((M.1 5 2 0) - 1)).2) from (by unfold sp_X9_cellTold; exact rfl))) (pair_snd (show sp_X9_cellTold M = ((sp_X9_number M 0 ((M.1 5 2 0) - 1)).1, (sp_X9_number M 0 ((M.1 5 2 0) - 1)).2) from (by unfold sp_X9_cellTold; exact rfl)))

theorem ct_tk {M : MT} (h : tkR M) : tkR (sp_X9_cellTold M).2 := nu_tk h
theorem ct_1 {M : MT} : (sp_X9_cellTold M).2.1 = M.1 := nu_1
theorem bd5w {M : MT} (h : bd (M.1 5 0 0) 9) (c : ¬ M.1 5 0 0 = 8) : bd (M.1 5 0 0) 8 := ne8 h c

theorem bz_pt {p : Bool × MT} {m : MT} (h : p = (true, m)) : (1 : Int32) = bz p.1 := by rw [h]; rfl
theorem bz_pf {p : Bool × MT} {m : MT} (h : p = (false, m)) : (0 : Int32) = bz p.1 := by rw [h]; rfl
theorem bz_pe {p : Bool × MT} {b : Bool} {m : MT} (h : p = (b, m)) : bz b = bz p.1 := by rw [h]

def sp_X9_opens (M : MT) : Bool × MT :=
  if (M.1 5 0 0) = 8 then
    (false, M)
  else
    if ((sp_X9_cellTold M).1) = (-1) then
      (false, (sp_X9_cellTold M).2)
    else
      if ((sp_X9_number ((sp_X9_cellTold M).2) 1 5).1) = (-1) then
        (false, (sp_X9_number ((sp_X9_cellTold M).2) 1 5).2)
      else
        if ((sp_X9_number ((sp_X9_number ((sp_X9_cellTold M).2) 1 5).2) 0 9).1) = (-1) then
          (false, (sp_X9_number ((sp_X9_number ((sp_X9_cellTold M).2) 1 5).2) 0 9).2)
        else
          (true, (sp_X9_newWindow ((sp_X9_number ((sp_X9_number ((sp_X9_cellTold M).2) 1 5).2) 0 9).2) ((sp_X9_cellTold M).1) ((sp_X9_number ((sp_X9_cellTold M).2) 1 5).1) ((sp_X9_number ((sp_X9_number ((sp_X9_cellTold M).2) 1 5).2) 0 9).1)).2)
set_option maxRecDepth 20000 in
theorem c_X9_opens {K : KT} {M : MT}   (htk : tkR M) (hwc5 : bd (M.1 5 0 0) 9) : CM K 6 yX9_opens cX9_opens 4 (some FieldType.boolean) [rf K 140] M (some (.int (bz (sp_X9_opens M).1))) (sp_X9_opens M).2 := by
  refine CM.ofZ (by decide) [some (rf K 140), none, none, none] rfl (Nat.le_of_ble_eq_true rfl) (Nat.le_of_ble_eq_true rfl) (fun G hG _ hret => ?_)
  have hwl5 := bd_lt hwc5
  refine r_aload_n (pc := 0) hG dX9_opens_0 rfl ?_
  refine gf_X9_windows (pc := 1)  hG dX9_opens_1 tw_1169 ?_
  refine r_bipush (pc := 4) hG dX9_opens_4 bc_8 ?_
  refine r_icmp_ne (pc := 6) (tgt := 11) hG dX9_opens_6 (by decide) (fun c1 => ?_) (fun c1 => ?_)
  · refine r_aload_n (pc := 11) hG dX9_opens_11 rfl ?_
    refine cv_X9_cellTold (pc := 12)  hG dX9_opens_12 tw_1396 (c_X9_cellTold htk) (by decide) (Nat.le_of_ble_eq_true rfl) ?_
    refine r_istore_n (pc := 15) (ls' := [_, _, _, _]) hG dX9_opens_15 rfl rfl ?_
    refine r_iload_n (pc := 16) hG dX9_opens_16 rfl ?_
    refine r_iconst (pc := 17) hG dX9_opens_17 ic_m1 ?_
    refine r_icmp_ne (pc := 18) (tgt := 25) hG dX9_opens_18 (by decide) (fun c2 => ?_) (fun c2 => ?_)
    · refine r_aload_n (pc := 25) hG dX9_opens_25 rfl ?_
      refine r_iconst (pc := 26) hG dX9_opens_26 ic_1 ?_
      refine r_iconst (pc := 27) hG dX9_opens_27 ic_5 ?_
      refine cv_X9_number (pc := 28)  hG dX9_opens_28 tw_1400 (c_X9_number (ct_tk htk)) (by decide) (Nat.le_of_ble_eq_true rfl) ?_
      refine r_istore_n (pc := 31) (ls' := [_, _, _, _]) hG dX9_opens_31 rfl rfl ?_
      refine r_iload_n (pc := 32) hG dX9_opens_32 rfl ?_
      refine r_iconst (pc := 33) hG dX9_opens_33 ic_m1 ?_
      refine r_icmp_ne (pc := 34) (tgt := 41) hG dX9_opens_34 (by decide) (fun c3 => ?_) (fun c3 => ?_)
      · refine r_aload_n (pc := 41) hG dX9_opens_41 rfl ?_
        refine r_iconst (pc := 42) hG dX9_opens_42 ic_0 ?_
        refine r_bipush (pc := 43) hG dX9_opens_43 bc_9 ?_
        refine cv_X9_number (pc := 45)  hG dX9_opens_45 tw_1400 (c_X9_number (nu_tk (ct_tk htk))) (by decide) (Nat.le_of_ble_eq_true rfl) ?_
        refine r_istore_n (pc := 48) (ls' := [_, _, _, _]) hG dX9_opens_48 rfl rfl ?_
        refine r_iload_n (pc := 49) hG dX9_opens_49 rfl ?_
        refine r_iconst (pc := 50) hG dX9_opens_50 ic_m1 ?_
        refine r_icmp_ne (pc := 51) (tgt := 56) hG dX9_opens_51 (by decide) (fun c4 => ?_) (fun c4 => ?_)
        · refine r_aload_n (pc := 56) hG dX9_opens_56 rfl ?_
          refine r_iload_n (pc := 57) hG dX9_opens_57 rfl ?_
          refine r_iload_n (pc := 58) hG dX9_opens_58 rfl ?_
          refine r_iload_n (pc := 59) hG dX9_opens_59 rfl ?_
          refine cv_X9_newWindow (pc := 60)  hG dX9_opens_60 tw_1335 (c_X9_newWindow (by rw [nu_1, nu_1, ct_1]; exact ne8 hwc5 c1)) (by decide) (Nat.le_of_ble_eq_true rfl) ?_
          refine r_pop (pc := 63) hG dX9_opens_63 rfl ?_
          refine r_iconst (pc := 64) hG dX9_opens_64 ic_1 ?_
          exact hret _ _ _ _ dX9_opens_65 (bz_pt (show sp_X9_opens M = (true, (sp_X9_newWindow ((sp_X9_number ((sp_X9_number ((sp_X9_cellTold M).2) 1 5).2) 0 9).2) ((sp_X9_cellTold M).1) ((sp_X9_number ((sp_X9_cellTold M).2) 1 5).1) ((sp_X9_number ((sp_X9_number ((sp_X9_cellTold M).2) 1 5).2) 0 9).1)).2) from (by unfold sp_X9_opens; exact ((if_neg c1).trans ((if_neg c2).trans ((if_neg c3).trans (if_neg c4))))))) (pair_snd (show sp_X9_opens M = (true, (sp_X9_newWindow ((sp_X9_number ((sp_X9_number ((sp_X9_cellTold M).2) 1 5).2) 0 9).2) ((sp_X9_cellTold M).1) ((sp_X9_number ((sp_X9_cellTold M).2) 1 5).1) ((sp_X9_number ((sp_X9_number ((sp_X9_cellTold M).2) 1 5).2) 0 9).1)).2) from (by unfold sp_X9_opens; exact ((if_neg c1).trans ((if_neg c2).trans ((if_neg c3).trans (if_neg c4)))))))
        · refine r_iconst (pc := 54) hG dX9_opens_54 ic_0 ?_
          exact hret _ _ _ _ dX9_opens_55 (bz_pf (show sp_X9_opens M = (false, (sp_X9_number ((sp_X9_number ((sp_X9_cellTold M).2) 1 5).2) 0 9).2) from (by unfold sp_X9_opens; exact ((if_neg c1).trans ((if_neg c2).trans ((if_neg c3).trans (if_pos c4))))))) (pair_snd (show sp_X9_opens M = (false, (sp_X9_number ((sp_X9_number ((sp_X9_cellTold M).2) 1 5).2) 0 9).2) from (by unfold sp_X9_opens; exact ((if_neg c1).trans ((if_neg c2).trans ((if_neg c3).trans (if_pos c4)))))))
      · refine r_iconst (pc := 37) hG dX9_opens_37 ic_m1 ?_
        refine r_goto (pc := 38) (tgt := 48) hG dX9_opens_38 (by decide) ?_
        refine r_istore_n (pc := 48) (ls' := [_, _, _, _]) hG dX9_opens_48 rfl rfl ?_
        refine r_iload_n (pc := 49) hG dX9_opens_49 rfl ?_
        refine r_iconst (pc := 50) hG dX9_opens_50 ic_m1 ?_
        refine r_icmp_ne (pc := 51) (tgt := 56) hG dX9_opens_51 (by decide) (fun c5 => ?_) (fun c5 => ?_)
        · exact absurd (by decide) c5
        · refine r_iconst (pc := 54) hG dX9_opens_54 ic_0 ?_
          exact hret _ _ _ _ dX9_opens_55 (bz_pf (show sp_X9_opens M = (false, (sp_X9_number ((sp_X9_cellTold M).2) 1 5).2) from (by unfold sp_X9_opens; exact ((if_neg c1).trans ((if_neg c2).trans (if_pos c3)))))) (pair_snd (show sp_X9_opens M = (false, (sp_X9_number ((sp_X9_cellTold M).2) 1 5).2) from (by unfold sp_X9_opens; exact ((if_neg c1).trans ((if_neg c2).trans (if_pos c3))))))
    · refine r_iconst (pc := 21) hG dX9_opens_21 ic_m1 ?_
      refine r_goto (pc := 22) (tgt := 31) hG dX9_opens_22 (by decide) ?_
      refine r_istore_n (pc := 31) (ls' := [_, _, _, _]) hG dX9_opens_31 rfl rfl ?_
      refine r_iload_n (pc := 32) hG dX9_opens_32 rfl ?_
      refine r_iconst (pc := 33) hG dX9_opens_33 ic_m1 ?_
      refine r_icmp_ne (pc := 34) (tgt := 41) hG dX9_opens_34 (by decide) (fun c6 => ?_) (fun c6 => ?_)
      · exact absurd (by decide) c6
      · refine r_iconst (pc := 37) hG dX9_opens_37 ic_m1 ?_
        refine r_goto (pc := 38) (tgt := 48) hG dX9_opens_38 (by decide) ?_
        refine r_istore_n (pc := 48) (ls' := [_, _, _, _]) hG dX9_opens_48 rfl rfl ?_
        refine r_iload_n (pc := 49) hG dX9_opens_49 rfl ?_
        refine r_iconst (pc := 50) hG dX9_opens_50 ic_m1 ?_
        refine r_icmp_ne (pc := 51) (tgt := 56) hG dX9_opens_51 (by decide) (fun c7 => ?_) (fun c7 => ?_)
        · exact absurd (by decide) c7
        · refine r_iconst (pc := 54) hG dX9_opens_54 ic_0 ?_
          exact hret _ _ _ _ dX9_opens_55 (bz_pf (show sp_X9_opens M = (false, (sp_X9_cellTold M).2) from (by unfold sp_X9_opens; exact ((if_neg c1).trans (if_pos c2))))) (pair_snd (show sp_X9_opens M = (false, (sp_X9_cellTold M).2) from (by unfold sp_X9_opens; exact ((if_neg c1).trans (if_pos c2)))))
  · refine r_iconst (pc := 9) hG dX9_opens_9 ic_0 ?_
    exact hret _ _ _ _ dX9_opens_10 (bz_pf (show sp_X9_opens M = (false, M) from (by unfold sp_X9_opens; exact (if_pos c1)))) (pair_snd (show sp_X9_opens M = (false, M) from (by unfold sp_X9_opens; exact (if_pos c1))))

def sp_X9_arrives (M : MT) : Bool × MT :=
  if (M.1 5 1 0) = 8 then
    (false, M)
  else
    if ((sp_X9_number M 0 5).1) = (-1) then
      (false, (sp_X9_number M 0 5).2)
    else
      if ((sp_X9_number ((sp_X9_number M 0 5).2) 0 9).1) = (-1) then
        (false, (sp_X9_number ((sp_X9_number M 0 5).2) 0 9).2)
      else
        if ((sp_X9_cellTold ((sp_X9_number ((sp_X9_number M 0 5).2) 0 9).2)).1) = (-1) then
          (false, (sp_X9_cellTold ((sp_X9_number ((sp_X9_number M 0 5).2) 0 9).2)).2)
        else
          (true, (sp_X9_newOne ((sp_X9_cellTold ((sp_X9_number ((sp_X9_number M 0 5).2) 0 9).2)).2) ((sp_X9_number M 0 5).1) ((sp_X9_number ((sp_X9_number M 0 5).2) 0 9).1) ((sp_X9_cellTold ((sp_X9_number ((sp_X9_number M 0 5).2) 0 9).2)).1)).2)
set_option maxRecDepth 20000 in
theorem c_X9_arrives {K : KT} {M : MT}   (htk : tkR M) (hpc5 : bd (M.1 5 1 0) 9) : CM K 6 yX9_arrives cX9_arrives 4 (some FieldType.boolean) [rf K 140] M (some (.int (bz (sp_X9_arrives M).1))) (sp_X9_arrives M).2 := by
  refine CM.ofZ (by decide) [some (rf K 140), none, none, none] rfl (Nat.le_of_ble_eq_true rfl) (Nat.le_of_ble_eq_true rfl) (fun G hG _ hret => ?_)
  have hpl5 := bd_lt hpc5
  refine r_aload_n (pc := 0) hG dX9_arrives_0 rfl ?_
  refine gf_X9_people (pc := 1)  hG dX9_arrives_1 tw_1173 ?_
  refine r_bipush (pc := 4) hG dX9_arrives_4 bc_8 ?_
  refine r_icmp_ne (pc := 6) (tgt := 11) hG dX9_arrives_6 (by decide) (fun c1 => ?_) (fun c1 => ?_)
  · refine r_aload_n (pc := 11) hG dX9_arrives_11 rfl ?_
    refine r_iconst (pc := 12) hG dX9_arrives_12 ic_0 ?_
    refine r_iconst (pc := 13) hG dX9_arrives_13 ic_5 ?_
    refine cv_X9_number (pc := 14)  hG dX9_arrives_14 tw_1400 (c_X9_number htk) (by decide) (Nat.le_of_ble_eq_true rfl) ?_
    refine r_istore_n (pc := 17) (ls' := [_, _, _, _]) hG dX9_arrives_17 rfl rfl ?_
    refine r_iload_n (pc := 18) hG dX9_arrives_18 rfl ?_
    refine r_iconst (pc := 19) hG dX9_arrives_19 ic_m1 ?_
    refine r_icmp_ne (pc := 20) (tgt := 27) hG dX9_arrives_20 (by decide) (fun c2 => ?_) (fun c2 => ?_)
    · refine r_aload_n (pc := 27) hG dX9_arrives_27 rfl ?_
      refine r_iconst (pc := 28) hG dX9_arrives_28 ic_0 ?_
      refine r_bipush (pc := 29) hG dX9_arrives_29 bc_9 ?_
      refine cv_X9_number (pc := 31)  hG dX9_arrives_31 tw_1400 (c_X9_number (nu_tk htk)) (by decide) (Nat.le_of_ble_eq_true rfl) ?_
      refine r_istore_n (pc := 34) (ls' := [_, _, _, _]) hG dX9_arrives_34 rfl rfl ?_
      refine r_iload_n (pc := 35) hG dX9_arrives_35 rfl ?_
      refine r_iconst (pc := 36) hG dX9_arrives_36 ic_m1 ?_
      refine r_icmp_ne (pc := 37) (tgt := 44) hG dX9_arrives_37 (by decide) (fun c3 => ?_) (fun c3 => ?_)
      · refine r_aload_n (pc := 44) hG dX9_arrives_44 rfl ?_
        refine cv_X9_cellTold (pc := 45)  hG dX9_arrives_45 tw_1396 (c_X9_cellTold (nu_tk (nu_tk htk))) (by decide) (Nat.le_of_ble_eq_true rfl) ?_
        refine r_istore_n (pc := 48) (ls' := [_, _, _, _]) hG dX9_arrives_48 rfl rfl ?_
        refine r_iload_n (pc := 49) hG dX9_arrives_49 rfl ?_
        refine r_iconst (pc := 50) hG dX9_arrives_50 ic_m1 ?_
        refine r_icmp_ne (pc := 51) (tgt := 56) hG dX9_arrives_51 (by decide) (fun c4 => ?_) (fun c4 => ?_)
        · refine r_aload_n (pc := 56) hG dX9_arrives_56 rfl ?_
          refine r_iload_n (pc := 57) hG dX9_arrives_57 rfl ?_
          refine r_iload_n (pc := 58) hG dX9_arrives_58 rfl ?_
          refine r_iload_n (pc := 59) hG dX9_arrives_59 rfl ?_
          refine cv_X9_newOne (pc := 60)  hG dX9_arrives_60 tw_1343 (c_X9_newOne (by rw [ct_1, nu_1, nu_1]; exact ne8 hpc5 c1)) (by decide) (Nat.le_of_ble_eq_true rfl) ?_
          refine r_pop (pc := 63) hG dX9_arrives_63 rfl ?_
          refine r_iconst (pc := 64) hG dX9_arrives_64 ic_1 ?_
          exact hret _ _ _ _ dX9_arrives_65 (bz_pt (show sp_X9_arrives M = (true, (sp_X9_newOne ((sp_X9_cellTold ((sp_X9_number ((sp_X9_number M 0 5).2) 0 9).2)).2) ((sp_X9_number M 0 5).1) ((sp_X9_number ((sp_X9_number M 0 5).2) 0 9).1) ((sp_X9_cellTold ((sp_X9_number ((sp_X9_number M 0 5).2) 0 9).2)).1)).2) from (by unfold sp_X9_arrives; exact ((if_neg c1).trans ((if_neg c2).trans ((if_neg c3).trans (if_neg c4))))))) (pair_snd (show sp_X9_arrives M = (true, (sp_X9_newOne ((sp_X9_cellTold ((sp_X9_number ((sp_X9_number M 0 5).2) 0 9).2)).2) ((sp_X9_number M 0 5).1) ((sp_X9_number ((sp_X9_number M 0 5).2) 0 9).1) ((sp_X9_cellTold ((sp_X9_number ((sp_X9_number M 0 5).2) 0 9).2)).1)).2) from (by unfold sp_X9_arrives; exact ((if_neg c1).trans ((if_neg c2).trans ((if_neg c3).trans (if_neg c4)))))))
        · refine r_iconst (pc := 54) hG dX9_arrives_54 ic_0 ?_
          exact hret _ _ _ _ dX9_arrives_55 (bz_pf (show sp_X9_arrives M = (false, (sp_X9_cellTold ((sp_X9_number ((sp_X9_number M 0 5).2) 0 9).2)).2) from (by unfold sp_X9_arrives; exact ((if_neg c1).trans ((if_neg c2).trans ((if_neg c3).trans (if_pos c4))))))) (pair_snd (show sp_X9_arrives M = (false, (sp_X9_cellTold ((sp_X9_number ((sp_X9_number M 0 5).2) 0 9).2)).2) from (by unfold sp_X9_arrives; exact ((if_neg c1).trans ((if_neg c2).trans ((if_neg c3).trans (if_pos c4)))))))
      · refine r_iconst (pc := 40) hG dX9_arrives_40 ic_m1 ?_
        refine r_goto (pc := 41) (tgt := 48) hG dX9_arrives_41 (by decide) ?_
        refine r_istore_n (pc := 48) (ls' := [_, _, _, _]) hG dX9_arrives_48 rfl rfl ?_
        refine r_iload_n (pc := 49) hG dX9_arrives_49 rfl ?_
        refine r_iconst (pc := 50) hG dX9_arrives_50 ic_m1 ?_
        refine r_icmp_ne (pc := 51) (tgt := 56) hG dX9_arrives_51 (by decide) (fun c5 => ?_) (fun c5 => ?_)
        · exact absurd (by decide) c5
        · refine r_iconst (pc := 54) hG dX9_arrives_54 ic_0 ?_
          exact hret _ _ _ _ dX9_arrives_55 (bz_pf (show sp_X9_arrives M = (false, (sp_X9_number ((sp_X9_number M 0 5).2) 0 9).2) from (by unfold sp_X9_arrives; exact ((if_neg c1).trans ((if_neg c2).trans (if_pos c3)))))) (pair_snd (show sp_X9_arrives M = (false, (sp_X9_number ((sp_X9_number M 0 5).2) 0 9).2) from (by unfold sp_X9_arrives; exact ((if_neg c1).trans ((if_neg c2).trans (if_pos c3))))))
    · refine r_iconst (pc := 23) hG dX9_arrives_23 ic_m1 ?_
      refine r_goto (pc := 24) (tgt := 34) hG dX9_arrives_24 (by decide) ?_
      refine r_istore_n (pc := 34) (ls' := [_, _, _, _]) hG dX9_arrives_34 rfl rfl ?_
      refine r_iload_n (pc := 35) hG dX9_arrives_35 rfl ?_
      refine r_iconst (pc := 36) hG dX9_arrives_36 ic_m1 ?_
      refine r_icmp_ne (pc := 37) (tgt := 44) hG dX9_arrives_37 (by decide) (fun c6 => ?_) (fun c6 => ?_)
      · exact absurd (by decide) c6
      · refine r_iconst (pc := 40) hG dX9_arrives_40 ic_m1 ?_
        refine r_goto (pc := 41) (tgt := 48) hG dX9_arrives_41 (by decide) ?_
        refine r_istore_n (pc := 48) (ls' := [_, _, _, _]) hG dX9_arrives_48 rfl rfl ?_
        refine r_iload_n (pc := 49) hG dX9_arrives_49 rfl ?_
        refine r_iconst (pc := 50) hG dX9_arrives_50 ic_m1 ?_
        refine r_icmp_ne (pc := 51) (tgt := 56) hG dX9_arrives_51 (by decide) (fun c7 => ?_) (fun c7 => ?_)
        · exact absurd (by decide) c7
        · refine r_iconst (pc := 54) hG dX9_arrives_54 ic_0 ?_
          exact hret _ _ _ _ dX9_arrives_55 (bz_pf (show sp_X9_arrives M = (false, (sp_X9_number M 0 5).2) from (by unfold sp_X9_arrives; exact ((if_neg c1).trans (if_pos c2))))) (pair_snd (show sp_X9_arrives M = (false, (sp_X9_number M 0 5).2) from (by unfold sp_X9_arrives; exact ((if_neg c1).trans (if_pos c2)))))
  · refine r_iconst (pc := 9) hG dX9_arrives_9 ic_0 ?_
    exact hret _ _ _ _ dX9_arrives_10 (bz_pf (show sp_X9_arrives M = (false, M) from (by unfold sp_X9_arrives; exact (if_pos c1)))) (pair_snd (show sp_X9_arrives M = (false, M) from (by unfold sp_X9_arrives; exact (if_pos c1))))

theorem pl_bd {M : MT} {x : Int32} (hp : bd (x) 9) (h : ¬ (sp_X9_number M 0 (x - 1)).1 = -1) : bd (sp_X9_number M 0 (x - 1)).1 8 := by
  have g := nu_in h
  exact (bd_of hp g.1 g.2).1

def sp_X9_statement (M : MT) : Bool × MT :=
  if (sp_X9_isWord M 1) = true then
    ((sp_X9_opens M).1, (sp_X9_opens M).2)
  else
    if (sp_X9_isWord M 2) = true then
      ((sp_X9_arrives M).1, (sp_X9_arrives M).2)
    else
      if (sp_X9_isWord M 0) = true then
        if ((sp_X9_number M (M.1 5 2 0) 30).1) = (-1) then
          (false, (sp_X9_number M (M.1 5 2 0) 30).2)
        else
          (true, u1 ((sp_X9_number M (M.1 5 2 0) 30).2) 5 2 0 ((sp_X9_number M (M.1 5 2 0) 30).1))
      else
        if (sp_X9_isWord M 3) = true then
          if ((sp_X9_number M 0 ((M.1 5 1 0) - 1)).1) = (-1) then
            (false, (sp_X9_number M 0 ((M.1 5 1 0) - 1)).2)
          else
            if ((sp_X9_cellTold ((sp_X9_number M 0 ((M.1 5 1 0) - 1)).2)).1) = (-1) then
              (false, (sp_X9_cellTold ((sp_X9_number M 0 ((M.1 5 1 0) - 1)).2)).2)
            else
              (true, u1 ((sp_X9_cellTold ((sp_X9_number M 0 ((M.1 5 1 0) - 1)).2)).2) 5 11 (tn ((sp_X9_number M 0 ((M.1 5 1 0) - 1)).1)) ((sp_X9_cellTold ((sp_X9_number M 0 ((M.1 5 1 0) - 1)).2)).1))
        else
          if (sp_X9_isWord M 4) = true then
            if ((sp_X9_number M 0 10).1) = (-1) then
              (false, (sp_X9_number M 0 10).2)
            else
              (true, u1 ((sp_X9_number M 0 10).2) 5 3 0 ((sp_X9_number M 0 10).1))
          else
            if (sp_X9_isWord M 5) = true then
              if ((sp_X9_number M 0 999).1) = (-1) then
                (false, (sp_X9_number M 0 999).2)
              else
                (true, u1 ((sp_X9_number M 0 999).2) 5 3 1 ((sp_X9_number M 0 999).1))
            else
              if (sp_X9_isWord M 6) = true then
                if ((sp_X9_number M 0 999).1) = (-1) then
                  (false, (sp_X9_number M 0 999).2)
                else
                  (true, u1 ((sp_X9_number M 0 999).2) 5 3 2 ((sp_X9_number M 0 999).1))
              else
                (false, M)
set_option maxRecDepth 20000 in
theorem c_X9_statement {K : KT} {M : MT}   (htk : tkR M) (hte : teR M) (hwc5 : bd (M.1 5 0 0) 9) (hpc5 : bd (M.1 5 1 0) 9) : CM K 7 yX9_statement cX9_statement 3 (some FieldType.boolean) [rf K 140] M (some (.int (bz (sp_X9_statement M).1))) (sp_X9_statement M).2 := by
  refine CM.ofZ (by decide) [some (rf K 140), none, none] rfl (Nat.le_of_ble_eq_true rfl) (Nat.le_of_ble_eq_true rfl) (fun G hG _ hret => ?_)
  have hwl5 := bd_lt hwc5
  have hpl5 := bd_lt hpc5
  refine r_aload_n (pc := 0) hG dX9_statement_0 rfl ?_
  refine r_ldcS (pc := 1) (i := 1) hG dX9_statement_1 ks_RX9_170 ?_
  refine cv_X9_isWord (pc := 3)  hG dX9_statement_3 tw_1386 (c_X9_isWord (by decide) hte) (by decide) (Nat.le_of_ble_eq_true rfl) ?_
  refine r_ifz_eq (pc := 6) (tgt := 14) hG dX9_statement_6 (by decide) (fun c1 => ?_) (fun c1 => ?_)
  · refine r_aload_n (pc := 14) hG dX9_statement_14 rfl ?_
    refine r_ldcS (pc := 15) (i := 2) hG dX9_statement_15 ks_RX9_180 ?_
    refine cv_X9_isWord (pc := 17)  hG dX9_statement_17 tw_1386 (c_X9_isWord (by decide) hte) (by decide) (Nat.le_of_ble_eq_true rfl) ?_
    refine r_ifz_eq (pc := 20) (tgt := 28) hG dX9_statement_20 (by decide) (fun c2 => ?_) (fun c2 => ?_)
    · refine r_aload_n (pc := 28) hG dX9_statement_28 rfl ?_
      refine r_ldcS (pc := 29) (i := 0) hG dX9_statement_29 ks_RX9_185 ?_
      refine cv_X9_isWord (pc := 31)  hG dX9_statement_31 tw_1386 (c_X9_isWord (by decide) hte) (by decide) (Nat.le_of_ble_eq_true rfl) ?_
      refine r_ifz_eq (pc := 34) (tgt := 62) hG dX9_statement_34 (by decide) (fun c3 => ?_) (fun c3 => ?_)
      · refine r_aload_n (pc := 62) hG dX9_statement_62 rfl ?_
        refine r_ldcS (pc := 63) (i := 3) hG dX9_statement_63 ks_RX9_187 ?_
        refine cv_X9_isWord (pc := 65)  hG dX9_statement_65 tw_1386 (c_X9_isWord (by decide) hte) (by decide) (Nat.le_of_ble_eq_true rfl) ?_
        refine r_ifz_eq (pc := 68) (tgt := 113) hG dX9_statement_68 (by decide) (fun c4 => ?_) (fun c4 => ?_)
        · refine r_aload_n (pc := 113) hG dX9_statement_113 rfl ?_
          refine r_ldcS (pc := 114) (i := 4) hG dX9_statement_114 ks_RX9_188 ?_
          refine cv_X9_isWord (pc := 116)  hG dX9_statement_116 tw_1386 (c_X9_isWord (by decide) hte) (by decide) (Nat.le_of_ble_eq_true rfl) ?_
          refine r_ifz_eq (pc := 119) (tgt := 126) hG dX9_statement_119 (by decide) (fun c5 => ?_) (fun c5 => ?_)
          · refine r_aload_n (pc := 126) hG dX9_statement_126 rfl ?_
            refine r_ldcS (pc := 127) (i := 5) hG dX9_statement_127 ks_RX9_190 ?_
            refine cv_X9_isWord (pc := 129)  hG dX9_statement_129 tw_1386 (c_X9_isWord (by decide) hte) (by decide) (Nat.le_of_ble_eq_true rfl) ?_
            refine r_ifz_eq (pc := 132) (tgt := 139) hG dX9_statement_132 (by decide) (fun c6 => ?_) (fun c6 => ?_)
            · refine r_aload_n (pc := 139) hG dX9_statement_139 rfl ?_
              refine r_ldcS (pc := 140) (i := 6) hG dX9_statement_140 ks_RX9_192 ?_
              refine cv_X9_isWord (pc := 142)  hG dX9_statement_142 tw_1386 (c_X9_isWord (by decide) hte) (by decide) (Nat.le_of_ble_eq_true rfl) ?_
              refine r_ifz_eq (pc := 145) (tgt := 152) hG dX9_statement_145 (by decide) (fun c7 => ?_) (fun c7 => ?_)
              · refine r_iconst (pc := 152) hG dX9_statement_152 ic_m1 ?_
                refine r_istore_n (pc := 153) (ls' := [_, _, _]) hG dX9_statement_153 rfl rfl ?_
                refine r_iload_n (pc := 154) hG dX9_statement_154 rfl ?_
                refine r_iconst (pc := 155) hG dX9_statement_155 ic_m1 ?_
                refine r_icmp_ne (pc := 156) (tgt := 161) hG dX9_statement_156 (by decide) (fun c8 => ?_) (fun c8 => ?_)
                · exact absurd (by decide) c8
                · refine r_iconst (pc := 159) hG dX9_statement_159 ic_0 ?_
                  exact hret _ _ _ _ dX9_statement_160 (bz_pf (show sp_X9_statement M = (false, M) from (by unfold sp_X9_statement; exact ((if_neg c1).trans ((if_neg c2).trans ((if_neg c3).trans ((if_neg c4).trans ((if_neg c5).trans ((if_neg c6).trans (if_neg c7)))))))))) (pair_snd (show sp_X9_statement M = (false, M) from (by unfold sp_X9_statement; exact ((if_neg c1).trans ((if_neg c2).trans ((if_neg c3).trans ((if_neg c4).trans ((if_neg c5).trans ((if_neg c6).trans (if_neg c7))))))))))
              · refine r_iconst (pc := 148) hG dX9_statement_148 ic_2 ?_
                refine r_goto (pc := 149) (tgt := 153) hG dX9_statement_149 (by decide) ?_
                refine r_istore_n (pc := 153) (ls' := [_, _, _]) hG dX9_statement_153 rfl rfl ?_
                refine r_iload_n (pc := 154) hG dX9_statement_154 rfl ?_
                refine r_iconst (pc := 155) hG dX9_statement_155 ic_m1 ?_
                refine r_icmp_ne (pc := 156) (tgt := 161) hG dX9_statement_156 (by decide) (fun c9 => ?_) (fun c9 => ?_)
                · refine r_aload_n (pc := 161) hG dX9_statement_161 rfl ?_
                  refine r_iconst (pc := 162) hG dX9_statement_162 ic_0 ?_
                  refine r_iload_n (pc := 163) hG dX9_statement_163 rfl ?_
                  refine r_if_ne (pc := 164) (tgt := 172) hG dX9_statement_164 (by decide) (fun c10 => ?_) (fun c10 => ?_)
                  · refine r_sipush (pc := 172) hG dX9_statement_172 sc_999 ?_
                    refine cv_X9_number (pc := 175)  hG dX9_statement_175 tw_1400 (c_X9_number htk) (by decide) (Nat.le_of_ble_eq_true rfl) ?_
                    refine r_istore_n (pc := 178) (ls' := [_, _, _]) hG dX9_statement_178 rfl rfl ?_
                    refine r_iload_n (pc := 179) hG dX9_statement_179 rfl ?_
                    refine r_iconst (pc := 180) hG dX9_statement_180 ic_m1 ?_
                    refine r_icmp_ne (pc := 181) (tgt := 186) hG dX9_statement_181 (by decide) (fun c11 => ?_) (fun c11 => ?_)
                    · refine r_aload_n (pc := 186) hG dX9_statement_186 rfl ?_
                      refine gf_X9_ways (pc := 187)  hG dX9_statement_187 tw_1167 ?_
                      refine r_iload_n (pc := 190) hG dX9_statement_190 rfl ?_
                      refine r_iload_n (pc := 191) hG dX9_statement_191 rfl ?_
                      refine as_Mways (pc := 192)  hG dX9_statement_192 (ix_lit (j := 2) (by decide)) ?_
                      refine r_iconst (pc := 193) hG dX9_statement_193 ic_1 ?_
                      exact hret _ _ _ _ dX9_statement_194 (bz_pt (show sp_X9_statement M = (true, u1 ((sp_X9_number M 0 999).2) 5 3 2 ((sp_X9_number M 0 999).1)) from (by unfold sp_X9_statement; exact ((if_neg c1).trans ((if_neg c2).trans ((if_neg c3).trans ((if_neg c4).trans ((if_neg c5).trans ((if_neg c6).trans ((if_pos c7).trans (if_neg c11))))))))))) (pair_snd (show sp_X9_statement M = (true, u1 ((sp_X9_number M 0 999).2) 5 3 2 ((sp_X9_number M 0 999).1)) from (by unfold sp_X9_statement; exact ((if_neg c1).trans ((if_neg c2).trans ((if_neg c3).trans ((if_neg c4).trans ((if_neg c5).trans ((if_neg c6).trans ((if_pos c7).trans (if_neg c11)))))))))))
                    · refine r_iconst (pc := 184) hG dX9_statement_184 ic_0 ?_
                      exact hret _ _ _ _ dX9_statement_185 (bz_pf (show sp_X9_statement M = (false, (sp_X9_number M 0 999).2) from (by unfold sp_X9_statement; exact ((if_neg c1).trans ((if_neg c2).trans ((if_neg c3).trans ((if_neg c4).trans ((if_neg c5).trans ((if_neg c6).trans ((if_pos c7).trans (if_pos c11))))))))))) (pair_snd (show sp_X9_statement M = (false, (sp_X9_number M 0 999).2) from (by unfold sp_X9_statement; exact ((if_neg c1).trans ((if_neg c2).trans ((if_neg c3).trans ((if_neg c4).trans ((if_neg c5).trans ((if_neg c6).trans ((if_pos c7).trans (if_pos c11)))))))))))
                  · exact absurd c10 (by decide)
                · exact absurd c9 (by decide)
            · refine r_iconst (pc := 135) hG dX9_statement_135 ic_1 ?_
              refine r_goto (pc := 136) (tgt := 153) hG dX9_statement_136 (by decide) ?_
              refine r_istore_n (pc := 153) (ls' := [_, _, _]) hG dX9_statement_153 rfl rfl ?_
              refine r_iload_n (pc := 154) hG dX9_statement_154 rfl ?_
              refine r_iconst (pc := 155) hG dX9_statement_155 ic_m1 ?_
              refine r_icmp_ne (pc := 156) (tgt := 161) hG dX9_statement_156 (by decide) (fun c12 => ?_) (fun c12 => ?_)
              · refine r_aload_n (pc := 161) hG dX9_statement_161 rfl ?_
                refine r_iconst (pc := 162) hG dX9_statement_162 ic_0 ?_
                refine r_iload_n (pc := 163) hG dX9_statement_163 rfl ?_
                refine r_if_ne (pc := 164) (tgt := 172) hG dX9_statement_164 (by decide) (fun c13 => ?_) (fun c13 => ?_)
                · refine r_sipush (pc := 172) hG dX9_statement_172 sc_999 ?_
                  refine cv_X9_number (pc := 175)  hG dX9_statement_175 tw_1400 (c_X9_number htk) (by decide) (Nat.le_of_ble_eq_true rfl) ?_
                  refine r_istore_n (pc := 178) (ls' := [_, _, _]) hG dX9_statement_178 rfl rfl ?_
                  refine r_iload_n (pc := 179) hG dX9_statement_179 rfl ?_
                  refine r_iconst (pc := 180) hG dX9_statement_180 ic_m1 ?_
                  refine r_icmp_ne (pc := 181) (tgt := 186) hG dX9_statement_181 (by decide) (fun c14 => ?_) (fun c14 => ?_)
                  · refine r_aload_n (pc := 186) hG dX9_statement_186 rfl ?_
                    refine gf_X9_ways (pc := 187)  hG dX9_statement_187 tw_1167 ?_
                    refine r_iload_n (pc := 190) hG dX9_statement_190 rfl ?_
                    refine r_iload_n (pc := 191) hG dX9_statement_191 rfl ?_
                    refine as_Mways (pc := 192)  hG dX9_statement_192 (ix_lit (j := 1) (by decide)) ?_
                    refine r_iconst (pc := 193) hG dX9_statement_193 ic_1 ?_
                    exact hret _ _ _ _ dX9_statement_194 (bz_pt (show sp_X9_statement M = (true, u1 ((sp_X9_number M 0 999).2) 5 3 1 ((sp_X9_number M 0 999).1)) from (by unfold sp_X9_statement; exact ((if_neg c1).trans ((if_neg c2).trans ((if_neg c3).trans ((if_neg c4).trans ((if_neg c5).trans ((if_pos c6).trans (if_neg c14)))))))))) (pair_snd (show sp_X9_statement M = (true, u1 ((sp_X9_number M 0 999).2) 5 3 1 ((sp_X9_number M 0 999).1)) from (by unfold sp_X9_statement; exact ((if_neg c1).trans ((if_neg c2).trans ((if_neg c3).trans ((if_neg c4).trans ((if_neg c5).trans ((if_pos c6).trans (if_neg c14))))))))))
                  · refine r_iconst (pc := 184) hG dX9_statement_184 ic_0 ?_
                    exact hret _ _ _ _ dX9_statement_185 (bz_pf (show sp_X9_statement M = (false, (sp_X9_number M 0 999).2) from (by unfold sp_X9_statement; exact ((if_neg c1).trans ((if_neg c2).trans ((if_neg c3).trans ((if_neg c4).trans ((if_neg c5).trans ((if_pos c6).trans (if_pos c14)))))))))) (pair_snd (show sp_X9_statement M = (false, (sp_X9_number M 0 999).2) from (by unfold sp_X9_statement; exact ((if_neg c1).trans ((if_neg c2).trans ((if_neg c3).trans ((if_neg c4).trans ((if_neg c5).trans ((if_pos c6).trans (if_pos c14))))))))))
                · exact absurd c13 (by decide)
              · exact absurd c12 (by decide)
          · refine r_iconst (pc := 122) hG dX9_statement_122 ic_0 ?_
            refine r_goto (pc := 123) (tgt := 153) hG dX9_statement_123 (by decide) ?_
            refine r_istore_n (pc := 153) (ls' := [_, _, _]) hG dX9_statement_153 rfl rfl ?_
            refine r_iload_n (pc := 154) hG dX9_statement_154 rfl ?_
            refine r_iconst (pc := 155) hG dX9_statement_155 ic_m1 ?_
            refine r_icmp_ne (pc := 156) (tgt := 161) hG dX9_statement_156 (by decide) (fun c15 => ?_) (fun c15 => ?_)
            · refine r_aload_n (pc := 161) hG dX9_statement_161 rfl ?_
              refine r_iconst (pc := 162) hG dX9_statement_162 ic_0 ?_
              refine r_iload_n (pc := 163) hG dX9_statement_163 rfl ?_
              refine r_if_ne (pc := 164) (tgt := 172) hG dX9_statement_164 (by decide) (fun c16 => ?_) (fun c16 => ?_)
              · exact absurd (by decide) c16
              · refine r_bipush (pc := 167) hG dX9_statement_167 bc_10 ?_
                refine r_goto (pc := 169) (tgt := 175) hG dX9_statement_169 (by decide) ?_
                refine cv_X9_number (pc := 175)  hG dX9_statement_175 tw_1400 (c_X9_number htk) (by decide) (Nat.le_of_ble_eq_true rfl) ?_
                refine r_istore_n (pc := 178) (ls' := [_, _, _]) hG dX9_statement_178 rfl rfl ?_
                refine r_iload_n (pc := 179) hG dX9_statement_179 rfl ?_
                refine r_iconst (pc := 180) hG dX9_statement_180 ic_m1 ?_
                refine r_icmp_ne (pc := 181) (tgt := 186) hG dX9_statement_181 (by decide) (fun c17 => ?_) (fun c17 => ?_)
                · refine r_aload_n (pc := 186) hG dX9_statement_186 rfl ?_
                  refine gf_X9_ways (pc := 187)  hG dX9_statement_187 tw_1167 ?_
                  refine r_iload_n (pc := 190) hG dX9_statement_190 rfl ?_
                  refine r_iload_n (pc := 191) hG dX9_statement_191 rfl ?_
                  refine as_Mways (pc := 192)  hG dX9_statement_192 (ix_lit (j := 0) (by decide)) ?_
                  refine r_iconst (pc := 193) hG dX9_statement_193 ic_1 ?_
                  exact hret _ _ _ _ dX9_statement_194 (bz_pt (show sp_X9_statement M = (true, u1 ((sp_X9_number M 0 10).2) 5 3 0 ((sp_X9_number M 0 10).1)) from (by unfold sp_X9_statement; exact ((if_neg c1).trans ((if_neg c2).trans ((if_neg c3).trans ((if_neg c4).trans ((if_pos c5).trans (if_neg c17))))))))) (pair_snd (show sp_X9_statement M = (true, u1 ((sp_X9_number M 0 10).2) 5 3 0 ((sp_X9_number M 0 10).1)) from (by unfold sp_X9_statement; exact ((if_neg c1).trans ((if_neg c2).trans ((if_neg c3).trans ((if_neg c4).trans ((if_pos c5).trans (if_neg c17)))))))))
                · refine r_iconst (pc := 184) hG dX9_statement_184 ic_0 ?_
                  exact hret _ _ _ _ dX9_statement_185 (bz_pf (show sp_X9_statement M = (false, (sp_X9_number M 0 10).2) from (by unfold sp_X9_statement; exact ((if_neg c1).trans ((if_neg c2).trans ((if_neg c3).trans ((if_neg c4).trans ((if_pos c5).trans (if_pos c17))))))))) (pair_snd (show sp_X9_statement M = (false, (sp_X9_number M 0 10).2) from (by unfold sp_X9_statement; exact ((if_neg c1).trans ((if_neg c2).trans ((if_neg c3).trans ((if_neg c4).trans ((if_pos c5).trans (if_pos c17)))))))))
            · exact absurd c15 (by decide)
        · refine r_aload_n (pc := 71) hG dX9_statement_71 rfl ?_
          refine r_iconst (pc := 72) hG dX9_statement_72 ic_0 ?_
          refine r_aload_n (pc := 73) hG dX9_statement_73 rfl ?_
          refine gf_X9_people (pc := 74)  hG dX9_statement_74 tw_1173 ?_
          refine r_iconst (pc := 77) hG dX9_statement_77 ic_1 ?_
          refine r_isub (pc := 78) hG dX9_statement_78 ?_
          refine cv_X9_number (pc := 79)  hG dX9_statement_79 tw_1400 (c_X9_number htk) (by decide) (Nat.le_of_ble_eq_true rfl) ?_
          refine r_istore_n (pc := 82) (ls' := [_, _, _]) hG dX9_statement_82 rfl rfl ?_
          refine r_iload_n (pc := 83) hG dX9_statement_83 rfl ?_
          refine r_iconst (pc := 84) hG dX9_statement_84 ic_m1 ?_
          refine r_icmp_ne (pc := 85) (tgt := 92) hG dX9_statement_85 (by decide) (fun c18 => ?_) (fun c18 => ?_)
          · refine r_aload_n (pc := 92) hG dX9_statement_92 rfl ?_
            refine cv_X9_cellTold (pc := 93)  hG dX9_statement_93 tw_1396 (c_X9_cellTold (nu_tk htk)) (by decide) (Nat.le_of_ble_eq_true rfl) ?_
            refine r_istore_n (pc := 96) (ls' := [_, _, _]) hG dX9_statement_96 rfl rfl ?_
            refine r_iload_n (pc := 97) hG dX9_statement_97 rfl ?_
            refine r_iconst (pc := 98) hG dX9_statement_98 ic_m1 ?_
            refine r_icmp_ne (pc := 99) (tgt := 104) hG dX9_statement_99 (by decide) (fun c19 => ?_) (fun c19 => ?_)
            · refine r_aload_n (pc := 104) hG dX9_statement_104 rfl ?_
              refine gf_X9_place (pc := 105)  hG dX9_statement_105 tw_1176 ?_
              refine r_iload_n (pc := 108) hG dX9_statement_108 rfl ?_
              refine r_iload_n (pc := 109) hG dX9_statement_109 rfl ?_
              refine as_Mplace (pc := 110)  hG dX9_statement_110 (ix_bd (pl_bd hpc5 c18)) ?_
              refine r_iconst (pc := 111) hG dX9_statement_111 ic_1 ?_
              exact hret _ _ _ _ dX9_statement_112 (bz_pt (show sp_X9_statement M = (true, u1 ((sp_X9_cellTold ((sp_X9_number M 0 ((M.1 5 1 0) - 1)).2)).2) 5 11 (tn ((sp_X9_number M 0 ((M.1 5 1 0) - 1)).1)) ((sp_X9_cellTold ((sp_X9_number M 0 ((M.1 5 1 0) - 1)).2)).1)) from (by unfold sp_X9_statement; exact ((if_neg c1).trans ((if_neg c2).trans ((if_neg c3).trans ((if_pos c4).trans ((if_neg c18).trans (if_neg c19))))))))) (pair_snd (show sp_X9_statement M = (true, u1 ((sp_X9_cellTold ((sp_X9_number M 0 ((M.1 5 1 0) - 1)).2)).2) 5 11 (tn ((sp_X9_number M 0 ((M.1 5 1 0) - 1)).1)) ((sp_X9_cellTold ((sp_X9_number M 0 ((M.1 5 1 0) - 1)).2)).1)) from (by unfold sp_X9_statement; exact ((if_neg c1).trans ((if_neg c2).trans ((if_neg c3).trans ((if_pos c4).trans ((if_neg c18).trans (if_neg c19)))))))))
            · refine r_iconst (pc := 102) hG dX9_statement_102 ic_0 ?_
              exact hret _ _ _ _ dX9_statement_103 (bz_pf (show sp_X9_statement M = (false, (sp_X9_cellTold ((sp_X9_number M 0 ((M.1 5 1 0) - 1)).2)).2) from (by unfold sp_X9_statement; exact ((if_neg c1).trans ((if_neg c2).trans ((if_neg c3).trans ((if_pos c4).trans ((if_neg c18).trans (if_pos c19))))))))) (pair_snd (show sp_X9_statement M = (false, (sp_X9_cellTold ((sp_X9_number M 0 ((M.1 5 1 0) - 1)).2)).2) from (by unfold sp_X9_statement; exact ((if_neg c1).trans ((if_neg c2).trans ((if_neg c3).trans ((if_pos c4).trans ((if_neg c18).trans (if_pos c19)))))))))
          · refine r_iconst (pc := 88) hG dX9_statement_88 ic_m1 ?_
            refine r_goto (pc := 89) (tgt := 96) hG dX9_statement_89 (by decide) ?_
            refine r_istore_n (pc := 96) (ls' := [_, _, _]) hG dX9_statement_96 rfl rfl ?_
            refine r_iload_n (pc := 97) hG dX9_statement_97 rfl ?_
            refine r_iconst (pc := 98) hG dX9_statement_98 ic_m1 ?_
            refine r_icmp_ne (pc := 99) (tgt := 104) hG dX9_statement_99 (by decide) (fun c20 => ?_) (fun c20 => ?_)
            · exact absurd (by decide) c20
            · refine r_iconst (pc := 102) hG dX9_statement_102 ic_0 ?_
              exact hret _ _ _ _ dX9_statement_103 (bz_pf (show sp_X9_statement M = (false, (sp_X9_number M 0 ((M.1 5 1 0) - 1)).2) from (by unfold sp_X9_statement; exact ((if_neg c1).trans ((if_neg c2).trans ((if_neg c3).trans ((if_pos c4).trans (if_pos c18)))))))) (pair_snd (show sp_X9_statement M = (false, (sp_X9_number M 0 ((M.1 5 1 0) - 1)).2) from (by unfold sp_X9_statement; exact ((if_neg c1).trans ((if_neg c2).trans ((if_neg c3).trans ((if_pos c4).trans (if_pos c18))))))))
      · refine r_aload_n (pc := 37) hG dX9_statement_37 rfl ?_
        refine r_aload_n (pc := 38) hG dX9_statement_38 rfl ?_
        refine gf_X9_n (pc := 39)  hG dX9_statement_39 tw_1166 ?_
        refine r_bipush (pc := 42) hG dX9_statement_42 bc_30 ?_
        refine cv_X9_number (pc := 44)  hG dX9_statement_44 tw_1400 (c_X9_number htk) (by decide) (Nat.le_of_ble_eq_true rfl) ?_
        refine r_istore_n (pc := 47) (ls' := [_, _, _]) hG dX9_statement_47 rfl rfl ?_
        refine r_iload_n (pc := 48) hG dX9_statement_48 rfl ?_
        refine r_iconst (pc := 49) hG dX9_statement_49 ic_m1 ?_
        refine r_icmp_ne (pc := 50) (tgt := 55) hG dX9_statement_50 (by decide) (fun c21 => ?_) (fun c21 => ?_)
        · refine r_aload_n (pc := 55) hG dX9_statement_55 rfl ?_
          refine r_iload_n (pc := 56) hG dX9_statement_56 rfl ?_
          refine pf_X9_n (pc := 57)  hG dX9_statement_57 tw_1166 ?_
          refine r_iconst (pc := 60) hG dX9_statement_60 ic_1 ?_
          exact hret _ _ _ _ dX9_statement_61 (bz_pt (show sp_X9_statement M = (true, u1 ((sp_X9_number M (M.1 5 2 0) 30).2) 5 2 0 ((sp_X9_number M (M.1 5 2 0) 30).1)) from (by unfold sp_X9_statement; exact ((if_neg c1).trans ((if_neg c2).trans ((if_pos c3).trans (if_neg c21))))))) (pair_snd (show sp_X9_statement M = (true, u1 ((sp_X9_number M (M.1 5 2 0) 30).2) 5 2 0 ((sp_X9_number M (M.1 5 2 0) 30).1)) from (by unfold sp_X9_statement; exact ((if_neg c1).trans ((if_neg c2).trans ((if_pos c3).trans (if_neg c21)))))))
        · refine r_iconst (pc := 53) hG dX9_statement_53 ic_0 ?_
          exact hret _ _ _ _ dX9_statement_54 (bz_pf (show sp_X9_statement M = (false, (sp_X9_number M (M.1 5 2 0) 30).2) from (by unfold sp_X9_statement; exact ((if_neg c1).trans ((if_neg c2).trans ((if_pos c3).trans (if_pos c21))))))) (pair_snd (show sp_X9_statement M = (false, (sp_X9_number M (M.1 5 2 0) 30).2) from (by unfold sp_X9_statement; exact ((if_neg c1).trans ((if_neg c2).trans ((if_pos c3).trans (if_pos c21)))))))
    · refine r_aload_n (pc := 23) hG dX9_statement_23 rfl ?_
      refine cv_X9_arrives (pc := 24)  hG dX9_statement_24 tw_1405 (c_X9_arrives htk hpc5) (by decide) (Nat.le_of_ble_eq_true rfl) ?_
      exact hret _ _ _ _ dX9_statement_27 (bz_pe (show sp_X9_statement M = ((sp_X9_arrives M).1, (sp_X9_arrives M).2) from (by unfold sp_X9_statement; exact ((if_neg c1).trans (if_pos c2))))) (pair_snd (show sp_X9_statement M = ((sp_X9_arrives M).1, (sp_X9_arrives M).2) from (by unfold sp_X9_statement; exact ((if_neg c1).trans (if_pos c2)))))
  · refine r_aload_n (pc := 9) hG dX9_statement_9 rfl ?_
    refine cv_X9_opens (pc := 10)  hG dX9_statement_10 tw_1392 (c_X9_opens htk hwc5) (by decide) (Nat.le_of_ble_eq_true rfl) ?_
    exact hret _ _ _ _ dX9_statement_13 (bz_pe (show sp_X9_statement M = ((sp_X9_opens M).1, (sp_X9_opens M).2) from (by unfold sp_X9_statement; exact (if_pos c1)))) (pair_snd (show sp_X9_statement M = ((sp_X9_opens M).1, (sp_X9_opens M).2) from (by unfold sp_X9_statement; exact (if_pos c1))))
