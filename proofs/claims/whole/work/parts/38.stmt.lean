/-! ===== one statement of the tape ===== -/
def tkI (M : MT) : Prop := bd (M.2.1 6 0) 251 ∧ bd (M.2.1 6 3) 251 ∧ tn (M.2.1 6 3) ≤ tn (M.2.1 6 0)
theorem adv_tk {M : MT} (h : tkI M) : tkI (sp_X6_advance M) ∧ teB (sp_X6_advance M) := by
  obtain ⟨h0, h1, h2⟩ := h
  have hl := bd_lt h0
  have a1 := av1_le h2
  have a2 := av2_le a1.2
  have a3 := av3_le (t := sp_X6_typeAt M (nI (av1 M))) a2.2
  have e2 : (sp_X6_advance M).2.1 6 2 = nI (av1 M) := rfl
  have e3 : (sp_X6_advance M).2.1 6 3 = nI (av3 M (sp_X6_typeAt M (nI (av1 M))) (av2 M (av1 M))) := rfl
  have e0 : (sp_X6_advance M).2.1 6 0 = M.2.1 6 0 := rfl
  unfold tkI teB
  rw [e0, e2, e3]
  generalize av3 M (sp_X6_typeAt M (nI (av1 M))) (av2 M (av1 M)) = z at a3 ⊢
  generalize av1 M = y at a1 a2 a3 ⊢
  refine ⟨⟨h0, bd_nI (by omega) (by omega), ?_⟩, bd_nI (by omega) (by omega), bd_nI (by omega) (by omega), ?_⟩
  · rw [tn_nI (by omega)]; omega
  · rw [tn_nI (by omega), tn_nI (by omega)]; omega
def NBv (v : Int32) : Nat := [1, 3, 3, 2, 1, 1, 1].getD (tn v) 0
theorem NB_tab : ∀ j, j < 7 → tNB j = nI ([1, 3, 3, 2, 1, 1, 1].getD j 0) ∧ [1, 3, 3, 2, 1, 1, 1].getD j 0 ≤ 3 := by decide
/-- the number at place k, read behind the word that stands there -/
def numM (A : MT) (k : Nat) : MT := u2 A 8 k (sp_X6_number A)
def numOk (v : Int32) (k : Nat) (B : MT) : Bool := sp_X8_within (B.2.1 8 k) (sp_X6_least B v (nI k)) (sp_X6_most B v (nI k))
def rsN (v : Int32) : Nat → Nat → MT → Bool × MT
  | 0, _, M => (true, M)
  | n + 1, k, M =>
    if (sp_X6_advance M).2.1 6 1 = 2 ∧ (sp_X6_advance M).2.1 6 3 - (sp_X6_advance M).2.1 6 2 ≤ 3 then
      if numOk v k (numM (sp_X6_advance M) k) = true then rsN v n (k + 1) (numM (sp_X6_advance M) k) else (false, numM (sp_X6_advance M) k)
    else (false, sp_X6_advance M)
theorem num_tk {A : MT} {k : Nat} (h : tkI A) : tkI (numM A k) := h
theorem lp_stmt {G : GT} {K : KT} {v : Int32} {d : Nat} (hd : 7 ≤ d) (hv : bd v 7) (hG : GF G K RX6 cX6_readStatement d) : ∀ n k M, k + n = NBv v → tkI M →
    (∀ B, rsN v n k M = (true, B) → ∀ x, J G K B 116 [some (rf K 9), some (.int v), some (.int x)] []) →
    (∀ B, rsN v n k M = (false, B) → ∀ pc ls, decode cX6_readStatement pc = .ok (.ireturn, 1) → J G K B pc ls [.int 0]) →
    J G K M 38 [some (rf K 9), some (.int v), some (.int (nI k))] [] := by
  have hvl := bd_lt hv
  have tab := NB_tab (tn v) hvl
  intro n
  induction n with
  | zero =>
    intro k M hk ht k1 k0
    refine r_iload_n (pc := 38) hG dX6_readStatement_38 rfl ?_
    refine J_gets (pc := 39) hG dX6_readStatement_39 k_NB tw_627 ?_
    refine r_iload_n (pc := 42) hG dX6_readStatement_42 rfl ?_
    refine J_tald (pc := 43) hG dX6_readStatement_43 k_NB (ix_bd hv) ?_
    refine r_icmp_ge (x := nI k) (y := tNB (tn v)) (pc := 44) (tgt := 116) hG dX6_readStatement_44 (by decide) (fun c => k1 M rfl (nI k)) (fun c => ?_)
    exfalso
    rw [tab.1] at c
    refine c ((nI_leI (by omega) ?_).mpr ?_)
    · have : k = NBv v := hk
      unfold NBv at this
      omega
    · have : k = NBv v := hk
      unfold NBv at this
      omega
  | succ n ih =>
    intro k M hk ht k1 k0
    have hk3 : k < 3 := by
      have h3 := tab.2
      unfold NBv at hk
      omega
    have hadv := adv_tk ht
    refine r_iload_n (pc := 38) hG dX6_readStatement_38 rfl ?_
    refine J_gets (pc := 39) hG dX6_readStatement_39 k_NB tw_627 ?_
    refine r_iload_n (pc := 42) hG dX6_readStatement_42 rfl ?_
    refine J_tald (pc := 43) hG dX6_readStatement_43 k_NB (ix_bd hv) ?_
    refine r_icmp_ge (x := nI k) (y := tNB (tn v)) (pc := 44) (tgt := 116) hG dX6_readStatement_44 (by decide) (fun c => ?_) (fun c => ?_)
    · exfalso
      rw [tab.1] at c
      have := (nI_leI (by omega) (by omega)).mp c
      unfold NBv at hk
      omega
    · refine r_aload_n (pc := 47) hG dX6_readStatement_47 rfl ?_
      refine cv_X6_advance (pc := 48) hG dX6_readStatement_48 tw_549 (c_X6_advance ht.1 ht.2.1 ht.2.2) (by omega) (Nat.le_of_ble_eq_true rfl) ?_
      have bad : ¬ ((sp_X6_advance M).2.1 6 1 = 2 ∧ (sp_X6_advance M).2.1 6 3 - (sp_X6_advance M).2.1 6 2 ≤ 3) → J G K (sp_X6_advance M) 72 [some (rf K 9), some (.int v), some (.int (nI k))] [] := by
        intro z
        refine r_iconst (pc := 72) hG dX6_readStatement_72 ic_0 ?_
        exact k0 _ (if_neg z) _ _ dX6_readStatement_73
      refine r_aload_n (pc := 51) hG dX6_readStatement_51 rfl ?_
      refine gf_X6_type (pc := 52) hG dX6_readStatement_52 tw_292 ?_
      refine r_iconst (pc := 55) hG dX6_readStatement_55 ic_2 ?_
      refine r_icmp_ne (x := (sp_X6_advance M).2.1 6 1) (y := 2) (pc := 56) (tgt := 72) hG dX6_readStatement_56 (by decide) (fun q => bad (fun z => q z.1)) (fun q => ?_)
      refine r_aload_n (pc := 59) hG dX6_readStatement_59 rfl ?_
      refine gf_X6_end (pc := 60) hG dX6_readStatement_60 tw_294 ?_
      refine r_aload_n (pc := 63) hG dX6_readStatement_63 rfl ?_
      refine gf_X6_start (pc := 64) hG dX6_readStatement_64 tw_293 ?_
      refine r_isub (pc := 67) hG dX6_readStatement_67 ?_
      refine r_iconst (pc := 68) hG dX6_readStatement_68 ic_3 ?_
      refine r_icmp_le (x := (sp_X6_advance M).2.1 6 3 - (sp_X6_advance M).2.1 6 2) (y := 3) (pc := 69) (tgt := 74) hG dX6_readStatement_69 (by decide) (fun r => ?_) (fun r => bad (fun z => r z.2))
      have hrs : rsN v (n + 1) k M = if numOk v k (numM (sp_X6_advance M) k) = true then rsN v n (k + 1) (numM (sp_X6_advance M) k) else (false, numM (sp_X6_advance M) k) := if_pos ⟨q, r⟩
      rw [hrs] at k1 k0
      refine r_aload_n (pc := 74) hG dX6_readStatement_74 rfl ?_
      refine gf_X6_numbers (pc := 75) hG dX6_readStatement_75 tw_291 ?_
      refine r_iload_n (pc := 78) hG dX6_readStatement_78 rfl ?_
      refine r_aload_n (pc := 79) hG dX6_readStatement_79 rfl ?_
      refine cv_X6_number (pc := 80) hG dX6_readStatement_80 tw_629 (c_X6_number hadv.2) (by omega) (Nat.le_of_ble_eq_true rfl) ?_
      refine as_Num (j := k) (pc := 83) hG dX6_readStatement_83 (ix_nI hk3 (by omega)) ?_
      have hB : tkI (numM (sp_X6_advance M) k) := num_tk hadv.1
      change J G K (numM (sp_X6_advance M) k) 84 _ _
      generalize numM (sp_X6_advance M) k = B at k1 k0 hB ⊢
      refine r_aload_n (pc := 84) hG dX6_readStatement_84 rfl ?_
      refine gf_X6_numbers (pc := 85) hG dX6_readStatement_85 tw_291 ?_
      refine r_iload_n (pc := 88) hG dX6_readStatement_88 rfl ?_
      refine al_Num (j := k) (pc := 89) hG dX6_readStatement_89 (ix_nI hk3 (by omega)) ?_
      refine r_aload_n (pc := 90) hG dX6_readStatement_90 rfl ?_
      refine r_iload_n (pc := 91) hG dX6_readStatement_91 rfl ?_
      refine r_iload_n (pc := 92) hG dX6_readStatement_92 rfl ?_
      refine cv_X6_least (pc := 93) hG dX6_readStatement_93 tw_633 c_X6_least (by omega) (Nat.le_of_ble_eq_true rfl) ?_
      refine r_aload_n (pc := 96) hG dX6_readStatement_96 rfl ?_
      refine r_iload_n (pc := 97) hG dX6_readStatement_97 rfl ?_
      refine r_iload_n (pc := 98) hG dX6_readStatement_98 rfl ?_
      refine cv_X6_most (pc := 99) hG dX6_readStatement_99 tw_637 c_X6_most (by omega) (Nat.le_of_ble_eq_true rfl) ?_
      refine cs_X8_within_n (pc := 102) hG dX6_readStatement_102 nw_RX6_63 c_X8_within (by omega) (Nat.le_of_ble_eq_true rfl) ?_
      refine r_ifz_ne (b := numOk v k B) (pc := 105) (tgt := 110) hG dX6_readStatement_105 (by decide) (fun w => ?_) (fun w => ?_)
      · rw [if_pos w] at k1 k0
        refine r_iinc (pc := 110) (v := nI (k + 1)) (ls' := [_, _, _]) hG dX6_readStatement_110 rfl (nI_1 _) rfl rfl ?_
        refine r_goto (pc := 113) (tgt := 38) hG dX6_readStatement_113 (by decide) ?_
        exact ih (k + 1) B (by omega) hB k1 k0
      · rw [if_neg w] at k1 k0
        refine r_iconst (pc := 108) hG dX6_readStatement_108 ic_0 ?_
        exact k0 _ rfl _ _ dX6_readStatement_109
theorem rsN_inv {v : Int32} : ∀ (n k : Nat) (M : MT), tkI M → tkI (rsN v n k M).2 ∧ (rsN v n k M).2.1 = M.1 ∧ (rsN v n k M).2.2.2 = M.2.2 := by
  intro n
  induction n with
  | zero => intro k M h; exact ⟨h, rfl, rfl⟩
  | succ n ih =>
    intro k M h
    have ha := (adv_tk h).1
    unfold rsN
    split
    · split
      · exact ih (k + 1) (numM (sp_X6_advance M) k) (num_tk ha)
      · exact ⟨num_tk ha, rfl, rfl⟩
    · exact ⟨ha, rfl, rfl⟩
theorem numOk_congr {v : Int32} {k : Nat} {A B : MT} (h1 : B.1 = A.1) (h2 : B.2.1 8 k = A.2.1 8 k) : numOk v k B = numOk v k A := by
  unfold numOk sp_X6_least sp_X6_most
  rw [h1, h2]
  rfl
theorem numM_at {A : MT} {k j : Nat} (h : ¬ j = k) : (numM A k).2.1 8 j = A.2.1 8 j := by
  show (if 8 = 8 ∧ j = k then _ else _) = _
  rw [if_neg (fun z => h z.2)]
theorem rsN_num {v : Int32} : ∀ (n k : Nat) (M : MT), tkI M → (rsN v n k M).1 = true → (∀ j, j < k → (rsN v n k M).2.2.1 8 j = M.2.1 8 j) ∧ ∀ j, k ≤ j → j < k + n → numOk v j (rsN v n k M).2 = true := by
  intro n
  induction n with
  | zero => intro k M _ _; exact ⟨fun j _ => rfl, fun j h1 h2 => absurd h2 (by omega)⟩
  | succ n ih =>
    intro k M h
    have ha := (adv_tk h).1
    have hb := num_tk (k := k) ha
    unfold rsN
    split
    · split
      · rename_i hw
        intro hx
        have g := ih (k + 1) (numM (sp_X6_advance M) k) hb hx
        have gi := rsN_inv (v := v) n (k + 1) (numM (sp_X6_advance M) k) hb
        refine ⟨fun j hj => ?_, fun j h1 h2 => ?_⟩
        · rw [g.1 j (by omega), numM_at (by omega)]
          rfl
        · by_cases e : j = k
          · subst e
            rw [numOk_congr gi.2.1 (g.1 j (by omega))]
            exact hw
          · exact g.2 j (by omega) (by omega)
      · intro hx; cases hx
    · intro hx; cases hx
def sp_X6_word (M : MT) : Int32 := if (sp_X6_advance M).2.1 6 1 = 1 then sp_X6_verb (sp_X6_advance M) else -1
def sp_X6_readStatement (M : MT) : Bool × MT :=
  if sp_X6_word M = -1 then (false, sp_X6_advance M)
  else if sp_X6_hasRoom (sp_X6_advance M) (sp_X6_word M) = true then
    (if (rsN (sp_X6_word M) (NBv (sp_X6_word M)) 0 (sp_X6_advance M)).1 = true then (true, sp_X6_apply (rsN (sp_X6_word M) (NBv (sp_X6_word M)) 0 (sp_X6_advance M)).2 (sp_X6_word M))
    else (false, (rsN (sp_X6_word M) (NBv (sp_X6_word M)) 0 (sp_X6_advance M)).2))
  else (false, sp_X6_advance M)
theorem verb_bd {M : MT} (h : ¬ sp_X6_verb M = -1) : bd (sp_X6_verb M) 7 := by
  unfold sp_X6_verb at h ⊢
  repeat' split
  all_goals first | exact bd_lit (by decide) | skip
  exfalso
  simp_all
theorem pc_le : ∀ p, p < 9 → nI p - 1 ≤ nI 7 := by decide
