/-! ===== one statement of the tape ===== -/
def tkI (M : MT) : Prop := bd (M.2.1 6 0) 251 ∧ bd (M.2.1 6 3) 251 ∧ tn (M.2.1 6 3) ≤ tn (M.2.1 6 0)
theorem adv_tk {M : MT} (h : tkI M) : tkI (sp_X6_advance M) ∧ teB (sp_X6_advance M) := by
  obtain ⟨h0, h1, h2⟩ := h
  have hl := bd_lt h0
  have a1 := av1_le h2
  have a2 := av2_le a1.2
  have a3 := av3_le (t := sp_X6_typeAt M (nI (av1 M))) a2.2
  have e2 : (sp_X6_advance M).2.1 6 2 = nI (av1 M) := rfl
  have e3 : (sp_X6_advance M).2.1 6 3 = nI (av3 M (sp_X6_typeAt M (nI (av1 M))) (av2 M (av1 M))) := rfl
  have e0 : (sp_X6_advance M).2.1 6 0 = M.2.1 6 0 := rfl
  unfold tkI teB
  rw [e0, e2, e3]
  generalize av3 M (sp_X6_typeAt M (nI (av1 M))) (av2 M (av1 M)) = z at a3 ⊢
  generalize av1 M = y at a1 a2 a3 ⊢
  refine ⟨⟨h0, bd_nI (by omega) (by omega), ?_⟩, bd_nI (by omega) (by omega), bd_nI (by omega) (by omega), ?_⟩
  · rw [tn_nI (by omega)]; omega
  · rw [tn_nI (by omega), tn_nI (by omega)]; omega
def NBv (v : Int32) : Nat := [1, 3, 3, 2, 1, 1, 1].getD (tn v) 0
theorem NB_tab : ∀ j, j < 7 → tNB j = nI ([1, 3, 3, 2, 1, 1, 1].getD j 0) ∧ [1, 3, 3, 2, 1, 1, 1].getD j 0 ≤ 3 := by decide
/-- the number at place k, read behind the word that stands there -/
def numM (A : MT) (k : Nat) : MT := u2 A 8 k (sp_X6_number A)
def numOk (v : Int32) (k : Nat) (B : MT) : Bool := sp_X8_within (B.2.1 8 k) (sp_X6_least B v (nI k)) (sp_X6_most B v (nI k))
def rsN (v : Int32) : Nat → Nat → MT → Bool × MT
  | 0, _, M => (true, M)
  | n + 1, k, M =>
    if (sp_X6_advance M).2.1 6 1 = 2 ∧ (sp_X6_advance M).2.1 6 3 - (sp_X6_advance M).2.1 6 2 ≤ 3 then
      if numOk v k (numM (sp_X6_advance M) k) = true then rsN v n (k + 1) (numM (sp_X6_advance M) k) else (false, numM (sp_X6_advance M) k)
    else (false, sp_X6_advance M)
theorem num_tk {A : MT} {k : Nat} (h : tkI A) : tkI (numM A k) := h
theorem lp_stmt {G : GT} {K : KT} {v : Int32} {d : Nat} (hd : 7 ≤ d) (hv : bd v 7) (hG : GF G K RX6 cX6_readStatement d) : ∀ n k M, k + n = NBv v → tkI M →
    (∀ B, rsN v n k M = (true, B) → ∀ x, J G K B 116 [some (rf K 9), some (.int v), some (.int x)] []) →
    (∀ B, rsN v n k M = (false, B) → ∀ pc ls, decode cX6_readStatement pc = .ok (.ireturn, 1) → J G K B pc ls [.int 0]) →
    J G K M 38 [some (rf K 9), some (.int v), some (.int (nI k))] [] := by
  have hvl := bd_lt hv
  have tab := NB_tab (tn v) hvl
  intro n
  induction n with
  | zero =>
    intro k M hk ht k1 k0
    refine r_iload_n (pc := 38) hG dX6_readStatement_38 rfl ?_
    refine J_gets (pc := 39) hG dX6_readStatement_39 k_NB tw_627 ?_
    refine r_iload_n (pc := 42) hG dX6_readStatement_42 rfl ?_
    refine J_tald (pc := 43) hG dX6_readStatement_43 k_NB (ix_bd hv) ?_
    refine r_icmp_ge (x := nI k) (y := tNB (tn v)) (pc := 44) (tgt := 116) hG dX6_readStatement_44 (by decide) (fun c => k1 M rfl (nI k)) (fun c => ?_)
    exfalso
    rw [tab.1] at c
    refine c ((nI_leI (by omega) ?_).mpr ?_)
    · have : k = NBv v := hk
      unfold NBv at this
      omega
    · have : k = NBv v := hk
      unfold NBv at this
      omega
  | succ n ih =>
    intro k M hk ht k1 k0
    have hk3 : k < 3 := by
      have h3 := tab.2
      unfold NBv at hk
      omega
    have hadv := adv_tk ht
    refine r_iload_n (pc := 38) hG dX6_readStatement_38 rfl ?_
    refine J_gets (pc := 39) hG dX6_readStatement_39 k_NB tw_627 ?_
    refine r_iload_n (pc := 42) hG dX6_readStatement_42 rfl ?_
    refine J_tald (pc := 43) hG dX6_readStatement_43 k_NB (ix_bd hv) ?_
    refine r_icmp_ge (x := nI k) (y := tNB (tn v)) (pc := 44) (tgt := 116) hG dX6_readStatement_44 (by decide) (fun c => ?_) (fun c => ?_)
    · exfalso
      rw [tab.1] at c
      have := (nI_leI (by omega) (by omega)).mp c
      unfold NBv at hk
      omega
    · refine r_aload_n (pc := 47) hG dX6_readStatement_47 rfl ?_
      refine cv_X6_advance (pc := 48) hG dX6_readStatement_48 tw_549 (c_X6_advance ht.1 ht.2.1 ht.2.2) (by omega) (Nat.le_of_ble_eq_true rfl) ?_
      have bad : ¬ ((sp_X6_advance M).2.1 6 1 = 2 ∧ (sp_X6_advance M).2.1 6 3 - (sp_X6_advance M).2.1 6 2 ≤ 3) → J G K (sp_X6_advance M) 72 [some (rf K 9), some (.int v), some (.int (nI k))] [] := by
        intro z
        refine r_iconst (pc := 72) hG dX6_readStatement_72 ic_0 ?_
        exact k0 _ (if_neg z) _ _ dX6_readStatement_73
      refine r_aload_n (pc := 51) hG dX6_readStatement_51 rfl ?_
      refine gf_X6_type (pc := 52) hG dX6_readStatement_52 tw_292 ?_
      refine r_iconst (pc := 55) hG dX6_readStatement_55 ic_2 ?_
      refine r_icmp_ne (x := (sp_X6_advance M).2.1 6 1) (y := 2) (pc := 56) (tgt := 72) hG dX6_readStatement_56 (by decide) (fun q => bad (fun z => q z.1)) (fun q => ?_)
      refine r_aload_n (pc := 59) hG dX6_readStatement_59 rfl ?_
      refine gf_X6_end (pc := 60) hG dX6_readStatement_60 tw_294 ?_
      refine r_aload_n (pc := 63) hG dX6_readStatement_63 rfl ?_
      refine gf_X6_start (pc := 64) hG dX6_readStatement_64 tw_293 ?_
      refine r_isub (pc := 67) hG dX6_readStatement_67 ?_
      refine r_iconst (pc := 68) hG dX6_readStatement_68 ic_3 ?_
      refine r_icmp_le (x := (sp_X6_advance M).2.1 6 3 - (sp_X6_advance M).2.1 6 2) (y := 3) (pc := 69) (tgt := 74) hG dX6_readStatement_69 (by decide) (fun r => ?_) (fun r => bad (fun z => r z.2))
      have hrs : rsN v (n + 1) k M = if numOk v k (numM (sp_X6_advance M) k) = true then rsN v n (k + 1) (numM (sp_X6_advance M) k) else (false, numM (sp_X6_advance M) k) := if_pos ⟨q, r⟩
      rw [hrs] at k1 k0
      refine r_aload_n (pc := 74) hG dX6_readStatement_74 rfl ?_
      refine gf_X6_numbers (pc := 75) hG dX6_readStatement_75 tw_291 ?_
      refine r_iload_n (pc := 78) hG dX6_readStatement_78 rfl ?_
      refine r_aload_n (pc := 79) hG dX6_readStatement_79 rfl ?_
      refine cv_X6_number (pc := 80) hG dX6_readStatement_80 tw_629 (c_X6_number hadv.2) (by omega) (Nat.le_of_ble_eq_true rfl) ?_
      refine as_Num (j := k) (pc := 83) hG dX6_readStatement_83 (ix_nI hk3 (by omega)) ?_
      have hB : tkI (numM (sp_X6_advance M) k) := num_tk hadv.1
      change J G K (numM (sp_X6_advance M) k) 84 _ _
      generalize numM (sp_X6_advance M) k = B at k1 k0 hB ⊢
      refine r_aload_n (pc := 84) hG dX6_readStatement_84 rfl ?_
      refine gf_X6_numbers (pc := 85) hG dX6_readStatement_85 tw_291 ?_
      refine r_iload_n (pc := 88) hG dX6_readStatement_88 rfl ?_
      refine al_Num (j := k) (pc := 89) hG dX6_readStatement_89 (ix_nI hk3 (by omega)) ?_
      refine r_aload_n (pc := 90) hG dX6_readStatement_90 rfl ?_
      refine r_iload_n (pc := 91) hG dX6_readStatement_91 rfl ?_
      refine r_iload_n (pc := 92) hG dX6_readStatement_92 rfl ?_
      refine cv_X6_least (pc := 93) hG dX6_readStatement_93 tw_633 c_X6_least (by omega) (Nat.le_of_ble_eq_true rfl) ?_
      refine r_aload_n (pc := 96) hG dX6_readStatement_96 rfl ?_
      refine r_iload_n (pc := 97) hG dX6_readStatement_97 rfl ?_
      refine r_iload_n (pc := 98) hG dX6_readStatement_98 rfl ?_
      refine cv_X6_most (pc := 99) hG dX6_readStatement_99 tw_637 c_X6_most (by omega) (Nat.le_of_ble_eq_true rfl) ?_
      refine cs_X8_within_n (pc := 102) hG dX6_readStatement_102 nw_RX6_63 c_X8_within (by omega) (Nat.le_of_ble_eq_true rfl) ?_
      refine r_ifz_ne (b := numOk v k B) (pc := 105) (tgt := 110) hG dX6_readStatement_105 (by decide) (fun w => ?_) (fun w => ?_)
      · rw [if_pos w] at k1 k0
        refine r_iinc (pc := 110) (v := nI (k + 1)) (ls' := [_, _, _]) hG dX6_readStatement_110 rfl (nI_1 _) rfl rfl ?_
        refine r_goto (pc := 113) (tgt := 38) hG dX6_readStatement_113 (by decide) ?_
        exact ih (k + 1) B (by omega) hB k1 k0
      · rw [if_neg w] at k1 k0
        refine r_iconst (pc := 108) hG dX6_readStatement_108 ic_0 ?_
        exact k0 _ rfl _ _ dX6_readStatement_109
theorem rsN_inv {v : Int32} : ∀ (n k : Nat) (M : MT), tkI M → tkI (rsN v n k M).2 ∧ (rsN v n k M).2.1 = M.1 ∧ (rsN v n k M).2.2.2 = M.2.2 := by
  intro n
  induction n with
  | zero => intro k M h; exact ⟨h, rfl, rfl⟩
  | succ n ih =>
    intro k M h
    have ha := (adv_tk h).1
    unfold rsN
    split
    · split
      · exact ih (k + 1) (numM (sp_X6_advance M) k) (num_tk ha)
      · exact ⟨num_tk ha, rfl, rfl⟩
    · exact ⟨ha, rfl, rfl⟩
theorem numOk_congr {v : Int32} {k : Nat} {A B : MT} (h1 : B.1 = A.1) (h2 : B.2.1 8 k = A.2.1 8 k) : numOk v k B = numOk v k A := by
  unfold numOk sp_X6_least sp_X6_most
  rw [h1, h2]
  rfl
theorem numM_at {A : MT} {k j : Nat} (h : ¬ j = k) : (numM A k).2.1 8 j = A.2.1 8 j := by
  show (if 8 = 8 ∧ j = k then _ else _) = _
  rw [if_neg (fun z => h z.2)]
theorem rsN_num {v : Int32} : ∀ (n k : Nat) (M : MT), tkI M → (rsN v n k M).1 = true → (∀ j, j < k → (rsN v n k M).2.2.1 8 j = M.2.1 8 j) ∧ ∀ j, k ≤ j → j < k + n → numOk v j (rsN v n k M).2 = true := by
  intro n
  induction n with
  | zero => intro k M _ _; exact ⟨fun j _ => rfl, fun j h1 h2 => absurd h2 (by omega)⟩
  | succ n ih =>
    intro k M h
    have ha := (adv_tk h).1
    have hb := num_tk (k := k) ha
    unfold rsN
    split
    · split
      · rename_i hw
        intro hx
        have g := ih (k + 1) (numM (sp_X6_advance M) k) hb hx
        have gi := rsN_inv (v := v) n (k + 1) (numM (sp_X6_advance M) k) hb
        refine ⟨fun j hj => ?_, fun j h1 h2 => ?_⟩
        · rw [g.1 j (by omega), numM_at (by omega)]
          rfl
        · by_cases e : j = k
          · subst e
            rw [numOk_congr gi.2.1 (g.1 j (by omega))]
            exact hw
          · exact g.2 j (by omega) (by omega)
      · intro hx; cases hx
    · intro hx; cases hx
def sp_X6_word (M : MT) : Int32 := if (sp_X6_advance M).2.1 6 1 = 1 then sp_X6_verb (sp_X6_advance M) else -1
def sp_X6_readStatement (M : MT) : Bool × MT :=
  if sp_X6_word M = -1 then (false, sp_X6_advance M)
  else if sp_X6_hasRoom (sp_X6_advance M) (sp_X6_word M) = true then
    (if (rsN (sp_X6_word M) (NBv (sp_X6_word M)) 0 (sp_X6_advance M)).1 = true then (true, sp_X6_apply (rsN (sp_X6_word M) (NBv (sp_X6_word M)) 0 (sp_X6_advance M)).2 (sp_X6_word M))
    else (false, (rsN (sp_X6_word M) (NBv (sp_X6_word M)) 0 (sp_X6_advance M)).2))
  else (false, sp_X6_advance M)
theorem verb_bd {M : MT} (h : ¬ sp_X6_verb M = -1) : bd (sp_X6_verb M) 7 := by
  unfold sp_X6_verb at h ⊢
  repeat' split
  all_goals first | exact bd_lit (by decide) | skip
  exfalso
  simp_all
theorem pc_le : ∀ p, p < 9 → nI p - 1 ≤ nI 7 := by decide
theorem lt8 {x : Int32} (h : bd x 9) (q : ¬ 8 ≤ x) : bd x 8 := by
  have hl := bd_lt h
  rw [bd_eq h] at q ⊢
  have : ¬ 8 ≤ tn x := fun z => q (nI_le z (by omega))
  exact bd_nI (by omega) (by omega)
theorem room_w {A : MT} {w : Int32} (hw : bd (A.1 4 0 0) 9) (e : w = 1) (h : sp_X6_hasRoom A w = true) : bd (A.1 4 0 0) 8 := by
  unfold sp_X6_hasRoom at h
  rw [if_pos e] at h
  unfold sp_X5_hasRoomForWindow at h
  split at h
  · cases h
  · rename_i c
    exact lt8 hw c
theorem room_p {A : MT} {w : Int32} (hw : bd (A.1 4 1 0) 9) (e : w = 2) (h : sp_X6_hasRoom A w = true) : bd (A.1 4 1 0) 8 := by
  unfold sp_X6_hasRoom at h
  rw [if_neg (by rw [e]; decide), if_pos e] at h
  split at h
  · rename_i c2
    unfold sp_X5_hasRoomForPerson at c2
    split at c2
    · cases c2
    · rename_i c
      exact lt8 hw c
  · cases h
theorem at_bd {B : MT} {w : Int32} (hp : bd (B.1 4 1 0) 9) (e : w = 3) (h : numOk w 0 B = true) : bd (B.2.1 8 0) 8 := by
  subst e
  have := within_iff.mp h
  have h1 : (0 : Int32) ≤ B.2.1 8 0 := this.1
  have h2 : B.2.1 8 0 ≤ (B.1 4 1 0) - 1 := this.2
  have h3 : (B.1 4 1 0) - 1 ≤ nI 7 := by
    rw [bd_eq hp]
    exact pc_le _ (bd_lt hp)
  exact bd_in (m := 7) h1 (Int32.le_trans h2 h3) (by omega) (by omega)
theorem c_X6_readStatement {K : KT} {M : MT} (ht : tkI M) (hw9 : bd (M.1 4 0 0) 9) (hp9 : bd (M.1 4 1 0) 9) : CM K 7 yX6_readStatement cX6_readStatement 3 (some .boolean) [rf K 9] M (some (.int (bz (sp_X6_readStatement M).1))) (sp_X6_readStatement M).2 := by
  refine CM.ofZ (by decide) [some (rf K 9), none, none] rfl (Nat.le_of_ble_eq_true rfl) (Nat.le_of_ble_eq_true rfl) (fun G hG _ hret => ?_)
  have hA := adv_tk ht
  have f1 : (sp_X6_advance M).1 = M.1 := rfl
  have at20 : ∀ v, v = sp_X6_word M → (¬ v = -1 → bd v 7) → J G K (sp_X6_advance M) 20 [some (rf K 9), none, none] [.int v] := by
    intro v hv hb
    have no : (sp_X6_word M = -1 ∨ ¬ sp_X6_hasRoom (sp_X6_advance M) (sp_X6_word M) = true) → sp_X6_readStatement M = (false, sp_X6_advance M) := by
      intro z
      unfold sp_X6_readStatement
      by_cases y : sp_X6_word M = -1
      · exact if_pos y
      · exact (if_neg y).trans (if_neg (z.resolve_left y))
    refine r_istore_n (pc := 20) (ls' := [_, _, _]) hG dX6_readStatement_20 rfl rfl ?_
    refine r_iload_n (pc := 21) hG dX6_readStatement_21 rfl ?_
    refine r_iconst (pc := 22) hG dX6_readStatement_22 ic_m1 ?_
    have at34 : (sp_X6_word M = -1 ∨ ¬ sp_X6_hasRoom (sp_X6_advance M) (sp_X6_word M) = true) → J G K (sp_X6_advance M) 34 [some (rf K 9), some (.int v), none] [] := by
      intro z
      refine r_iconst (pc := 34) hG dX6_readStatement_34 ic_0 ?_
      exact hret _ _ _ _ dX6_readStatement_35 (by rw [no z]; rfl) (by rw [no z])
    refine r_icmp_eq (x := v) (y := -1) (pc := 23) (tgt := 34) hG dX6_readStatement_23 (by decide) (fun q => at34 (Or.inl (hv ▸ q))) (fun q => ?_)
    have hb7 := hb q
    refine r_aload_n (pc := 26) hG dX6_readStatement_26 rfl ?_
    refine r_iload_n (pc := 27) hG dX6_readStatement_27 rfl ?_
    refine cv_X6_hasRoom (pc := 28) hG dX6_readStatement_28 tw_621 c_X6_hasRoom (by decide) (Nat.le_of_ble_eq_true rfl) ?_
    refine r_ifz_ne (b := sp_X6_hasRoom (sp_X6_advance M) v) (pc := 31) (tgt := 36) hG dX6_readStatement_31 (by decide) (fun r => ?_) (fun r => at34 (Or.inr (hv ▸ r)))
    have yes : sp_X6_readStatement M = if (rsN v (NBv v) 0 (sp_X6_advance M)).1 = true then (true, sp_X6_apply (rsN v (NBv v) 0 (sp_X6_advance M)).2 v) else (false, (rsN v (NBv v) 0 (sp_X6_advance M)).2) := by
      unfold sp_X6_readStatement
      rw [← hv]
      exact (if_neg q).trans (if_pos r)
    refine r_iconst (pc := 36) hG dX6_readStatement_36 ic_0 ?_
    refine r_istore_n (pc := 37) (ls' := [some (rf K 9), some (.int v), some (.int (nI 0))]) hG dX6_readStatement_37 rfl rfl ?_
    refine lp_stmt (by decide) hb7 hG (NBv v) 0 (sp_X6_advance M) (by omega) hA.1 (fun B hB x => ?_) (fun B hB pc ls hpc => ?_)
    · have e1 : (rsN v (NBv v) 0 (sp_X6_advance M)).1 = true := by rw [hB]
      have e2 : (rsN v (NBv v) 0 (sp_X6_advance M)).2 = B := by rw [hB]
      have i1 := (rsN_inv (v := v) (NBv v) 0 (sp_X6_advance M) hA.1).2.1
      have i2 := (rsN_num (v := v) (NBv v) 0 (sp_X6_advance M) hA.1 e1).2
      rw [e2] at i1 i2 yes
      rw [if_pos e1] at yes
      refine r_aload_n (pc := 116) hG dX6_readStatement_116 rfl ?_
      refine r_iload_n (pc := 117) hG dX6_readStatement_117 rfl ?_
      refine cv_X6_apply (pc := 118) hG dX6_readStatement_118 tw_644 (c_X6_apply (fun e => by rw [i1]; exact room_w (A := sp_X6_advance M) hw9 e r) (fun e => by rw [i1]; exact room_p (A := sp_X6_advance M) hp9 e r) (fun e => at_bd (by rw [i1]; exact hp9) e (i2 0 (Nat.le_refl _) (by subst e; decide)))) (by decide) (Nat.le_of_ble_eq_true rfl) ?_
      refine r_iconst (pc := 121) hG dX6_readStatement_121 ic_1 ?_
      exact hret _ _ _ _ dX6_readStatement_122 (by rw [yes]; rfl) (by rw [yes])
    · have e1 : ¬ (rsN v (NBv v) 0 (sp_X6_advance M)).1 = true := by rw [hB]; exact Bool.false_ne_true
      have e2 : (rsN v (NBv v) 0 (sp_X6_advance M)).2 = B := by rw [hB]
      rw [e2, if_neg e1] at yes
      exact hret _ _ _ _ hpc (by rw [yes]; rfl) (by rw [yes])
  refine r_aload_n (pc := 0) hG dX6_readStatement_0 rfl ?_
  refine cv_X6_advance (pc := 1) hG dX6_readStatement_1 tw_549 (c_X6_advance ht.1 ht.2.1 ht.2.2) (by decide) (Nat.le_of_ble_eq_true rfl) ?_
  refine r_aload_n (pc := 4) hG dX6_readStatement_4 rfl ?_
  refine gf_X6_type (pc := 5) hG dX6_readStatement_5 tw_292 ?_
  refine r_iconst (pc := 8) hG dX6_readStatement_8 ic_1 ?_
  refine r_icmp_ne (x := (sp_X6_advance M).2.1 6 1) (y := 1) (pc := 9) (tgt := 19) hG dX6_readStatement_9 (by decide) (fun q => ?_) (fun q => ?_)
  · refine r_iconst (pc := 19) hG dX6_readStatement_19 ic_m1 ?_
    exact at20 (-1) (Eq.symm (if_neg q)) (fun z => absurd rfl z)
  · refine r_aload_n (pc := 12) hG dX6_readStatement_12 rfl ?_
    refine cv_X6_verb (pc := 13) hG dX6_readStatement_13 tw_558 (c_X6_verb hA.2) (by decide) (Nat.le_of_ble_eq_true rfl) ?_
    refine r_goto (pc := 16) (tgt := 20) hG dX6_readStatement_16 (by decide) ?_
    exact at20 _ (Eq.symm (if_pos q)) verb_bd
