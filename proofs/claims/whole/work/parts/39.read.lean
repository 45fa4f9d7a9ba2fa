/-! ===== the whole tape ===== -/
def rI (M : MT) : Prop := tkI M ∧ bd (M.1 4 0 0) 9 ∧ bd (M.1 4 1 0) 9
def rdN : Nat → Nat → MT → Int32 × MT
  | 0, _, M => (-1, M)
  | n + 1, k, M =>
    if (sp_X6_readStatement M).1 = true then
      (if (sp_X6_advance (sp_X6_readStatement M).2).2.1 6 1 = 3 ∧ ¬ n = 0 then rdN n (k + 1) (sp_X6_advance (sp_X6_readStatement M).2)
      else (if (sp_X6_advance (sp_X6_readStatement M).2).2.1 6 1 = 0 then nI (k + 1) else -1, sp_X6_advance (sp_X6_readStatement M).2))
    else (-1, (sp_X6_readStatement M).2)
theorem lp_core {G : GT} {K : KT} {d : Nat} (hd : 8 ≤ d) (hst : ∀ M, rI M → rI (sp_X6_readStatement M).2) (hG : GF G K RX6 cX6_read d) (n k : Nat) (M : MT) (hk : k + (n + 1) = 250) (h : rI M)
    (k1 : ∀ pc ls, decode cX6_read pc = .ok (.ireturn, 1) → J G K (rdN (n + 1) k M).2 pc ls [.int (rdN (n + 1) k M).1])
    (nx : (sp_X6_readStatement M).1 = true → (sp_X6_advance (sp_X6_readStatement M).2).2.1 6 1 = 3 → ¬ n = 0 → J G K (sp_X6_advance (sp_X6_readStatement M).2) 7 [some (rf K 9), some (.int (nI (k + 1)))] []) :
    J G K M 7 [some (rf K 9), some (.int (nI k))] [] := by
  have hB := hst M h
  refine r_aload_n (pc := 7) hG dX6_read_7 rfl ?_
  refine cv_X6_readStatement (pc := 8) hG dX6_read_8 tw_545 (c_X6_readStatement h.1 h.2.1 h.2.2) (by omega) (Nat.le_of_ble_eq_true rfl) ?_
  refine r_ifz_ne (b := (sp_X6_readStatement M).1) (pc := 11) (tgt := 16) hG dX6_read_11 (by decide) (fun b => ?_) (fun b => ?_)
  · have e0 : rdN (n + 1) k M = (if (sp_X6_advance (sp_X6_readStatement M).2).2.1 6 1 = 3 ∧ ¬ n = 0 then rdN n (k + 1) (sp_X6_advance (sp_X6_readStatement M).2)
      else (if (sp_X6_advance (sp_X6_readStatement M).2).2.1 6 1 = 0 then nI (k + 1) else -1, sp_X6_advance (sp_X6_readStatement M).2)) := if_pos b
    rw [e0] at k1
    have nx' := nx b
    generalize (sp_X6_readStatement M).2 = B at hB k1 nx' ⊢
    refine r_iinc (pc := 16) (v := nI (k + 1)) (ls' := [_, _]) hG dX6_read_16 rfl (nI_1 _) rfl rfl ?_
    refine r_aload_n (pc := 19) hG dX6_read_19 rfl ?_
    refine cv_X6_advance (pc := 20) hG dX6_read_20 tw_549 (c_X6_advance hB.1.1 hB.1.2.1 hB.1.2.2) (by omega) (Nat.le_of_ble_eq_true rfl) ?_
    generalize sp_X6_advance B = A at k1 nx' ⊢
    have at38 : ¬ (A.2.1 6 1 = 3 ∧ ¬ n = 0) → J G K A 38 [some (rf K 9), some (.int (nI (k + 1)))] [] := by
      intro z
      rw [if_neg z] at k1
      refine r_aload_n (pc := 38) hG dX6_read_38 rfl ?_
      refine gf_X6_type (pc := 39) hG dX6_read_39 tw_292 ?_
      refine r_if_ne (pc := 42) (tgt := 49) hG dX6_read_42 (by decide) (fun t => ?_) (fun t => ?_)
      · rw [if_neg t] at k1
        refine r_iconst (pc := 49) hG dX6_read_49 ic_m1 ?_
        exact k1 _ _ dX6_read_50
      · rw [if_pos t] at k1
        refine r_iload_n (pc := 45) hG dX6_read_45 rfl ?_
        refine r_goto (pc := 46) (tgt := 50) hG dX6_read_46 (by decide) ?_
        exact k1 _ _ dX6_read_50
    refine r_aload_n (pc := 23) hG dX6_read_23 rfl ?_
    refine gf_X6_type (pc := 24) hG dX6_read_24 tw_292 ?_
    refine r_iconst (pc := 27) hG dX6_read_27 ic_3 ?_
    refine r_icmp_ne (x := A.2.1 6 1) (y := 3) (pc := 28) (tgt := 38) hG dX6_read_28 (by decide) (fun q => at38 (fun z => q z.1)) (fun q => ?_)
    refine r_iload_n (pc := 31) hG dX6_read_31 rfl ?_
    refine r_sipush (pc := 32) (v := nI 250) hG dX6_read_32 (by decide) ?_
    refine r_icmp_lt (x := nI (k + 1)) (y := nI 250) (pc := 35) (tgt := 7) hG dX6_read_35 (by decide) (fun t => ?_) (fun t => ?_)
    · have := (nI_ltI (by omega) (by omega)).mp t
      exact nx' q (by omega)
    · have := mt (nI_ltI (by omega) (by omega)).mpr t
      exact at38 (fun z => z.2 (by omega))
  · have e0 : rdN (n + 1) k M = (-1, (sp_X6_readStatement M).2) := if_neg b
    rw [e0] at k1
    refine r_iconst (pc := 14) hG dX6_read_14 ic_m1 ?_
    exact k1 _ _ dX6_read_15
theorem rI_adv {M : MT} (h : rI M) : rI (sp_X6_advance M) := ⟨(adv_tk h.1).1, h.2.1, h.2.2⟩
theorem lp_read {G : GT} {K : KT} {d : Nat} (hd : 8 ≤ d) (hst : ∀ M, rI M → rI (sp_X6_readStatement M).2) (hG : GF G K RX6 cX6_read d) : ∀ n k M, k + (n + 1) = 250 → rI M →
    (∀ pc ls, decode cX6_read pc = .ok (.ireturn, 1) → J G K (rdN (n + 1) k M).2 pc ls [.int (rdN (n + 1) k M).1]) →
    J G K M 7 [some (rf K 9), some (.int (nI k))] [] := by
  intro n
  induction n with
  | zero => exact fun k M hk h k1 => lp_core hd hst hG 0 k M hk h k1 (fun _ _ z => absurd rfl z)
  | succ n ih =>
    intro k M hk h k1
    refine lp_core hd hst hG (n + 1) k M hk h k1 (fun b t _ => ih (k + 1) _ (by omega) (rI_adv (hst M h)) (fun pc ls hpc => ?_))
    have e : rdN (n + 1 + 1) k M = rdN (n + 1) (k + 1) (sp_X6_advance (sp_X6_readStatement M).2) := (if_pos b).trans (if_pos ⟨t, Nat.succ_ne_zero n⟩)
    have z := k1 pc ls hpc
    rw [e] at z
    exact z
def sp_X6_read (M : MT) : Int32 × MT := rdN 250 0 (u2 M 6 3 0)
theorem c_X6_read0 {K : KT} {M : MT} (hst : ∀ M, rI M → rI (sp_X6_readStatement M).2) (hsz : bd (M.2.1 6 0) 251) (hw9 : bd (M.1 4 0 0) 9) (hp9 : bd (M.1 4 1 0) 9) : CM K 8 yX6_read cX6_read 2 (some .int) [rf K 9] M (some (.int (sp_X6_read M).1)) (sp_X6_read M).2 := by
  refine CM.ofI (by decide) [some (rf K 9), none] rfl (Nat.le_of_ble_eq_true rfl) (Nat.le_of_ble_eq_true rfl) (fun G hG _ hret => ?_)
  refine r_iconst (pc := 0) hG dX6_read_0 ic_0 ?_
  refine r_istore_n (pc := 1) (ls' := [some (rf K 9), some (.int (nI 0))]) hG dX6_read_1 rfl rfl ?_
  refine r_aload_n (pc := 2) hG dX6_read_2 rfl ?_
  refine r_iconst (pc := 3) hG dX6_read_3 ic_0 ?_
  refine pf_X6_end (v := 0) (pc := 4) hG dX6_read_4 tw_294 ?_
  refine lp_read (by decide) hst hG 249 0 (u2 M 6 3 0) rfl ⟨⟨hsz, show bd (0 : Int32) 251 from bd_lit (by decide), show tn (0 : Int32) ≤ _ from Nat.zero_le _⟩, hw9, hp9⟩ (fun pc ls hpc => hret _ _ _ _ hpc rfl rfl)
