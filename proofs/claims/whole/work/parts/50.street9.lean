/-! ===== the reference: the whole tape ===== -/
def tkM (M X : MT) : Prop := tkR X ∧ tn (M.2.1 30 2) ≤ tn (X.2.1 30 2) ∧ X.2.1 30 0 = M.2.1 30 0
theorem tkM_rf {M : MT} (h : tkR M) : tkM M M := ⟨h, Nat.le_refl _, rfl⟩
theorem tkM_tr {A B C : MT} (h : tkM A B) (g : tkM B C) : tkM A C := ⟨g.1, Nat.le_trans h.2.1 g.2.1, g.2.2.trans h.2.2⟩
theorem tkM_2 {M X Y : MT} (h : tkM M X) (e : Y.2 = X.2) : tkM M Y := by
  unfold tkM tkR at *
  rw [e]; exact h
theorem tkM_u {M X : MT} {s f i : Nat} {v : Int32} (h : tkM M X) : tkM M (u1 X s f i v) := h
theorem tkM_nx {M X : MT} (g : tkM M X) : tkM M (sp_X9_next X) := tkM_tr g ⟨(nx_tk g.1).1, (nx_to g.1).1, nx_2 (by omega)⟩
theorem tkM_nu {M X : MT} {a b : Int32} (g : tkM M X) : tkM M (sp_X9_number X a b).2 := by rw [nu_2]; exact tkM_nx g
theorem tkM_ct {M X : MT} (g : tkM M X) : tkM M (sp_X9_cellTold X).2 := tkM_nu g
theorem nw_2 {M : MT} {a b c : Int32} : (sp_X9_newWindow M a b c).2.2 = M.2 := by unfold sp_X9_newWindow; rfl
theorem no_2 {M : MT} {a b c : Int32} : (sp_X9_newOne M a b c).2.2 = M.2 := by unfold sp_X9_newOne; rfl
theorem nw_w {M : MT} {a b c : Int32} : (sp_X9_newWindow M a b c).2.1 5 0 0 = M.1 5 0 0 + 1 := by
  unfold sp_X9_newWindow
  dsimp only
  rw [u1_eq]
theorem nw_p {M : MT} {a b c : Int32} : (sp_X9_newWindow M a b c).2.1 5 1 0 = M.1 5 1 0 := by
  unfold sp_X9_newWindow
  dsimp only
  rw [u1_f (by decide), u1_f (by decide), u1_f (by decide), u1_f (by decide)]
theorem no_p {M : MT} {a b c : Int32} : (sp_X9_newOne M a b c).2.1 5 1 0 = M.1 5 1 0 + 1 := by
  unfold sp_X9_newOne
  dsimp only
  rw [u1_eq]
theorem no_w {M : MT} {a b c : Int32} : (sp_X9_newOne M a b c).2.1 5 0 0 = M.1 5 0 0 := by
  unfold sp_X9_newOne
  dsimp only
  rw [u1_f (by decide), u1_f (by decide), u1_f (by decide), u1_f (by decide), u1_f (by decide), u1_f (by decide)]
def wp9 (M : MT) : Prop := bd (M.1 5 0 0) 9 ∧ bd (M.1 5 1 0) 9
theorem wp9_1 {M X : MT} (h : wp9 M) (e : X.1 = M.1) : wp9 X := by unfold wp9; rw [e]; exact h
theorem op9 {M X : MT} (g : tkM M X) (h : wp9 X) : tkM M (sp_X9_opens X).2 ∧ wp9 (sp_X9_opens X).2 := by
  unfold sp_X9_opens
  simp only [apply_ite (Prod.snd : Bool × MT → MT)]
  split
  · exact ⟨g, h⟩
  · rename_i c
    split
    · exact ⟨tkM_ct g, wp9_1 h ct_1⟩
    · split
      · exact ⟨tkM_nu (tkM_ct g), wp9_1 h (nu_1.trans ct_1)⟩
      · split
        · exact ⟨tkM_nu (tkM_nu (tkM_ct g)), wp9_1 h (nu_1.trans (nu_1.trans ct_1))⟩
        · refine ⟨tkM_2 (tkM_nu (tkM_nu (tkM_ct g))) nw_2, ?_, ?_⟩
          · rw [nw_w, nu_1, nu_1, ct_1]; exact inc9 (ne8 h.1 c)
          · rw [nw_p, nu_1, nu_1, ct_1]; exact h.2
theorem ar9 {M X : MT} (g : tkM M X) (h : wp9 X) : tkM M (sp_X9_arrives X).2 ∧ wp9 (sp_X9_arrives X).2 := by
  unfold sp_X9_arrives
  simp only [apply_ite (Prod.snd : Bool × MT → MT)]
  split
  · exact ⟨g, h⟩
  · rename_i c
    split
    · exact ⟨tkM_nu g, wp9_1 h nu_1⟩
    · split
      · exact ⟨tkM_nu (tkM_nu g), wp9_1 h (nu_1.trans nu_1)⟩
      · split
        · exact ⟨tkM_ct (tkM_nu (tkM_nu g)), wp9_1 h (ct_1.trans (nu_1.trans nu_1))⟩
        · refine ⟨tkM_2 (tkM_ct (tkM_nu (tkM_nu g))) no_2, ?_, ?_⟩
          · rw [no_w, ct_1, nu_1, nu_1]; exact h.1
          · rw [no_p, ct_1, nu_1, nu_1]; exact inc9 (ne8 h.2 c)
theorem wp9_u {X : MT} {f i : Nat} {v : Int32} (h : wp9 X) (h0 : 0 ≠ f) (h1 : 1 ≠ f) : wp9 (u1 X 5 f i v) := by
  unfold wp9
  rw [u1_f h0, u1_f h1]
  exact h
theorem st9 {M X : MT} (g : tkM M X) (h : wp9 X) : tkM M (sp_X9_statement X).2 ∧ wp9 (sp_X9_statement X).2 := by
  unfold sp_X9_statement
  simp only [apply_ite (Prod.snd : Bool × MT → MT)]
  split
  · exact op9 g h
  · split
    · exact ar9 g h
    · split
      · split
        · exact ⟨tkM_nu g, wp9_1 h nu_1⟩
        · exact ⟨tkM_u (tkM_nu g), wp9_u (wp9_1 h nu_1) (by decide) (by decide)⟩
      · split
        · split
          · exact ⟨tkM_nu g, wp9_1 h nu_1⟩
          · split
            · exact ⟨tkM_ct (tkM_nu g), wp9_1 h (ct_1.trans nu_1)⟩
            · exact ⟨tkM_u (tkM_ct (tkM_nu g)), wp9_u (wp9_1 h (ct_1.trans nu_1)) (by decide) (by decide)⟩
        · split
          · split
            · exact ⟨tkM_nu g, wp9_1 h nu_1⟩
            · exact ⟨tkM_u (tkM_nu g), wp9_u (wp9_1 h nu_1) (by decide) (by decide)⟩
          · split
            · split
              · exact ⟨tkM_nu g, wp9_1 h nu_1⟩
              · exact ⟨tkM_u (tkM_nu g), wp9_u (wp9_1 h nu_1) (by decide) (by decide)⟩
            · split
              · split
                · exact ⟨tkM_nu g, wp9_1 h nu_1⟩
                · exact ⟨tkM_u (tkM_nu g), wp9_u (wp9_1 h nu_1) (by decide) (by decide)⟩
              · exact ⟨g, h⟩
theorem isW_t {M : MT} {i : Nat} (h : sp_X9_isWord M i = true) : M.2.1 30 3 = 119 := (of_decide_eq_true h).1
theorem st9_w {X : MT} (h : (sp_X9_statement X).1 = true) : X.2.1 30 3 = 119 := by
  unfold sp_X9_statement at h
  by_cases c1 : sp_X9_isWord X 1 = true
  · exact isW_t c1
  · rw [if_neg c1] at h
    by_cases c2 : sp_X9_isWord X 2 = true
    · exact isW_t c2
    · rw [if_neg c2] at h
      by_cases c3 : sp_X9_isWord X 0 = true
      · exact isW_t c3
      · rw [if_neg c3] at h
        by_cases c4 : sp_X9_isWord X 3 = true
        · exact isW_t c4
        · rw [if_neg c4] at h
          by_cases c5 : sp_X9_isWord X 4 = true
          · exact isW_t c5
          · rw [if_neg c5] at h
            by_cases c6 : sp_X9_isWord X 5 = true
            · exact isW_t c6
            · rw [if_neg c6] at h
              by_cases c7 : sp_X9_isWord X 6 = true
              · exact isW_t c7
              · rw [if_neg c7] at h
                cases h
theorem keepB_30 {M : MT} {i : Nat} : (sp_X9_keepB M).2.1 30 i = M.2.1 30 i := by
  have key : ∀ {X : MT} {j : Nat} {v : Int32}, (u2 X 36 j v).2.1 30 i = X.2.1 30 i := fun {X j v} => by
    show (if 30 = 36 ∧ i = j then v else X.2.1 30 i) = _
    exact if_neg (fun z => absurd z.1 (by decide))
  unfold sp_X9_keepB
  rw [key, key, key, key, key]
  exact itN_inv (fun x : MT => x.2.1 30 i = M.2.1 30 i) 3 (itN_inv (fun x : MT => x.2.1 30 i = M.2.1 30 i) 8 rfl (fun k m _ hm => by unfold st_X9_keepB_2; rw [key, key, key, key, key, key, key, key]; exact hm)) (fun k m _ hm => by unfold st_X9_keepB_109; rw [key]; exact hm)
def rd9 : Nat → Nat → MT → Bool × Nat × MT
  | 0, k, M => (false, k, M)
  | n + 1, k, M =>
    if (sp_X9_statement (sp_X9_next M)).1 = true then
      if (sp_X9_next (sp_X9_statement (sp_X9_next M)).2).2.1 30 3 = 101 then (true, k + 1, sp_X9_next (sp_X9_statement (sp_X9_next M)).2)
      else if (sp_X9_next (sp_X9_statement (sp_X9_next M)).2).2.1 30 3 = 59 then rd9 n (k + 1) (sp_X9_next (sp_X9_statement (sp_X9_next M)).2)
      else (false, k + 1, sp_X9_next (sp_X9_statement (sp_X9_next M)).2)
    else (false, k, (sp_X9_statement (sp_X9_next M)).2)
theorem lp9_17 {G : GT} {K : KT} {d : Nat} (hd : 8 ≤ d) (hG : GF G K RX9 cX9_street d) : ∀ (n k : Nat) (M : MT), tkR M → wp9 M → tn (M.2.1 30 0) - tn (M.2.1 30 2) < n →
    (∀ k' X, rd9 n k M = (true, k', X) → J G K X 53 [some (rf K 140), some (.int (nI k')), some (.int 1)] []) →
    (∀ k' X, rd9 n k M = (false, k', X) → J G K X 78 [some (rf K 140), some (.int (nI k')), some (.int 0)] []) →
    J G K M 17 [some (rf K 140), some (.int (nI k)), some (.int 1)] [] := by
  intro n
  induction n with
  | zero => intro k M _ _ h; omega
  | succ n ih =>
    intro k M ht hw hn k1 k0
    have hA := nx_tk ht
    have hAw : wp9 (sp_X9_next M) := wp9_1 hw nx_1
    have hto := nx_to ht
    have hB := st9 (tkM_rf hA.1) hAw
    have hword := @st9_w (sp_X9_next M)
    have hsz : (sp_X9_next M).2.1 30 0 = M.2.1 30 0 := nx_2 (by omega)
    have hAle := hA.1.2.2
    rw [hsz] at hAle
    unfold rd9 at k1 k0
    refine r_iload_n (pc := 17) hG dX9_street_17 rfl ?_
    refine r_if_eq (x := 1) (pc := 18) (tgt := 78) hG dX9_street_18 (by decide) (fun c => absurd c (by decide)) (fun _ => ?_)
    refine r_aload_n (pc := 21) hG dX9_street_21 rfl ?_
    refine cv_X9_next (pc := 22) hG dX9_street_22 tw_1371 (c_X9_nextt ht) (by omega) (Nat.le_of_ble_eq_true rfl) ?_
    refine r_aload_n (pc := 25) hG dX9_street_25 rfl ?_
    refine cv_X9_statement (pc := 26) hG dX9_street_26 tw_1381 (c_X9_statement hA.1 hA.2 hAw.1 hAw.2) (by omega) (Nat.le_of_ble_eq_true rfl) ?_
    refine r_istore_n (pc := 29) (ls' := [_, _, _]) hG dX9_street_29 rfl rfl ?_
    refine r_iload_n (pc := 30) hG dX9_street_30 rfl ?_
    refine r_ifz_ne (b := (sp_X9_statement (sp_X9_next M)).1) (pc := 31) (tgt := 37) hG dX9_street_31 (by decide) (fun b => ?_) (fun b => ?_)
    · rw [if_pos b] at k1 k0
      have hw2 := hto.2 (hword b)
      have hC := nx_tk hB.1.1
      have hto2 := (nx_to hB.1.1).1
      have hCw : wp9 (sp_X9_next (sp_X9_statement (sp_X9_next M)).2) := wp9_1 hB.2 nx_1
      have hsz2 : (sp_X9_next (sp_X9_statement (sp_X9_next M)).2).2.1 30 0 = (sp_X9_statement (sp_X9_next M)).2.2.1 30 0 := nx_2 (by omega)
      have hle := hB.1.2.1
      have hs3 := hB.1.2.2
      rw [b]
      generalize (sp_X9_statement (sp_X9_next M)).2 = B at k1 k0 hB hC hCw hto2 hsz2 hle hs3 ⊢
      refine r_iinc (pc := 37) (v := nI (k + 1)) (ls' := [_, _, _]) hG dX9_street_37 rfl (nI_1 _) rfl rfl ?_
      refine r_aload_n (pc := 40) hG dX9_street_40 rfl ?_
      refine cv_X9_next (pc := 41) hG dX9_street_41 tw_1371 (c_X9_nextt hB.1.1) (by omega) (Nat.le_of_ble_eq_true rfl) ?_
      generalize sp_X9_next B = C at k1 k0 hC hCw hto2 hsz2 ⊢
      refine r_aload_n (pc := 44) hG dX9_street_44 rfl ?_
      refine gf_X9_token (pc := 45) hG dX9_street_45 tw_1184 ?_
      refine r_bipush (pc := 48) hG dX9_street_48 bc_101 ?_
      refine r_icmp_ne (x := C.2.1 30 3) (y := 101) (pc := 50) (tgt := 60) hG dX9_street_50 (by decide) (fun e => ?_) (fun e => ?_)
      · rw [if_neg e] at k1 k0
        refine r_aload_n (pc := 60) hG dX9_street_60 rfl ?_
        refine gf_X9_token (pc := 61) hG dX9_street_61 tw_1184 ?_
        refine r_bipush (pc := 64) hG dX9_street_64 bc_59 ?_
        refine r_icmp_ne (x := C.2.1 30 3) (y := 59) (pc := 66) (tgt := 73) hG dX9_street_66 (by decide) (fun s => ?_) (fun s => ?_)
        · rw [if_neg s] at k1 k0
          refine r_iconst (pc := 73) hG dX9_street_73 ic_0 ?_
          refine r_istore_n (pc := 74) (ls' := [_, _, _]) hG dX9_street_74 rfl rfl ?_
          refine r_goto (pc := 75) (tgt := 17) hG dX9_street_75 (by decide) ?_
          refine r_iload_n (pc := 17) hG dX9_street_17 rfl ?_
          refine r_if_eq (x := 0) (pc := 18) (tgt := 78) hG dX9_street_18 (by decide) (fun _ => k0 _ _ rfl) (fun c => absurd rfl c)
        · rw [if_pos s] at k1 k0
          refine r_iconst (pc := 69) hG dX9_street_69 ic_1 ?_
          refine r_goto (pc := 70) (tgt := 74) hG dX9_street_70 (by decide) ?_
          refine r_istore_n (pc := 74) (ls' := [_, _, _]) hG dX9_street_74 rfl rfl ?_
          refine r_goto (pc := 75) (tgt := 17) hG dX9_street_75 (by decide) ?_
          refine ih (k + 1) C hC.1 hCw ?_ k1 k0
          rw [hsz2, hs3, hsz]
          omega
      · rw [if_pos e] at k1
        exact k1 _ _ rfl
    · rw [if_neg b] at k0
      have b' : (sp_X9_statement (sp_X9_next M)).1 = false := by cases h : (sp_X9_statement (sp_X9_next M)).1 <;> simp_all
      rw [b']
      refine r_goto (pc := 34) (tgt := 17) hG dX9_street_34 (by decide) ?_
      refine r_iload_n (pc := 17) hG dX9_street_17 rfl ?_
      refine r_if_eq (x := 0) (pc := 18) (tgt := 78) hG dX9_street_18 (by decide) (fun _ => k0 _ _ rfl) (fun c => absurd rfl c)
theorem u2_ni {M : MT} {c i c' i' : Nat} {v : Int32} (h : ¬ (c' = c ∧ i' = i)) : (u2 M c i v).2.1 c' i' = M.2.1 c' i' := if_neg h
def st9fin (r : Bool × Nat × MT) : Int32 × MT :=
  if r.1 = true then (nI r.2.1, u2 r.2.2 30 0 0)
  else ((-20) - ((sp_X9_no (u2 (sp_X9_againB r.2.2) 30 0 0) (-2)).2).2.1 30 1, (sp_X9_no (u2 (sp_X9_againB r.2.2) 30 0 0) (-2)).2)
theorem st9_t {k : Nat} {X : MT} : st9fin (true, k, X) = (nI k, u2 X 30 0 0) := by unfold st9fin; exact if_pos rfl
theorem st9_f {k : Nat} {X : MT} : st9fin (false, k, X) = ((-20) - ((sp_X9_no (u2 (sp_X9_againB X) 30 0 0) (-2)).2).2.1 30 1, (sp_X9_no (u2 (sp_X9_againB X) 30 0 0) (-2)).2) := by unfold st9fin; exact if_neg (fun z => Bool.false_ne_true z)
def sp_X9_street (M : MT) : Int32 × MT := st9fin (rd9 251 0 (u2 (sp_X9_keepB M) 30 2 0))
theorem c_X9_street {K : KT} {M : MT} (hokr : OKR M) : CM K 8 yX9_street cX9_street 3 (some .int) [rf K 140] M (some (.int (sp_X9_street M).1)) (sp_X9_street M).2 := by
  refine CM.ofI (by decide) [some (rf K 140), none, none] rfl (Nat.le_of_ble_eq_true rfl) (Nat.le_of_ble_eq_true rfl) (fun G hG _ hret => ?_)
  obtain ⟨hok5, hhl, htp5⟩ := id hokr
  have hspec := sp_X9_street.eq_1 M
  refine r_aload_n (pc := 0) hG dX9_street_0 rfl ?_
  refine r_aload_n (pc := 1) hG dX9_street_1 rfl ?_
  refine gf_X9_before (pc := 2)  hG dX9_street_2 tw_1192 ?_
  refine cv_X9_keep (pc := 5)  hG dX9_street_5 tw_1367 (c_X9_keepB) (by decide) (Nat.le_of_ble_eq_true rfl) ?_
  refine r_aload_n (pc := 8) hG dX9_street_8 rfl ?_
  refine r_iconst (pc := 9) hG dX9_street_9 ic_0 ?_
  refine pf_X9_to (pc := 10)  hG dX9_street_10 tw_1183 ?_
  refine r_iconst (pc := 13) hG dX9_street_13 ic_0 ?_
  refine r_istore_n (pc := 14) (ls' := [_, _, _]) hG dX9_street_14 rfl rfl ?_
  refine r_iconst (pc := 15) hG dX9_street_15 ic_1 ?_
  refine r_istore_n (pc := 16) (ls' := [_, _, _]) hG dX9_street_16 rfl rfl ?_
  have k1 : (sp_X9_keepB M).1 = M.1 := keepB_1
  have k30 : (sp_X9_keepB M).2.1 30 0 = M.2.1 30 0 := keepB_30
  generalize sp_X9_keepB M = X0 at k1 k30 hspec ⊢
  have e0 : (u2 X0 30 2 0).2.1 30 0 = M.2.1 30 0 := (u2_ni (by decide)).trans k30
  have ht : tkR (u2 (X0) 30 2 0) := ⟨by rw [e0]; exact htp5, show bd (0 : Int32) 251 from bd_lit (by decide), show tn (0 : Int32) ≤ _ from Nat.zero_le _⟩
  have hw : wp9 (u2 (X0) 30 2 0) := wp9_1 (M := M) ⟨hok5.1, hok5.2.1⟩ k1
  have hl := bd_lt htp5
  have hn : tn ((u2 (X0) 30 2 0).2.1 30 0) - tn ((u2 (X0) 30 2 0).2.1 30 2) < 251 := by rw [e0]; omega
  refine lp9_17 (by decide) hG 251 0 _ ht hw hn (fun k X hX => ?_) (fun k X hX => ?_)
  · rw [hX, st9_t] at hspec
    refine r_aload_n (pc := 53) hG dX9_street_53 rfl ?_
    refine r_iconst (pc := 54) hG dX9_street_54 ic_0 ?_
    refine pf_X9_taped (pc := 55)  hG dX9_street_55 tw_1180 ?_
    refine r_iload_n (pc := 58) hG dX9_street_58 rfl ?_
    exact hret _ _ _ _ dX9_street_59 (by rw [hspec]) (by rw [hspec])
  · rw [hX, st9_f] at hspec
    refine r_aload_n (pc := 78) hG dX9_street_78 rfl ?_
    refine r_aload_n (pc := 79) hG dX9_street_79 rfl ?_
    refine gf_X9_before (pc := 80)  hG dX9_street_80 tw_1192 ?_
    refine cv_X9_again (pc := 83)  hG dX9_street_83 tw_1414 (c_X9_againB) (by decide) (Nat.le_of_ble_eq_true rfl) ?_
    refine r_aload_n (pc := 86) hG dX9_street_86 rfl ?_
    refine r_iconst (pc := 87) hG dX9_street_87 ic_0 ?_
    refine pf_X9_taped (pc := 88)  hG dX9_street_88 tw_1180 ?_
    refine r_aload_n (pc := 91) hG dX9_street_91 rfl ?_
    refine r_bipush (pc := 92) hG dX9_street_92 bc_m2 ?_
    refine cv_X9_no (pc := 94)  hG dX9_street_94 tw_1273 (c_X9_no (bd_lit (n := 7) (by decide))) (by decide) (Nat.le_of_ble_eq_true rfl) ?_
    refine r_pop (pc := 97) hG dX9_street_97 rfl ?_
    refine r_bipush (pc := 98) hG dX9_street_98 bc_m20 ?_
    refine r_aload_n (pc := 100) hG dX9_street_100 rfl ?_
    refine gf_X9_from (pc := 101)  hG dX9_street_101 tw_1182 ?_
    refine r_isub (pc := 104) hG dX9_street_104 ?_
    exact hret _ _ _ _ dX9_street_105 (by rw [hspec]) (by rw [hspec])
