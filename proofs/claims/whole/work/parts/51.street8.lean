/-! ===== a street that grows ===== -/
theorem OKs_cells {M : MT} {s : Nat} {v : Int32} (h : OKs M s) (hv : bd v 31) (hle : tn (M.1 s 2 0) ≤ tn v) : OKs (u1 M s 2 0 v) s := by
  obtain ⟨h1, h2, h3, h4, h5, h6, h7, h8, h9, h10⟩ := h
  refine ⟨by rw [u1_f (by decide)]; exact h1, by rw [u1_f (by decide)]; exact h2, by rw [u1_eq]; exact ⟨hv, Nat.le_trans h3.2 hle⟩, by rw [u1_f (by decide)]; exact h4, by rw [u1_f (by decide)]; exact h5, by rw [u1_f (by decide)]; exact h6,
    fun p hp => by rw [u1_f (by decide)]; exact h7 p hp, fun p hp => by rw [u1_f (by decide)]; exact h8 p hp,
    fun w hw => ?_, fun p hp => ?_⟩
  · rw [u1_f (by decide)] at hw
    have g := h9 w hw
    rw [u1_f (f' := 6) (by decide), u1_eq, u1_f (f' := 7) (by decide), u1_f (f' := 8) (by decide)]
    exact ⟨bd_mono g.1 hle, g.2⟩
  · rw [u1_f (by decide)] at hp
    have g := h10 p hp
    rw [u1_f (f' := 10) (by decide), u1_f (f' := 11) (by decide), u1_eq, u1_f (f' := 12) (by decide), u1_f (f' := 13) (by decide), u1_f (f' := 0) (by decide)]
    exact ⟨g.1, bd_mono g.2.1 hle, g.2.2⟩
/-- what addWindow writes -/
def awV (M : MT) (s : Nat) (a b c : Int32) : Nat → Nat → Int32 := fun f i =>
  if f = 0 ∧ i = 0 then M.1 s 0 0 + 1 else if f = 6 ∧ i = tn (M.1 s 0 0) then a else if f = 7 ∧ i = tn (M.1 s 0 0) then b else if f = 8 ∧ i = tn (M.1 s 0 0) then c else M.1 s f i
theorem aw_V {M : MT} {s : Nat} {a b c : Int32} : (sp_X5_addWindow M s a b c).2.1 s = awV M s a b c := by
  funext f i
  unfold sp_X5_addWindow awV u1
  dsimp only
  by_cases h0 : f = 0
  · subst h0; simp
  · by_cases h6 : f = 6
    · subst h6; simp
    · by_cases h7 : f = 7
      · subst h7; simp
      · by_cases h8 : f = 8
        · subst h8; simp
        · simp [h0, h6, h7, h8]
theorem aw_ne {M : MT} {s s' : Nat} {a b c : Int32} (h : s' ≠ s) : (sp_X5_addWindow M s a b c).2.1 s' = M.1 s' := by
  unfold sp_X5_addWindow
  dsimp only
  rw [u1_ne h, u1_ne h, u1_ne h, u1_ne h]
/-- what addPerson writes -/
def apV (M : MT) (s : Nat) (a b c : Int32) : Nat → Nat → Int32 := fun f i =>
  if f = 1 ∧ i = 0 then M.1 s 1 0 + 1 else if i = tn (M.1 s 1 0) then (if f = 9 then a else if f = 10 then b else if f = 11 then c else if f = 12 then -1 else if f = 13 then -1 else M.1 s f i) else M.1 s f i
theorem ap_V {M : MT} {s : Nat} {a b c : Int32} : (sp_X5_addPerson M s a b c).2.1 s = apV M s a b c := by
  funext f i
  unfold sp_X5_addPerson sp_X2_drop apV u1
  dsimp only
  by_cases h1 : f = 1
  · subst h1; simp
  · by_cases h9 : f = 9
    · subst h9; simp
    · by_cases h10 : f = 10
      · subst h10; simp
      · by_cases h11 : f = 11
        · subst h11; simp
        · by_cases h12 : f = 12
          · subst h12; simp
          · by_cases h13 : f = 13
            · subst h13; simp
            · simp [h1, h9, h10, h11, h12, h13]
theorem ap_ne {M : MT} {s s' : Nat} {a b c : Int32} (h : s' ≠ s) : (sp_X5_addPerson M s a b c).2.1 s' = M.1 s' := by
  unfold sp_X5_addPerson sp_X2_drop
  dsimp only
  rw [u1_ne h, u1_ne h, u1_ne h, u1_ne h, u1_ne h, u1_ne h]
theorem suc_tn {x : Int32} {n : Nat} (h : bd x n) (hn : n ≤ 1000) : tn (x + 1) = tn x + 1 := by
  have hl := bd_lt h
  have e : x + 1 = nI (tn x + 1) := (congrArg (fun z => z + 1) (bd_eq h)).trans (nI_1 _)
  rw [e, tn_nI (by omega)]
/-- OKs of the values alone -/
def OKv (V : Nat → Nat → Int32) : Prop :=
  bd (V 0 0) 9 ∧ bd (V 1 0) 9 ∧ (bd (V 2 0) 31 ∧ 2 ≤ tn (V 2 0)) ∧ bd (V 3 0) 11 ∧ bd (V 3 1) 1000 ∧ bd (V 3 2) 1000 ∧
  (∀ p, p < 8 → bd (V 9 p) 6) ∧ (∀ p, p < 8 → bd (V 11 p) 31) ∧
  (∀ w, w < tn (V 0 0) → bd (V 6 w) (tn (V 2 0)) ∧ bd (V 7 w) 6 ∧ 1 ≤ tn (V 7 w) ∧ bd (V 8 w) 10) ∧
  (∀ p, p < tn (V 1 0) → bd (V 10 p) 10 ∧ bd (V 11 p) (tn (V 2 0)) ∧ (V 12 p = -1 ∨ bd (V 12 p) (tn (V 0 0))) ∧ (V 13 p = -1 ∨ bd (V 13 p) 1000) ∧ (V 12 p = -1 → V 13 p = -1))
theorem OKs_v {M : MT} {s : Nat} : OKs M s ↔ OKv (M.1 s) := Iff.rfl
theorem OKv_aw {M : MT} {s : Nat} {a b c : Int32} (h : OKs M s) (h8 : bd (M.1 s 0 0) 8) (ha : bd a (tn (M.1 s 2 0))) (hb : bd b 6) (hb1 : 1 ≤ tn b) (hc : bd c 10) : OKv (awV M s a b c) := by
  obtain ⟨h1, h2, h3, h4, h5, h6, h7, h8', h9, h10⟩ := h
  have e0 : awV M s a b c 0 0 = M.1 s 0 0 + 1 := rfl
  have t0 := suc_tn h8 (by decide)
  have ef : ∀ f i, f ≠ 0 → f ≠ 6 → f ≠ 7 → f ≠ 8 → awV M s a b c f i = M.1 s f i := fun f i q0 q6 q7 q8 => by
    unfold awV; rw [if_neg (fun z => q0 z.1), if_neg (fun z => q6 z.1), if_neg (fun z => q7 z.1), if_neg (fun z => q8 z.1)]
  unfold OKv
  rw [ef 1 0 (by decide) (by decide) (by decide) (by decide), ef 2 0 (by decide) (by decide) (by decide) (by decide), ef 3 0 (by decide) (by decide) (by decide) (by decide), ef 3 1 (by decide) (by decide) (by decide) (by decide), ef 3 2 (by decide) (by decide) (by decide) (by decide), e0]
  refine ⟨inc9 h8, h2, h3, h4, h5, h6, fun p hp => by rw [ef 9 p (by decide) (by decide) (by decide) (by decide)]; exact h7 p hp, fun p hp => by rw [ef 11 p (by decide) (by decide) (by decide) (by decide)]; exact h8' p hp, fun w hw => ?_, fun p hp => ?_⟩
  · by_cases e : w = tn (M.1 s 0 0)
    · subst e
      have x6 : awV M s a b c 6 (tn (M.1 s 0 0)) = a := by unfold awV; simp
      have x7 : awV M s a b c 7 (tn (M.1 s 0 0)) = b := by unfold awV; simp
      have x8 : awV M s a b c 8 (tn (M.1 s 0 0)) = c := by unfold awV; simp
      rw [x6, x7, x8]
      exact ⟨ha, hb, hb1, hc⟩
    · have x6 : awV M s a b c 6 w = M.1 s 6 w := by unfold awV; simp [e]
      have x7 : awV M s a b c 7 w = M.1 s 7 w := by unfold awV; simp [e]
      have x8 : awV M s a b c 8 w = M.1 s 8 w := by unfold awV; simp [e]
      rw [x6, x7, x8]
      exact h9 w (by omega)
  · have g := h10 p hp
    rw [ef 10 p (by decide) (by decide) (by decide) (by decide), ef 11 p (by decide) (by decide) (by decide) (by decide), ef 12 p (by decide) (by decide) (by decide) (by decide), ef 13 p (by decide) (by decide) (by decide) (by decide)]
    exact ⟨g.1, g.2.1, g.2.2.1.imp id (fun z => bd_mono z (by omega)), g.2.2.2⟩
theorem OKv_ap {M : MT} {s : Nat} {a b c : Int32} (h : OKs M s) (h8 : bd (M.1 s 1 0) 8) (ha : bd a 6) (hb : bd b 10) (hc : bd c (tn (M.1 s 2 0))) : OKv (apV M s a b c) := by
  obtain ⟨h1, h2, h3, h4, h5, h6, h7, h8', h9, h10⟩ := h
  have hcl := bd_lt h3.1
  have e1 : apV M s a b c 1 0 = M.1 s 1 0 + 1 := rfl
  have t1 := suc_tn h8 (by decide)
  have ef : ∀ f i, f ≠ 1 → f ≠ 9 → f ≠ 10 → f ≠ 11 → f ≠ 12 → f ≠ 13 → apV M s a b c f i = M.1 s f i := fun f i q1 q9 q10 q11 q12 q13 => by
    unfold apV; rw [if_neg (fun z => q1 z.1), if_neg q9, if_neg q10, if_neg q11, if_neg q12, if_neg q13]; split <;> rfl
  have en : ∀ f i, f ≠ 1 → i ≠ tn (M.1 s 1 0) → apV M s a b c f i = M.1 s f i := fun f i q1 q => by
    unfold apV; rw [if_neg (fun z => q1 z.1), if_neg q]
  have x9 : apV M s a b c 9 (tn (M.1 s 1 0)) = a := by unfold apV; simp
  have x10 : apV M s a b c 10 (tn (M.1 s 1 0)) = b := by unfold apV; simp
  have x11 : apV M s a b c 11 (tn (M.1 s 1 0)) = c := by unfold apV; simp
  have x12 : apV M s a b c 12 (tn (M.1 s 1 0)) = -1 := by unfold apV; simp
  have x13 : apV M s a b c 13 (tn (M.1 s 1 0)) = -1 := by unfold apV; simp
  unfold OKv
  rw [ef 0 0 (by decide) (by decide) (by decide) (by decide) (by decide) (by decide), ef 2 0 (by decide) (by decide) (by decide) (by decide) (by decide) (by decide), ef 3 0 (by decide) (by decide) (by decide) (by decide) (by decide) (by decide), ef 3 1 (by decide) (by decide) (by decide) (by decide) (by decide) (by decide), ef 3 2 (by decide) (by decide) (by decide) (by decide) (by decide) (by decide), e1]
  refine ⟨h1, inc9 h8, h3, h4, h5, h6, fun p hp => ?_, fun p hp => ?_, fun w hw => ?_, fun p hp => ?_⟩
  · by_cases e : p = tn (M.1 s 1 0)
    · rw [e, x9]; exact ha
    · rw [en 9 p (by decide) e]; exact h7 p hp
  · by_cases e : p = tn (M.1 s 1 0)
    · rw [e, x11]; exact bd_mono hc (by omega)
    · rw [en 11 p (by decide) e]; exact h8' p hp
  · rw [ef 6 w (by decide) (by decide) (by decide) (by decide) (by decide) (by decide), ef 7 w (by decide) (by decide) (by decide) (by decide) (by decide) (by decide), ef 8 w (by decide) (by decide) (by decide) (by decide) (by decide) (by decide)]
    exact h9 w hw
  · by_cases e : p = tn (M.1 s 1 0)
    · rw [e, x10, x11, x12, x13]
      exact ⟨hb, hc, Or.inl rfl, Or.inl rfl, fun _ => rfl⟩
    · rw [en 10 p (by decide) e, en 11 p (by decide) e, en 12 p (by decide) e, en 13 p (by decide) e]
      exact h10 p (by omega)
theorem bd_cell {a x : Int32} (hx : bd x 31) (h0 : 0 ≤ a) (h : a ≤ x - 1) : bd a (tn x) := ⟨(bd_of (n := 30) hx h0 h).1.1, (bd_of (n := 30) hx h0 h).2⟩
theorem bd_ge1 {a : Int32} {n : Nat} (h : 1 ≤ a) (hb : bd a n) : 1 ≤ tn a := by
  have e := bd_eq hb
  have hs := tn_small a
  rw [e] at h
  have := (nI_leI (a := 1) (b := tn a) (by omega) (by omega)).mp h
  exact this
/-- what a verb's numbers allow keeps the draft -/
theorem apply_ok {R : MT} {w : Int32} (h : OKs R 4) (hw : bd w 7) (hn : ∀ j, j < NBv w → numOk w j R = true) (hr1 : w = 1 → bd (R.1 4 0 0) 8) (hr2 : w = 2 → bd (R.1 4 1 0) 8) : OKs (sp_X6_apply R w) 4 := by
  have hh := h
  obtain ⟨h1, h2, h3, h4, h5, h6, h7, h8, h9, h10⟩ := hh
  have hcl := bd_lt h3.1
  have e := bd_eq hw
  have hl := bd_lt hw
  have hk : ∀ j, j < NBv w → sp_X6_least R w (nI j) ≤ R.2.1 8 j ∧ R.2.1 8 j ≤ sp_X6_most R w (nI j) := fun j hj => within_iff.mp (hn j hj)
  generalize tn w = k at e hl
  subst e
  rcases (show k = 0 ∨ k = 1 ∨ k = 2 ∨ k = 3 ∨ k = 4 ∨ k = 5 ∨ k = 6 by omega) with rfl | rfl | rfl | rfl | rfl | rfl | rfl
  · have g := hk 0 (by decide)
    have g1 : R.1 4 2 0 ≤ R.2.1 8 0 := g.1
    have g2 : R.2.1 8 0 ≤ nI 30 := g.2
    have g0 : 0 ≤ R.2.1 8 0 := Int32.le_trans (Int32.not_lt.mp h3.1.1) g1
    have hb : bd (R.2.1 8 0) 31 := bd_in g0 g2 (by omega) (by omega)
    refine OKs_cells h hb ?_
    rw [bd_eq h3.1, bd_eq hb] at g1
    exact (nI_leI (by omega) (by have := bd_lt hb; omega)).mp g1
  · have a1 := hk 0 (by decide)
    have a2 := hk 1 (by decide)
    have a3 := hk 2 (by decide)
    have b1 : bd (R.2.1 8 0) (tn (R.1 4 2 0)) := bd_cell h3.1 a1.1 a1.2
    have b20 : (1 : Int32) ≤ R.2.1 8 1 := a2.1
    have b2 : bd (R.2.1 8 1) 6 := bd_in (m := 5) (Int32.le_trans (by decide) b20) a2.2 (by omega) (by omega)
    have b3 : bd (R.2.1 8 2) 10 := bd_in (m := 9) a3.1 a3.2 (by omega) (by omega)
    show OKs (sp_X5_addWindow R 4 (R.2.1 8 0) (R.2.1 8 1) (R.2.1 8 2)).2 4
    rw [OKs_v, aw_V]
    exact OKv_aw h (hr1 rfl) b1 b2 (bd_ge1 b20 b2) b3
  · have a1 := hk 0 (by decide)
    have a2 := hk 1 (by decide)
    have a3 := hk 2 (by decide)
    have b1 : bd (R.2.1 8 0) 6 := bd_in (m := 5) a1.1 a1.2 (by omega) (by omega)
    have b2 : bd (R.2.1 8 1) 10 := bd_in (m := 9) a2.1 a2.2 (by omega) (by omega)
    have b3 : bd (R.2.1 8 2) (tn (R.1 4 2 0)) := bd_cell h3.1 a3.1 a3.2
    show OKs (sp_X5_addPerson R 4 (R.2.1 8 0) (R.2.1 8 1) (R.2.1 8 2)).2 4
    rw [OKs_v, ap_V]
    exact OKv_ap h (hr2 rfl) b1 b2 b3
  · have a2 := hk 1 (by decide)
    have b2 : bd (R.2.1 8 1) (tn (R.1 4 2 0)) := bd_cell h3.1 a2.1 a2.2
    exact OKs_at h b2
  · have a1 := hk 0 (by decide)
    exact OKs_wind h (bd_in (m := 10) a1.1 a1.2 (by omega) (by omega))
  · have a1 := hk 0 (by decide)
    exact OKs_day (Or.inl rfl) (bd_in (m := 999) a1.1 a1.2 (by omega) (by omega)) h
  · have a1 := hk 0 (by decide)
    exact OKs_day (Or.inr rfl) (bd_in (m := 999) a1.1 a1.2 (by omega) (by omega)) h
theorem word_bd {M : MT} (h : ¬ sp_X6_word M = -1) : bd (sp_X6_word M) 7 := by
  unfold sp_X6_word at h ⊢
  split
  · rename_i c
    rw [if_pos c] at h
    exact verb_bd h
  · rename_i c
    rw [if_neg c] at h
    exact absurd rfl h
theorem stmt_ok {M : MT} (ht : tkI M) (h : OKs M 4) : OKs (sp_X6_readStatement M).2 4 := by
  have hA := (adv_tk ht).1
  have h' : OKs (sp_X6_advance M) 4 := h
  have hi := rsN_inv (v := sp_X6_word M) (NBv (sp_X6_word M)) 0 (sp_X6_advance M) hA
  have hR : OKs (rsN (sp_X6_word M) (NBv (sp_X6_word M)) 0 (sp_X6_advance M)).2 4 := OKs_congr h' (congrFun hi.2.1 4)
  have hq := rsN_num (v := sp_X6_word M) (NBv (sp_X6_word M)) 0 (sp_X6_advance M) hA
  unfold sp_X6_readStatement
  split
  · exact h'
  · rename_i c
    split
    · rename_i r
      split
      · rename_i b
        refine apply_ok hR (word_bd c) (fun j hj => (hq b).2 j (Nat.zero_le _) (by omega)) (fun e => ?_) (fun e => ?_)
        · rw [hi.2.1]; exact room_w (A := sp_X6_advance M) h'.1 e r
        · rw [hi.2.1]; exact room_p (A := sp_X6_advance M) h'.2.1 e r
      · exact hR
    · exact h'
theorem rdN_ok : ∀ (n k : Nat) (M : MT), tkI M → OKs M 4 → OKs (rdN n k M).2 4
  | 0, _, _, _, h => h
  | n + 1, k, M, ht, h => by
    have hs := stmt_ok ht h
    have hst := stmt_tk ht
    unfold rdN
    split
    · split
      · exact rdN_ok n (k + 1) _ (adv_tk hst).1 hs
      · exact hs
    · exact hs
theorem read_ok {M : MT} (hsz : bd (M.2.1 6 0) 251) (h : OKs M 4) : OKs (sp_X6_read M).2 4 :=
  rdN_ok 250 0 (u2 M 6 3 0) ⟨hsz, show bd (0 : Int32) 251 from bd_lit (by decide), Nat.zero_le _⟩ h

def sp_X8_street (M : MT) : Int32 × MT :=
  if ((sp_X6_read (cpM M 4 0)).1) = (-1) then
    ((-20) - (sp_X6_fault ((sp_X8_refuse (u2 ((sp_X6_read (cpM M 4 0)).2) 6 0 0) (-2)).2)), (sp_X8_refuse (u2 ((sp_X6_read (cpM M 4 0)).2) 6 0 0) (-2)).2)
  else
    ((sp_X6_read (cpM M 4 0)).1, cpM (u2 ((sp_X6_read (cpM M 4 0)).2) 6 0 0) 0 4)
set_option maxRecDepth 20000 in
theorem c_X8_street {K : KT} {M : MT}   (hokx : OKX M) : CM K 9 yX8_street cX8_street 2 (some FieldType.int) [rf K 0] M (some (.int (sp_X8_street M).1)) (sp_X8_street M).2 := by
  refine CM.ofI (by decide) [some (rf K 0), none] rfl (Nat.le_of_ble_eq_true rfl) (Nat.le_of_ble_eq_true rfl) (fun G hG _ hret => ?_)
  obtain ⟨hok0, hok1, hoa2, hoa3, hoa4, hsh, htp⟩ := id hokx
  obtain ⟨hwc0, hpc0, ⟨hcl0, hcm0⟩, hwi0, hda0, hle0, hk80, ha80, hW0, hP0⟩ := id hok0
  have hwl0 := bd_lt hwc0
  have hpl0 := bd_lt hpc0
  have hcl0l := bd_lt hcl0
  have hokc : OKs (cpM M 4 0) 4 := OKs_copy2 (by decide) hok0 hoa4
  refine r_aload_n (pc := 0) hG dX8_street_0 rfl ?_
  refine gf_X8_tape (pc := 1)  hG dX8_street_1 tw_359 ?_
  refine gf_X6_draft (pc := 4)  hG dX8_street_4 tw_290 ?_
  refine r_aload_n (pc := 7) hG dX8_street_7 rfl ?_
  refine gf_X8_live (pc := 8)  hG dX8_street_8 tw_355 ?_
  refine cv_X5_copyFrom (pc := 11) (by omega) hG dX8_street_11 tw_529 (c_X5_copyM (by omega) (by omega) (by decide) hok0) (by decide) (Nat.le_of_ble_eq_true rfl) ?_
  refine r_aload_n (pc := 14) hG dX8_street_14 rfl ?_
  refine gf_X8_tape (pc := 15)  hG dX8_street_15 tw_359 ?_
  refine cv_X6_read (pc := 18)  hG dX8_street_18 tw_541 (c_X6_read (show bd (M.2.1 6 0) 251 from htp) hokc.1 hokc.2.1) (by decide) (Nat.le_of_ble_eq_true rfl) ?_
  refine r_istore_n (pc := 21) (ls' := [_, _]) hG dX8_street_21 rfl rfl ?_
  refine r_aload_n (pc := 22) hG dX8_street_22 rfl ?_
  refine gf_X8_tape (pc := 23)  hG dX8_street_23 tw_359 ?_
  refine r_iconst (pc := 26) hG dX8_street_26 ic_0 ?_
  refine pf_X6_size (pc := 27)  hG dX8_street_27 tw_288 ?_
  refine r_iload_n (pc := 30) hG dX8_street_30 rfl ?_
  refine r_iconst (pc := 31) hG dX8_street_31 ic_m1 ?_
  refine r_icmp_ne (pc := 32) (tgt := 53) hG dX8_street_32 (by decide) (fun c1 => ?_) (fun c1 => ?_)
  · refine r_aload_n (pc := 53) hG dX8_street_53 rfl ?_
    refine gf_X8_live (pc := 54)  hG dX8_street_54 tw_355 ?_
    refine r_aload_n (pc := 57) hG dX8_street_57 rfl ?_
    refine gf_X8_tape (pc := 58)  hG dX8_street_58 tw_359 ?_
    refine gf_X6_draft (pc := 61)  hG dX8_street_61 tw_290 ?_
    refine cv_X5_copyFrom (pc := 64) (by omega) hG dX8_street_64 tw_529 (c_X5_copyM (by omega) (by omega) (by decide) (OKs_u2 (read_ok (M := cpM M 4 0) (show bd (M.2.1 6 0) 251 from htp) hokc))) (by decide) (Nat.le_of_ble_eq_true rfl) ?_
    refine r_iload_n (pc := 67) hG dX8_street_67 rfl ?_
    exact hret _ _ _ _ dX8_street_68 (pair_fst (show sp_X8_street M = ((sp_X6_read (cpM M 4 0)).1, cpM (u2 ((sp_X6_read (cpM M 4 0)).2) 6 0 0) 0 4) from (by unfold sp_X8_street; exact (if_neg c1)))) (pair_snd (show sp_X8_street M = ((sp_X6_read (cpM M 4 0)).1, cpM (u2 ((sp_X6_read (cpM M 4 0)).2) 6 0 0) 0 4) from (by unfold sp_X8_street; exact (if_neg c1))))
  · refine r_aload_n (pc := 35) hG dX8_street_35 rfl ?_
    refine r_bipush (pc := 36) hG dX8_street_36 bc_m2 ?_
    refine cv_X8_refuse (pc := 38)  hG dX8_street_38 tw_390 (c_X8_refuse (bd_lit (n := 7) (by decide))) (by decide) (Nat.le_of_ble_eq_true rfl) ?_
    refine r_pop (pc := 41) hG dX8_street_41 rfl ?_
    refine r_bipush (pc := 42) hG dX8_street_42 bc_m20 ?_
    refine r_aload_n (pc := 44) hG dX8_street_44 rfl ?_
    refine gf_X8_tape (pc := 45)  hG dX8_street_45 tw_359 ?_
    refine cv_X6_fault (pc := 48)  hG dX8_street_48 tw_650 (c_X6_fault) (by decide) (Nat.le_of_ble_eq_true rfl) ?_
    refine r_isub (pc := 51) hG dX8_street_51 ?_
    exact hret _ _ _ _ dX8_street_52 (pair_fst (show sp_X8_street M = ((-20) - (sp_X6_fault ((sp_X8_refuse (u2 ((sp_X6_read (cpM M 4 0)).2) 6 0 0) (-2)).2)), (sp_X8_refuse (u2 ((sp_X6_read (cpM M 4 0)).2) 6 0 0) (-2)).2) from (by unfold sp_X8_street; exact (if_pos c1)))) (pair_snd (show sp_X8_street M = ((-20) - (sp_X6_fault ((sp_X8_refuse (u2 ((sp_X6_read (cpM M 4 0)).2) 6 0 0) (-2)).2)), (sp_X8_refuse (u2 ((sp_X6_read (cpM M 4 0)).2) 6 0 0) (-2)).2) from (by unfold sp_X8_street; exact (if_pos c1))))
