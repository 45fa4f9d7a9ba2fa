/-! ===== throws: what is open, who is hit ===== -/
section Hits
variable {A B : MT} {s : Nat}
theorem way3 {k : Nat} (h : k < 30) : irm (nI k) 3 = 0 ∨ irm (nI k) 3 = 1 ∨ irm (nI k) 3 = 2 :=
  (by decide +kernel : ∀ k, k < 30 → irm (nI k) 3 = 0 ∨ irm (nI k) 3 = 1 ∨ irm (nI k) 3 = 2) k h
theorem e_landT (h : AG (A.1 s) (B.1 5)) {w : Int32} {t : Nat} (hw : tn w < tn (A.1 s 0 0)) (ht : t < 30) : sp_X5_landing A s w ((nI t) / 3) (irm (nI t) 3) = sp_X9_landing B w ((nI t) / 3) (irm (nI t) 3) := e_land h hw (way3 ht)
theorem e_caughtT (h : AG (A.1 s) (B.1 5)) (ok : OKs A s) {w : Int32} {t : Nat} (hw : tn w < tn (A.1 s 0 0)) (ht : t < 30) : sp_X5_catcherOf A s w ((nI t) / 3) (irm (nI t) 3) = sp_X9_caughtBy B w ((nI t) / 3) (irm (nI t) 3) := e_caught h ok hw (way3 ht)
theorem e_open (h : AG (A.1 s) (B.1 5)) {w : Int32} (hw : tn w < tn (A.1 s 0 0)) : sp_X5_openCells A s w = sp_X9_openTo B w := by
  unfold sp_X5_openCells sp_X9_openTo
  refine itN_congr rfl (fun k x hk => ?_)
  unfold st_X5_openCells_4 st_X9_openTo_4
  rw [e_landT h hw hk]
theorem e_lands (h : AG (A.1 s) (B.1 5)) {w c : Int32} (hw : tn w < tn (A.1 s 0 0)) {P : Nat → Bool} (hP : ∀ k, k < 30 → P k = decide (sp_X9_landing B w ((nI k) / 3) (irm (nI k) 3) = c)) : sp_X5_countLandings A s w c = nI (cntN P 30) := by
  unfold sp_X5_countLandings
  refine itN_cnt0 (fun k b hk => ?_)
  unfold st_X5_countLandings_5
  rw [e_landT h hw hk, hP k hk]
  simp only [decide_eq_true_eq]
/-- a cell of the street is a number below 30 -/
theorem cell_n (ok : OKs A s) {c : Int32} (h : sp_X5_hasCell A s c = true) : ∃ k, k < 30 ∧ k < tn (A.1 s 2 0) ∧ c = nI k := by
  unfold sp_X5_hasCell at h
  have g := within_iff.mp h
  have b := bd_of (n := 30) ok.2.2.1.1 g.1 g.2
  exact ⟨tn c, bd_lt b.1, b.2, bd_eq b.1⟩
theorem cell_of (ok : OKs A s) {k : Nat} (h : k < tn (A.1 s 2 0)) : sp_X5_hasCell A s (nI k) = true := by
  unfold sp_X5_hasCell
  have hb := ok.2.2.1.1
  have hl := bd_lt hb
  refine within_iff.mpr ⟨nI_pos' (by omega), ?_⟩
  have e := bd_eq hb
  rw [e]
  obtain ⟨m, hm⟩ : ∃ m, tn (A.1 s 2 0) = m + 1 := ⟨tn (A.1 s 2 0) - 1, by omega⟩
  rw [hm, nI_pred]
  exact nI_le (by omega) (by omega)
theorem tb_open (ok : OKs A s) {w : Int32} {c : Nat} : tb (sp_X5_openCells A s w) c = true ↔ ∃ t, t < 30 ∧ sp_X5_landing A s w ((nI t) / 3) (irm (nI t) 3) = nI c ∧ c < 30 := by
  unfold sp_X5_openCells
  rw [itN_ors (g := fun t => if sp_X5_landing A s w ((nI t) / 3) (irm (nI t) 3) = -1 then 0 else 1 <<< (sp_X5_landing A s w ((nI t) / 3) (irm (nI t) 3) &&& 31)) (fun k b hk => by
    unfold st_X5_openCells_4
    split
    · exact tb_ext (fun i _ => by rw [tb_or, tb_0, Bool.or_false])
    · rfl)]
  refine exists_congr (fun t => and_congr_right (fun ht => ?_))
  rcases land_c (A := A) (s := s) (w := w) (f := (nI t) / 3) (y := irm (nI t) 3) with q | q
  · rw [if_pos q, tb_0, q]
    constructor
    · intro z; cases z
    · rintro ⟨z, hc⟩; exact absurd z.symm (nI_nm1 (by omega))
  · obtain ⟨k, hk, _, e⟩ := cell_n ok q
    rw [if_neg (cell_nm1 q), e, tb_sh (by omega), decide_eq_true_eq]
    constructor
    · intro z; exact ⟨by rw [z], by omega⟩
    · rintro ⟨z, hc⟩; exact ((nI_eq (by omega) (by omega)).mp z).symm
/-- who catches is one of the people, has no rose, and reaches so far -/
theorem catch_in {q c : Int32} (hp : bd (A.1 s 1 0) 9) (hn : ¬ sp_X5_catcherBut A s q c = -1) : ∃ p, p < tn (A.1 s 1 0) ∧ sp_X5_catcherBut A s q c = nI p ∧ sp_X2_reaches A s p c = true ∧ A.1 s 12 p = -1 ∧ ¬ nI p = q ∧ sp_X5_hasCell A s c = true := by
  have hl := bd_lt hp
  unfold sp_X5_catcherBut at hn ⊢
  split
  · rename_i hc
    rw [if_pos hc] at hn
    have := itN_inv (f := st_X5_catcherBut_15 A s q c) (b := -1) (fun x => x = -1 ∨ ∃ p, p < tn (A.1 s 1 0) ∧ x = nI p ∧ sp_X2_reaches A s p c = true ∧ A.1 s 12 p = -1 ∧ ¬ nI p = q) (tn (A.1 s 1 0)) (Or.inl rfl) (fun k b hk hb => by
      unfold st_X5_catcherBut_15
      split
      · exact hb
      · rename_i c1
        split
        · rename_i c2
          split
          · rename_i c3
            split
            · exact Or.inr ⟨k, hk, rfl, c3, c2, c1⟩
            · split
              · exact Or.inr ⟨k, hk, rfl, c3, c2, c1⟩
              · exact hb
          · exact hb
        · exact hb)
    rcases this with z | ⟨p, h1, h2, h3, h4, h5⟩
    · exact absurd z hn
    · exact ⟨p, h1, h2, h3, h4, h5, hc⟩
  · rename_i hc
    rw [if_neg hc] at hn
    exact absurd rfl hn
theorem rng_in : ∀ a, a < 31 → ∀ r, r < 4 → ∀ c, c < 30 → ¬ nI r < iabs (nI a - nI c) → c + r - a ≤ 2 * r ∧ nI a - nI r + nI (c + r - a) = nI c := by decide +kernel
theorem rk_bd (ok : OKs A s) {p : Nat} (hp : p < 8) : bd (sp_X2_reach A s p) 4 := by
  unfold sp_X2_reach
  exact rk_tab _ (bd_lt (ok.2.2.2.2.2.2.1 p hp))
theorem tb_caught (ok : OKs A s) {p c : Nat} (hp : p < tn (A.1 s 1 0)) : tb (sp_X5_cellsCaughtBy A s (nI p)) c = true ↔ c < 30 ∧ sp_X5_catcherBut A s (-1) (nI c) = nI p := by
  have hpl := bd_lt ok.2.1
  have hR := rk_bd ok (p := p) (by omega)
  have hA := ok.2.2.2.2.2.2.2.1 p (by omega)
  have hRl := bd_lt hR
  unfold sp_X5_cellsCaughtBy
  rw [tn_nI (by omega)]
  rw [itN_ors (g := fun k => if sp_X5_catcherBut A s (-1) (((A.1 s 11 p) - (sp_X2_reach A s p)) + nI k) = nI p then 1 <<< ((((A.1 s 11 p) - (sp_X2_reach A s p)) + nI k) &&& 31) else 0) (fun k b hk => by
    unfold st_X5_cellsCaughtBy_20
    rw [tn_nI (by omega)]
    split
    · rfl
    · exact tb_ext (fun i _ => by rw [tb_or, tb_0, Bool.or_false]))]
  constructor
  · rintro ⟨k, hk, e⟩
    split at e
    · rename_i z
      obtain ⟨p', _, _, _, _, _, hc⟩ := catch_in ok.2.1 (by rw [z]; exact nI_nm1 (by omega))
      obtain ⟨m, hm, _, e2⟩ := cell_n ok hc
      rw [e2] at e z
      rw [tb_sh (by omega), decide_eq_true_eq] at e
      subst e
      exact ⟨hm, z⟩
    · rw [tb_0] at e; cases e
  · rintro ⟨hc, z⟩
    obtain ⟨p', h1, h2, h3, _, _, _⟩ := catch_in ok.2.1 (by rw [z]; exact nI_nm1 (by omega))
    rw [z] at h2
    have : p = p' := (nI_eq (by omega) (by omega)).mp h2
    subst this
    have g := rc_iff.mp h3
    have ea := bd_eq hA
    have er := bd_eq hR
    rw [ea, er] at g
    obtain ⟨g1, g2⟩ := rng_in _ (bd_lt hA) _ hRl _ hc g
    refine ⟨c + tn (sp_X2_reach A s p) - tn (A.1 s 11 p), by omega, ?_⟩
    have e3 : (A.1 s 11 p) - (sp_X2_reach A s p) + nI (c + tn (sp_X2_reach A s p) - tn (A.1 s 11 p)) = nI c := by
      rw [← g2, ← ea, ← er]
    rw [e3, if_pos z, tb_sh (by omega)]
    exact decide_eq_true rfl
theorem hit_iff (ok : OKs A s) {w : Int32} {p : Nat} (hp : p < tn (A.1 s 1 0)) : ¬ (sp_X5_openCells A s w &&& sp_X5_cellsCaughtBy A s (nI p)) = 0 ↔ ∃ t, t < 30 ∧ sp_X5_catcherOf A s w ((nI t) / 3) (irm (nI t) 3) = nI p := by
  have hpl := bd_lt ok.2.1
  rw [tb_n0]
  constructor
  · rintro ⟨c, _, e⟩
    rw [tb_and, Bool.and_eq_true] at e
    obtain ⟨t, ht, e1, _⟩ := (tb_open ok).mp e.1
    refine ⟨t, ht, ?_⟩
    unfold sp_X5_catcherOf
    rw [e1]
    exact ((tb_caught ok hp).mp e.2).2
  · rintro ⟨t, ht, e⟩
    unfold sp_X5_catcherOf at e
    obtain ⟨_, _, _, _, _, _, hc⟩ := catch_in ok.2.1 (by rw [e]; exact nI_nm1 (by omega))
    obtain ⟨m, hm, _, e2⟩ := cell_n ok hc
    refine ⟨m, by omega, ?_⟩
    rw [tb_and, Bool.and_eq_true]
    rw [e2] at e
    exact ⟨(tb_open ok).mpr ⟨t, ht, e2, hm⟩, (tb_caught ok hp).mpr ⟨hm, e⟩⟩
theorem tb_hit (ok : OKs A s) {w : Int32} {p : Nat} : tb (sp_X5_peopleHit A s w) p = true ↔ p < tn (A.1 s 1 0) ∧ ∃ t, t < 30 ∧ sp_X5_catcherOf A s w ((nI t) / 3) (irm (nI t) 3) = nI p := by
  have hpl := bd_lt ok.2.1
  unfold sp_X5_peopleHit
  rw [itN_bits (P := fun k => decide (¬ (sp_X5_openCells A s w &&& sp_X5_cellsCaughtBy A s (nI k)) = 0)) (by omega) (fun k b hk => by
    unfold st_X5_peopleHit_11
    split
    · rename_i z; rw [if_neg (by simp [z])]
    · rename_i z; rw [if_pos (by simp [z])]), Bool.and_eq_true, decide_eq_true_eq, decide_eq_true_eq]
  exact and_congr_right (fun hp => hit_iff ok hp)
theorem tb_hit9 (h : AG (A.1 s) (B.1 5)) (ok : OKs A s) {w : Int32} (hw : tn w < tn (A.1 s 0 0)) {p : Nat} : tb (sp_X9_hitFrom B w) p = true ↔ p < tn (A.1 s 1 0) ∧ ∃ t, t < 30 ∧ sp_X5_catcherOf A s w ((nI t) / 3) (irm (nI t) 3) = nI p := by
  have hpl := bd_lt ok.2.1
  unfold sp_X9_hitFrom
  rw [itN_ors (g := fun t => if sp_X5_catcherOf A s w ((nI t) / 3) (irm (nI t) 3) = -1 then 0 else 1 <<< (sp_X5_catcherOf A s w ((nI t) / 3) (irm (nI t) 3) &&& 31)) (fun k b hk => by
    unfold st_X9_hitFrom_4
    rw [e_caughtT h ok hw hk]
    split
    · exact tb_ext (fun i _ => by rw [tb_or, tb_0, Bool.or_false])
    · rfl)]
  constructor
  · rintro ⟨t, ht, e⟩
    split at e
    · rw [tb_0] at e; cases e
    · rename_i z
      obtain ⟨q, h1, h2, _⟩ := catch_in (A := A) (s := s) (q := -1) (c := sp_X5_landing A s w ((nI t) / 3) (irm (nI t) 3)) ok.2.1 z
      have h3 : sp_X5_catcherOf A s w ((nI t) / 3) (irm (nI t) 3) = nI q := h2
      rw [h3, tb_sh (by omega), decide_eq_true_eq] at e
      subst e
      exact ⟨h1, t, ht, h3⟩
  · rintro ⟨hp, t, ht, e⟩
    refine ⟨t, ht, ?_⟩
    rw [e, if_neg (nI_nm1 (by omega)), tb_sh (by omega)]
    exact decide_eq_true rfl
theorem e_hit (h : AG (A.1 s) (B.1 5)) (ok : OKs A s) {w : Int32} (hw : tn w < tn (A.1 s 0 0)) : sp_X5_peopleHit A s w = sp_X9_hitFrom B w :=
  tb_iff (fun i _ => (tb_hit ok).trans (tb_hit9 h ok hw).symm)
theorem tb_wins (ok : OKs A s) {m : Int32} {w : Nat} : tb (sp_X5_windowsOpenTo A s m) w = true ↔ w < tn (A.1 s 0 0) ∧ ¬ (sp_X5_openCells A s (nI w) &&& m) = 0 := by
  have hwl := bd_lt ok.1
  unfold sp_X5_windowsOpenTo
  rw [itN_bits (P := fun k => decide (¬ (sp_X5_openCells A s (nI k) &&& m) = 0)) (by omega) (fun k b hk => by
    unfold st_X5_windowsOpenTo_4
    split
    · rename_i z; rw [if_neg (by simp [z])]
    · rename_i z; rw [if_pos (by simp [z])]), Bool.and_eq_true, decide_eq_true_eq, decide_eq_true_eq]
theorem tb_reached (ok : OKs A s) {p c : Nat} (hp : p < 8) : tb (sp_X5_cellsReachedBy A s (nI p)) c = true ↔ c < tn (A.1 s 2 0) ∧ sp_X2_reaches A s p (nI c) = true := by
  have hcl := bd_lt ok.2.2.1.1
  unfold sp_X5_cellsReachedBy
  rw [itN_bits (P := fun k => sp_X2_reaches A s p (nI k)) (by omega) (fun k b hk => by
    unfold st_X5_cellsReachedBy_4
    rw [tn_nI (by omega)]), Bool.and_eq_true, decide_eq_true_eq]
theorem hers_iff (h : AG (A.1 s) (B.1 5)) (ok : OKs A s) {p w : Nat} (hp : p < tn (A.1 s 1 0)) (hw : w < tn (A.1 s 0 0)) : sp_X9_mayBeHers B (nI p) (nI w) = true ↔ ¬ (sp_X5_openCells A s (nI w) &&& sp_X5_cellsReachedBy A s (nI p)) = 0 := by
  have hpl := bd_lt ok.2.1
  have hwl := bd_lt ok.1
  have hcl := bd_lt ok.2.2.1.1
  have hwt : tn (nI w) < tn (A.1 s 0 0) := by rw [tn_nI (by omega)]; exact hw
  have key : ∀ t, t < 30 → (ps_X9_mayBeHers_2 B (nI p) (nI w) t = true ↔ ∃ c, c < 30 ∧ sp_X5_landing A s (nI w) ((nI t) / 3) (irm (nI t) 3) = nI c ∧ c < tn (A.1 s 2 0) ∧ sp_X2_reaches A s p (nI c) = true) := by
    intro t ht
    unfold ps_X9_mayBeHers_2
    rw [← e_landT h hwt ht]
    rcases land_c (A := A) (s := s) (w := nI w) (f := (nI t) / 3) (y := irm (nI t) 3) with q | q
    · rw [if_pos q, q]
      constructor
      · intro z; cases z
      · rintro ⟨c, hc, z, _⟩; exact absurd z.symm (nI_nm1 (by omega))
    · obtain ⟨k, hk, hk2, e⟩ := cell_n ok q
      rw [if_neg (cell_nm1 q), e, e_reach h ok hp, e_away h hp]
      constructor
      · intro z
        refine ⟨k, hk, rfl, hk2, rc_iff.mpr ?_⟩
        split at z
        · cases z
        · assumption
      · rintro ⟨c, hc, z, _, z2⟩
        have : k = c := (nI_eq (by omega) (by omega)).mp z
        subst this
        rw [if_neg (rc_iff.mp z2)]
  rw [tb_n0]
  unfold sp_X9_mayBeHers
  constructor
  · intro z
    rcases fndN_cases (P := ps_X9_mayBeHers_2 B (nI p) (nI w)) (A := fun i => (if (sp_X9_landing B (nI w) ((nI i) / 3) (irm (nI i) 3)) = (-1) then false else if (sp_X9_reach B (nI p)) < (sp_X9_away B (nI p) (sp_X9_landing B (nI w) ((nI i) / 3) (irm (nI i) 3))) then false else true)) (B := false) 30 0 with ⟨e, _⟩ | ⟨j, _, hj, hP, _, _⟩
    · rw [e] at z; cases z
    · obtain ⟨c, hc, e1, e2, e3⟩ := (key j (by omega)).mp hP
      refine ⟨c, by omega, ?_⟩
      rw [tb_and, Bool.and_eq_true]
      exact ⟨(tb_open ok).mpr ⟨j, by omega, e1, hc⟩, (tb_reached ok (by omega)).mpr ⟨e2, e3⟩⟩
  · rintro ⟨c, hc, e⟩
    rw [tb_and, Bool.and_eq_true] at e
    obtain ⟨t, ht, e1, hc2⟩ := (tb_open ok).mp e.1
    obtain ⟨e2, e3⟩ := (tb_reached ok (by omega)).mp e.2
    have hP := (key t ht).mpr ⟨c, hc2, e1, e2, e3⟩
    rcases fndN_cases (P := ps_X9_mayBeHers_2 B (nI p) (nI w)) (A := fun i => (if (sp_X9_landing B (nI w) ((nI i) / 3) (irm (nI i) 3)) = (-1) then false else if (sp_X9_reach B (nI p)) < (sp_X9_away B (nI p) (sp_X9_landing B (nI w) ((nI i) / 3) (irm (nI i) 3))) then false else true)) (B := false) 30 0 with ⟨_, hf⟩ | ⟨j, _, hj, hP2, _, e5⟩
    · rw [hf t (by omega) (by omega)] at hP; cases hP
    · rw [e5]
      unfold ps_X9_mayBeHers_2 at hP2
      exact hP2
end Hits
