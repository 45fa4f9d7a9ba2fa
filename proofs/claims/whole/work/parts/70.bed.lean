/-! ===== bed, move ===== -/
theorem itN_cntG {f : Nat → Int32 → Int32} {P : Nat → Bool} {n : Nat} (hf : ∀ k b, k < n → f k b = if P k = true then b + 1 else b) {b : Int32} : itN n f b = b + nI (cntN P n) := by
  refine itN_ind (fun k x => x = b + nI (cntN P k)) n (by show b = b + nI 0; rw [nI_0, Int32.add_zero]) (fun k x hk hx => ?_)
  rw [hf k x hk, hx, cntN]
  split
  · rw [Int32.add_assoc, nI_1]
  · rfl
section Bed
variable {A B : MT}
theorem e_landIn {M m : MT} (ag : AG (m.1 2) (B.1 5)) (ok : OKs m 2) {c : Nat} : itN (tn (m.1 2 0 0)) (st_X0_seekBed_27 M c m) 0 = sp_X9_landingIn B (nI c) := by
  have hwl := bd_lt ok.1
  unfold sp_X9_landingIn
  rw [← ag.wc]
  refine itN_congr rfl (fun k x hk => ?_)
  have hkt : tn (nI k) < tn (m.1 2 0 0) := by rw [tn_nI (by omega)]; exact hk
  have hP : ∀ t, t < 30 → (fun t => decide (sp_X9_landing B (nI k) ((nI t) / 3) (irm (nI t) 3) = nI c)) t = decide (sp_X9_landing B (nI k) ((nI t) / 3) (irm (nI t) 3) = nI c) := fun t _ => rfl
  unfold st_X0_seekBed_27 st_X9_landingIn_4
  rw [e_lands ag hkt hP, itN_cntG (P := fun t => decide (sp_X9_landing B (nI k) ((nI t) / 3) (irm (nI t) 3) = nI c)) (fun t b ht => by
    unfold st_X9_landingIn_15
    simp only [decide_eq_true_eq])]
theorem landIn_n (hw : bd (B.1 5 0 0) 9) {c : Int32} : ∃ n, n ≤ 240 ∧ sp_X9_landingIn B c = nI n := by
  have hwl := bd_lt hw
  unfold sp_X9_landingIn
  have := itN_ind (f := st_X9_landingIn_4 B c) (b := 0) (fun k x => ∃ n, n ≤ 30 * k ∧ x = nI n) (tn (B.1 5 0 0)) ⟨0, Nat.le_refl _, rfl⟩ (fun k x hk hx => by
    obtain ⟨n, hn, rfl⟩ := hx
    unfold st_X9_landingIn_4
    rw [itN_cntG (P := fun t => decide (sp_X9_landing B (nI k) ((nI t) / 3) (irm (nI t) 3) = c)) (fun t b ht => by
      unfold st_X9_landingIn_15
      simp only [decide_eq_true_eq])]
    have hc := cntN_le (fun t => decide (sp_X9_landing B (nI k) ((nI t) / 3) (irm (nI t) 3) = c)) 30
    exact ⟨n + cntN (fun t => decide (sp_X9_landing B (nI k) ((nI t) / 3) (irm (nI t) 3) = c)) 30, by omega, nI_add _ _⟩)
  obtain ⟨n, hn, e⟩ := this
  exact ⟨n, by omega, e⟩
def BDI (B C : MT) (a : Int32) (k : Nat) (m : MT) : Prop := m.1 = C.1 ∧ (∀ c, c ≠ 2 → m.2.1 c = C.2.1 c) ∧ m.2.2 = C.2.2 ∧ (k = 0 → m.2.1 2 0 = 0 ∧ m.2.1 2 1 = 0) ∧ (0 < k → ∃ j, j < k ∧ itN (k - 1) (st_X9_bed_20 B a) 0 = nI j ∧ m.2.1 2 0 = nI j ∧ m.2.1 2 1 = sp_X9_landingIn B (nI j))
theorem u2_ne {M : MT} {c i c' : Nat} {v : Int32} (h : c' ≠ c) : (u2 M c i v).2.1 c' = M.2.1 c' := funext fun j => if_neg (fun z => h z.1)
theorem u2_eq {M : MT} {c i : Nat} {v : Int32} : (u2 M c i v).2.1 c i = v := if_pos ⟨rfl, rfl⟩
theorem u2_ie {M : MT} {c i i' : Nat} {v : Int32} (h : i' ≠ i) : (u2 M c i v).2.1 c i' = M.2.1 c i' := if_neg (fun z => h z.2)
theorem e_bed {C : MT} {a : Int32} (ag : AG (C.1 2) (B.1 5)) (ok : OKs C 2) : ∀ k, k ≤ tn (C.1 2 2 0) → BDI B C a k (itN k (st_X0_seekBed_12 C) (u2 (u2 C 2 0 0) 2 1 0))
  | 0, _ => ⟨rfl, fun c hc => (u2_ne hc).trans (u2_ne hc), rfl, fun _ => ⟨rfl, rfl⟩, fun h => absurd h (Nat.lt_irrefl _)⟩
  | k + 1, hk => by
    obtain ⟨h1, h2, h3, h4, h5⟩ := e_bed (a := a) ag ok k (by omega)
    have hcl := bd_lt ok.2.2.1.1
    have hwB : bd (B.1 5 0 0) 9 := by rw [← ag.wc]; exact ok.1
    rw [itN_s]
    generalize itN k (st_X0_seekBed_12 C) (u2 (u2 C 2 0 0) 2 1 0) = m at h1 h2 h3 h4 h5 ⊢
    have agm : AG (m.1 2) (B.1 5) := by rw [h1]; exact ag
    have okm : OKs m 2 := OKs_congr ok (by rw [h1])
    unfold st_X0_seekBed_12
    rw [e_landIn agm okm]
    unfold sp_X0_propose
    obtain ⟨n, hn, en⟩ := landIn_n hwB (c := nI k)
    have hset : BDI B C a (k + 1) (u2 (u2 m 2 0 (nI k)) 2 1 (sp_X9_landingIn B (nI k))) ↔ itN k (st_X9_bed_20 B a) 0 = nI k := by
      constructor
      · rintro ⟨_, _, _, _, q⟩
        obtain ⟨j, hj, e1, e2, _⟩ := q (by omega)
        rw [u2_ie (by decide), u2_eq] at e2
        rw [Nat.add_sub_cancel] at e1
        rw [e1, e2]
      · intro q
        refine ⟨h1, fun c hc => ((u2_ne hc).trans (u2_ne hc)).trans (h2 c hc), h3, fun z => absurd z (Nat.succ_ne_zero k), fun _ => ⟨k, by omega, by rw [Nat.add_sub_cancel]; exact q, ?_, ?_⟩⟩
        · rw [u2_ie (by decide), u2_eq]
        · rw [u2_eq]
    rcases Nat.eq_zero_or_pos k with z | z
    · subst z
      obtain ⟨b0, b1⟩ := h4 rfl
      rw [b1]
      by_cases c : sp_X9_landingIn B (nI 0) ≤ 0
      · rw [if_pos c]
        rw [en] at c
        have n0 : n = 0 := by
          have := (nI_leI (b := 0) (by omega) (by omega)).mp c
          omega
        refine ⟨h1, h2, h3, fun z => absurd z (Nat.succ_ne_zero 0), fun _ => ⟨0, by omega, rfl, b0, ?_⟩⟩
        rw [b1, en, n0]; rfl
      · rw [if_neg c]
        exact hset.mpr rfl
    · obtain ⟨j, hj, e1, e2, e3⟩ := h5 z
      have eR : itN k (st_X9_bed_20 B a) 0 = if sp_X9_landingIn B (nI k) ≤ sp_X9_landingIn B (nI j) then nI j else nI k := by
        obtain ⟨k', rfl⟩ : ∃ k', k = k' + 1 := ⟨k - 1, by omega⟩
        rw [Nat.add_sub_cancel] at e1
        rw [itN_s, e1]
        rfl
      rw [e3]
      by_cases c : sp_X9_landingIn B (nI k) ≤ sp_X9_landingIn B (nI j)
      · rw [if_pos c]
        rw [if_pos c] at eR
        exact ⟨h1, h2, h3, fun z => absurd z (Nat.succ_ne_zero k), fun _ => ⟨j, by omega, by rw [Nat.add_sub_cancel]; exact eR, e2, e3⟩⟩
      · rw [if_neg c]
        rw [if_neg c] at eR
        exact hset.mpr eR
/-- the draft of the outlook, and what the outlook found -/
theorem out_fin {x : MT} (hx : OKX A) (hr : R2 A B) (e1 : ∀ t, t ≠ 2 → x.1 t = A.1 t) (e2 : ∀ c, c ≠ 2 → c ≠ 3 → x.2.1 c = A.2.1 c) (e3 : x.2.2 = A.2.2) (o : OKa x 2) : OKX x ∧ R2 x B := by
  have q : CP A x := ⟨e1 0 (by decide), e1 1 (by decide), fun c h2 h3 _ _ _ => e2 c h2 h3, fun r _ => by rw [e3]⟩
  exact ⟨hx.cp q o (OKa_eq hx.2.2.2.1 (e1 3 (by decide))) (OKa_eq hx.2.2.2.2.1 (e1 4 (by decide))), hr.cp q⟩
theorem sim_bed (hx : OKX A) (hr : R2 A B) {a0 : Int32} : SR (sp_X8_bed A a0) (sp_X9_bed B a0) := by
  have h := hr.1
  unfold sp_X8_bed sp_X9_bed
  rw [e_what]
  by_cases c1 : sp_X9_within a0 0 1 = true
  · rw [if_pos c1, if_pos c1]
    have hs := ws_start (f := 3) (i := 0) hx hr (by decide) (by decide)
    have ag : AG ((cpM A 2 0).1 2) (B.1 5) := AG_cp.trans h
    have ok2 : OKs (cpM A 2 0) 2 := hs.2.2.1
    have hc2 := ok2.2.2.1.2
    have b := e_bed (a := a0) ag ok2 _ (Nat.le_refl _)
    have e0 : itN (tn ((cpM A 2 0).1 2 2 0)) (st_X0_seekBed_12 (cpM A 2 0)) (u2 (u2 (cpM A 2 0) 2 0 0) 2 1 0) = sp_X0_seekBed (cpM A 2 0) := rfl
    rw [e0] at b
    obtain ⟨b1, b2, b3, _, b5⟩ := b
    obtain ⟨j, hj, j1, j2, j3⟩ := b5 (by omega)
    rw [ag.cl] at j1
    have fin := out_fin (x := sp_X0_seekBed (cpM A 2 0)) hx hr (fun t ht => by rw [b1]; exact cp_ne ht) (fun c h2 h3 => by rw [b2 c h2]; rfl) (by rw [b3]; rfl) (OKa_eq (OKa_of ok2) (by rw [b1]))
    rw [j1, j2, j3]
    split
    · exact ⟨rfl, fin.1, fin.2⟩
    · exact ⟨rfl, fin.1, fin.2⟩
  · rw [if_neg c1, if_neg c1]; exact sr_no hx hr (by decide)
theorem open_11 {B : MT} {p : Nat} {v w : Int32} : sp_X9_openTo (u1 B 5 11 p v) w = sp_X9_openTo B w := by
  have e : ∀ f i, f ≠ 11 → (u1 B 5 11 p v).1 5 f i = B.1 5 f i := fun f i h => u1_f h
  unfold sp_X9_openTo
  refine itN_congr rfl (fun k x hk => ?_)
  unfold st_X9_openTo_4 sp_X9_landing sp_X9_isCell
  simp only [e 6 _ (by decide), e 7 _ (by decide), e 3 _ (by decide), e 2 _ (by decide)]
def MVI (B C : MT) (p : Nat) (x : MT) (y : Int32 × Int32 × MT) : Prop := (∀ t, t ≠ 2 → x.1 t = C.1 t) ∧ OKs x 2 ∧ AGx 11 p (x.1 2) (B.1 5) ∧ RS 11 p B y.2.2 ∧ x.2.1 2 0 = y.1 ∧ x.2.1 2 1 = y.2.1 ∧ (∀ c, c ≠ 2 → c ≠ 3 → x.2.1 c = C.2.1 c) ∧ (∀ w, w < tn (B.1 5 0 0) → x.2.1 3 w = sp_X9_openTo B (nI w)) ∧ x.2.2 = C.2.2
theorem e_mstep {C x : MT} {y : Int32 × Int32 × MT} {p k : Nat} {a1 : Int32} (hi : MVI B C p x y) (hp : p < tn (B.1 5 1 0)) (hk : k < tn (B.1 5 2 0)) : MVI B C p (st_X0_seekPlace_45 C (nI p) k x) (st_X9_move_40 B (nI p) a1 k y) := by
  obtain ⟨h1, h2, h3, h4, h5, h6, h7, h8, h9⟩ := hi
  have ag : AG ((u1 x 2 11 p (nI k)).1 2) ((u1 B 5 11 p (nI k)).1 5) := by rw [u1_V, u1_V]; exact h3 _
  have wB : (u1 B 5 11 p (nI k)).1 5 0 0 = B.1 5 0 0 := u1_f (by decide)
  have pB : (u1 B 5 11 p (nI k)).1 5 1 0 = B.1 5 1 0 := u1_f (by decide)
  have cB : (u1 B 5 11 p (nI k)).1 5 2 0 = B.1 5 2 0 := u1_f (by decide)
  have cx : x.1 2 2 0 = B.1 5 2 0 := by
    have q := ag.cl
    rw [cB, u1_f (by decide)] at q
    exact q
  have hcl := bd_lt h2.2.2.1.1
  rw [cx] at hcl
  have okm : OKs (u1 x 2 11 p (nI k)) 2 := OKs_at h2 (by rw [cx]; exact bd_nI hk (by omega))
  have hpl := bd_lt okm.2.1
  have hwl := bd_lt okm.1
  have hpm : p < tn ((u1 x 2 11 p (nI k)).1 2 1 0) := by rw [ag.pc, pB]; exact hp
  have tp : tn (nI p) = p := tn_nI (by omega)
  have cnt : sp_X0_countOpenings (u1 x 2 11 p (nI k)) (sp_X5_cellsCaughtBy (u1 x 2 11 p (nI k)) 2 (nI p)) = itN (tn (y.2.2.1 5 0 0)) (st_X9_move_63 B (nI p) a1 k y) 0 := by
    unfold sp_X0_countOpenings
    have wy : y.2.2.1 5 0 0 = B.1 5 0 0 := by
      have q := congrArg (fun m : MT => m.1 5 0 0) (h4 0)
      rw [u1_f (by decide), u1_f (by decide)] at q
      exact q
    rw [wy, ag.wc, wB]
    refine itN_congr rfl (fun w b hw => ?_)
    have hwm : w < tn ((u1 x 2 11 p (nI k)).1 2 0 0) := by rw [ag.wc, wB]; exact hw
    have hwt : tn (nI w) < tn ((u1 x 2 11 p (nI k)).1 2 0 0) := by rw [tn_nI (by omega)]; exact hwm
    have eo : (u1 x 2 11 p (nI k)).2.1 3 w = sp_X5_openCells (u1 x 2 11 p (nI k)) 2 (nI w) := by
      rw [e_open ag hwt, open_11]
      exact h8 w hw
    unfold st_X0_countOpenings_4 st_X9_move_63
    rw [eo, tp, h4, ← e_hit ag okm hwt]
    have e := hit_iff okm (w := nI w) hpm
    cases q : tb (sp_X5_peopleHit (u1 x 2 11 p (nI k)) 2 (nI w)) p
    · have n : (sp_X5_openCells (u1 x 2 11 p (nI k)) 2 (nI w) &&& sp_X5_cellsCaughtBy (u1 x 2 11 p (nI k)) 2 (nI p)) = 0 := by
        refine Classical.byContradiction (fun z => ?_)
        rw [(tb_hit okm).mpr ⟨hpm, e.mp z⟩] at q; cases q
      rw [if_pos n, if_neg (fun z => by rw [(bit_1 (by omega)).mp z] at q; cases q)]
    · have n := e.mpr ((tb_hit okm).mp q).2
      rw [if_neg n, if_pos ((bit_1 (by omega)).mpr q)]
  have RS' : RS 11 p B (u1 y.2.2 5 11 p (nI k)) := RS_u h4
  unfold st_X0_seekPlace_45 st_X9_move_40 sp_X0_propose
  rw [tp, cnt]
  have m21 : (u1 x 2 11 p (nI k)).2.1 2 1 = y.2.1 := h6
  rw [m21]
  have base : ∀ t, t ≠ 2 → (u1 x 2 11 p (nI k)).1 t = C.1 t := fun t ht => (u1_ne ht).trans (h1 t ht)
  have agx : AGx 11 p ((u1 x 2 11 p (nI k)).1 2) (B.1 5) := fun v => by rw [u1_V, up_up]; exact h3 v
  by_cases c : itN (tn (y.2.2.1 5 0 0)) (st_X9_move_63 B (nI p) a1 k y) 0 ≤ y.2.1
  · rw [if_pos c, if_neg (Int32.not_lt.mpr c)]
    exact ⟨base, okm, agx, RS', h5, h6, h7, h8, h9⟩
  · rw [if_neg c, if_pos (Int32.not_le.mp c)]
    refine ⟨base, okm, agx, RS', ?_, ?_, fun d q2 q3 => ?_, fun w hw => ?_, h9⟩
    · rw [u2_ie (by decide), u2_eq]
    · rw [u2_eq]
    · rw [u2_ne q2, u2_ne q2]; exact h7 d q2 q3
    · rw [u2_ne (by decide), u2_ne (by decide)]; exact h8 w hw
theorem sim_move (hx : OKX A) (hr : R2 A B) {a0 a1 : Int32} : SR (sp_X8_move A a0 a1) (sp_X9_move B a0 a1) := by
  have h := hr.1
  unfold sp_X8_move sp_X9_move
  rw [e_one h, e_what]
  by_cases c1 : sp_X9_isOne B a0 = true
  · rw [if_pos c1, if_pos c1]
    by_cases c2 : sp_X9_within a1 0 1 = true
    · rw [if_pos c2, if_pos c2]
      have p := one_in h hx c1
      have hp : tn a0 < tn (B.1 5 1 0) := by rw [← h.pc]; exact p.1
      have hs := ws_start (f := 11) (i := tn a0) hx hr (by decide) (by decide)
      have ag : AG ((cpM A 2 0).1 2) (B.1 5) := AG_cp.trans h
      generalize hC : cpM A 2 0 = C at hs ag
      have hwl := bd_lt hs.2.2.1.1
      have start : MVI B C (tn a0) (u2 (u2 (itN (tn (C.1 2 0 0)) (st_X0_seekPlace_2 C a0) C) 2 0 0) 2 1 0) (0, 0, B) := by
        have f := itN_ind (f := st_X0_seekPlace_2 C a0) (b := C) (fun k m => m.1 = C.1 ∧ (∀ c, c ≠ 3 → m.2.1 c = C.2.1 c) ∧ m.2.2 = C.2.2 ∧ ∀ w, w < k → m.2.1 3 w = sp_X9_openTo B (nI w)) (tn (C.1 2 0 0)) ⟨rfl, fun _ _ => rfl, rfl, fun w hw => absurd hw (Nat.not_lt_zero w)⟩ (fun k m hk hm => by
          obtain ⟨m1, m2, m3, m4⟩ := hm
          have hkt : tn (nI k) < tn (m.1 2 0 0) := by rw [m1, tn_nI (by omega)]; exact hk
          unfold st_X0_seekPlace_2
          refine ⟨m1, fun c hc => (u2_ne hc).trans (m2 c hc), m3, fun w hw => ?_⟩
          by_cases e : w = k
          · rw [e, u2_eq, e_open (B := B) (by rw [m1]; exact ag) hkt]
          · rw [u2_ie e]; exact m4 w (by omega))
        obtain ⟨f1, f2, f3, f4⟩ := f
        generalize itN (tn (C.1 2 0 0)) (st_X0_seekPlace_2 C a0) C = m at f1 f2 f3 f4 ⊢
        refine ⟨fun t _ => congrFun f1 t, OKs_congr hs.2.2.1 (congrFun f1 2), fun v => ?_, RS_refl, ?_, ?_, fun c q2 q3 => ?_, fun w hw => ?_, f3⟩
        · show AG (up (m.1 2) 11 (tn a0) v) _
          rw [f1]; exact hs.2.2.2 v
        · rw [u2_ie (by decide), u2_eq]
        · rw [u2_eq]
        · rw [u2_ne q2, u2_ne q2]; exact f2 c q3
        · rw [u2_ne (by decide), u2_ne (by decide)]
          exact f4 w (by rw [ag.wc]; exact hw)
      have key := itN_rel (f := st_X0_seekPlace_45 C a0) (g := st_X9_move_40 B a0 a1) (b := u2 (u2 (itN (tn (C.1 2 0 0)) (st_X0_seekPlace_2 C a0) C) 2 0 0) 2 1 0) (c := (0, 0, B)) (fun _ x y => MVI B C (tn a0) x y) (tn (B.1 5 2 0)) start (fun k x y hk hi => by
        have q := e_mstep (a1 := a1) hi hp hk
        rw [← p.2] at q
        exact q)
      have e0 : itN (tn (B.1 5 2 0)) (st_X0_seekPlace_45 C a0) (u2 (u2 (itN (tn (C.1 2 0 0)) (st_X0_seekPlace_2 C a0) C) 2 0 0) 2 1 0) = sp_X0_seekPlace C a0 := by
        unfold sp_X0_seekPlace; rw [ag.cl]
      rw [e0] at key
      generalize itN (tn (B.1 5 2 0)) (st_X9_move_40 B a0 a1) (0, 0, B) = y at key ⊢
      obtain ⟨k1, k2, k3, k4, k5, k6, k7, k8, k9⟩ := key
      have fin := out_fin (x := sp_X0_seekPlace C a0) hx hr (fun t ht => by rw [k1 t ht, ← hC]; exact cp_ne ht) (fun c h2 h3 => by rw [k7 c h2 h3, ← hC]; rfl) (by rw [k9, ← hC]; rfl) (OKa_of k2)
      rw [RS_end k4]
      split
      · exact ⟨k5, fin.1, fin.2⟩
      · exact ⟨k6, fin.1, fin.2⟩
    · rw [if_neg c2, if_neg c2]; exact sr_no hx hr (by decide)
  · rw [if_neg c1, if_neg c1]; exact sr_no hx hr (by decide)
end Bed
