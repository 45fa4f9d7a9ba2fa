/-! ===== who is paired with whom ===== -/
section Pairs
variable {A B : MT}
theorem hit_1 {X Y : MT} (e : X.1 = Y.1) {w : Int32} : sp_X9_hitFrom X w = sp_X9_hitFrom Y w := by
  obtain ⟨x1, x2⟩ := X
  obtain ⟨y1, y2⟩ := Y
  obtain rfl : x1 = y1 := e
  rfl
theorem m13_hit {V : Nat → Nat → Int32} {Y : MT} {w : Int32} : sp_X9_hitFrom (m13 V Y) w = sp_X9_hitFrom Y w := by
  unfold sp_X9_hitFrom
  refine itN_congr rfl (fun k x _ => ?_)
  unfold st_X9_hitFrom_4 sp_X9_caughtBy
  rw [m13_catch, m13_land]
theorem p27 {M : MT} {a : Int32} : ∀ k, (∀ s, s ≠ 5 → (itN k (st_X9_pairs_27 M a) B).1 s = B.1 s) ∧ (∀ f i, (itN k (st_X9_pairs_27 M a) B).1 5 f i = if f = 12 ∧ i < k then -1 else B.1 5 f i) ∧ (itN k (st_X9_pairs_27 M a) B).2.2 = B.2.2 ∧ (∀ c, c ≠ 37 → (itN k (st_X9_pairs_27 M a) B).2.1 c = B.2.1 c) ∧ ∀ i, i < k → (itN k (st_X9_pairs_27 M a) B).2.1 37 i = B.1 5 12 i
  | 0 => ⟨fun _ _ => rfl, fun f i => by rw [if_neg (fun z => Nat.not_lt_zero i z.2)]; rfl, rfl, fun _ _ => rfl, fun i hi => absurd hi (Nat.not_lt_zero i)⟩
  | k + 1 => by
    obtain ⟨m1, m2, m3, m4, m5⟩ := p27 (M := M) (a := a) k
    rw [itN_s]
    generalize itN k (st_X9_pairs_27 M a) B = m at m1 m2 m3 m4 m5 ⊢
    unfold st_X9_pairs_27
    refine ⟨fun s hs => (u1_ne hs).trans (m1 s hs), fun f i => ?_, m3, fun c hc => (u2_ne hc).trans (m4 c hc), fun i hi => ?_⟩
    · rw [u1_at]
      show (if f = 12 ∧ i = k then (-1) else m.1 5 f i) = _
      rw [m2]
      by_cases e : f = 12 ∧ i = k
      · rw [if_pos e, if_pos ⟨e.1, by omega⟩]
      · rw [if_neg e]
        by_cases e2 : f = 12 ∧ i < k
        · rw [if_pos e2, if_pos ⟨e2.1, by omega⟩]
        · rw [if_neg e2, if_neg (fun z => e2 ⟨z.1, by
            rcases Nat.lt_or_ge i k with q | q
            · exact q
            · exact absurd ⟨z.1, by omega⟩ e⟩)]
    · show (u2 m 37 k (m.1 5 12 k)).2.1 37 i = _
      by_cases e : i = k
      · rw [e, u2_eq, m2, if_neg (fun z => by omega)]
      · rw [u2_ie e]; exact m5 i (by omega)
theorem p60 {M Y : MT} {a : Int32} : ∀ k, k ≤ 8 → (itN k (st_X9_pairs_60 M a) Y).1 = Y.1 ∧ (itN k (st_X9_pairs_60 M a) Y).2.2 = Y.2.2 ∧ (∀ c, c ≠ 38 → (itN k (st_X9_pairs_60 M a) Y).2.1 c = Y.2.1 c) ∧ ∀ i, i < k → (itN k (st_X9_pairs_60 M a) Y).2.1 38 i = sp_X9_hitFrom Y (nI i)
  | 0, _ => ⟨rfl, rfl, fun _ _ => rfl, fun i hi => absurd hi (Nat.not_lt_zero i)⟩
  | k + 1, hk => by
    obtain ⟨m1, m2, m3, m4⟩ := p60 (M := M) (Y := Y) (a := a) k (by omega)
    rw [itN_s]
    generalize itN k (st_X9_pairs_60 M a) Y = m at m1 m2 m3 m4 ⊢
    unfold st_X9_pairs_60
    refine ⟨m1, m2, fun c hc => (u2_ne hc).trans (m3 c hc), fun i hi => ?_⟩
    by_cases e : i = k
    · rw [e, u2_eq]; exact hit_1 m1
    · rw [u2_ie e]; exact m4 i (by omega)
theorem p87 {M Y : MT} {a : Int32} : ∀ k, (∀ s, s ≠ 5 → (itN k (st_X9_pairs_87 M a) Y).1 s = Y.1 s) ∧ (∀ f i, (itN k (st_X9_pairs_87 M a) Y).1 5 f i = if f = 12 ∧ i < k then Y.2.1 37 i else Y.1 5 f i) ∧ (itN k (st_X9_pairs_87 M a) Y).2 = Y.2
  | 0 => ⟨fun _ _ => rfl, fun f i => by rw [if_neg (fun z => Nat.not_lt_zero i z.2)]; rfl, rfl⟩
  | k + 1 => by
    obtain ⟨m1, m2, m3⟩ := p87 (M := M) (Y := Y) (a := a) k
    rw [itN_s]
    generalize itN k (st_X9_pairs_87 M a) Y = m at m1 m2 m3 ⊢
    unfold st_X9_pairs_87
    refine ⟨fun s hs => (u1_ne hs).trans (m1 s hs), fun f i => ?_, m3⟩
    rw [u1_at, m2, m3]
    by_cases e : f = 12 ∧ i = k
    · rw [if_pos e, if_pos ⟨e.1, by omega⟩, e.2]
    · rw [if_neg e]
      by_cases e2 : f = 12 ∧ i < k
      · rw [if_pos e2, if_pos ⟨e2.1, by omega⟩]
      · rw [if_neg e2, if_neg (fun z => e2 ⟨z.1, by
          rcases Nat.lt_or_ge i k with q | q
          · exact q
          · exact absurd ⟨z.1, by omega⟩ e⟩)]
/-- the reference's memory before the trials -/
theorem p_all {a : Int32} {W : Nat} (hW : W ≤ 8) : ∃ Y : MT, (∀ f i, Y.1 5 f i = if f = 12 ∧ i < 8 then -1 else B.1 5 f i) ∧
    (itN 8 (st_X9_pairs_87 B a) (itN W (st_X9_pairs_60 B a) (itN 8 (st_X9_pairs_27 B a) B))).1 = B.1 ∧
    (itN 8 (st_X9_pairs_87 B a) (itN W (st_X9_pairs_60 B a) (itN 8 (st_X9_pairs_27 B a) B))).2.2 = B.2.2 ∧
    (∀ c, c ≠ 37 → c ≠ 38 → (itN 8 (st_X9_pairs_87 B a) (itN W (st_X9_pairs_60 B a) (itN 8 (st_X9_pairs_27 B a) B))).2.1 c = B.2.1 c) ∧
    ∀ i, i < W → (itN 8 (st_X9_pairs_87 B a) (itN W (st_X9_pairs_60 B a) (itN 8 (st_X9_pairs_27 B a) B))).2.1 38 i = sp_X9_hitFrom Y (nI i) := by
  obtain ⟨m1, m2, m3, m4, m5⟩ := p27 (B := B) (M := B) (a := a) 8
  generalize itN 8 (st_X9_pairs_27 B a) B = Y at m1 m2 m3 m4 m5 ⊢
  obtain ⟨n1, n2, n3, n4⟩ := p60 (M := B) (Y := Y) (a := a) W hW
  generalize itN W (st_X9_pairs_60 B a) Y = Z at n1 n2 n3 n4 ⊢
  obtain ⟨q1, q2, q3⟩ := p87 (M := B) (Y := Z) (a := a) 8
  generalize itN 8 (st_X9_pairs_87 B a) Z = R at q1 q2 q3 ⊢
  refine ⟨Y, m2, ?_, ?_, fun c h1 h2 => ?_, fun i hi => ?_⟩
  · funext s f i
    by_cases e : s = 5
    · subst e
      rw [q2, n1, m2, n3 37 (by decide)]
      by_cases c : f = 12 ∧ i < 8
      · rw [if_pos c, m5 i c.2, c.1]
      · rw [if_neg c, if_neg c]
    · rw [q1 s e, n1, m1 s e]
  · rw [q3, n2, m3]
  · rw [q3, n3 c h2, m4 c h1]
  · rw [q3, n4 i hi]
theorem s10 {M C : MT} : ∀ k, (∀ t, t ≠ 3 → (itN k (st_X1_settle_10 M) C).1 t = C.1 t) ∧ (∀ f i, (itN k (st_X1_settle_10 M) C).1 3 f i = if (f = 12 ∨ f = 13) ∧ i < k then -1 else C.1 3 f i) ∧ (itN k (st_X1_settle_10 M) C).2 = C.2
  | 0 => ⟨fun _ _ => rfl, fun f i => by rw [if_neg (fun z => Nat.not_lt_zero i z.2)]; rfl, rfl⟩
  | k + 1 => by
    obtain ⟨m1, m2, m3⟩ := s10 (M := M) (C := C) k
    rw [itN_s]
    generalize itN k (st_X1_settle_10 M) C = m at m1 m2 m3 ⊢
    unfold st_X1_settle_10 sp_X2_drop
    refine ⟨fun s hs => by rw [u1_ne hs, u1_ne hs]; exact m1 s hs, fun f i => ?_, m3⟩
    rw [u1_at, u1_at, m2]
    by_cases e1 : f = 13 ∧ i = k
    · rw [if_pos e1, if_pos ⟨Or.inr e1.1, by omega⟩]
    · rw [if_neg e1]
      by_cases e : f = 12 ∧ i = k
      · rw [if_pos e, if_pos ⟨Or.inl e.1, by omega⟩]
      · rw [if_neg e]
        by_cases e2 : (f = 12 ∨ f = 13) ∧ i < k
        · rw [if_pos e2, if_pos ⟨e2.1, by omega⟩]
        · rw [if_neg e2, if_neg (fun z => e2 ⟨z.1, by
            rcases Nat.lt_or_ge i k with q | q
            · exact q
            · rcases z.1 with w | w
              · exact absurd ⟨w, by omega⟩ e
              · exact absurd ⟨w, by omega⟩ e1⟩)]
theorem fond_tab : ∀ a, a < 10 → ∀ b, b < 10 → (10 : Int32) - iabs (nI a - nI b) = nI (tn (10 - iabs (nI a - nI b))) ∧ tn (10 - iabs (nI a - nI b)) ≤ 10 := by decide +kernel
/-- how fond, as a number -/
def fonN (B : MT) (W P : Nat) : Nat → Nat → Nat := fun w p => if w < W ∧ p < P then tn (sp_X9_fondness B (nI w) (nI p)) else 0
def hitN (Y : MT) : Nat → Nat → Bool := fun w p => tb (sp_X9_hitFrom Y (nI w)) p
theorem fon_of (h : AG (A.1 0) (B.1 5)) (ok : OKs A 0) : (∀ w p, fonN B (tn (A.1 0 0 0)) (tn (A.1 0 1 0)) w p ≤ 10) ∧ ∀ w p, w < tn (A.1 0 0 0) → p < tn (A.1 0 1 0) → sp_X9_fondness B (nI w) (nI p) = nI (fonN B (tn (A.1 0 0 0)) (tn (A.1 0 1 0)) w p) := by
  have key : ∀ w p, w < tn (A.1 0 0 0) → p < tn (A.1 0 1 0) → sp_X9_fondness B (nI w) (nI p) = nI (tn (sp_X9_fondness B (nI w) (nI p))) ∧ tn (sp_X9_fondness B (nI w) (nI p)) ≤ 10 := by
    intro w p hw hp
    have h1 := bd_lt ok.1
    have h2 := bd_lt ok.2.1
    have b8 := (ok.2.2.2.2.2.2.2.2.1 w hw).2.2.2
    have b10 := (ok.2.2.2.2.2.2.2.2.2 p hp).1
    have t := fond_tab _ (bd_lt b8) _ (bd_lt b10)
    rw [← bd_eq b8, ← bd_eq b10] at t
    unfold sp_X9_fondness
    rw [tn_nI (by omega), tn_nI (by omega), ← h.wi hw (f := 8) (by omega) (by omega), ← h.pe hp (f := 10) (by omega) (by omega)]
    exact t
  refine ⟨fun w p => ?_, fun w p hw hp => ?_⟩
  · unfold fonN
    split
    · rename_i c; exact (key w p c.1 c.2).2
    · exact Nat.zero_le _
  · unfold fonN
    rw [if_pos ⟨hw, hp⟩]
    exact (key w p hw hp).1
theorem e_settle {Y : MT} (h : AG (A.1 0) (B.1 5)) (hx : OKX A) (hY : ∀ f i, Y.1 5 f i = if f = 12 ∧ i < 8 then -1 else B.1 5 f i) :
    (∀ t, t ≠ 3 → (sp_X1_settle A).1 t = A.1 t) ∧ OKa (sp_X1_settle A) 3 ∧ (sp_X1_settle A).1 3 0 0 = A.1 0 0 0 ∧ (sp_X1_settle A).2.2 = A.2.2 ∧ (∀ c, c ≠ 4 → c ≠ 5 → c < 13 → (sp_X1_settle A).2.1 c = A.2.1 c) ∧
    (sp_X1_settle A).2.1 13 0 = nI (FN (tn (A.1 0 1 0)) (hitN Y) (fonN B (tn (A.1 0 0 0)) (tn (A.1 0 1 0))) (tn (A.1 0 0 0)) 0 0) ∧
    ∀ i, i < tn (A.1 0 0 0) → (sp_X1_settle A).2.1 5 i = GN (tn (A.1 0 1 0)) (hitN Y) (fonN B (tn (A.1 0 0 0)) (tn (A.1 0 1 0))) (tn (A.1 0 0 0)) 0 0 i := by
  have ok0 := hx.1
  obtain ⟨f1, f2⟩ := fon_of h ok0
  have hwl := bd_lt ok0.1
  have hpl := bd_lt ok0.2.1
  have eW := bd_eq ok0.1
  have eP := bd_eq ok0.2.1
  have neC : ∀ t, t ≠ 3 → (cpM A 3 0).1 t = A.1 t := fun t ht => cp_ne ht
  have okC : OKs (cpM A 3 0) 3 := OKs_copy2 (by decide) ok0 hx.2.2.2.1
  have agC : AG ((cpM A 3 0).1 3) (A.1 0) := AG_cp
  have eC : (cpM A 3 0).2 = A.2 := rfl
  unfold sp_X1_settle
  generalize cpM A 3 0 = C at neC okC agC eC ⊢
  obtain ⟨x1, x2, x3⟩ := s10 (M := A) (C := C) (tn (C.1 3 1 0))
  generalize itN (tn (C.1 3 1 0)) (st_X1_settle_10 A) C = X1 at x1 x2 x3 ⊢
  rw [agC.pc] at x2
  have xf : ∀ f i, f ≠ 12 → f ≠ 13 → X1.1 3 f i = C.1 3 f i := fun f i h1 h2 => by rw [x2, if_neg (fun z => z.1.elim h1 h2)]
  have xd : ∀ f i, (f = 12 ∨ f = 13) → i < tn (A.1 0 1 0) → X1.1 3 f i = -1 := fun f i h1 h2 => by rw [x2, if_pos ⟨h1, h2⟩]
  have x00 : X1.1 3 0 0 = A.1 0 0 0 := (xf 0 0 (by decide) (by decide)).trans agC.wc
  have x10 : X1.1 3 1 0 = A.1 0 1 0 := (xf 1 0 (by decide) (by decide)).trans agC.pc
  have agX : AG (X1.1 3) ((m13 (X1.1 3) Y).1 5) := by
    have ag := agC.trans h
    refine ⟨fun f h6 h3 => ?_, fun i hi => ?_, fun f w h6 h9 hw => ?_, fun f p h9 h14 hp => ?_⟩
    · rw [m13_f (by omega), hY, if_neg (fun z => by omega), xf f 0 (by omega) (by omega)]; exact ag.1 f h6 h3
    · rw [m13_f (by omega), hY, if_neg (fun z => by omega), xf 3 i (by omega) (by omega)]; exact ag.2.1 i hi
    · rw [m13_f (by omega), hY, if_neg (fun z => by omega), xf f w (by omega) (by omega)]
      rw [xf 0 0 (by omega) (by omega)] at hw
      exact ag.2.2.1 f w h6 h9 hw
    · rw [x10] at hp
      by_cases e13 : f = 13
      · rw [e13, m13_e]
      · rw [m13_f e13, hY]
        by_cases e12 : f = 12
        · rw [if_pos ⟨e12, by omega⟩]; exact xd f p (Or.inl e12) hp
        · rw [if_neg (fun z => e12 z.1), xf f p e12 e13]
          exact ag.2.2.2 f p h9 h14 (by rw [agC.pc]; exact hp)
  have okX : OKs X1 3 := by
    obtain ⟨o1, o2, o3, o4, o5, o6, o7, o8, o9, o10⟩ := okC
    have c10 : C.1 3 1 0 = A.1 0 1 0 := agC.pc
    unfold OKs
    simp only [xf 0 _ (by decide) (by decide), xf 1 _ (by decide) (by decide), xf 2 _ (by decide) (by decide), xf 3 _ (by decide) (by decide), xf 9 _ (by decide) (by decide), xf 11 _ (by decide) (by decide), xf 6 _ (by decide) (by decide), xf 7 _ (by decide) (by decide), xf 8 _ (by decide) (by decide), xf 10 _ (by decide) (by decide)]
    refine ⟨o1, o2, o3, o4, o5, o6, o7, o8, o9, fun p hp => ?_⟩
    obtain ⟨g1, g2, _, _, _⟩ := o10 p hp
    rw [c10] at hp
    exact ⟨g1, g2, Or.inl (xd 12 p (Or.inl rfl) hp), Or.inl (xd 13 p (Or.inr rfl) hp), fun _ => xd 13 p (Or.inr rfl) hp⟩
  have key := itN_ind (f := st_X1_settle_41 A) (b := X1) (fun k m => m.1 = X1.1 ∧ m.2.2 = X1.2.2 ∧ (∀ c, c ≠ 4 → m.2.1 c = X1.2.1 c) ∧ ∀ i, i < k → m.2.1 4 i = sp_X9_hitFrom Y (nI i)) (tn (X1.1 3 0 0)) ⟨rfl, rfl, fun _ _ => rfl, fun i hi => absurd hi (Nat.not_lt_zero i)⟩ (fun k m hk hm => by
    obtain ⟨m1, m2, m3, m4⟩ := hm
    rw [x00] at hk
    have hkt : tn (nI k) < tn (m.1 3 0 0) := by rw [m1, x00, tn_nI (by omega)]; exact hk
    have eh : sp_X5_peopleHit m 3 (nI k) = sp_X9_hitFrom Y (nI k) := by
      rw [e_hit (B := m13 (X1.1 3) Y) (by rw [m1]; exact agX) (OKs_congr okX (by rw [m1])) hkt]
      exact m13_hit
    unfold st_X1_settle_41
    refine ⟨m1, m2, fun c hc => (u2_ne hc).trans (m3 c hc), fun i hi => ?_⟩
    by_cases e : i = k
    · rw [e, u2_eq, eh]
    · rw [u2_ie e]; exact m4 i (by omega))
  generalize itN (tn (X1.1 3 0 0)) (st_X1_settle_41 A) X1 = X2 at key ⊢
  obtain ⟨y1, y2, y3, y4⟩ := key
  rw [x00] at y4
  have wm : WM (tn (A.1 0 0 0)) (tn (A.1 0 1 0)) (hitN Y) (fonN B (tn (A.1 0 0 0)) (tn (A.1 0 1 0))) X2 := by
    refine ⟨by rw [y1, x00]; exact eW, by rw [y1, x10]; exact eP, fun w p hw hp => by rw [y4 w hw]; rfl, fun w p hw hp => ?_⟩
    rw [← f2 w p hw hp]
    have e := e_fond (A := X2) (s := 3) (B := m13 (X1.1 3) Y) (p := nI p) (w := nI w) (by rw [y1]; exact agX) (by rw [y1, x10, tn_nI (by omega)]; exact hp) (by rw [y1, x00, tn_nI (by omega)]; exact hw)
    rw [e]
    unfold sp_X9_fondness
    rw [m13_f (by decide), m13_f (by decide), hY, hY, if_neg (fun z => absurd z.1 (by decide)), if_neg (fun z => absurd z.1 (by decide))]
  obtain ⟨w1, w2, w3, w4⟩ := weigh_spec (by omega) (by omega) f1 wm
  generalize sp_X1_weigh X2 = X3 at w1 w2 w3 w4 ⊢
  obtain ⟨c1, c2, c3, c4⟩ := choose_spec (X := X3) (by omega) (by omega) f1 (WM_of wm w1 (w3 4 (by decide))) w4
  generalize sp_X1_choose X3 = X4 at c1 c2 c3 c4 ⊢
  have eall : X4.1 = X1.1 := c1.trans (w1.trans y1)
  refine ⟨fun t ht => by rw [eall, x1 t ht]; exact neC t ht, OKa_of (OKs_congr okX (by rw [eall])), by rw [eall]; exact x00, by rw [c2, w2, y2, x3, eC], fun c h4 h5 h13 => by rw [c3 c h5, w3 c h13, y3 c h4, x3, eC], ?_, c4⟩
  rw [c3 13 (by decide)]
  exact w4 _ 0 (Nat.zero_add _) 0 (Nat.two_pow_pos _)
/-- what the trials find -/
theorem e_tries {Y Z : MT} (h : AG (A.1 0) (B.1 5)) (ok : OKs A 0) (z1 : Z.1 = B.1) (z4 : ∀ i, i < tn (A.1 0 0 0) → Z.2.1 38 i = sp_X9_hitFrom Y (nI i)) :
    TF (u2 Z 30 6 (-1)) (tryT (u2 Z 30 6 (-1)) 0 0 0) ∧ (tryT (u2 Z 30 6 (-1)) 0 0 0).2.1 30 6 = nI (FN (tn (A.1 0 1 0)) (hitN Y) (fonN B (tn (A.1 0 0 0)) (tn (A.1 0 1 0))) (tn (A.1 0 0 0)) 0 0) ∧
    ∀ i, i < tn (A.1 0 0 0) → (tryT (u2 Z 30 6 (-1)) 0 0 0).2.1 40 i = GN (tn (A.1 0 1 0)) (hitN Y) (fonN B (tn (A.1 0 0 0)) (tn (A.1 0 1 0))) (tn (A.1 0 0 0)) 0 0 i := by
  have hwl := bd_lt ok.1
  have hpl := bd_lt ok.2.1
  have eWB : B.1 5 0 0 = nI (tn (A.1 0 0 0)) := by rw [← h.wc]; exact bd_eq ok.1
  have ePB : B.1 5 1 0 = nI (tn (A.1 0 1 0)) := by rw [← h.pc]; exact bd_eq ok.2.1
  have tWB : tn (B.1 5 0 0) = tn (A.1 0 0 0) := by rw [← h.wc]
  obtain ⟨f1, f2⟩ := fon_of h ok
  have e5 : (u2 Z 30 6 (-1)).1 = B.1 := z1
  have e6 : (u2 Z 30 6 (-1)).2.1 30 6 = nI 0 - 1 := by rw [u2_eq]; decide
  have e38 : ∀ w p, w < tn (A.1 0 0 0) → p < tn (A.1 0 1 0) → tb ((u2 Z 30 6 (-1)).2.1 38 w) p = hitN Y w p := fun w p hw hp => by rw [u2_ne (by decide), z4 w hw]; rfl
  generalize u2 Z 30 6 (-1) = X at e5 e6 e38 ⊢
  have hf : ∀ M : MT, M.1 = B.1 → ∀ w p, w < tn (A.1 0 0 0) → p < tn (A.1 0 1 0) → sp_X9_fondness M (nI w) (nI p) = nI (fonN B (tn (A.1 0 0 0)) (tn (A.1 0 1 0)) w p) := fun M hM w p hw hp => by
    rw [← f2 w p hw hp]
    unfold sp_X9_fondness
    rw [hM]
  generalize fonN B (tn (A.1 0 0 0)) (tn (A.1 0 1 0)) = φ at f1 hf ⊢
  generalize hitN Y = H at e38 ⊢
  have et : tryT X 0 0 0 = tryN (tn (A.1 0 0 0)) X (nI 0) 0 (nI 0) := by
    unfold tryT
    rw [e5, tWB]
    rfl
  rw [et]
  generalize tn (A.1 0 0 0) = W at *
  generalize tn (A.1 0 1 0) = P at *
  have sp := try_spec (P := P) (H := H) (φ := φ) (W := W) (D := 10) (V := B.1) (by omega) (by omega) (by omega) f1 eWB ePB hf W 0 0 0 0 X (Nat.zero_add _) e5 e38 e6 (by omega) (by omega)
  generalize tryN W X (nI 0) 0 (nI 0) = R at sp ⊢
  obtain ⟨t1, _, t5, _⟩ := sp
  obtain ⟨t6, t7⟩ := t5 (Nat.zero_le _)
  rw [Nat.zero_add] at t6
  exact ⟨t1, t6, fun i hi => by rw [t7 i hi, if_neg (Nat.not_lt_zero i)]⟩
theorem sim_pairs (hx : OKX A) (hr : R2 A B) {a0 : Int32} : SR (sp_X8_pairs A a0) (sp_X9_pairs B a0) := by
  have h := hr.1
  have ok := hx.1
  have hwl := bd_lt ok.1
  have hpl := bd_lt ok.2.1
  have tWB : tn (B.1 5 0 0) = tn (A.1 0 0 0) := by rw [← h.wc]
  obtain ⟨Y, hY, z1, z2, z3, z4⟩ := p_all (B := B) (a := a0) (W := tn (A.1 0 0 0)) (by omega)
  obtain ⟨s1, s2, s3, s4, s5, s6, s7⟩ := e_settle h hx hY
  rw [← tWB] at z1 z2 z3 z4
  have eloop : ∀ i b, st_X9_pairs_150 B a0 i b = if ((tryT (u2 (itN 8 (st_X9_pairs_87 B a0) (itN (tn (B.1 5 0 0)) (st_X9_pairs_60 B a0) (itN 8 (st_X9_pairs_27 B a0) B))) 30 6 (-1)) 0 0 0).2.1 40 i) = (-1) then b else b + 1 := fun _ _ => st_X9_pairs_150.eq_1 _ _ _ _
  unfold sp_X8_pairs sp_X9_pairs
  generalize itN 8 (st_X9_pairs_87 B a0) (itN (tn (B.1 5 0 0)) (st_X9_pairs_60 B a0) (itN 8 (st_X9_pairs_27 B a0) B)) = Z at z1 z2 z3 z4 eloop ⊢
  rw [tWB] at z4
  have sp := e_tries (Y := Y) h ok z1 z4
  generalize sp_X1_settle A = x at s1 s2 s3 s4 s5 s6 s7 ⊢
  generalize tryT (u2 Z 30 6 (-1)) 0 0 0 = R at sp eloop ⊢
  obtain ⟨⟨t1, t2, t3, t4⟩, t6, t7⟩ := sp
  have r1 : R.1 = B.1 := t1.trans z1
  have fin : OKX (x) ∧ R2 (x) R := by
    obtain ⟨q1, q2, q3, q4, q5⟩ := hr
    have cp : CP A (x) := ⟨s1 0 (by decide), s1 1 (by decide), fun c _ _ h4 h5 h13 => s5 c h4 h5 h13, fun r _ => by rw [s4]⟩
    have hr' := R2.cp ⟨q1, q2, q3, q4, q5⟩ cp
    refine ⟨hx.cp cp (OKa_eq hx.2.2.1 (s1 2 (by decide))) s2 (OKa_eq hx.2.2.2.2.1 (s1 4 (by decide))), ?_⟩
    obtain ⟨q1, q2, q3, q4, q5⟩ := hr'
    have q : ∀ c, c ≠ 30 → c ≠ 37 → c ≠ 38 → c ≠ 39 → c ≠ 40 → R.2.1 c = B.2.1 c := fun c h0 h7 h8 h9 h10 => (t3 c h0 h9 h10).trans ((u2_ne h0).trans (z3 c h7 h8))
    have q30 : ∀ j, j ≠ 6 → R.2.1 30 j = B.2.1 30 j := fun j hj => (t4 j hj).trans ((u2_ie hj).trans (congrFun (z3 30 (by decide) (by decide)) j))
    have qJ : R.2.2 = B.2.2 := t2.trans z2
    refine ⟨by rw [r1]; exact q1, fun t ht => ?_, ?_, fun j hj => ?_, ?_⟩
    · rw [q 33 (by decide) (by decide) (by decide) (by decide) (by decide), q 32 (by decide) (by decide) (by decide) (by decide) (by decide), qJ]; exact q2 t ht
    · unfold TP; rw [q30 0 (by decide), q 31 (by decide) (by decide) (by decide) (by decide) (by decide)]; exact q3
    · rw [q 34 (by decide) (by decide) (by decide) (by decide) (by decide)]; exact q4 j hj
    · unfold KP oldV; rw [q30 5 (by decide), q 35 (by decide) (by decide) (by decide) (by decide) (by decide)]; exact q5
  have a1 : sp_X1_fondTogether (x) = R.2.1 30 6 := s6.trans t6.symm
  have a2 : sp_X1_countPaired (x) = itN (tn (R.1 5 0 0)) (st_X9_pairs_150 B a0) 0 := by
    unfold sp_X1_countPaired
    rw [s3, r1, tWB]
    refine itN_congr rfl (fun k x hk => ?_)
    rw [eloop]
    unfold st_X1_countPaired_4
    rw [s7 k hk, t7 k hk]
  have a3 : ∀ i, i < tn (A.1 0 0 0) → (x).2.1 5 i = R.2.1 40 i := fun i hi => by rw [s7 i hi, t7 i hi]
  by_cases c2 : a0 = -2
  · have w : sp_X9_within a0 (-2) (-1) = true := by rw [c2]; decide
    have n1 : ¬ a0 = -1 := by rw [c2]; decide
    rw [if_pos c2, if_neg n1, if_pos w, if_neg n1, if_pos c2]
    exact ⟨a2, fin.1, fin.2⟩
  · rw [if_neg c2]
    by_cases c1 : a0 = -1
    · have w : sp_X9_within a0 (-2) (-1) = true := by rw [c1]; decide
      rw [if_pos c1, if_pos w, if_pos c1]
      exact ⟨a1, fin.1, fin.2⟩
    · have w : ¬ sp_X9_within a0 (-2) (-1) = true := by
        intro z
        have g := within_iff.mp (w98 ▸ z)
        have g1 := Int32.le_iff_toInt_le.mp g.1
        have g2 := Int32.le_iff_toInt_le.mp g.2
        have e1 : (-1 : Int32).toInt = -1 := by decide
        have e2 : (-2 : Int32).toInt = -2 := by decide
        rw [e2] at g1
        rw [e1] at g2
        rcases (show a0.toInt = -2 ∨ a0.toInt = -1 by omega) with q | q
        · exact c2 (Int32.toInt_inj.mp (q.trans e2.symm))
        · exact c1 (Int32.toInt_inj.mp (q.trans e1.symm))
      rw [if_neg c1, if_neg w, e_win h]
      by_cases c3 : sp_X9_isWindow B a0 = true
      · rw [if_pos c3, if_pos c3, if_neg c1, if_neg c2]
        exact ⟨a3 _ (win_in h hx c3).1, fin.1, fin.2⟩
      · rw [if_neg c3, if_neg c3]; exact sr_no hx hr (by decide)
end Pairs
