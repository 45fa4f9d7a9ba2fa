/-! ===== what would come of it: drafts and what is set back ===== -/
def up (V : Nat → Nat → Int32) (f i : Nat) (v : Int32) : Nat → Nat → Int32 := fun a b => if a = f ∧ b = i then v else V a b
theorem u1_V {M : MT} {s f i : Nat} {v : Int32} : (u1 M s f i v).1 s = up (M.1 s) f i v := by
  funext a b
  show (if s = s ∧ a = f ∧ b = i then v else M.1 s a b) = (if a = f ∧ b = i then v else M.1 s a b)
  by_cases c : a = f ∧ b = i
  · rw [if_pos ⟨rfl, c⟩, if_pos c]
  · rw [if_neg (fun z => c z.2), if_neg c]
theorem up_up {V : Nat → Nat → Int32} {f i : Nat} {a b : Int32} : up (up V f i a) f i b = up V f i b := by
  funext x y
  unfold up
  split <;> rfl
theorem up_self {V : Nat → Nat → Int32} {f i : Nat} : up V f i (V f i) = V := by
  funext x y
  unfold up
  split
  · rename_i c; rw [c.1, c.2]
  · rfl
theorem AG_up {V W : Nat → Nat → Int32} {f i : Nat} {v : Int32} (h : AG V W) (h0 : f ≠ 0) (h1 : f ≠ 1) : AG (up V f i v) (up W f i v) := by
  have key : ∀ a b, V a b = W a b → up V f i v a b = up W f i v a b := fun a b e => by unfold up; rw [e]
  have e0 : up V f i v 0 0 = V 0 0 := if_neg (fun z => h0 z.1.symm)
  have e1 : up V f i v 1 0 = V 1 0 := if_neg (fun z => h1 z.1.symm)
  refine ⟨fun g hg h3 => key _ _ (h.1 g hg h3), fun j hj => key _ _ (h.2.1 j hj), fun g w h6 h9 hw => ?_, fun g p h9 h14 hp => ?_⟩
  · rw [e0] at hw; exact key _ _ (h.2.2.1 g w h6 h9 hw)
  · rw [e1] at hp; exact key _ _ (h.2.2.2 g p h9 h14 hp)
theorem u1_u1 {M : MT} {s f i : Nat} {a b : Int32} : u1 (u1 M s f i a) s f i b = u1 M s f i b := by
  refine Prod.ext ?_ rfl
  funext x y z
  show (if x = s ∧ y = f ∧ z = i then b else if x = s ∧ y = f ∧ z = i then a else M.1 x y z) = (if x = s ∧ y = f ∧ z = i then b else M.1 x y z)
  split <;> rfl
theorem u1_self {M : MT} {s f i : Nat} : u1 M s f i (M.1 s f i) = M := by
  refine Prod.ext ?_ rfl
  funext x y z
  show (if x = s ∧ y = f ∧ z = i then M.1 s f i else M.1 x y z) = M.1 x y z
  split
  · rename_i c; rw [c.1, c.2.1, c.2.2]
  · rfl
/-- the same but for one value -/
def AGx (f i : Nat) (V W : Nat → Nat → Int32) : Prop := ∀ v, AG (up V f i v) (up W f i v)
/-- the reference's memory, the same but for one value -/
def RS (f i : Nat) (B y : MT) : Prop := ∀ v, u1 y 5 f i v = u1 B 5 f i v
theorem RS_refl {f i : Nat} {B : MT} : RS f i B B := fun _ => rfl
theorem RS_u {f i : Nat} {B y : MT} {a : Int32} (h : RS f i B y) : RS f i B (u1 y 5 f i a) := fun v => u1_u1.trans (h v)
theorem RS_end {f i : Nat} {B y : MT} (h : RS f i B y) : u1 y 5 f i (B.1 5 f i) = B := (h _).trans u1_self
/-- the class' memory: the draft of the outlook but for one value -/
def WS (f i : Nat) (C : MT) (W : Nat → Nat → Int32) (x : MT) : Prop := (∀ t, t ≠ 2 → x.1 t = C.1 t) ∧ x.2 = C.2 ∧ OKs x 2 ∧ AGx f i (x.1 2) W
theorem WS_u {f i : Nat} {C x : MT} {W : Nat → Nat → Int32} {v : Int32} (h : WS f i C W x) (ok : OKs (u1 x 2 f i v) 2) : WS f i C W (u1 x 2 f i v) :=
  ⟨fun t ht => (u1_ne ht).trans (h.1 t ht), h.2.1, ok, fun a => by rw [u1_V, up_up]; exact h.2.2.2 a⟩
theorem WS_ag {f i : Nat} {C x B : MT} {v : Int32} (h : WS f i C (B.1 5) x) : AG ((u1 x 2 f i v).1 2) ((u1 B 5 f i v).1 5) := by
  rw [u1_V, u1_V]; exact h.2.2.2 v
theorem AG_cp {A : MT} {s s0 : Nat} : AG ((cpM A s s0).1 s) (A.1 s0) := by
  have e : ∀ b c, ((b < 6 ∧ b ≠ 3 ∧ c = 0) ∨ (b = 3 ∧ c < 3) ∨ (6 ≤ b ∧ b < 9 ∧ c < tn (A.1 s0 0 0)) ∨ (9 ≤ b ∧ b < 14 ∧ c < tn (A.1 s0 1 0))) → (cpM A s s0).1 s b c = A.1 s0 b c := by
    intro b c h
    show (if s = s then (if _ then A.1 s0 b c else _) else _) = _
    rw [if_pos rfl, if_pos h]
  have e0 := e 0 0 (Or.inl ⟨by decide, by decide, rfl⟩)
  have e1 := e 1 0 (Or.inl ⟨by decide, by decide, rfl⟩)
  refine ⟨fun f h6 h3 => e f 0 (Or.inl ⟨h6, h3, rfl⟩), fun i hi => e 3 i (Or.inr (Or.inl ⟨rfl, hi⟩)), fun f w h6 h9 hw => ?_, fun f p h9 h14 hp => ?_⟩
  · rw [e0] at hw; exact e f w (Or.inr (Or.inr (Or.inl ⟨h6, h9, hw⟩)))
  · rw [e1] at hp; exact e f p (Or.inr (Or.inr (Or.inr ⟨h9, h14, hp⟩)))
theorem cp_ne {A : MT} {s s0 t : Nat} (h : t ≠ s) : (cpM A s s0).1 t = A.1 t := by
  funext b c
  exact if_neg h
/-- what of the class' part is told later -/
def CP (A A' : MT) : Prop := A'.1 0 = A.1 0 ∧ A'.1 1 = A.1 1 ∧ (∀ c, c ≠ 2 → c ≠ 3 → c ≠ 4 → c ≠ 5 → c < 13 → A'.2.1 c = A.2.1 c) ∧ (∀ r, r < 8 → A'.2.2 r = A.2.2 r)
theorem R2.cp {A A' B : MT} (h : R2 A B) (q : CP A A') : R2 A' B := by
  obtain ⟨h1, h2, h3, h4, h5⟩ := h
  obtain ⟨q0, q1, q2, q3⟩ := q
  refine ⟨by rw [q0]; exact h1, fun t ht => ?_, ?_, fun j hj => ?_, ?_⟩
  · rw [q2 9 (by decide) (by decide) (by decide) (by decide) (by decide), q2 10 (by decide) (by decide) (by decide) (by decide) (by decide), q2 11 (by decide) (by decide) (by decide) (by decide) (by decide), q2 12 (by decide) (by decide) (by decide) (by decide) (by decide), q3 t ht]; exact h2 t ht
  · unfold TP; rw [q2 6 (by decide) (by decide) (by decide) (by decide) (by decide), q2 7 (by decide) (by decide) (by decide) (by decide) (by decide)]; exact h3
  · rw [q2 1 (by decide) (by decide) (by decide) (by decide) (by decide)]; exact h4 j hj
  · unfold KP; rw [q2 0 (by decide) (by decide) (by decide) (by decide) (by decide), q1]; exact h5
theorem OKX.cp {A A' : MT} (h : OKX A) (q : CP A A') (o2 : OKa A' 2) (o3 : OKa A' 3) (o4 : OKa A' 4) : OKX A' := by
  obtain ⟨h0, h1, h2, h3, h4, h5, h6⟩ := h
  obtain ⟨q0, q1, q2, q3⟩ := q
  refine ⟨OKs_congr h0 q0, OKs_congr h1 q1, o2, o3, o4, ?_, ?_⟩
  · rw [q2 12 (by decide) (by decide) (by decide) (by decide) (by decide), q2 11 (by decide) (by decide) (by decide) (by decide) (by decide), q2 9 (by decide) (by decide) (by decide) (by decide) (by decide), q2 10 (by decide) (by decide) (by decide) (by decide) (by decide), q0]; exact h5
  · rw [q2 6 (by decide) (by decide) (by decide) (by decide) (by decide)]; exact h6
theorem OKa_of {M : MT} {s : Nat} (h : OKs M s) : OKa M s := ⟨h.2.2.2.2.2.2.1, h.2.2.2.2.2.2.2.1⟩
theorem OKa_eq {M M' : MT} {s : Nat} (h : OKa M s) (e : M'.1 s = M.1 s) : OKa M' s := by unfold OKa at *; rw [e]; exact h
section Draft
variable {A B : MT}
theorem ws_start {f i : Nat} (hx : OKX A) (hr : R2 A B) (h0 : f ≠ 0) (h1 : f ≠ 1) : WS f i (cpM A 2 0) (B.1 5) (cpM A 2 0) :=
  ⟨fun _ _ => rfl, rfl, OKs_copy2 (by decide) hx.1 hx.2.2.1, fun v => AG_up (AG_cp.trans hr.1) h0 h1⟩
theorem ws_fin {f i : Nat} {x : MT} (hx : OKX A) (hr : R2 A B) (h : WS f i (cpM A 2 0) (B.1 5) x) : OKX x ∧ R2 x B := by
  have q : CP A x := ⟨(h.1 0 (by decide)).trans (cp_ne (by decide)), (h.1 1 (by decide)).trans (cp_ne (by decide)), fun c _ _ _ _ _ => by rw [h.2.1]; rfl, fun r _ => by rw [h.2.1]; rfl⟩
  refine ⟨hx.cp q (OKa_of h.2.2.1) (OKa_eq hx.2.2.2.1 ?_) (OKa_eq hx.2.2.2.2.1 ?_), hr.cp q⟩
  · exact (h.1 3 (by decide)).trans (cp_ne (by decide))
  · exact (h.1 4 (by decide)).trans (cp_ne (by decide))
theorem ws_wind {C x : MT} {W : Nat → Nat → Int32} {k : Nat} (h : WS 3 0 C W x) (hk : k < 11) : WS 3 0 C W (u1 x 2 3 0 (nI k)) := WS_u h (OKs_wind h.2.2.1 (bd_nI hk (by omega)))
theorem w_ne {M : MT} {s f i : Nat} {v : Int32} {f' i' : Nat} (h : f' ≠ f) : (u1 M s f i v).1 s f' i' = M.1 s f' i' := u1_f h
theorem e_astray {C x : MT} {w : Int32} (hs : WS 3 0 C (B.1 5) x) (hw : tn w < tn (B.1 5 0 0)) : (sp_X0_cellsAstray x w).1 = (sp_X9_astray B w).1 ∧ WS 3 0 C (B.1 5) (sp_X0_cellsAstray x w).2 ∧ (sp_X9_astray B w).2 = B := by
  have key := itN_rel (f := st_X0_cellsAstray_4 x w) (g := st_X9_astray_12 B w) (b := (0, x)) (c := (0, B)) (fun _ x y => x.1 = y.1 ∧ WS 3 0 C (B.1 5) x.2 ∧ RS 3 0 B y.2) 11 ⟨rfl, hs, RS_refl⟩ (fun k x y hk hr => by
    obtain ⟨h1, h2, h3⟩ := hr
    have ag := WS_ag (v := nI k) h2
    have h4 := ws_wind h2 hk
    have hw2 : tn w < tn ((u1 x.2 2 3 0 (nI k)).1 2 0 0) := by rw [ag.wc, w_ne (by decide)]; exact hw
    refine ⟨?_, h4, RS_u h3⟩
    unfold st_X0_cellsAstray_4 st_X9_astray_12
    dsimp only
    rw [h1, h3, e_open ag hw2])
  exact ⟨key.1, key.2.1, RS_end key.2.2⟩
theorem e_winds {C x : MT} {p w f y : Int32} (hs : WS 3 0 C (B.1 5) x) (hw : tn w < tn (B.1 5 0 0)) (hy : y = 0 ∨ y = 1 ∨ y = 2) : (sp_X0_countWinds x p w f y).1 = (sp_X9_windsFor B p w f y).1 ∧ WS 3 0 C (B.1 5) (sp_X0_countWinds x p w f y).2 ∧ (sp_X9_windsFor B p w f y).2 = B := by
  have key := itN_rel (f := st_X0_countWinds_6 x p w f y) (g := st_X9_windsFor_14 B p w f y) (b := (0, x)) (c := (0, B)) (fun _ x y => x.1 = y.1 ∧ WS 3 0 C (B.1 5) x.2 ∧ RS 3 0 B y.2) 11 ⟨rfl, hs, RS_refl⟩ (fun k x z hk hr => by
    obtain ⟨h1, h2, h3⟩ := hr
    have ag := WS_ag (v := nI k) h2
    have h4 := ws_wind h2 hk
    have hw2 : tn w < tn ((u1 x.2 2 3 0 (nI k)).1 2 0 0) := by rw [ag.wc, w_ne (by decide)]; exact hw
    unfold st_X0_countWinds_6 st_X9_windsFor_14
    rw [h1, h3, e_caught ag h4.2.2.1 hw2 hy]
    have h5 : RS 3 0 B (u1 B 5 3 0 (nI k)) := RS_u RS_refl
    split
    · exact ⟨rfl, h4, h5⟩
    · exact ⟨rfl, h4, h5⟩)
  exact ⟨key.1, key.2.1, RS_end key.2.2⟩
theorem sr_ws {f i : Nat} {a b : Int32} {x y : MT} (hx : OKX A) (hr : R2 A B) (e : a = b) (h : WS f i (cpM A 2 0) (B.1 5) x) (ey : y = B) : SR (a, x) (b, y) := by
  rw [ey]
  exact ⟨e, (ws_fin hx hr h).1, (ws_fin hx hr h).2⟩
theorem sim_open (hx : OKX A) (hr : R2 A B) {a0 a1 : Int32} : SR (sp_X8_open A a0 a1) (sp_X9_open B a0 a1) := by
  have h := hr.1
  unfold sp_X8_open sp_X9_open
  rw [e_win h, e_what]
  by_cases c1 : sp_X9_isWindow B a0 = true
  · rw [if_pos c1, if_pos c1]
    have w := win_in h hx c1
    by_cases c2 : sp_X9_within a1 0 1 = true
    · rw [if_pos c2, if_pos c2]
      by_cases c3 : a1 = 0
      · rw [if_pos c3, if_pos c3]; exact sr_val hx hr (e_open h w.1)
      · rw [if_neg c3, if_neg c3]
        obtain ⟨e1, e2, e3⟩ := e_astray (B := B) (ws_start hx hr (by decide) (by decide)) (by rw [← h.wc]; exact w.1)
        exact sr_ws hx hr e1 e2 e3
    · rw [if_neg c2, if_neg c2]; exact sr_no hx hr (by decide)
  · rw [if_neg c1, if_neg c1]; exact sr_no hx hr (by decide)
theorem sim_chance (hx : OKX A) (hr : R2 A B) {a0 a1 a2 a3 : Int32} : SR (sp_X8_chance A a0 a1 a2 a3) (sp_X9_chance B a0 a1 a2 a3) := by
  have h := hr.1
  unfold sp_X8_chance sp_X9_chance
  rw [e_one h, e_throw h]
  by_cases c1 : sp_X9_isOne B a0 = true
  · rw [if_pos c1, if_pos c1]
    by_cases c2 : sp_X9_isThrow B a1 a2 a3 = true
    · rw [if_pos c2, if_pos c2]
      have g := thr_in h hx.1.1 c2
      obtain ⟨e1, e2, e3⟩ := e_winds (B := B) (p := a0) (f := a2) (ws_start hx hr (by decide) (by decide)) (by rw [← h.wc]; exact g.1) g.2
      exact sr_ws hx hr (by rw [e1, Int32.mul_comm]) e2 e3
    · rw [if_neg c2, if_neg c2]; exact sr_no hx hr (by decide)
  · rw [if_neg c1, if_neg c1]; exact sr_no hx hr (by decide)
theorem sim_safest (hx : OKX A) (hr : R2 A B) {a0 a1 : Int32} : SR (sp_X8_safest A a0 a1) (sp_X9_safest B a0 a1) := by
  have h := hr.1
  unfold sp_X8_safest sp_X9_safest
  by_cases c1 : sp_X9_isOne B a0 = true
  · rw [if_pos c1]
    by_cases c2 : sp_X9_isWindow B a1 = true
    · rw [if_pos c2, if_pos (show sp_X8_isCouple A a0 a1 = true by rw [e_couple h]; exact ⟨c1, c2⟩)]
      have w := win_in h hx c2
      have hw : tn a1 < tn (B.1 5 0 0) := by rw [← h.wc]; exact w.1
      unfold sp_X0_safestThrow
      have key := itN_rel (f := st_X0_safestThrow_8 (cpM A 2 0) a0 a1) (g := st_X9_safest_31 B a0 a1) (b := (-1, 0, cpM A 2 0)) (c := (-1, 0, B)) (fun _ x y => x.1 = y.1 ∧ x.2.1 = y.2.1 ∧ WS 3 0 (cpM A 2 0) (B.1 5) x.2.2 ∧ y.2.2 = B) 30 ⟨rfl, rfl, ws_start hx hr (by decide) (by decide), rfl⟩ (fun k x z hk hrr => by
        obtain ⟨h1, h2, h3, h4⟩ := hrr
        obtain ⟨x1, x2, x3⟩ := x
        obtain ⟨z1, z2, z3⟩ := z
        dsimp only at h1 h2 h3 h4
        subst h1 h2 h4
        obtain ⟨e1, e2, e3⟩ := e_winds (p := a0) (f := (nI k) / 3) h3 hw (way3 hk)
        unfold st_X0_safestThrow_8 st_X9_safest_31
        dsimp only
        rw [e1]
        by_cases c : (sp_X9_windsFor z3 a0 a1 ((nI k) / 3) (irm (nI k) 3)).1 ≤ x2
        · rw [if_pos c, if_neg (Int32.not_lt.mpr c)]
          exact ⟨rfl, rfl, e2, e3⟩
        · rw [if_neg c, if_pos (Int32.not_le.mp c)]
          exact ⟨rfl, rfl, e2, e3⟩)
      dsimp only
      generalize itN 30 (st_X0_safestThrow_8 (cpM A 2 0) a0 a1) (-1, 0, cpM A 2 0) = x at key ⊢
      generalize itN 30 (st_X9_safest_31 B a0 a1) (-1, 0, B) = y at key ⊢
      exact sr_ws hx hr key.1 key.2.2.1 key.2.2.2
    · rw [if_neg c2, if_neg (show ¬ sp_X8_isCouple A a0 a1 = true by rw [e_couple h]; exact fun z => c2 z.2)]; exact sr_no hx hr (by decide)
  · rw [if_neg c1, if_neg (show ¬ sp_X8_isCouple A a0 a1 = true by rw [e_couple h]; exact fun z => c1 z.1)]; exact sr_no hx hr (by decide)
theorem ws_wnd {C x : MT} {W : Nat → Nat → Int32} (hs : WS 3 0 C W x) : ∀ i, i ≤ 11 → WS 3 0 C W (wndN x i)
  | 0, _ => hs
  | i + 1, hi => ws_wind (ws_wnd hs i (by omega)) (by omega)
theorem dn11 {i : Nat} (h : i < 11) : dn 11 i = nI (11 - 1 - i) := by unfold dn; rw [if_pos h]
theorem sim_windFor (hx : OKX A) (hr : R2 A B) {a0 a1 a2 a3 : Int32} : SR (sp_X8_windFor A a0 a1 a2 a3) (sp_X9_windFor B a0 a1 a2 a3) := by
  have h := hr.1
  unfold sp_X8_windFor sp_X9_windFor
  rw [e_one h, e_throw h]
  by_cases c1 : sp_X9_isOne B a0 = true
  · rw [if_pos c1, if_pos c1]
    by_cases c2 : sp_X9_isThrow B a1 a2 a3 = true
    · rw [if_pos c2, if_pos c2]
      have g := thr_in h hx.1.1 c2
      have hw : tn a1 < tn (B.1 5 0 0) := by rw [← h.wc]; exact g.1
      have hs := ws_start (f := 3) (i := 0) hx hr (by decide) (by decide)
      generalize hC : cpM A 2 0 = C at hs
      have eP : ∀ k, k < 11 → (ps_X0_leastWind_3 C a0 a1 a2 a3 k = decide (sp_X9_caughtBy (u1 B 5 3 0 (nI k)) a1 a2 a3 = a0) ∧ (sp_X5_catcherOf (u1 (wndN C k) 2 3 0 (nI k)) 2 a1 a2 a3 = sp_X9_caughtBy (u1 B 5 3 0 (nI k)) a1 a2 a3) ∧ WS 3 0 C (B.1 5) (u1 (wndN C k) 2 3 0 (nI k))) := by
        intro k hk
        have h2 := ws_wnd hs k (by omega)
        have ag := WS_ag (v := nI k) h2
        have h4 := ws_wind h2 hk
        have hw2 : tn a1 < tn ((u1 (wndN C k) 2 3 0 (nI k)).1 2 0 0) := by rw [ag.wc, w_ne (by decide)]; exact hw
        have e := e_caught ag h4.2.2.1 hw2 g.2 (f := a2)
        refine ⟨?_, e, h4⟩
        unfold ps_X0_leastWind_3
        rw [e]
        split <;> simp_all
      have inv := itN_ind (f := st_X9_windFor_41 B a0 a1 a2 a3) (b := (-1, B)) (fun k x => RS 3 0 B x.2 ∧ ((x.1 = -1 ∧ ∀ t, 11 - k ≤ t → t < 11 → decide (sp_X9_caughtBy (u1 B 5 3 0 (nI t)) a1 a2 a3 = a0) = false) ∨ ∃ j, 11 - k ≤ j ∧ j < 11 ∧ x.1 = nI j ∧ decide (sp_X9_caughtBy (u1 B 5 3 0 (nI j)) a1 a2 a3 = a0) = true ∧ ∀ t, 11 - k ≤ t → t < j → decide (sp_X9_caughtBy (u1 B 5 3 0 (nI t)) a1 a2 a3 = a0) = false)) 11
        ⟨RS_refl, Or.inl ⟨rfl, fun t h1 h2 => by omega⟩⟩ (fun k x hk hxx => by
          obtain ⟨hs1, hf⟩ := hxx
          unfold st_X9_windFor_41
          rw [dn11 hk, hs1]
          have hs2 : RS 3 0 B (u1 B 5 3 0 (nI (11 - 1 - k))) := RS_u RS_refl
          by_cases c : sp_X9_caughtBy (u1 B 5 3 0 (nI (11 - 1 - k))) a1 a2 a3 = a0
          · rw [if_pos c]
            exact ⟨hs2, Or.inr ⟨11 - 1 - k, by omega, by omega, rfl, decide_eq_true c, fun t h1 h2 => by omega⟩⟩
          · rw [if_neg c]
            refine ⟨hs2, ?_⟩
            rcases hf with ⟨e, hn⟩ | ⟨j, h1, h2, h3, h4, h5⟩
            · refine Or.inl ⟨e, fun t h1 h2 => ?_⟩
              by_cases et : t = 11 - 1 - k
              · rw [et]; exact decide_eq_false c
              · exact hn t (by omega) h2
            · refine Or.inr ⟨j, by omega, h2, h3, h4, fun t h6 h7 => ?_⟩
              by_cases et : t = 11 - 1 - k
              · rw [et]; exact decide_eq_false c
              · exact h5 t (by omega) h7)
      generalize itN 11 (st_X9_windFor_41 B a0 a1 a2 a3) (-1, B) = z at inv ⊢
      unfold sp_X0_leastWind
      rcases inv.2 with ⟨e, hn⟩ | ⟨j, h1, h2, h3, h4, h5⟩
      · rw [fndN_none 11 0 (fun t _ ht => by rw [(eP t (by omega)).1]; exact hn t (by omega) (by omega))]
        subst hC
        exact sr_ws hx hr e.symm (ws_wnd hs 11 (Nat.le_refl _)) (RS_end inv.1)
      · rw [fndN_hit 11 0 j (Nat.zero_le _) (by omega) (by rw [(eP j h2).1]; exact h4) (fun t _ ht => by rw [(eP t (by omega)).1]; exact h5 t (by omega) ht)]
        rw [(eP j h2).2.1, if_pos (decide_eq_true_eq.mp h4)]
        have h6 := (eP j h2).2.2
        subst hC
        exact sr_ws hx hr h3.symm h6 (RS_end inv.1)
    · rw [if_neg c2, if_neg c2]; exact sr_no hx hr (by decide)
  · rw [if_neg c1, if_neg c1]; exact sr_no hx hr (by decide)
end Draft
