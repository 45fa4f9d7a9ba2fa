/-! ===== what stands behind a told row of throws ===== -/
section Behind
variable {A B : MT}
/-- the reference's memory, with the days of another -/
def m13 (V : Nat → Nat → Int32) (Y : MT) : MT := (fun s f i => if s = 5 ∧ f = 13 then V 13 i else Y.1 s f i, Y.2)
theorem m13_f {V : Nat → Nat → Int32} {Y : MT} {f i : Nat} (h : f ≠ 13) : (m13 V Y).1 5 f i = Y.1 5 f i := if_neg (fun z => h z.2)
theorem m13_e {V : Nat → Nat → Int32} {Y : MT} {i : Nat} : (m13 V Y).1 5 13 i = V 13 i := by
  show (if 5 = 5 ∧ 13 = 13 then V 13 i else Y.1 5 13 i) = V 13 i
  exact if_pos ⟨rfl, rfl⟩
theorem m13_land {V : Nat → Nat → Int32} {Y : MT} {w f y : Int32} : sp_X9_landing (m13 V Y) w f y = sp_X9_landing Y w f y := by
  have e3 : ∀ i, (m13 V Y).1 5 3 i = Y.1 5 3 i := fun i => m13_f (by decide)
  have e6 : ∀ i, (m13 V Y).1 5 6 i = Y.1 5 6 i := fun i => m13_f (by decide)
  have e7 : ∀ i, (m13 V Y).1 5 7 i = Y.1 5 7 i := fun i => m13_f (by decide)
  have e2 : ∀ i, (m13 V Y).1 5 2 i = Y.1 5 2 i := fun i => m13_f (by decide)
  unfold sp_X9_landing sp_X9_isCell
  simp only [e2, e3, e6, e7]
theorem m13_catch {V : Nat → Nat → Int32} {Y : MT} {c q : Int32} : sp_X9_catcher (m13 V Y) c q = sp_X9_catcher Y c q := by
  have e1 : ∀ i, (m13 V Y).1 5 1 i = Y.1 5 1 i := fun i => m13_f (by decide)
  have e9 : ∀ i, (m13 V Y).1 5 9 i = Y.1 5 9 i := fun i => m13_f (by decide)
  have e11 : ∀ i, (m13 V Y).1 5 11 i = Y.1 5 11 i := fun i => m13_f (by decide)
  have e12 : ∀ i, (m13 V Y).1 5 12 i = Y.1 5 12 i := fun i => m13_f (by decide)
  have n : ∀ z, sp_X9_nearest (m13 V Y) c q z = sp_X9_nearest Y c q z := fun z => by
    unfold sp_X9_nearest
    rw [e1]
    refine itN_congr rfl (fun k x _ => ?_)
    unfold st_X9_nearest_6 sp_X9_reach sp_X9_away
    simp only [e9, e11, e12]
  unfold sp_X9_catcher
  rw [n, n]
theorem m13_tt {V : Nat → Nat → Int32} {Y : MT} {x : Int64} (e : Y.1 5 0 0 = B.1 5 0 0) : sp_X9_isThrowTold (m13 V Y) x = sp_X9_isThrowTold B x := by
  unfold sp_X9_isThrowTold
  rw [m13_f (by decide), e]
/-- the walk along the row -/
def BHI (C D : MT) (x : MT) (y : Int32 × Int32 × Int32 × MT) : Prop :=
  (∀ t, t ≠ 2 → x.1 t = C.1 t) ∧ OKs x 2 ∧ AG (x.1 2) ((m13 (x.1 2) y.2.2.2).1 5) ∧ x.2.2 = C.2.2 ∧ (∀ c, c ≠ 2 → x.2.1 c = C.2.1 c) ∧
  (x.2.1 2 2 = y.1 ∧ x.2.1 2 3 = y.2.1 ∧ x.2.1 2 4 = y.2.2.1) ∧ y.2.2.2.2 = D.2 ∧ (∀ f i, f ≠ 12 → y.2.2.2.1 5 f i = D.1 5 f i)
theorem m13_u {V : Nat → Nat → Int32} {Y : MT} {p : Nat} {v w : Int32} : (m13 (up (up V 12 p v) 13 p w) (u1 Y 5 12 p v)).1 5 = up (up ((m13 V Y).1 5) 12 p v) 13 p w := by
  funext f i
  by_cases e : f = 13
  · subst e
    rw [m13_e]
    unfold up
    by_cases e2 : i = p
    · rw [if_pos ⟨rfl, e2⟩, if_pos ⟨rfl, e2⟩]
    · rw [if_neg (fun z => e2 z.2), if_neg (fun z => e2 z.2), if_neg (fun z => e2 z.2), if_neg (fun z => e2 z.2), m13_e]
  · rw [m13_f e]
    unfold up
    rw [if_neg (fun z => e z.1), m13_f e]
    show (if 5 = 5 ∧ f = 12 ∧ i = p then v else Y.1 5 f i) = _
    by_cases e2 : f = 12 ∧ i = p
    · rw [if_pos ⟨rfl, e2⟩, if_pos e2]
    · rw [if_neg (fun z => e2 z.2), if_neg e2]
theorem e_bhstep {C D x : MT} {y : Int32 × Int32 × Int32 × MT} {a0 a1 a2 : Int32} {k : Nat} (hi : BHI C D x y) (e1 : sp_X9_toldAt y.2.2.2 a0 (nI k) = x.2.2 (tn a0) k) (hT : sp_X9_isThrowTold D (x.2.2 (tn a0) k) = true) (hw : bd (D.1 5 0 0) 9) :
    BHI C D (st_X0_follow_17 C (tn a0) a1 k x) (st_X9_behind_90 B a0 a1 a2 k y) := by
  obtain ⟨h1, ok, ag, hJ, hO, ⟨c2, c3, c4⟩, y2, y1⟩ := hi
  have y0 : y.2.2.2.1 5 0 0 = D.1 5 0 0 := y1 0 0 (by decide)
  have hT2 : sp_X9_isThrowTold (m13 (x.1 2) y.2.2.2) (x.2.2 (tn a0) k) = true := (m13_tt y0).trans hT
  have hw2 : bd ((m13 (x.1 2) y.2.2.2).1 5 0 0) 9 := by rw [m13_f (by decide), y0]; exact hw
  have el : sp_X5_landing x 2 ((Int64.toInt32 (x.2.2 (tn a0) k)) / 100) (irm ((Int64.toInt32 (x.2.2 (tn a0) k)) / 10) 10) (irm (Int64.toInt32 (x.2.2 (tn a0) k)) 10) = sp_X9_landingTold y.2.2.2 (x.2.2 (tn a0) k) := by
    rw [e_told ag hw2 hT2 (B' := m13 (x.1 2) y.2.2.2) rfl ag]
    unfold sp_X9_landingTold
    exact m13_land
  have ec : sp_X5_catcherOf x 2 ((Int64.toInt32 (x.2.2 (tn a0) k)) / 100) (irm ((Int64.toInt32 (x.2.2 (tn a0) k)) / 10) 10) (irm (Int64.toInt32 (x.2.2 (tn a0) k)) 10) = sp_X9_catcher y.2.2.2 (sp_X9_landingTold y.2.2.2 (x.2.2 (tn a0) k)) (-1) := by
    unfold sp_X5_catcherOf
    rw [e_catch ag ok land_c, el, m13_catch]
  have hb : bd ((Int64.toInt32 (x.2.2 (tn a0) k)) / 100) 8 := isTT_bd hw2 hT2
  have hlt : tn ((Int64.toInt32 (x.2.2 (tn a0) k)) / 100) < tn (x.1 2 0 0) := by
    obtain ⟨k', q1, q2, q3, _⟩ := isTT hw2 hT2
    rw [q2, lN_i, show (nI k' / 100 : Int32) = nI (k' / 100) from pk_div (by omega) (by decide) (by decide), tn_nI (by omega), ag.wc]
    exact q3
  have okt := OKs_throw2 (b := irm ((Int64.toInt32 (x.2.2 (tn a0) k)) / 10) 10) (c := irm (Int64.toInt32 (x.2.2 (tn a0) k)) 10) ok hb hlt
  unfold st_X0_follow_17 st_X9_behind_90
  rw [e1, el]
  generalize hw' : (Int64.toInt32 (x.2.2 (tn a0) k)) / 100 = w at ec okt hb hlt ⊢
  generalize irm ((Int64.toInt32 (x.2.2 (tn a0) k)) / 10) 10 = f at ec okt ⊢
  generalize irm (Int64.toInt32 (x.2.2 (tn a0) k)) 10 = z at ec okt ⊢
  generalize sp_X9_landingTold y.2.2.2 (x.2.2 (tn a0) k) = l at ec ⊢
  have t1 : ∀ t, t ≠ 2 → (sp_X5_throwRose x 2 w f z).2.1 t = x.1 t := fun t ht => th_ne ht
  have t2 : (sp_X5_throwRose x 2 w f z).2.2 = x.2 := th_2
  by_cases cl : l = -1
  · rw [if_pos cl, if_pos cl]
    refine ⟨h1, OKs_congr ok rfl, ag, hJ, fun c hc => (u2_ne hc).trans (hO c hc), ⟨?_, ?_, ?_⟩, y2, y1⟩
    · rw [u2_ie (by decide)]; exact c2
    · rw [u2_ie (by decide)]; exact c3
    · rw [u2_eq, c4]
  · rw [if_neg cl, if_neg cl]
    have tf : (sp_X5_throwRose x 2 w f z).1 = sp_X9_catcher y.2.2.2 l (-1) := by
      rw [← ec]; unfold sp_X5_throwRose; split <;> rfl
    by_cases cc : sp_X9_catcher y.2.2.2 l (-1) = -1
    · have te : (sp_X5_throwRose x 2 w f z).2 = x := by
        unfold sp_X5_throwRose; rw [if_pos (ec.trans cc)]
      rw [tf, if_pos cc, if_pos cc, te]
      refine ⟨h1, OKs_congr ok rfl, ag, hJ, fun c hc => (u2_ne hc).trans (hO c hc), ⟨?_, ?_, ?_⟩, y2, y1⟩
      · rw [u2_ie (by decide)]; exact c2
      · rw [u2_eq, c3]
      · rw [u2_ie (by decide)]; exact c4
    · have te : ∃ v, (sp_X5_throwRose x 2 w f z).2.1 2 = up (up (x.1 2) 12 (tn (sp_X9_catcher y.2.2.2 l (-1))) w) 13 (tn (sp_X9_catcher y.2.2.2 l (-1))) v := by
        refine ⟨sp_X5_dueDay (u1 x 2 12 (tn (sp_X9_catcher y.2.2.2 l (-1))) w) 2 (sp_X9_catcher y.2.2.2 l (-1)) w, ?_⟩
        unfold sp_X5_throwRose
        rw [if_neg (fun q => cc (ec.symm.trans q)), ec]
        show (u1 (u1 x 2 _ _ _) 2 _ _ _).1 2 = _
        rw [u1_V, u1_V]
      obtain ⟨v, te⟩ := te
      rw [tf, if_neg cc, if_neg cc]
      generalize sp_X5_throwRose x 2 w f z = T at t1 t2 te okt ⊢
      generalize tn (sp_X9_catcher y.2.2.2 l (-1)) = p at te ⊢
      refine ⟨fun t ht => (t1 t ht).trans (h1 t ht), OKs_congr okt rfl, ?_, ?_, fun c hc => (u2_ne hc).trans ((congrFun (congrArg Prod.fst t2) c).trans (hO c hc)), ⟨?_, ?_, ?_⟩, y2, fun f' i hf => (w_ne hf).trans (y1 f' i hf)⟩
      · show AG (T.2.1 2) ((m13 (T.2.1 2) (u1 y.2.2.2 5 12 p w)).1 5)
        rw [te, m13_u]
        exact AG_up (AG_up ag (by decide) (by decide)) (by decide) (by decide)
      · show T.2.2.2 = _
        rw [t2]; exact hJ
      · rw [u2_eq, t2, c2]
      · rw [u2_ie (by decide), t2]; exact c3
      · rw [u2_ie (by decide), t2]; exact c4
theorem sim_behind (hx : OKX A) (hr : R2 A B) {a0 a1 a2 : Int32} : SR (sp_X8_behind A a0 a1 a2) (sp_X9_behind B a0 a1 a2) := by
  have h := hr.1
  have ok := hx.1
  have hwB : bd (B.1 5 0 0) 9 := by rw [← h.wc]; exact ok.1
  have hpB : bd (B.1 5 1 0) 9 := by rw [← h.pc]; exact ok.2.1
  unfold sp_X8_behind sp_X9_behind
  rw [← w98, e_what]
  by_cases c0 : sp_X9_isShelf a0 = true
  · rw [if_pos c0]
    by_cases c1 : sp_X9_within a1 0 40 = true
    · rw [if_pos c1, if_pos c1]
      have hn := wi5_bd (n := 40) c1 rfl (by omega)
      have hnl := bd_lt hn
      by_cases c3 : sp_X9_within a2 0 3 = true
      · rw [if_pos c3, if_pos c3]
        have ha := isSh5 c0
        have e := e_noTold hx hr (n := a1) ha c0
        by_cases c2 : sp_X8_rowRefusal A a0 a1 = 0
        · rw [if_pos c2, if_pos (show 0 ≤ sp_X9_noTold B a0 a1 by rw [← e]; exact told_0.mpr c2)]
          have el : ∀ i, i < tn a1 → sp_X9_toldAt B a0 (nI i) = A.2.2 (tn a0) i := fun i hi => by
            unfold sp_X9_toldAt
            rw [ix40 ha (by omega), row_el hx hr c0 c2 hn i hi]
          have ew : ∀ i, i < tn a1 → ps_X5_firstWrong_3 A 0 (tn a0) a1 1 i = ps_X9_wrong_2 B a0 a1 i := by
            intro i hi
            unfold ps_X5_firstWrong_3 ps_X9_wrong_2
            rw [el i hi, e_isTold h ok.1, Int32.mul_one, tn_nI (by omega)]
          rcases fndN_cases (P := ps_X9_wrong_2 B a0 a1) (A := fun i => if sp_X9_isThrowTold B (sp_X9_toldAt B a0 (nI i)) = true then (-1) else nI i) (B := (-1)) (tn a1) 0 with ⟨hv, hN⟩ | ⟨j, _, hj, hP, hb, hv⟩
          · have hN' : ∀ i, i < tn a1 → ps_X9_wrong_2 B a0 a1 i = false := fun i hi => hN i (Nat.zero_le _) (by omega)
            have cf : sp_X5_firstWrong A 0 (tn a0) a1 1 = -1 := by
              unfold sp_X5_firstWrong
              exact fndN_none _ 0 (fun k _ hk => by rw [ew k (by omega)]; exact hN' k (by omega))
            have cw : sp_X9_wrong B a0 a1 = -1 := hv
            rw [if_pos cf, if_pos cw]
            have hT : ∀ i, i < tn a1 → sp_X9_isThrowTold B (A.2.2 (tn a0) i) = true := by
              intro i hi
              have q := hN' i hi
              unfold ps_X9_wrong_2 at q
              rw [el i hi] at q
              split at q
              · assumption
              · cases q
            have k1 : (sp_X9_keepB B).1 = B.1 := keepB_1
            have kJ : (sp_X9_keepB B).2.2 = B.2.2 := keepB_J
            have kne : ∀ c, c ≠ 36 → (sp_X9_keepB B).2.1 c = B.2.1 c := fun c hc => keepB_ne hc
            have kat : ∀ f i, ((f < 6 ∧ f ≠ 3 ∧ i = 0) ∨ (f = 3 ∧ i < 3) ∨ (6 ≤ f ∧ f < 14 ∧ i < 8)) → (sp_X9_keepB B).2.1 36 (oix f i) = B.1 5 f i := fun f i hf => keepB_at hf
            have hs := ws_start (f := 3) (i := 0) hx hr (by decide) (by decide)
            have agC : AG ((cpM A 2 0).1 2) (B.1 5) := AG_cp.trans h
            have okC : OKs (cpM A 2 0) 2 := hs.2.2.1
            have neC : ∀ t, t ≠ 2 → (cpM A 2 0).1 t = A.1 t := fun t ht => cp_ne ht
            have eC : (cpM A 2 0).2 = A.2 := rfl
            generalize cpM A 2 0 = C at agC okC neC eC ⊢
            generalize hD : sp_X9_keepB B = D at k1 kJ kne kat ⊢
            have start : BHI C D (u2 (u2 (u2 C 2 2 0) 2 3 0) 2 4 0) (0, 0, 0, D) := by
              refine ⟨fun _ _ => rfl, OKs_congr okC rfl, ?_, rfl, fun c hc => by rw [u2_ne hc, u2_ne hc, u2_ne hc], ⟨?_, ?_, ?_⟩, rfl, fun _ _ _ => rfl⟩
              · show AG (C.1 2) ((m13 (C.1 2) D).1 5)
                refine ⟨fun f h6 h3 => ?_, fun i hi => ?_, fun f w h6 h9 hw => ?_, fun f p h9 h14 hp => ?_⟩
                · rw [m13_f (by omega), k1]; exact agC.1 f h6 h3
                · rw [m13_f (by omega), k1]; exact agC.2.1 i hi
                · rw [m13_f (by omega), k1]; exact agC.2.2.1 f w h6 h9 hw
                · by_cases e13 : f = 13
                  · rw [e13, m13_e]
                  · rw [m13_f e13, k1]; exact agC.2.2.2 f p h9 h14 hp
              · rw [u2_ie (by decide), u2_ie (by decide), u2_eq]
              · rw [u2_ie (by decide), u2_eq]
              · rw [u2_eq]
            have key := itN_rel (f := st_X0_follow_17 C (tn a0) a1) (g := st_X9_behind_90 B a0 a1 a2) (b := u2 (u2 (u2 C 2 2 0) 2 3 0) 2 4 0) (c := (0, 0, 0, D)) (fun _ x y => BHI C D x y) (tn a1) start (fun k x y hk hi => by
              have xJ : x.2.2 (tn a0) k = A.2.2 (tn a0) k := by rw [hi.2.2.2.1, eC]
              refine e_bhstep hi ?_ ?_ (by rw [k1]; exact hwB)
              · rw [xJ, ← el k hk]
                unfold sp_X9_toldAt
                rw [hi.2.2.2.2.2.2.1, kJ]
              · rw [xJ, show sp_X9_isThrowTold D (A.2.2 (tn a0) k) = sp_X9_isThrowTold B (A.2.2 (tn a0) k) by unfold sp_X9_isThrowTold; rw [k1]]
                exact hT k hk)
            have e0 : itN (tn a1) (st_X0_follow_17 C (tn a0) a1) (u2 (u2 (u2 C 2 2 0) 2 3 0) 2 4 0) = sp_X0_follow C (tn a0) a1 := rfl
            rw [e0] at key
            have eloop : ∀ i b, st_X9_behind_175 B a0 a1 a2 i b = if ((itN (tn a1) (st_X9_behind_90 B a0 a1 a2) (0, 0, 0, D)).2.2.2).1 5 12 i = (-1) then b else b ||| (1 <<< ((nI i) &&& 31)) := fun i b => by
              rw [← hD]; rfl
            generalize sp_X0_follow C (tn a0) a1 = x at key ⊢
            generalize itN (tn a1) (st_X9_behind_90 B a0 a1 a2) (0, 0, 0, D) = y at key eloop ⊢
            obtain ⟨g1, g2, g3, g4, g5, ⟨g6, g7, g8⟩, g9, g10⟩ := key
            have agB : AG (A.1 0) ((sp_X9_againB y.2.2.2).1 5) := by
              refine h.trans (AG_oix hwB hpB (fun f i hf => ?_))
              rw [againB_at hf, g9, kat f i hf]
            have b2 : (sp_X9_againB y.2.2.2).2 = D.2 := againB_2.trans g9
            have fin : OKX x ∧ R2 x (sp_X9_againB y.2.2.2) := by
              have f1 := out_fin (x := x) hx hr (fun t ht => by rw [g1 t ht]; exact neC t ht) (fun c q2 q3 => by rw [g5 c q2, eC]) (by rw [g4, eC]) (OKa_of g2)
              generalize sp_X9_againB y.2.2.2 = Z at agB b2 ⊢
              obtain ⟨r1, r2, r3, r4, r5⟩ := f1.2
              have q : ∀ c, c ≠ 36 → Z.2.1 c = B.2.1 c := fun c hc => by rw [b2]; exact kne c hc
              have qJ : Z.2.2 = B.2.2 := by rw [b2]; exact kJ
              refine ⟨f1.1, ?_, fun t ht => ?_, ?_, fun j hj => ?_, ?_⟩
              · rw [g1 0 (by decide), neC 0 (by decide)]; exact agB
              · rw [q 33 (by decide), q 32 (by decide), qJ]; exact r2 t ht
              · unfold TP; rw [q 30 (by decide), q 31 (by decide)]; exact r3
              · rw [q 34 (by decide)]; exact r4 j hj
              · unfold KP oldV; rw [q 30 (by decide), q 35 (by decide)]; exact r5
            generalize sp_X9_againB y.2.2.2 = Z at fin ⊢
            by_cases d0 : a2 = 0
            · rw [if_pos d0, if_pos d0]
              refine ⟨?_, fin.1, fin.2⟩
              show sp_X5_roseBearers x 2 0 = itN (tn (y.2.2.2.1 5 1 0)) (st_X9_behind_175 B a0 a1 a2) 0
              unfold sp_X5_roseBearers
              rw [g3.pc, m13_f (by decide)]
              refine itN_congr rfl (fun k b hk => ?_)
              have e12 := g3.pe (f := 12) (p := k) (by rw [g3.pc, m13_f (by decide)]; exact hk) (by omega) (by omega)
              rw [m13_f (by decide)] at e12
              rw [eloop]
              unfold st_X5_roseBearers_4
              rw [e12, if_pos rfl]
            · rw [if_neg d0, if_neg d0]
              by_cases d1 : a2 = 1
              · rw [if_pos d1, if_pos d1]; exact ⟨g6, fin.1, fin.2⟩
              · rw [if_neg d1, if_neg d1]
                by_cases d2 : a2 = 2
                · rw [if_pos d2, if_pos d2]; exact ⟨g7, fin.1, fin.2⟩
                · rw [if_neg d2, if_neg d2]; exact ⟨g8, fin.1, fin.2⟩
          · have hP2 := hP
            unfold ps_X9_wrong_2 at hP2
            split at hP2
            · cases hP2
            rename_i z
            rw [if_neg z] at hv
            have cw : ¬ sp_X9_wrong B a0 a1 = -1 := by
              have e9 : sp_X9_wrong B a0 a1 = nI j := hv
              rw [e9]; exact nI_nm1 (by omega)
            have cf : ¬ sp_X5_firstWrong A 0 (tn a0) a1 1 = -1 := by
              unfold sp_X5_firstWrong
              rw [fndN_hit _ 0 j (Nat.zero_le _) (by omega) (by rw [ew j (by omega)]; exact hP) (fun k _ hk => by rw [ew k (by omega)]; exact hb k (Nat.zero_le _) hk)]
              have hP' : ps_X5_firstWrong_3 A 0 (tn a0) a1 1 j = true := by rw [ew j (by omega)]; exact hP
              unfold ps_X5_firstWrong_3 at hP'
              split at hP'
              · cases hP'
              · rename_i z; rw [if_neg z]; exact nI_nm1 (by omega)
            rw [if_neg cf, if_neg cw]; exact sr_no hx hr (by decide)
        · rw [if_neg c2, if_neg (show ¬ 0 ≤ sp_X9_noTold B a0 a1 by rw [← e]; exact fun z => c2 (told_0.mp z))]
          exact sr_told hx hr e
      · rw [if_neg c3, if_neg c3]; exact sr_no hx hr (by decide)
    · rw [if_neg c1, if_neg c1]; exact sr_no hx hr (by decide)
  · rw [if_neg c0]
    have e : sp_X8_rowRefusal A a0 a1 = -2 := by unfold sp_X8_rowRefusal; rw [e_shelf, if_neg c0]
    rw [e, if_neg (show ¬ (-2 : Int32) = 0 by decide)]
    (repeat' split) <;> exact sr_no hx hr (by decide)
end Behind
