/-! ===== the class leaves the reference's part ===== -/
section FrameC
variable {R M : MT}
theorem rq_if0 {c : Prop} [Decidable c] {x y : MT} (h1 : c → RQ R x) (h2 : ¬ c → RQ R y) : RQ R (if c then x else y) := by
  by_cases q : c
  · rw [if_pos q]; exact h1 q
  · rw [if_neg q]; exact h2 q
theorem rq_it0 {n : Nat} {f : Nat → MT → MT} {b : MT} (h1 : RQ R b) (h2 : ∀ k x, RQ R x → RQ R (f k x)) : RQ R (itN n f b) := itN_inv (fun x => RQ R x) n h1 (fun k x _ hx => h2 k x hx)
theorem rq_if1 {α : Type} {c : Prop} [Decidable c] {x y : α × MT} (h1 : c → RQ R x.2) (h2 : ¬ c → RQ R y.2) : RQ R (if c then x else y).2 := by
  by_cases q : c
  · rw [if_pos q]; exact h1 q
  · rw [if_neg q]; exact h2 q
theorem rq_it1 {α : Type} {n : Nat} {f : Nat → α × MT → α × MT} {b : α × MT} (h1 : RQ R b.2) (h2 : ∀ k x, RQ R x.2 → RQ R (f k x).2) : RQ R (itN n f b).2 := itN_inv (fun x => RQ R x.2) n h1 (fun k x _ hx => h2 k x hx)
theorem rq_if2 {α β : Type} {c : Prop} [Decidable c] {x y : α × β × MT} (h1 : c → RQ R x.2.2) (h2 : ¬ c → RQ R y.2.2) : RQ R (if c then x else y).2.2 := by
  by_cases q : c
  · rw [if_pos q]; exact h1 q
  · rw [if_neg q]; exact h2 q
theorem rq_it2 {α β : Type} {n : Nat} {f : Nat → α × β × MT → α × β × MT} {b : α × β × MT} (h1 : RQ R b.2.2) (h2 : ∀ k x, RQ R x.2.2 → RQ R (f k x).2.2) : RQ R (itN n f b).2.2 := itN_inv (fun x => RQ R x.2.2) n h1 (fun k x _ hx => h2 k x hx)
theorem rq_if3 {α β γ : Type} {c : Prop} [Decidable c] {x y : α × β × γ × MT} (h1 : c → RQ R x.2.2.2) (h2 : ¬ c → RQ R y.2.2.2) : RQ R (if c then x else y).2.2.2 := by
  by_cases q : c
  · rw [if_pos q]; exact h1 q
  · rw [if_neg q]; exact h2 q
theorem rq_it3 {α β γ : Type} {n : Nat} {f : Nat → α × β × γ × MT → α × β × γ × MT} {b : α × β × γ × MT} (h1 : RQ R b.2.2.2) (h2 : ∀ k x, RQ R x.2.2.2 → RQ R (f k x).2.2.2) : RQ R (itN n f b).2.2.2 := itN_inv (fun x => RQ R x.2.2.2) n h1 (fun k x _ hx => h2 k x hx)
theorem rq_fn1 {α : Type} {p : Nat → Bool} {f : Nat → α × MT} {b : α × MT} {n i : Nat} (h1 : ∀ k, RQ R (f k).2) (h2 : RQ R b.2) : RQ R (fndN p f b n i).2 := fndN_inv (fun x : α × MT => RQ R x.2) n i (fun k _ => h1 k) h2
theorem rq_mk1 {α : Type} {a : α} {x : MT} (h : RQ R x) : RQ R (a, x).2 := h
theorem rq_mk2 {α β : Type} {a : α} {b : β} {x : MT} (h : RQ R x) : RQ R (a, b, x).2.2 := h
theorem rq_mk3 {α β γ : Type} {a : α} {b : β} {c : γ} {x : MT} (h : RQ R x) : RQ R (a, b, c, x).2.2.2 := h
theorem rq_u1 {s f i : Nat} {v : Int32} (h : RQ R M) (hs : s ≠ 5) : RQ R (u1 M s f i v) := ⟨(u1_ne (fun z => hs z.symm)).trans h.1, h.2.1, h.2.2⟩
theorem rq_u2 {c i : Nat} {v : Int32} (h : RQ R M) (hc : c < 30) : RQ R (u2 M c i v) := ⟨h.1, fun d q => (u2_ne (by omega)).trans (h.2.1 d q), h.2.2⟩
theorem rq_u3 {r i : Nat} {v : Int64} (h : RQ R M) (hr : r ≠ 8) : RQ R (u3 M r i v) := ⟨h.1, h.2.1, (u3_ne (fun z => hr z.symm)).trans h.2.2⟩
theorem rq_sdN {s : Nat} (h : RQ R M) (hs : s ≠ 5) : RQ R (sdN M s) := rq_u1 h hs
theorem rq_cpM {s s0 : Nat} (h : RQ R M) (hs : s ≠ 5) : RQ R (cpM M s s0) := ⟨(cp_ne (fun z => hs z.symm)).trans h.1, h.2.1, h.2.2⟩
theorem rq_cpyM {t t0 i j n : Nat} (h : RQ R M) (ht : t0 ≠ 8) : RQ R (cpyM M t t0 i j n) := ⟨h.1, h.2.1, (funext fun k => if_neg (fun z => ht z.symm)).trans h.2.2⟩
theorem rq_tpM {a b c : Int32} (h : RQ R M) : RQ R (tpM M a b c) := ⟨h.1, fun d q => (funext fun i => if_neg (by omega)).trans (h.2.1 d q), h.2.2⟩
theorem rq_wndN {n : Nat} (h : RQ R M) : RQ R (wndN M n) := rq_it0 h (fun k x hx => rq_u1 hx (by decide))
theorem sh8 {a : Int32} (h : sp_X8_isShelf a = true) : tn a ≠ 8 := by
  have := bd_lt (isSh5 (e_shelf.symm.trans h))
  omega
theorem sh8r {N : MT} {a n : Int32} (h : sp_X8_rowRefusal N a n = 0) : tn a ≠ 8 := by
  by_cases c : sp_X9_isShelf a = true
  · have := bd_lt (isSh5 c)
    omega
  · unfold sp_X8_rowRefusal at h
    rw [e_shelf, if_neg c] at h
    exact absurd h (by decide)
theorem rq_settle (h : RQ R M) (hw : bd (M.1 0 0 0) 9) : RQ R (sp_X1_settle M) := by
  have hl := bd_lt hw
  have c0 : RQ R (cpM M 3 0) := rq_cpM h (by decide)
  have cw : tn ((cpM M 3 0).1 3 0 0) ≤ 8 := by
    rw [(AG_cp (A := M) (s := 3) (s0 := 0)).wc]; omega
  unfold sp_X1_settle
  generalize cpM M 3 0 = C at c0 cw ⊢
  obtain ⟨s1, s2, s3⟩ := s10 (M := M) (C := C) (tn (C.1 3 1 0))
  have x0 : RQ R (itN (tn (C.1 3 1 0)) (st_X1_settle_10 M) C) := rq_it0 c0 (fun k x hx => by unfold st_X1_settle_10 sp_X2_drop; exact rq_u1 (rq_u1 hx (by decide)) (by decide))
  have xw : tn ((itN (tn (C.1 3 1 0)) (st_X1_settle_10 M) C).1 3 0 0) ≤ 8 := by
    rw [s2, if_neg (fun z => by omega)]; exact cw
  generalize itN (tn (C.1 3 1 0)) (st_X1_settle_10 M) C = X at x0 xw ⊢
  have y0 : RQ R (itN (tn (X.1 3 0 0)) (st_X1_settle_41 M) X) := rq_it0 x0 (fun k x hx => by unfold st_X1_settle_41; exact rq_u2 hx (by decide))
  have yw : (itN (tn (X.1 3 0 0)) (st_X1_settle_41 M) X).1 = X.1 := itN_inv (fun m : MT => m.1 = X.1) _ rfl (fun k m _ hm => by unfold st_X1_settle_41; exact hm)
  generalize itN (tn (X.1 3 0 0)) (st_X1_settle_41 M) X = Y at y0 yw ⊢
  have yl : tn (Y.1 3 0 0) ≤ 8 := by rw [yw]; exact xw
  have z0 : RQ R (sp_X1_weigh Y) := by
    unfold sp_X1_weigh
    have a0 : RQ R (itN (pw2 (Y.1 3 1 0)) (st_X1_weigh_14 Y) Y) ∧ (itN (pw2 (Y.1 3 1 0)) (st_X1_weigh_14 Y) Y).1 = Y.1 := itN_inv (fun m : MT => RQ R m ∧ m.1 = Y.1) _ ⟨y0, rfl⟩ (fun k m _ hm => by
      unfold st_X1_weigh_14
      exact ⟨rq_u2 hm.1 (by rw [hm.2]; omega), hm.2⟩)
    refine (itN_ind (f := st_X1_weigh_50 Y) (fun _ m => RQ R m) (tn (Y.1 3 0 0)) a0.1 (fun k m hk hm => ?_))
    unfold st_X1_weigh_50
    refine rq_it0 hm (fun j x hx => ?_)
    unfold st_X1_weigh_56
    exact rq_u2 hx (by rw [(tn_dn hk yl).2]; omega)
  generalize sp_X1_weigh Y = Z at z0 ⊢
  unfold sp_X1_choose
  refine rq_it1 z0 (fun k x hx => ?_)
  unfold st_X1_choose_4
  exact rq_if1 (fun _ => rq_u2 hx (by decide)) (fun _ => rq_u2 hx (by decide))
theorem rq_sp_X2_drop {M : MT} {s : Nat} {t : Nat} (hs : s ≠ 5) (h : RQ R M) : RQ R (sp_X2_drop M s t) := by
  unfold sp_X2_drop
  repeat' (first | with_reducible assumption | with_reducible exact sh8 ‹_› | decide | with_reducible exact sh8r ‹_› | (intro _) | with_reducible apply rq_if0 | with_reducible apply rq_if1 | with_reducible apply rq_if2 | with_reducible apply rq_if3 | with_reducible apply rq_u1)
theorem rq_sp_X4_takePerson {M : MT} {t : Nat} {a0 : Int32} (h : RQ R M) : RQ R (sp_X4_takePerson M t a0) := by
  unfold sp_X4_takePerson
  repeat' (first | with_reducible assumption | with_reducible exact sh8 ‹_› | decide | with_reducible exact sh8r ‹_› | (intro _) | with_reducible apply rq_if0 | with_reducible apply rq_if1 | with_reducible apply rq_if2 | with_reducible apply rq_if3 | with_reducible apply rq_u2)
theorem rq_sp_X5_addWindow {M : MT} {s : Nat} {a0 : Int32} {a1 : Int32} {a2 : Int32} (hs : s ≠ 5) (h : RQ R M) : RQ R (sp_X5_addWindow M s a0 a1 a2).2 := by
  unfold sp_X5_addWindow
  repeat' (first | with_reducible assumption | with_reducible exact sh8 ‹_› | decide | with_reducible exact sh8r ‹_› | (intro _) | with_reducible apply rq_if0 | with_reducible apply rq_if1 | with_reducible apply rq_if2 | with_reducible apply rq_if3 | with_reducible apply rq_u1)
theorem rq_sp_X5_addPerson {M : MT} {s : Nat} {a0 : Int32} {a1 : Int32} {a2 : Int32} (hs : s ≠ 5) (h : RQ R M) : RQ R (sp_X5_addPerson M s a0 a1 a2).2 := by
  unfold sp_X5_addPerson
  repeat' (first | with_reducible assumption | with_reducible exact sh8 ‹_› | decide | with_reducible exact sh8r ‹_› | (intro _) | with_reducible apply rq_if0 | with_reducible apply rq_if1 | with_reducible apply rq_if2 | with_reducible apply rq_if3 | with_reducible apply rq_u1 | with_reducible apply rq_sp_X2_drop)
theorem rq_sp_X5_draw {M : MT} {s : Nat} {a0 : Int32} (hs : s ≠ 5) (h : RQ R M) : RQ R (sp_X5_draw M s a0).2 := by
  unfold sp_X5_draw
  repeat' (first | with_reducible assumption | with_reducible exact sh8 ‹_› | decide | with_reducible exact sh8r ‹_› | (intro _) | with_reducible apply rq_if0 | with_reducible apply rq_if1 | with_reducible apply rq_if2 | with_reducible apply rq_if3 | with_reducible apply rq_u1)
theorem rq_sp_X8_refuse {M : MT} {a0 : Int32} (h : RQ R M) : RQ R (sp_X8_refuse M a0).2 := by
  unfold sp_X8_refuse
  repeat' (first | with_reducible assumption | with_reducible exact sh8 ‹_› | decide | with_reducible exact sh8r ‹_› | (intro _) | with_reducible apply rq_if0 | with_reducible apply rq_if1 | with_reducible apply rq_if2 | with_reducible apply rq_if3 | with_reducible apply rq_u2)
theorem rq_st_X4_takeRow_28 {M : MT} {t : Nat} {a0 : Int32} {a1 : Int32} {i : Nat} {b28 : MT} (ht : t ≠ 8) (h : RQ R b28) : RQ R (st_X4_takeRow_28 M t a0 a1 i b28) := by
  unfold st_X4_takeRow_28
  repeat' (first | with_reducible assumption | with_reducible exact sh8 ‹_› | decide | with_reducible exact sh8r ‹_› | (intro _) | with_reducible apply rq_if0 | with_reducible apply rq_if1 | with_reducible apply rq_if2 | with_reducible apply rq_if3 | with_reducible apply rq_u3)
theorem rq_sp_X4_takeRow {M : MT} {t : Nat} {a0 : Int32} {a1 : Int32} (ht : t ≠ 8) (h : RQ R M) : RQ R (sp_X4_takeRow M t a0 a1) := by
  unfold sp_X4_takeRow
  repeat' (first | with_reducible assumption | with_reducible exact sh8 ‹_› | decide | with_reducible exact sh8r ‹_› | (intro _) | with_reducible apply rq_if0 | with_reducible apply rq_if1 | with_reducible apply rq_if2 | with_reducible apply rq_if3 | with_reducible apply rq_it0 | with_reducible apply rq_it1 | with_reducible apply rq_it2 | with_reducible apply rq_it3 | with_reducible apply rq_st_X4_takeRow_28 | with_reducible apply rq_u2)
theorem rq_st_X5_passDay_18 {M : MT} {s : Nat} {i : Nat} {b18 : MT} (hs : s ≠ 5) (h : RQ R b18) : RQ R (st_X5_passDay_18 M s i b18) := by
  unfold st_X5_passDay_18
  repeat' (first | with_reducible assumption | with_reducible exact sh8 ‹_› | decide | with_reducible exact sh8r ‹_› | (intro _) | with_reducible apply rq_if0 | with_reducible apply rq_if1 | with_reducible apply rq_if2 | with_reducible apply rq_if3 | with_reducible apply rq_u1 | with_reducible apply rq_sp_X2_drop)
theorem rq_sp_X5_passDay {M : MT} {s : Nat} (hs : s ≠ 5) (h : RQ R M) : RQ R (sp_X5_passDay M s) := by
  unfold sp_X5_passDay
  repeat' (first | with_reducible assumption | with_reducible exact sh8 ‹_› | decide | with_reducible exact sh8r ‹_› | (intro _) | with_reducible apply rq_if0 | with_reducible apply rq_if1 | with_reducible apply rq_if2 | with_reducible apply rq_if3 | with_reducible apply rq_it0 | with_reducible apply rq_it1 | with_reducible apply rq_it2 | with_reducible apply rq_it3 | with_reducible apply rq_st_X5_passDay_18 | with_reducible apply rq_u1)
theorem rq_sp_X5_throwRose {M : MT} {s : Nat} {a0 : Int32} {a1 : Int32} {a2 : Int32} (hs : s ≠ 5) (h : RQ R M) : RQ R (sp_X5_throwRose M s a0 a1 a2).2 := by
  unfold sp_X5_throwRose
  repeat' (first | with_reducible assumption | with_reducible exact sh8 ‹_› | decide | with_reducible exact sh8r ‹_› | (intro _) | with_reducible apply rq_if0 | with_reducible apply rq_if1 | with_reducible apply rq_if2 | with_reducible apply rq_if3 | with_reducible apply rq_u1)
theorem rq_st_X0_cellsAstray_4 {M : MT} {a0 : Int32} {i : Nat} {b4 : Int32 × MT} (h : RQ R b4.2) : RQ R (st_X0_cellsAstray_4 M a0 i b4).2 := by
  unfold st_X0_cellsAstray_4
  repeat' (first | with_reducible assumption | with_reducible exact sh8 ‹_› | decide | with_reducible exact sh8r ‹_› | (intro _) | with_reducible apply rq_if0 | with_reducible apply rq_if1 | with_reducible apply rq_if2 | with_reducible apply rq_if3 | with_reducible apply rq_u1)
theorem rq_sp_X0_cellsAstray {M : MT} {a0 : Int32} (h : RQ R M) : RQ R (sp_X0_cellsAstray M a0).2 := by
  unfold sp_X0_cellsAstray
  repeat' (first | with_reducible assumption | with_reducible exact sh8 ‹_› | decide | with_reducible exact sh8r ‹_› | (intro _) | with_reducible apply rq_if0 | with_reducible apply rq_if1 | with_reducible apply rq_if2 | with_reducible apply rq_if3 | with_reducible apply rq_it0 | with_reducible apply rq_it1 | with_reducible apply rq_it2 | with_reducible apply rq_it3 | with_reducible apply rq_st_X0_cellsAstray_4)
theorem rq_st_X0_countWinds_6 {M : MT} {a0 : Int32} {a1 : Int32} {a2 : Int32} {a3 : Int32} {i : Nat} {b6 : Int32 × MT} (h : RQ R b6.2) : RQ R (st_X0_countWinds_6 M a0 a1 a2 a3 i b6).2 := by
  unfold st_X0_countWinds_6
  repeat' (first | with_reducible assumption | with_reducible exact sh8 ‹_› | decide | with_reducible exact sh8r ‹_› | (intro _) | with_reducible apply rq_if0 | with_reducible apply rq_if1 | with_reducible apply rq_if2 | with_reducible apply rq_if3 | with_reducible apply rq_u1)
theorem rq_sp_X0_countWinds {M : MT} {a0 : Int32} {a1 : Int32} {a2 : Int32} {a3 : Int32} (h : RQ R M) : RQ R (sp_X0_countWinds M a0 a1 a2 a3).2 := by
  unfold sp_X0_countWinds
  repeat' (first | with_reducible assumption | with_reducible exact sh8 ‹_› | decide | with_reducible exact sh8r ‹_› | (intro _) | with_reducible apply rq_if0 | with_reducible apply rq_if1 | with_reducible apply rq_if2 | with_reducible apply rq_if3 | with_reducible apply rq_it0 | with_reducible apply rq_it1 | with_reducible apply rq_it2 | with_reducible apply rq_it3 | with_reducible apply rq_st_X0_countWinds_6)
theorem rq_sp_X0_leastWind {M : MT} {a0 : Int32} {a1 : Int32} {a2 : Int32} {a3 : Int32} (h : RQ R M) : RQ R (sp_X0_leastWind M a0 a1 a2 a3).2 := by
  unfold sp_X0_leastWind
  repeat' (first | with_reducible assumption | with_reducible exact sh8 ‹_› | decide | with_reducible exact sh8r ‹_› | (intro _) | with_reducible apply rq_if0 | with_reducible apply rq_if1 | with_reducible apply rq_if2 | with_reducible apply rq_if3 | with_reducible apply rq_fn1 | with_reducible apply rq_u1 | with_reducible apply rq_wndN)
theorem rq_st_X0_safestThrow_8 {M : MT} {a0 : Int32} {a1 : Int32} {i : Nat} {b8 : Int32 × Int32 × MT} (h : RQ R b8.2.2) : RQ R (st_X0_safestThrow_8 M a0 a1 i b8).2.2 := by
  unfold st_X0_safestThrow_8
  repeat' (first | with_reducible assumption | with_reducible exact sh8 ‹_› | decide | with_reducible exact sh8r ‹_› | (intro _) | with_reducible apply rq_if0 | with_reducible apply rq_if1 | with_reducible apply rq_if2 | with_reducible apply rq_if3 | with_reducible apply rq_sp_X0_countWinds)
theorem rq_safe {M : MT} {a0 a1 : Int32} {n : Nat} (h : RQ R M) : RQ R (itN n (st_X0_safestThrow_8 M a0 a1) ((-1), 0, M)).2.2 := rq_it2 h (fun k x hx => rq_st_X0_safestThrow_8 hx)
theorem rq_sp_X0_safestThrow {M : MT} {a0 : Int32} {a1 : Int32} (h : RQ R M) : RQ R (sp_X0_safestThrow M a0 a1).2 := by
  unfold sp_X0_safestThrow
  have key := rq_safe (a0 := a0) (a1 := a1) (n := 30) h
  generalize itN 30 (st_X0_safestThrow_8 M a0 a1) ((-1), 0, M) = x at key ⊢
  repeat' (first | with_reducible assumption | with_reducible exact sh8 ‹_› | decide | with_reducible exact sh8r ‹_› | (intro _) | with_reducible apply rq_if0 | with_reducible apply rq_if1 | with_reducible apply rq_if2 | with_reducible apply rq_if3 | with_reducible apply rq_it0 | with_reducible apply rq_it1 | with_reducible apply rq_it2 | with_reducible apply rq_it3 | with_reducible apply rq_st_X0_safestThrow_8)
theorem rq_st_X0_windsThatFit_5 {M : MT} {t0 : Nat} {a1 : Int32} {i5 : Nat} {b5 : Int32 × MT} (h : RQ R b5.2) : RQ R (st_X0_windsThatFit_5 M t0 a1 i5 b5).2 := by
  unfold st_X0_windsThatFit_5
  repeat' (first | with_reducible assumption | with_reducible exact sh8 ‹_› | decide | with_reducible exact sh8r ‹_› | (intro _) | with_reducible apply rq_if0 | with_reducible apply rq_if1 | with_reducible apply rq_if2 | with_reducible apply rq_if3 | with_reducible apply rq_u1)
theorem rq_sp_X0_windsThatFit {M : MT} {t0 : Nat} {a1 : Int32} (h : RQ R M) : RQ R (sp_X0_windsThatFit M t0 a1).2 := by
  unfold sp_X0_windsThatFit
  repeat' (first | with_reducible assumption | with_reducible exact sh8 ‹_› | decide | with_reducible exact sh8r ‹_› | (intro _) | with_reducible apply rq_if0 | with_reducible apply rq_if1 | with_reducible apply rq_if2 | with_reducible apply rq_if3 | with_reducible apply rq_it0 | with_reducible apply rq_it1 | with_reducible apply rq_it2 | with_reducible apply rq_it3 | with_reducible apply rq_st_X0_windsThatFit_5)
theorem rq_sp_X0_propose {M : MT} {a0 : Int32} {a1 : Int32} (h : RQ R M) : RQ R (sp_X0_propose M a0 a1) := by
  unfold sp_X0_propose
  repeat' (first | with_reducible assumption | with_reducible exact sh8 ‹_› | decide | with_reducible exact sh8r ‹_› | (intro _) | with_reducible apply rq_if0 | with_reducible apply rq_if1 | with_reducible apply rq_if2 | with_reducible apply rq_if3 | with_reducible apply rq_u2)
theorem rq_sp_X8_freshOutlook {M : MT} (h : RQ R M) : RQ R (sp_X8_freshOutlook M) := by
  unfold sp_X8_freshOutlook
  repeat' (first | with_reducible assumption | with_reducible exact sh8 ‹_› | decide | with_reducible exact sh8r ‹_› | (intro _) | with_reducible apply rq_if0 | with_reducible apply rq_if1 | with_reducible apply rq_if2 | with_reducible apply rq_if3 | with_reducible apply rq_cpM)
theorem rq_sp_X8_row {M : MT} {a0 : Int32} {a1 : Int32} {a2 : Int32} (h : RQ R M) : RQ R (sp_X8_row M a0 a1 a2).2 := by
  unfold sp_X8_row
  repeat' (first | with_reducible assumption | with_reducible exact sh8 ‹_› | decide | with_reducible exact sh8r ‹_› | (intro _) | with_reducible apply rq_if0 | with_reducible apply rq_if1 | with_reducible apply rq_if2 | with_reducible apply rq_if3 | with_reducible apply rq_sp_X4_takeRow | with_reducible apply rq_sp_X8_refuse)
theorem rq_sp_X8_set {M : MT} {a0 : Int32} {a1 : Int32} {a2 : Int64} (h : RQ R M) : RQ R (sp_X8_set M a0 a1 a2).2 := by
  unfold sp_X8_set
  repeat' (first | with_reducible assumption | with_reducible exact sh8 ‹_› | decide | with_reducible exact sh8r ‹_› | (intro _) | with_reducible apply rq_if0 | with_reducible apply rq_if1 | with_reducible apply rq_if2 | with_reducible apply rq_if3 | with_reducible apply rq_u3 | with_reducible apply rq_sp_X8_refuse)
theorem rq_sp_X8_element {M : MT} {a0 : Int32} {a1 : Int32} (h : RQ R M) : RQ R (sp_X8_element M a0 a1).2 := by
  unfold sp_X8_element
  repeat' (first | with_reducible assumption | with_reducible exact sh8 ‹_› | decide | with_reducible exact sh8r ‹_› | (intro _) | with_reducible apply rq_if0 | with_reducible apply rq_if1 | with_reducible apply rq_if2 | with_reducible apply rq_if3)
theorem rq_sp_X8_holds {M : MT} {a0 : Int32} (h : RQ R M) : RQ R (sp_X8_holds M a0).2 := by
  unfold sp_X8_holds
  repeat' (first | with_reducible assumption | with_reducible exact sh8 ‹_› | decide | with_reducible exact sh8r ‹_› | (intro _) | with_reducible apply rq_if0 | with_reducible apply rq_if1 | with_reducible apply rq_if2 | with_reducible apply rq_if3)
theorem rq_sp_X8_show {M : MT} {a0 : Int32} {a1 : Int32} (h : RQ R M) : RQ R (sp_X8_show M a0 a1).2 := by
  unfold sp_X8_show
  repeat' (first | with_reducible assumption | with_reducible exact sh8 ‹_› | decide | with_reducible exact sh8r ‹_› | (intro _) | with_reducible apply rq_if0 | with_reducible apply rq_if1 | with_reducible apply rq_if2 | with_reducible apply rq_if3 | with_reducible apply rq_sp_X4_takePerson | with_reducible apply rq_sp_X8_refuse)
theorem rq_sp_X8_says {M : MT} {a0 : Int32} {a1 : Int32} (h : RQ R M) : RQ R (sp_X8_says M a0 a1).2 := by
  unfold sp_X8_says
  repeat' (first | with_reducible assumption | with_reducible exact sh8 ‹_› | decide | with_reducible exact sh8r ‹_› | (intro _) | with_reducible apply rq_if0 | with_reducible apply rq_if1 | with_reducible apply rq_if2 | with_reducible apply rq_if3 | with_reducible apply rq_sp_X8_refuse)
theorem rq_sp_X8_paves {M : MT} {a0 : Int32} (h : RQ R M) : RQ R (sp_X8_paves M a0).2 := by
  unfold sp_X8_paves
  repeat' (first | with_reducible assumption | with_reducible exact sh8 ‹_› | decide | with_reducible exact sh8r ‹_› | (intro _) | with_reducible apply rq_if0 | with_reducible apply rq_if1 | with_reducible apply rq_if2 | with_reducible apply rq_if3 | with_reducible apply rq_u1 | with_reducible apply rq_sp_X8_refuse)
theorem rq_sp_X8_window {M : MT} {a0 : Int32} {a1 : Int32} {a2 : Int32} (h : RQ R M) : RQ R (sp_X8_window M a0 a1 a2).2 := by
  unfold sp_X8_window
  repeat' (first | with_reducible assumption | with_reducible exact sh8 ‹_› | decide | with_reducible exact sh8r ‹_› | (intro _) | with_reducible apply rq_if0 | with_reducible apply rq_if1 | with_reducible apply rq_if2 | with_reducible apply rq_if3 | with_reducible apply rq_sp_X5_addWindow | with_reducible apply rq_sp_X8_refuse)
theorem rq_sp_X8_person {M : MT} {a0 : Int32} {a1 : Int32} {a2 : Int32} (h : RQ R M) : RQ R (sp_X8_person M a0 a1 a2).2 := by
  unfold sp_X8_person
  repeat' (first | with_reducible assumption | with_reducible exact sh8 ‹_› | decide | with_reducible exact sh8r ‹_› | (intro _) | with_reducible apply rq_if0 | with_reducible apply rq_if1 | with_reducible apply rq_if2 | with_reducible apply rq_if3 | with_reducible apply rq_sp_X5_addPerson | with_reducible apply rq_sp_X8_refuse)
theorem rq_sp_X8_put {M : MT} {a0 : Int32} {a1 : Int32} (h : RQ R M) : RQ R (sp_X8_put M a0 a1).2 := by
  unfold sp_X8_put
  repeat' (first | with_reducible assumption | with_reducible exact sh8 ‹_› | decide | with_reducible exact sh8r ‹_› | (intro _) | with_reducible apply rq_if0 | with_reducible apply rq_if1 | with_reducible apply rq_if2 | with_reducible apply rq_if3 | with_reducible apply rq_u1 | with_reducible apply rq_sp_X8_refuse)
theorem rq_sp_X8_tell {M : MT} {a0 : Int32} {a1 : Int32} (h : RQ R M) : RQ R (sp_X8_tell M a0 a1).2 := by
  unfold sp_X8_tell
  repeat' (first | with_reducible assumption | with_reducible exact sh8 ‹_› | decide | with_reducible exact sh8r ‹_› | (intro _) | with_reducible apply rq_if0 | with_reducible apply rq_if1 | with_reducible apply rq_if2 | with_reducible apply rq_if3 | with_reducible apply rq_u1 | with_reducible apply rq_sp_X8_refuse)
theorem rq_sp_X8_feed {M : MT} {a0 : Int32} (h : RQ R M) : RQ R (sp_X8_feed M a0).2 := by
  unfold sp_X8_feed
  repeat' (first | with_reducible assumption | with_reducible exact sh8 ‹_› | decide | with_reducible exact sh8r ‹_› | (intro _) | with_reducible apply rq_if0 | with_reducible apply rq_if1 | with_reducible apply rq_if2 | with_reducible apply rq_if3 | with_reducible apply rq_u2 | with_reducible apply rq_sp_X8_refuse)
theorem rq_sp_X8_wipe {M : MT} (h : RQ R M) : RQ R (sp_X8_wipe M).2 := by
  unfold sp_X8_wipe
  repeat' (first | with_reducible assumption | with_reducible exact sh8 ‹_› | decide | with_reducible exact sh8r ‹_› | (intro _) | with_reducible apply rq_if0 | with_reducible apply rq_if1 | with_reducible apply rq_if2 | with_reducible apply rq_if3 | with_reducible apply rq_u2)
theorem rq_sp_X8_personOf {M : MT} {a0 : Int32} {a1 : Int32} (h : RQ R M) : RQ R (sp_X8_personOf M a0 a1).2 := by
  unfold sp_X8_personOf
  repeat' (first | with_reducible assumption | with_reducible exact sh8 ‹_› | decide | with_reducible exact sh8r ‹_› | (intro _) | with_reducible apply rq_if0 | with_reducible apply rq_if1 | with_reducible apply rq_if2 | with_reducible apply rq_if3 | with_reducible apply rq_sp_X8_refuse)
theorem rq_sp_X8_windowOf {M : MT} {a0 : Int32} {a1 : Int32} (h : RQ R M) : RQ R (sp_X8_windowOf M a0 a1).2 := by
  unfold sp_X8_windowOf
  repeat' (first | with_reducible assumption | with_reducible exact sh8 ‹_› | decide | with_reducible exact sh8r ‹_› | (intro _) | with_reducible apply rq_if0 | with_reducible apply rq_if1 | with_reducible apply rq_if2 | with_reducible apply rq_if3 | with_reducible apply rq_sp_X8_refuse)
theorem rq_sp_X8_lands {M : MT} {a0 : Int32} {a1 : Int32} {a2 : Int32} (h : RQ R M) : RQ R (sp_X8_lands M a0 a1 a2).2 := by
  unfold sp_X8_lands
  repeat' (first | with_reducible assumption | with_reducible exact sh8 ‹_› | decide | with_reducible exact sh8r ‹_› | (intro _) | with_reducible apply rq_if0 | with_reducible apply rq_if1 | with_reducible apply rq_if2 | with_reducible apply rq_if3 | with_reducible apply rq_sp_X8_refuse)
theorem rq_sp_X8_caught {M : MT} {a0 : Int32} {a1 : Int32} {a2 : Int32} (h : RQ R M) : RQ R (sp_X8_caught M a0 a1 a2).2 := by
  unfold sp_X8_caught
  repeat' (first | with_reducible assumption | with_reducible exact sh8 ‹_› | decide | with_reducible exact sh8r ‹_› | (intro _) | with_reducible apply rq_if0 | with_reducible apply rq_if1 | with_reducible apply rq_if2 | with_reducible apply rq_if3 | with_reducible apply rq_sp_X8_refuse)
theorem rq_sp_X8_slow {M : MT} {a0 : Int32} {a1 : Int32} (h : RQ R M) : RQ R (sp_X8_slow M a0 a1).2 := by
  unfold sp_X8_slow
  repeat' (first | with_reducible assumption | with_reducible exact sh8 ‹_› | decide | with_reducible exact sh8r ‹_› | (intro _) | with_reducible apply rq_if0 | with_reducible apply rq_if1 | with_reducible apply rq_if2 | with_reducible apply rq_if3 | with_reducible apply rq_sp_X8_refuse)
theorem rq_sp_X8_comes {M : MT} {a0 : Int32} {a1 : Int32} (h : RQ R M) : RQ R (sp_X8_comes M a0 a1).2 := by
  unfold sp_X8_comes
  repeat' (first | with_reducible assumption | with_reducible exact sh8 ‹_› | decide | with_reducible exact sh8r ‹_› | (intro _) | with_reducible apply rq_if0 | with_reducible apply rq_if1 | with_reducible apply rq_if2 | with_reducible apply rq_if3 | with_reducible apply rq_sp_X8_refuse)
theorem rq_sp_X8_throwsFor {M : MT} {a0 : Int32} {a1 : Int32} {a2 : Int32} (h : RQ R M) : RQ R (sp_X8_throwsFor M a0 a1 a2).2 := by
  unfold sp_X8_throwsFor
  repeat' (first | with_reducible assumption | with_reducible exact sh8 ‹_› | decide | with_reducible exact sh8r ‹_› | (intro _) | with_reducible apply rq_if0 | with_reducible apply rq_if1 | with_reducible apply rq_if2 | with_reducible apply rq_if3 | with_reducible apply rq_sp_X8_refuse)
theorem rq_sp_X8_hit {M : MT} {a0 : Int32} (h : RQ R M) : RQ R (sp_X8_hit M a0).2 := by
  unfold sp_X8_hit
  repeat' (first | with_reducible assumption | with_reducible exact sh8 ‹_› | decide | with_reducible exact sh8r ‹_› | (intro _) | with_reducible apply rq_if0 | with_reducible apply rq_if1 | with_reducible apply rq_if2 | with_reducible apply rq_if3 | with_reducible apply rq_sp_X8_refuse)
theorem rq_sp_X8_whose {M : MT} {a0 : Int32} {a1 : Int32} {a2 : Int32} (h : RQ R M) : RQ R (sp_X8_whose M a0 a1 a2).2 := by
  unfold sp_X8_whose
  repeat' (first | with_reducible assumption | with_reducible exact sh8 ‹_› | decide | with_reducible exact sh8r ‹_› | (intro _) | with_reducible apply rq_if0 | with_reducible apply rq_if1 | with_reducible apply rq_if2 | with_reducible apply rq_if3 | with_reducible apply rq_sp_X8_refuse)
theorem rq_sp_X8_fond {M : MT} {a0 : Int32} {a1 : Int32} (h : RQ R M) : RQ R (sp_X8_fond M a0 a1).2 := by
  unfold sp_X8_fond
  repeat' (first | with_reducible assumption | with_reducible exact sh8 ‹_› | decide | with_reducible exact sh8r ‹_› | (intro _) | with_reducible apply rq_if0 | with_reducible apply rq_if1 | with_reducible apply rq_if2 | with_reducible apply rq_if3 | with_reducible apply rq_sp_X8_refuse)
theorem rq_sp_X8_queue {M : MT} {a0 : Int32} {a1 : Int32} (h : RQ R M) : RQ R (sp_X8_queue M a0 a1).2 := by
  unfold sp_X8_queue
  repeat' (first | with_reducible assumption | with_reducible exact sh8 ‹_› | decide | with_reducible exact sh8r ‹_› | (intro _) | with_reducible apply rq_if0 | with_reducible apply rq_if1 | with_reducible apply rq_if2 | with_reducible apply rq_if3 | with_reducible apply rq_sp_X8_refuse)
theorem rq_sp_X8_longest {M : MT} {a0 : Int32} (h : RQ R M) : RQ R (sp_X8_longest M a0).2 := by
  unfold sp_X8_longest
  repeat' (first | with_reducible assumption | with_reducible exact sh8 ‹_› | decide | with_reducible exact sh8r ‹_› | (intro _) | with_reducible apply rq_if0 | with_reducible apply rq_if1 | with_reducible apply rq_if2 | with_reducible apply rq_if3 | with_reducible apply rq_sp_X8_refuse)
theorem rq_sp_X8_rival {M : MT} {a0 : Int32} {a1 : Int32} {a2 : Int32} {a3 : Int32} (h : RQ R M) : RQ R (sp_X8_rival M a0 a1 a2 a3).2 := by
  unfold sp_X8_rival
  repeat' (first | with_reducible assumption | with_reducible exact sh8 ‹_› | decide | with_reducible exact sh8r ‹_› | (intro _) | with_reducible apply rq_if0 | with_reducible apply rq_if1 | with_reducible apply rq_if2 | with_reducible apply rq_if3 | with_reducible apply rq_sp_X8_refuse)
theorem rq_sp_X8_having {M : MT} {a0 : Int32} (h : RQ R M) : RQ R (sp_X8_having M a0).2 := by
  unfold sp_X8_having
  repeat' (first | with_reducible assumption | with_reducible exact sh8 ‹_› | decide | with_reducible exact sh8r ‹_› | (intro _) | with_reducible apply rq_if0 | with_reducible apply rq_if1 | with_reducible apply rq_if2 | with_reducible apply rq_if3 | with_reducible apply rq_sp_X8_refuse)
theorem rq_sp_X8_due {M : MT} {a0 : Int32} (h : RQ R M) : RQ R (sp_X8_due M a0).2 := by
  unfold sp_X8_due
  repeat' (first | with_reducible assumption | with_reducible exact sh8 ‹_› | decide | with_reducible exact sh8r ‹_› | (intro _) | with_reducible apply rq_if0 | with_reducible apply rq_if1 | with_reducible apply rq_if2 | with_reducible apply rq_if3 | with_reducible apply rq_sp_X8_refuse)
theorem rq_sp_X8_lentFor {M : MT} {a0 : Int32} {a1 : Int32} (h : RQ R M) : RQ R (sp_X8_lentFor M a0 a1).2 := by
  unfold sp_X8_lentFor
  repeat' (first | with_reducible assumption | with_reducible exact sh8 ‹_› | decide | with_reducible exact sh8r ‹_› | (intro _) | with_reducible apply rq_if0 | with_reducible apply rq_if1 | with_reducible apply rq_if2 | with_reducible apply rq_if3 | with_reducible apply rq_sp_X8_refuse)
theorem rq_sp_X8_best {M : MT} {a0 : Int32} (h : RQ R M) : RQ R (sp_X8_best M a0).2 := by
  unfold sp_X8_best
  repeat' (first | with_reducible assumption | with_reducible exact sh8 ‹_› | decide | with_reducible exact sh8r ‹_› | (intro _) | with_reducible apply rq_if0 | with_reducible apply rq_if1 | with_reducible apply rq_if2 | with_reducible apply rq_if3 | with_reducible apply rq_sp_X8_refuse)
theorem rq_sp_X8_off {M : MT} {a0 : Int32} (h : RQ R M) : RQ R (sp_X8_off M a0).2 := by
  unfold sp_X8_off
  repeat' (first | with_reducible assumption | with_reducible exact sh8 ‹_› | decide | with_reducible exact sh8r ‹_› | (intro _) | with_reducible apply rq_if0 | with_reducible apply rq_if1 | with_reducible apply rq_if2 | with_reducible apply rq_if3 | with_reducible apply rq_sp_X8_refuse)
theorem rq_sp_X8_catches {M : MT} {a0 : Int32} (h : RQ R M) : RQ R (sp_X8_catches M a0).2 := by
  unfold sp_X8_catches
  repeat' (first | with_reducible assumption | with_reducible exact sh8 ‹_› | decide | with_reducible exact sh8r ‹_› | (intro _) | with_reducible apply rq_if0 | with_reducible apply rq_if1 | with_reducible apply rq_if2 | with_reducible apply rq_if3 | with_reducible apply rq_sp_X8_refuse)
theorem rq_sp_X8_gaps {M : MT} (h : RQ R M) : RQ R (sp_X8_gaps M).2 := by
  unfold sp_X8_gaps
  repeat' (first | with_reducible assumption | with_reducible exact sh8 ‹_› | decide | with_reducible exact sh8r ‹_› | (intro _) | with_reducible apply rq_if0 | with_reducible apply rq_if1 | with_reducible apply rq_if2 | with_reducible apply rq_if3)
theorem rq_sp_X8_between {M : MT} {a0 : Int32} {a1 : Int32} (h : RQ R M) : RQ R (sp_X8_between M a0 a1).2 := by
  unfold sp_X8_between
  repeat' (first | with_reducible assumption | with_reducible exact sh8 ‹_› | decide | with_reducible exact sh8r ‹_› | (intro _) | with_reducible apply rq_if0 | with_reducible apply rq_if1 | with_reducible apply rq_if2 | with_reducible apply rq_if3 | with_reducible apply rq_sp_X8_refuse)
theorem rq_sp_X8_fondest {M : MT} {a0 : Int32} (h : RQ R M) : RQ R (sp_X8_fondest M a0).2 := by
  unfold sp_X8_fondest
  repeat' (first | with_reducible assumption | with_reducible exact sh8 ‹_› | decide | with_reducible exact sh8r ‹_› | (intro _) | with_reducible apply rq_if0 | with_reducible apply rq_if1 | with_reducible apply rq_if2 | with_reducible apply rq_if3 | with_reducible apply rq_sp_X8_refuse)
theorem rq_sp_X8_admirer {M : MT} {a0 : Int32} (h : RQ R M) : RQ R (sp_X8_admirer M a0).2 := by
  unfold sp_X8_admirer
  repeat' (first | with_reducible assumption | with_reducible exact sh8 ‹_› | decide | with_reducible exact sh8r ‹_› | (intro _) | with_reducible apply rq_if0 | with_reducible apply rq_if1 | with_reducible apply rq_if2 | with_reducible apply rq_if3 | with_reducible apply rq_sp_X8_refuse)
theorem rq_sp_X8_reached {M : MT} {a0 : Int32} (h : RQ R M) : RQ R (sp_X8_reached M a0).2 := by
  unfold sp_X8_reached
  repeat' (first | with_reducible assumption | with_reducible exact sh8 ‹_› | decide | with_reducible exact sh8r ‹_› | (intro _) | with_reducible apply rq_if0 | with_reducible apply rq_if1 | with_reducible apply rq_if2 | with_reducible apply rq_if3 | with_reducible apply rq_sp_X8_refuse)
theorem rq_sp_X8_late {M : MT} {a0 : Int32} (h : RQ R M) : RQ R (sp_X8_late M a0).2 := by
  unfold sp_X8_late
  repeat' (first | with_reducible assumption | with_reducible exact sh8 ‹_› | decide | with_reducible exact sh8r ‹_› | (intro _) | with_reducible apply rq_if0 | with_reducible apply rq_if1 | with_reducible apply rq_if2 | with_reducible apply rq_if3 | with_reducible apply rq_sp_X8_refuse)
theorem rq_sp_X8_ofKind {M : MT} {a0 : Int32} (h : RQ R M) : RQ R (sp_X8_ofKind M a0).2 := by
  unfold sp_X8_ofKind
  repeat' (first | with_reducible assumption | with_reducible exact sh8 ‹_› | decide | with_reducible exact sh8r ‹_› | (intro _) | with_reducible apply rq_if0 | with_reducible apply rq_if1 | with_reducible apply rq_if2 | with_reducible apply rq_if3 | with_reducible apply rq_sp_X8_refuse)
theorem rq_sp_X8_judge {M : MT} {a0 : Int32} {a1 : Int32} (h : RQ R M) : RQ R (sp_X8_judge M a0 a1).2 := by
  unfold sp_X8_judge
  repeat' (first | with_reducible assumption | with_reducible exact sh8 ‹_› | decide | with_reducible exact sh8r ‹_› | (intro _) | with_reducible apply rq_if0 | with_reducible apply rq_if1 | with_reducible apply rq_if2 | with_reducible apply rq_if3 | with_reducible apply rq_sp_X8_refuse)
theorem rq_sp_X8_thrown {M : MT} {a0 : Int32} {a1 : Int32} {a2 : Int32} (h : RQ R M) : RQ R (sp_X8_thrown M a0 a1 a2).2 := by
  unfold sp_X8_thrown
  repeat' (first | with_reducible assumption | with_reducible exact sh8 ‹_› | decide | with_reducible exact sh8r ‹_› | (intro _) | with_reducible apply rq_if0 | with_reducible apply rq_if1 | with_reducible apply rq_if2 | with_reducible apply rq_if3 | with_reducible apply rq_sp_X5_throwRose | with_reducible apply rq_sp_X8_refuse)
theorem rq_sp_X8_seed {M : MT} {a0 : Int32} (h : RQ R M) : RQ R (sp_X8_seed M a0).2 := by
  unfold sp_X8_seed
  repeat' (first | with_reducible assumption | with_reducible exact sh8 ‹_› | decide | with_reducible exact sh8r ‹_› | (intro _) | with_reducible apply rq_if0 | with_reducible apply rq_if1 | with_reducible apply rq_if2 | with_reducible apply rq_if3 | with_reducible apply rq_u1)
theorem rq_sp_X8_image {M : MT} (h : RQ R M) : RQ R (sp_X8_image M).2 := by
  unfold sp_X8_image
  repeat' (first | with_reducible assumption | with_reducible exact sh8 ‹_› | decide | with_reducible exact sh8r ‹_› | (intro _) | with_reducible apply rq_if0 | with_reducible apply rq_if1 | with_reducible apply rq_if2 | with_reducible apply rq_if3 | with_reducible apply rq_u2 | with_reducible apply rq_cpM)
theorem rq_sp_X8_open {M : MT} {a0 : Int32} {a1 : Int32} (h : RQ R M) : RQ R (sp_X8_open M a0 a1).2 := by
  unfold sp_X8_open
  repeat' (first | with_reducible assumption | with_reducible exact sh8 ‹_› | decide | with_reducible exact sh8r ‹_› | (intro _) | with_reducible apply rq_if0 | with_reducible apply rq_if1 | with_reducible apply rq_if2 | with_reducible apply rq_if3 | with_reducible apply rq_sp_X0_cellsAstray | with_reducible apply rq_cpM | with_reducible apply rq_sp_X8_refuse)
theorem rq_sp_X8_chance {M : MT} {a0 : Int32} {a1 : Int32} {a2 : Int32} {a3 : Int32} (h : RQ R M) : RQ R (sp_X8_chance M a0 a1 a2 a3).2 := by
  unfold sp_X8_chance
  repeat' (first | with_reducible assumption | with_reducible exact sh8 ‹_› | decide | with_reducible exact sh8r ‹_› | (intro _) | with_reducible apply rq_if0 | with_reducible apply rq_if1 | with_reducible apply rq_if2 | with_reducible apply rq_if3 | with_reducible apply rq_sp_X0_countWinds | with_reducible apply rq_cpM | with_reducible apply rq_sp_X8_refuse)
theorem rq_sp_X8_safest {M : MT} {a0 : Int32} {a1 : Int32} (h : RQ R M) : RQ R (sp_X8_safest M a0 a1).2 := by
  unfold sp_X8_safest
  repeat' (first | with_reducible assumption | with_reducible exact sh8 ‹_› | decide | with_reducible exact sh8r ‹_› | (intro _) | with_reducible apply rq_if0 | with_reducible apply rq_if1 | with_reducible apply rq_if2 | with_reducible apply rq_if3 | with_reducible apply rq_sp_X0_safestThrow | with_reducible apply rq_cpM | with_reducible apply rq_sp_X8_refuse)
theorem rq_sp_X8_windFor {M : MT} {a0 : Int32} {a1 : Int32} {a2 : Int32} {a3 : Int32} (h : RQ R M) : RQ R (sp_X8_windFor M a0 a1 a2 a3).2 := by
  unfold sp_X8_windFor
  repeat' (first | with_reducible assumption | with_reducible exact sh8 ‹_› | decide | with_reducible exact sh8r ‹_› | (intro _) | with_reducible apply rq_if0 | with_reducible apply rq_if1 | with_reducible apply rq_if2 | with_reducible apply rq_if3 | with_reducible apply rq_sp_X0_leastWind | with_reducible apply rq_cpM | with_reducible apply rq_sp_X8_refuse)
theorem rq_sp_X8_status {M : MT} {a0 : Int32} (h : RQ R M) : RQ R (sp_X8_status M a0).2 := by
  unfold sp_X8_status
  repeat' (first | with_reducible assumption | with_reducible exact sh8 ‹_› | decide | with_reducible exact sh8r ‹_› | (intro _) | with_reducible apply rq_if0 | with_reducible apply rq_if1 | with_reducible apply rq_if2 | with_reducible apply rq_if3)
theorem rq_sp_X8_copy {M : MT} {a0 : Int32} {a1 : Int32} {a2 : Int32} {a3 : Int32} {a4 : Int32} (h : RQ R M) : RQ R (sp_X8_copy M a0 a1 a2 a3 a4).2 := by
  unfold sp_X8_copy
  repeat' (first | with_reducible assumption | with_reducible exact sh8 ‹_› | decide | with_reducible exact sh8r ‹_› | (intro _) | with_reducible apply rq_if0 | with_reducible apply rq_if1 | with_reducible apply rq_if2 | with_reducible apply rq_if3 | with_reducible apply rq_sp_X8_refuse | with_reducible apply rq_cpyM)
theorem rq_sp_X8_winds {M : MT} {a0 : Int32} {a1 : Int32} (h : RQ R M) : RQ R (sp_X8_winds M a0 a1).2 := by
  unfold sp_X8_winds
  repeat' (first | with_reducible assumption | with_reducible exact sh8 ‹_› | decide | with_reducible exact sh8r ‹_› | (intro _) | with_reducible apply rq_if0 | with_reducible apply rq_if1 | with_reducible apply rq_if2 | with_reducible apply rq_if3 | with_reducible apply rq_sp_X0_windsThatFit | with_reducible apply rq_cpM | with_reducible apply rq_sp_X8_refuse)
theorem rq_sp_X8_kinds {M : MT} {a0 : Int32} {a1 : Int32} {a2 : Int32} (h : RQ R M) : RQ R (sp_X8_kinds M a0 a1 a2).2 := by
  unfold sp_X8_kinds
  repeat' (first | with_reducible assumption | with_reducible exact sh8 ‹_› | decide | with_reducible exact sh8r ‹_› | (intro _) | with_reducible apply rq_if0 | with_reducible apply rq_if1 | with_reducible apply rq_if2 | with_reducible apply rq_if3 | with_reducible apply rq_sp_X8_refuse)
theorem rq_st_X0_seekBed_12 {M : MT} {i : Nat} {b12 : MT} (h : RQ R b12) : RQ R (st_X0_seekBed_12 M i b12) := by
  unfold st_X0_seekBed_12
  repeat' (first | with_reducible assumption | with_reducible exact sh8 ‹_› | decide | with_reducible exact sh8r ‹_› | (intro _) | with_reducible apply rq_if0 | with_reducible apply rq_if1 | with_reducible apply rq_if2 | with_reducible apply rq_if3 | with_reducible apply rq_sp_X0_propose | with_reducible apply rq_it0 | with_reducible apply rq_it1 | with_reducible apply rq_it2 | with_reducible apply rq_it3)
theorem rq_sp_X0_seekBed {M : MT} (h : RQ R M) : RQ R (sp_X0_seekBed M) := by
  unfold sp_X0_seekBed
  repeat' (first | with_reducible assumption | with_reducible exact sh8 ‹_› | decide | with_reducible exact sh8r ‹_› | (intro _) | with_reducible apply rq_if0 | with_reducible apply rq_if1 | with_reducible apply rq_if2 | with_reducible apply rq_if3 | with_reducible apply rq_it0 | with_reducible apply rq_it1 | with_reducible apply rq_it2 | with_reducible apply rq_it3 | with_reducible apply rq_st_X0_seekBed_12 | with_reducible apply rq_u2)
theorem rq_st_X0_seekPlace_45 {M : MT} {a0 : Int32} {i : Nat} {b45 : MT} (h : RQ R b45) : RQ R (st_X0_seekPlace_45 M a0 i b45) := by
  unfold st_X0_seekPlace_45
  repeat' (first | with_reducible assumption | with_reducible exact sh8 ‹_› | decide | with_reducible exact sh8r ‹_› | (intro _) | with_reducible apply rq_if0 | with_reducible apply rq_if1 | with_reducible apply rq_if2 | with_reducible apply rq_if3 | with_reducible apply rq_sp_X0_propose | with_reducible apply rq_u1)
theorem rq_st_X0_seekPlace_2 {M : MT} {a0 : Int32} {i : Nat} {b2 : MT} (h : RQ R b2) : RQ R (st_X0_seekPlace_2 M a0 i b2) := by
  unfold st_X0_seekPlace_2
  repeat' (first | with_reducible assumption | with_reducible exact sh8 ‹_› | decide | with_reducible exact sh8r ‹_› | (intro _) | with_reducible apply rq_if0 | with_reducible apply rq_if1 | with_reducible apply rq_if2 | with_reducible apply rq_if3 | with_reducible apply rq_u2)
theorem rq_sp_X0_seekPlace {M : MT} {a0 : Int32} (h : RQ R M) : RQ R (sp_X0_seekPlace M a0) := by
  unfold sp_X0_seekPlace
  repeat' (first | with_reducible assumption | with_reducible exact sh8 ‹_› | decide | with_reducible exact sh8r ‹_› | (intro _) | with_reducible apply rq_if0 | with_reducible apply rq_if1 | with_reducible apply rq_if2 | with_reducible apply rq_if3 | with_reducible apply rq_it0 | with_reducible apply rq_it1 | with_reducible apply rq_it2 | with_reducible apply rq_it3 | with_reducible apply rq_st_X0_seekPlace_45 | with_reducible apply rq_u2 | with_reducible apply rq_st_X0_seekPlace_2)
theorem rq_sp_X8_move {M : MT} {a0 : Int32} {a1 : Int32} (h : RQ R M) : RQ R (sp_X8_move M a0 a1).2 := by
  unfold sp_X8_move
  repeat' (first | with_reducible assumption | with_reducible exact sh8 ‹_› | decide | with_reducible exact sh8r ‹_› | (intro _) | with_reducible apply rq_if0 | with_reducible apply rq_if1 | with_reducible apply rq_if2 | with_reducible apply rq_if3 | with_reducible apply rq_sp_X0_seekPlace | with_reducible apply rq_cpM | with_reducible apply rq_sp_X8_refuse)
theorem rq_sp_X8_bed {M : MT} {a0 : Int32} (h : RQ R M) : RQ R (sp_X8_bed M a0).2 := by
  unfold sp_X8_bed
  repeat' (first | with_reducible assumption | with_reducible exact sh8 ‹_› | decide | with_reducible exact sh8r ‹_› | (intro _) | with_reducible apply rq_if0 | with_reducible apply rq_if1 | with_reducible apply rq_if2 | with_reducible apply rq_if3 | with_reducible apply rq_sp_X0_seekBed | with_reducible apply rq_cpM | with_reducible apply rq_sp_X8_refuse)
theorem rq_sp_X5_carnival {M : MT} (h : RQ R M) : RQ R (sp_X5_carnival M).2 := by
  unfold sp_X5_carnival
  repeat' (first | with_reducible assumption | with_reducible exact sh8 ‹_› | decide | with_reducible exact sh8r ‹_› | (intro _) | with_reducible apply rq_if0 | with_reducible apply rq_if1 | with_reducible apply rq_if2 | with_reducible apply rq_if3 | with_reducible apply rq_sp_X5_throwRose | with_reducible apply rq_sdN | with_reducible apply rq_u1 | with_reducible apply rq_sp_X5_draw | with_reducible apply rq_sp_X5_passDay)
theorem rq_st_X8_days_19 {M : MT} {a0 : Int32} {i : Nat} {b19 : MT} (h : RQ R b19) : RQ R (st_X8_days_19 M a0 i b19) := by
  unfold st_X8_days_19
  repeat' (first | with_reducible assumption | with_reducible exact sh8 ‹_› | decide | with_reducible exact sh8r ‹_› | (intro _) | with_reducible apply rq_if0 | with_reducible apply rq_if1 | with_reducible apply rq_if2 | with_reducible apply rq_if3 | with_reducible apply rq_sp_X5_passDay)
theorem rq_sp_X8_days {M : MT} {a0 : Int32} (h : RQ R M) : RQ R (sp_X8_days M a0).2 := by
  unfold sp_X8_days
  repeat' (first | with_reducible assumption | with_reducible exact sh8 ‹_› | decide | with_reducible exact sh8r ‹_› | (intro _) | with_reducible apply rq_if0 | with_reducible apply rq_if1 | with_reducible apply rq_if2 | with_reducible apply rq_if3 | with_reducible apply rq_it0 | with_reducible apply rq_it1 | with_reducible apply rq_it2 | with_reducible apply rq_it3 | with_reducible apply rq_st_X8_days_19 | with_reducible apply rq_sp_X8_refuse)
theorem rq_st_X8_drawn_38 {M : MT} {a0 : Int32} {i : Nat} {b38 : Int32 × MT} (h : RQ R b38.2) : RQ R (st_X8_drawn_38 M a0 i b38).2 := by
  unfold st_X8_drawn_38
  repeat' (first | with_reducible assumption | with_reducible exact sh8 ‹_› | decide | with_reducible exact sh8r ‹_› | (intro _) | with_reducible apply rq_if0 | with_reducible apply rq_if1 | with_reducible apply rq_if2 | with_reducible apply rq_if3 | with_reducible apply rq_sp_X5_carnival)
theorem rq_sp_X8_drawn {M : MT} {a0 : Int32} (h : RQ R M) : RQ R (sp_X8_drawn M a0).2 := by
  unfold sp_X8_drawn
  repeat' (first | with_reducible assumption | with_reducible exact sh8 ‹_› | decide | with_reducible exact sh8r ‹_› | (intro _) | with_reducible apply rq_if0 | with_reducible apply rq_if1 | with_reducible apply rq_if2 | with_reducible apply rq_if3 | with_reducible apply rq_sp_X8_refuse | with_reducible apply rq_it0 | with_reducible apply rq_it1 | with_reducible apply rq_it2 | with_reducible apply rq_it3 | with_reducible apply rq_st_X8_drawn_38)
theorem rq_st_X8_back_27 {M : MT} {i : Nat} {b27 : MT} (h : RQ R b27) : RQ R (st_X8_back_27 M i b27) := by
  unfold st_X8_back_27
  repeat' (first | with_reducible assumption | with_reducible exact sh8 ‹_› | decide | with_reducible exact sh8r ‹_› | (intro _) | with_reducible apply rq_if0 | with_reducible apply rq_if1 | with_reducible apply rq_if2 | with_reducible apply rq_if3 | with_reducible apply rq_sp_X4_takePerson)
theorem rq_sp_X8_back {M : MT} (h : RQ R M) : RQ R (sp_X8_back M).2 := by
  unfold sp_X8_back
  repeat' (first | with_reducible assumption | with_reducible exact sh8 ‹_› | decide | with_reducible exact sh8r ‹_› | (intro _) | with_reducible apply rq_if0 | with_reducible apply rq_if1 | with_reducible apply rq_if2 | with_reducible apply rq_if3 | with_reducible apply rq_sp_X8_refuse | with_reducible apply rq_it0 | with_reducible apply rq_it1 | with_reducible apply rq_it2 | with_reducible apply rq_it3 | with_reducible apply rq_st_X8_back_27 | with_reducible apply rq_cpM)
theorem rq_st_X0_follow_17 {M : MT} {t0 : Nat} {a1 : Int32} {i : Nat} {b17 : MT} (h : RQ R b17) : RQ R (st_X0_follow_17 M t0 a1 i b17) := by
  unfold st_X0_follow_17
  repeat' (first | with_reducible assumption | with_reducible exact sh8 ‹_› | decide | with_reducible exact sh8r ‹_› | (intro _) | with_reducible apply rq_if0 | with_reducible apply rq_if1 | with_reducible apply rq_if2 | with_reducible apply rq_if3 | with_reducible apply rq_u2 | with_reducible apply rq_sp_X5_throwRose)
theorem rq_sp_X0_follow {M : MT} {t0 : Nat} {a1 : Int32} (h : RQ R M) : RQ R (sp_X0_follow M t0 a1) := by
  unfold sp_X0_follow
  repeat' (first | with_reducible assumption | with_reducible exact sh8 ‹_› | decide | with_reducible exact sh8r ‹_› | (intro _) | with_reducible apply rq_if0 | with_reducible apply rq_if1 | with_reducible apply rq_if2 | with_reducible apply rq_if3 | with_reducible apply rq_it0 | with_reducible apply rq_it1 | with_reducible apply rq_it2 | with_reducible apply rq_it3 | with_reducible apply rq_st_X0_follow_17 | with_reducible apply rq_u2)
theorem rq_sp_X8_behind {M : MT} {a0 : Int32} {a1 : Int32} {a2 : Int32} (h : RQ R M) : RQ R (sp_X8_behind M a0 a1 a2).2 := by
  unfold sp_X8_behind
  repeat' (first | with_reducible assumption | with_reducible exact sh8 ‹_› | decide | with_reducible exact sh8r ‹_› | (intro _) | with_reducible apply rq_if0 | with_reducible apply rq_if1 | with_reducible apply rq_if2 | with_reducible apply rq_if3 | with_reducible apply rq_sp_X0_follow | with_reducible apply rq_cpM | with_reducible apply rq_sp_X8_refuse)
theorem rq_sp_X6_advance {M : MT} (h : RQ R M) : RQ R (sp_X6_advance M) := by
  unfold sp_X6_advance
  repeat' (first | with_reducible assumption | with_reducible exact sh8 ‹_› | decide | with_reducible exact sh8r ‹_› | (intro _) | with_reducible apply rq_if0 | with_reducible apply rq_if1 | with_reducible apply rq_if2 | with_reducible apply rq_if3 | with_reducible apply rq_tpM)
theorem rq_sp_X6_apply {M : MT} {a0 : Int32} (h : RQ R M) : RQ R (sp_X6_apply M a0) := by
  unfold sp_X6_apply
  repeat' (first | with_reducible assumption | with_reducible exact sh8 ‹_› | decide | with_reducible exact sh8r ‹_› | (intro _) | with_reducible apply rq_if0 | with_reducible apply rq_if1 | with_reducible apply rq_if2 | with_reducible apply rq_if3 | with_reducible apply rq_u1 | with_reducible apply rq_sp_X5_addWindow | with_reducible apply rq_sp_X5_addPerson)
theorem rq_numM {k : Nat} (h : RQ R M) : RQ R (numM M k) := rq_u2 h (by decide)
theorem rq_rsN {v : Int32} : ∀ (n k : Nat) (X : MT), RQ R X → RQ R (rsN v n k X).2
  | 0, _, _, h => h
  | n + 1, k, X, h => by
    have h1 := rq_sp_X6_advance h
    unfold rsN
    exact rq_if1 (fun _ => rq_if1 (fun _ => rq_rsN n (k + 1) _ (rq_numM h1)) (fun _ => rq_numM h1)) (fun _ => h1)
theorem rq_stC {w : Int32} {X : MT} (h : RQ R X) : RQ R (stC w X).2 := by
  unfold stC
  exact rq_if1 (fun _ => h) (fun _ => rq_if1 (fun _ => rq_if1 (fun _ => rq_sp_X6_apply (rq_rsN _ _ _ h)) (fun _ => rq_rsN _ _ _ h)) (fun _ => h))
theorem rq_stmt {X : MT} (h : RQ R X) : RQ R (sp_X6_readStatement X).2 := by
  have e : sp_X6_readStatement X = stC (sp_X6_word X) (sp_X6_advance X) := sp_X6_readStatement.eq_1 X
  rw [e]
  exact rq_stC (rq_sp_X6_advance h)
theorem rq_rdN : ∀ (n k : Nat) (X : MT), RQ R X → RQ R (rdN n k X).2
  | 0, _, _, h => h
  | n + 1, k, X, h => by
    have h1 := rq_stmt h
    have h2 := rq_sp_X6_advance h1
    unfold rdN
    exact rq_if1 (fun _ => rq_if1 (fun _ => rq_rdN n (k + 1) _ h2) (fun _ => h2)) (fun _ => h1)
theorem rq_sp_X8_street (h : RQ R M) : RQ R (sp_X8_street M).2 := by
  unfold sp_X8_street sp_X6_read
  have h1 := rq_rdN 250 0 _ (rq_u2 (i := 3) (v := 0) (rq_cpM (s := 4) (s0 := 0) h (by decide)) (show 6 < 30 by decide))
  generalize rdN 250 0 (u2 (cpM M 4 0) 6 3 0) = q at h1 ⊢
  have h2 := rq_u2 (i := 0) (v := 0) h1 (show 6 < 30 by decide)
  exact rq_if1 (fun _ => rq_mk1 (rq_sp_X8_refuse h2)) (fun _ => rq_mk1 (rq_cpM h2 (by decide)))
theorem rq_sp_X8_pairs {a0 : Int32} (h : RQ R M) (hw : bd (M.1 0 0 0) 9) : RQ R (sp_X8_pairs M a0).2 := by
  have hs := rq_settle h hw
  unfold sp_X8_pairs
  generalize sp_X1_settle M = x at hs ⊢
  exact rq_if1 (fun _ => rq_if1 (fun _ => rq_mk1 hs) (fun _ => rq_mk1 hs)) (fun _ => rq_if1 (fun _ => rq_mk1 hs) (fun _ => rq_if1 (fun _ => rq_mk1 hs) (fun _ => rq_mk1 (rq_sp_X8_refuse h))))
end FrameC
