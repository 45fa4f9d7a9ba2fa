/-! ===== the reference leaves the class' part ===== -/
section FrameR
variable {R M : MT}
theorem cq_if0 {c : Prop} [Decidable c] {x y : MT} (h1 : c → CQ R x) (h2 : ¬ c → CQ R y) : CQ R (if c then x else y) := by
  by_cases q : c
  · rw [if_pos q]; exact h1 q
  · rw [if_neg q]; exact h2 q
theorem cq_it0 {n : Nat} {f : Nat → MT → MT} {b : MT} (h1 : CQ R b) (h2 : ∀ k x, CQ R x → CQ R (f k x)) : CQ R (itN n f b) := itN_inv (fun x => CQ R x) n h1 (fun k x _ hx => h2 k x hx)
theorem cq_if1 {α : Type} {c : Prop} [Decidable c] {x y : α × MT} (h1 : c → CQ R x.2) (h2 : ¬ c → CQ R y.2) : CQ R (if c then x else y).2 := by
  by_cases q : c
  · rw [if_pos q]; exact h1 q
  · rw [if_neg q]; exact h2 q
theorem cq_it1 {α : Type} {n : Nat} {f : Nat → α × MT → α × MT} {b : α × MT} (h1 : CQ R b.2) (h2 : ∀ k x, CQ R x.2 → CQ R (f k x).2) : CQ R (itN n f b).2 := itN_inv (fun x => CQ R x.2) n h1 (fun k x _ hx => h2 k x hx)
theorem cq_if2 {α β : Type} {c : Prop} [Decidable c] {x y : α × β × MT} (h1 : c → CQ R x.2.2) (h2 : ¬ c → CQ R y.2.2) : CQ R (if c then x else y).2.2 := by
  by_cases q : c
  · rw [if_pos q]; exact h1 q
  · rw [if_neg q]; exact h2 q
theorem cq_it2 {α β : Type} {n : Nat} {f : Nat → α × β × MT → α × β × MT} {b : α × β × MT} (h1 : CQ R b.2.2) (h2 : ∀ k x, CQ R x.2.2 → CQ R (f k x).2.2) : CQ R (itN n f b).2.2 := itN_inv (fun x => CQ R x.2.2) n h1 (fun k x _ hx => h2 k x hx)
theorem cq_if3 {α β γ : Type} {c : Prop} [Decidable c] {x y : α × β × γ × MT} (h1 : c → CQ R x.2.2.2) (h2 : ¬ c → CQ R y.2.2.2) : CQ R (if c then x else y).2.2.2 := by
  by_cases q : c
  · rw [if_pos q]; exact h1 q
  · rw [if_neg q]; exact h2 q
theorem cq_it3 {α β γ : Type} {n : Nat} {f : Nat → α × β × γ × MT → α × β × γ × MT} {b : α × β × γ × MT} (h1 : CQ R b.2.2.2) (h2 : ∀ k x, CQ R x.2.2.2 → CQ R (f k x).2.2.2) : CQ R (itN n f b).2.2.2 := itN_inv (fun x => CQ R x.2.2.2) n h1 (fun k x _ hx => h2 k x hx)
theorem cq_fn1 {α : Type} {p : Nat → Bool} {f : Nat → α × MT} {b : α × MT} {n i : Nat} (h1 : ∀ k, CQ R (f k).2) (h2 : CQ R b.2) : CQ R (fndN p f b n i).2 := fndN_inv (fun x : α × MT => CQ R x.2) n i (fun k _ => h1 k) h2
theorem cq_mk1 {α : Type} {a : α} {x : MT} (h : CQ R x) : CQ R (a, x).2 := h
theorem cq_mk2 {α β : Type} {a : α} {b : β} {x : MT} (h : CQ R x) : CQ R (a, b, x).2.2 := h
theorem cq_mk3 {α β γ : Type} {a : α} {b : β} {c : γ} {x : MT} (h : CQ R x) : CQ R (a, b, c, x).2.2.2 := h
theorem cq_u1 {f i : Nat} {v : Int32} (h : CQ R M) : CQ R (u1 M 5 f i v) := ⟨fun s q => (u1_ne (by omega)).trans (h.1 s q), h.2.1, h.2.2⟩
theorem cq_u2 {c i : Nat} {v : Int32} (h : CQ R M) (hc : 30 ≤ c) : CQ R (u2 M c i v) := ⟨h.1, fun d q => (u2_ne (by omega)).trans (h.2.1 d q), h.2.2⟩
theorem cq_u3 {i : Nat} {v : Int64} (h : CQ R M) : CQ R (u3 M 8 i v) := ⟨h.1, h.2.1, fun r q => (u3_ne (by omega)).trans (h.2.2 r q)⟩
theorem cq_sdN (h : CQ R M) : CQ R (sdN M 5) := cq_u1 h
theorem cq_rpM {a b c e : Int32} (h : CQ R M) : CQ R (rpM M a b c e) := ⟨h.1, fun d q => (funext fun i => if_neg (by omega)).trans (h.2.1 d q), h.2.2⟩
theorem cq_sp_X9_no {M : MT} {a0 : Int32} (h : CQ R M) : CQ R (sp_X9_no M a0).2 := by
  unfold sp_X9_no
  repeat' (first | with_reducible assumption | (intro _) | with_reducible apply cq_if0 | with_reducible apply cq_if1 | with_reducible apply cq_if2 | with_reducible apply cq_if3 | with_reducible apply cq_u2 | decide)
theorem cq_sp_X9_newWindow {M : MT} {a0 : Int32} {a1 : Int32} {a2 : Int32} (h : CQ R M) : CQ R (sp_X9_newWindow M a0 a1 a2).2 := by
  unfold sp_X9_newWindow
  repeat' (first | with_reducible assumption | (intro _) | with_reducible apply cq_if0 | with_reducible apply cq_if1 | with_reducible apply cq_if2 | with_reducible apply cq_if3 | with_reducible apply cq_u1 | decide)
theorem cq_sp_X9_newOne {M : MT} {a0 : Int32} {a1 : Int32} {a2 : Int32} (h : CQ R M) : CQ R (sp_X9_newOne M a0 a1 a2).2 := by
  unfold sp_X9_newOne
  repeat' (first | with_reducible assumption | (intro _) | with_reducible apply cq_if0 | with_reducible apply cq_if1 | with_reducible apply cq_if2 | with_reducible apply cq_if3 | with_reducible apply cq_u1 | decide)
theorem cq_st_X9_row_50 {M : MT} {a0 : Int32} {a1 : Int32} {a2 : Int32} {i : Nat} {b50 : MT} (h : CQ R b50) : CQ R (st_X9_row_50 M a0 a1 a2 i b50) := by
  unfold st_X9_row_50
  repeat' (first | with_reducible assumption | (intro _) | with_reducible apply cq_if0 | with_reducible apply cq_if1 | with_reducible apply cq_if2 | with_reducible apply cq_if3 | with_reducible apply cq_u3 | decide)
theorem cq_sp_X9_row {M : MT} {a0 : Int32} {a1 : Int32} {a2 : Int32} (h : CQ R M) : CQ R (sp_X9_row M a0 a1 a2).2 := by
  unfold sp_X9_row
  repeat' (first | with_reducible assumption | (intro _) | with_reducible apply cq_if0 | with_reducible apply cq_if1 | with_reducible apply cq_if2 | with_reducible apply cq_if3 | with_reducible apply cq_it0 | with_reducible apply cq_it1 | with_reducible apply cq_it2 | with_reducible apply cq_it3 | with_reducible apply cq_st_X9_row_50 | with_reducible apply cq_u2 | with_reducible apply cq_sp_X9_no | decide)
theorem cq_sp_X9_set {M : MT} {a0 : Int32} {a1 : Int32} {a2 : Int64} (h : CQ R M) : CQ R (sp_X9_set M a0 a1 a2).2 := by
  unfold sp_X9_set
  repeat' (first | with_reducible assumption | (intro _) | with_reducible apply cq_if0 | with_reducible apply cq_if1 | with_reducible apply cq_if2 | with_reducible apply cq_if3 | with_reducible apply cq_u3 | with_reducible apply cq_sp_X9_no | decide)
theorem cq_sp_X9_element {M : MT} {a0 : Int32} {a1 : Int32} (h : CQ R M) : CQ R (sp_X9_element M a0 a1).2 := by
  unfold sp_X9_element
  repeat' (first | with_reducible assumption | (intro _) | with_reducible apply cq_if0 | with_reducible apply cq_if1 | with_reducible apply cq_if2 | with_reducible apply cq_if3 | decide)
theorem cq_sp_X9_says {M : MT} {a0 : Int32} {a1 : Int32} (h : CQ R M) : CQ R (sp_X9_says M a0 a1).2 := by
  unfold sp_X9_says
  repeat' (first | with_reducible assumption | (intro _) | with_reducible apply cq_if0 | with_reducible apply cq_if1 | with_reducible apply cq_if2 | with_reducible apply cq_if3 | with_reducible apply cq_sp_X9_no | decide)
theorem cq_sp_X9_holds {M : MT} {a0 : Int32} (h : CQ R M) : CQ R (sp_X9_holds M a0).2 := by
  unfold sp_X9_holds
  repeat' (first | with_reducible assumption | (intro _) | with_reducible apply cq_if0 | with_reducible apply cq_if1 | with_reducible apply cq_if2 | with_reducible apply cq_if3 | decide)
theorem cq_sp_X9_show {M : MT} {a0 : Int32} {a1 : Int32} (h : CQ R M) : CQ R (sp_X9_show M a0 a1).2 := by
  unfold sp_X9_show
  repeat' (first | with_reducible assumption | (intro _) | with_reducible apply cq_if0 | with_reducible apply cq_if1 | with_reducible apply cq_if2 | with_reducible apply cq_if3 | with_reducible apply cq_u2 | with_reducible apply cq_sp_X9_no | decide)
theorem cq_sp_X9_paves {M : MT} {a0 : Int32} (h : CQ R M) : CQ R (sp_X9_paves M a0).2 := by
  unfold sp_X9_paves
  repeat' (first | with_reducible assumption | (intro _) | with_reducible apply cq_if0 | with_reducible apply cq_if1 | with_reducible apply cq_if2 | with_reducible apply cq_if3 | with_reducible apply cq_u1 | with_reducible apply cq_sp_X9_no | decide)
theorem cq_sp_X9_window {M : MT} {a0 : Int32} {a1 : Int32} {a2 : Int32} (h : CQ R M) : CQ R (sp_X9_window M a0 a1 a2).2 := by
  unfold sp_X9_window
  repeat' (first | with_reducible assumption | (intro _) | with_reducible apply cq_if0 | with_reducible apply cq_if1 | with_reducible apply cq_if2 | with_reducible apply cq_if3 | with_reducible apply cq_sp_X9_no | with_reducible apply cq_sp_X9_newWindow | decide)
theorem cq_sp_X9_person {M : MT} {a0 : Int32} {a1 : Int32} {a2 : Int32} (h : CQ R M) : CQ R (sp_X9_person M a0 a1 a2).2 := by
  unfold sp_X9_person
  repeat' (first | with_reducible assumption | (intro _) | with_reducible apply cq_if0 | with_reducible apply cq_if1 | with_reducible apply cq_if2 | with_reducible apply cq_if3 | with_reducible apply cq_sp_X9_no | with_reducible apply cq_sp_X9_newOne | decide)
theorem cq_sp_X9_put {M : MT} {a0 : Int32} {a1 : Int32} (h : CQ R M) : CQ R (sp_X9_put M a0 a1).2 := by
  unfold sp_X9_put
  repeat' (first | with_reducible assumption | (intro _) | with_reducible apply cq_if0 | with_reducible apply cq_if1 | with_reducible apply cq_if2 | with_reducible apply cq_if3 | with_reducible apply cq_u1 | with_reducible apply cq_sp_X9_no | decide)
theorem cq_sp_X9_tell {M : MT} {a0 : Int32} {a1 : Int32} (h : CQ R M) : CQ R (sp_X9_tell M a0 a1).2 := by
  unfold sp_X9_tell
  repeat' (first | with_reducible assumption | (intro _) | with_reducible apply cq_if0 | with_reducible apply cq_if1 | with_reducible apply cq_if2 | with_reducible apply cq_if3 | with_reducible apply cq_u1 | with_reducible apply cq_sp_X9_no | decide)
theorem cq_sp_X9_feed {M : MT} {a0 : Int32} (h : CQ R M) : CQ R (sp_X9_feed M a0).2 := by
  unfold sp_X9_feed
  repeat' (first | with_reducible assumption | (intro _) | with_reducible apply cq_if0 | with_reducible apply cq_if1 | with_reducible apply cq_if2 | with_reducible apply cq_if3 | with_reducible apply cq_sp_X9_no | with_reducible apply cq_u2 | decide)
theorem cq_sp_X9_wipe {M : MT} (h : CQ R M) : CQ R (sp_X9_wipe M).2 := by
  unfold sp_X9_wipe
  repeat' (first | with_reducible assumption | (intro _) | with_reducible apply cq_if0 | with_reducible apply cq_if1 | with_reducible apply cq_if2 | with_reducible apply cq_if3 | with_reducible apply cq_u2 | decide)
theorem cq_sp_X9_personOf {M : MT} {a0 : Int32} {a1 : Int32} (h : CQ R M) : CQ R (sp_X9_personOf M a0 a1).2 := by
  unfold sp_X9_personOf
  repeat' (first | with_reducible assumption | (intro _) | with_reducible apply cq_if0 | with_reducible apply cq_if1 | with_reducible apply cq_if2 | with_reducible apply cq_if3 | with_reducible apply cq_sp_X9_no | decide)
theorem cq_sp_X9_windowOf {M : MT} {a0 : Int32} {a1 : Int32} (h : CQ R M) : CQ R (sp_X9_windowOf M a0 a1).2 := by
  unfold sp_X9_windowOf
  repeat' (first | with_reducible assumption | (intro _) | with_reducible apply cq_if0 | with_reducible apply cq_if1 | with_reducible apply cq_if2 | with_reducible apply cq_if3 | with_reducible apply cq_sp_X9_no | decide)
theorem cq_sp_X9_lands {M : MT} {a0 : Int32} {a1 : Int32} {a2 : Int32} (h : CQ R M) : CQ R (sp_X9_lands M a0 a1 a2).2 := by
  unfold sp_X9_lands
  repeat' (first | with_reducible assumption | (intro _) | with_reducible apply cq_if0 | with_reducible apply cq_if1 | with_reducible apply cq_if2 | with_reducible apply cq_if3 | with_reducible apply cq_sp_X9_no | decide)
theorem cq_sp_X9_caught {M : MT} {a0 : Int32} {a1 : Int32} {a2 : Int32} (h : CQ R M) : CQ R (sp_X9_caught M a0 a1 a2).2 := by
  unfold sp_X9_caught
  repeat' (first | with_reducible assumption | (intro _) | with_reducible apply cq_if0 | with_reducible apply cq_if1 | with_reducible apply cq_if2 | with_reducible apply cq_if3 | with_reducible apply cq_sp_X9_no | decide)
theorem cq_sp_X9_slow {M : MT} {a0 : Int32} {a1 : Int32} (h : CQ R M) : CQ R (sp_X9_slow M a0 a1).2 := by
  unfold sp_X9_slow
  repeat' (first | with_reducible assumption | (intro _) | with_reducible apply cq_if0 | with_reducible apply cq_if1 | with_reducible apply cq_if2 | with_reducible apply cq_if3 | with_reducible apply cq_sp_X9_no | decide)
theorem cq_sp_X9_comes {M : MT} {a0 : Int32} {a1 : Int32} (h : CQ R M) : CQ R (sp_X9_comes M a0 a1).2 := by
  unfold sp_X9_comes
  repeat' (first | with_reducible assumption | (intro _) | with_reducible apply cq_if0 | with_reducible apply cq_if1 | with_reducible apply cq_if2 | with_reducible apply cq_if3 | with_reducible apply cq_sp_X9_no | decide)
theorem cq_sp_X9_hit {M : MT} {a0 : Int32} (h : CQ R M) : CQ R (sp_X9_hit M a0).2 := by
  unfold sp_X9_hit
  repeat' (first | with_reducible assumption | (intro _) | with_reducible apply cq_if0 | with_reducible apply cq_if1 | with_reducible apply cq_if2 | with_reducible apply cq_if3 | with_reducible apply cq_sp_X9_no | decide)
theorem cq_sp_X9_fond {M : MT} {a0 : Int32} {a1 : Int32} (h : CQ R M) : CQ R (sp_X9_fond M a0 a1).2 := by
  unfold sp_X9_fond
  repeat' (first | with_reducible assumption | (intro _) | with_reducible apply cq_if0 | with_reducible apply cq_if1 | with_reducible apply cq_if2 | with_reducible apply cq_if3 | with_reducible apply cq_sp_X9_no | decide)
theorem cq_sp_X9_queue {M : MT} {a0 : Int32} {a1 : Int32} (h : CQ R M) : CQ R (sp_X9_queue M a0 a1).2 := by
  unfold sp_X9_queue
  repeat' (first | with_reducible assumption | (intro _) | with_reducible apply cq_if0 | with_reducible apply cq_if1 | with_reducible apply cq_if2 | with_reducible apply cq_if3 | with_reducible apply cq_sp_X9_no | decide)
theorem cq_sp_X9_rival {M : MT} {a0 : Int32} {a1 : Int32} {a2 : Int32} {a3 : Int32} (h : CQ R M) : CQ R (sp_X9_rival M a0 a1 a2 a3).2 := by
  unfold sp_X9_rival
  repeat' (first | with_reducible assumption | (intro _) | with_reducible apply cq_if0 | with_reducible apply cq_if1 | with_reducible apply cq_if2 | with_reducible apply cq_if3 | with_reducible apply cq_sp_X9_no | decide)
theorem cq_sp_X9_lentFor {M : MT} {a0 : Int32} {a1 : Int32} (h : CQ R M) : CQ R (sp_X9_lentFor M a0 a1).2 := by
  unfold sp_X9_lentFor
  repeat' (first | with_reducible assumption | (intro _) | with_reducible apply cq_if0 | with_reducible apply cq_if1 | with_reducible apply cq_if2 | with_reducible apply cq_if3 | with_reducible apply cq_sp_X9_no | decide)
theorem cq_sp_X9_catches {M : MT} {a0 : Int32} (h : CQ R M) : CQ R (sp_X9_catches M a0).2 := by
  unfold sp_X9_catches
  repeat' (first | with_reducible assumption | (intro _) | with_reducible apply cq_if0 | with_reducible apply cq_if1 | with_reducible apply cq_if2 | with_reducible apply cq_if3 | with_reducible apply cq_sp_X9_no | decide)
theorem cq_sp_X9_between {M : MT} {a0 : Int32} {a1 : Int32} (h : CQ R M) : CQ R (sp_X9_between M a0 a1).2 := by
  unfold sp_X9_between
  repeat' (first | with_reducible assumption | (intro _) | with_reducible apply cq_if0 | with_reducible apply cq_if1 | with_reducible apply cq_if2 | with_reducible apply cq_if3 | with_reducible apply cq_sp_X9_no | decide)
theorem cq_sp_X9_seed {M : MT} {a0 : Int32} (h : CQ R M) : CQ R (sp_X9_seed M a0).2 := by
  unfold sp_X9_seed
  repeat' (first | with_reducible assumption | (intro _) | with_reducible apply cq_if0 | with_reducible apply cq_if1 | with_reducible apply cq_if2 | with_reducible apply cq_if3 | with_reducible apply cq_u1 | decide)
theorem cq_sp_X9_off {M : MT} {a0 : Int32} (h : CQ R M) : CQ R (sp_X9_off M a0).2 := by
  unfold sp_X9_off
  repeat' (first | with_reducible assumption | (intro _) | with_reducible apply cq_if0 | with_reducible apply cq_if1 | with_reducible apply cq_if2 | with_reducible apply cq_if3 | with_reducible apply cq_it0 | with_reducible apply cq_it1 | with_reducible apply cq_it2 | with_reducible apply cq_it3 | with_reducible apply cq_sp_X9_no | decide)
theorem cq_sp_X9_gaps {M : MT} (h : CQ R M) : CQ R (sp_X9_gaps M).2 := by
  unfold sp_X9_gaps
  repeat' (first | with_reducible assumption | (intro _) | with_reducible apply cq_if0 | with_reducible apply cq_if1 | with_reducible apply cq_if2 | with_reducible apply cq_if3 | with_reducible apply cq_it0 | with_reducible apply cq_it1 | with_reducible apply cq_it2 | with_reducible apply cq_it3 | decide)
theorem cq_sp_X9_reached {M : MT} {a0 : Int32} (h : CQ R M) : CQ R (sp_X9_reached M a0).2 := by
  unfold sp_X9_reached
  repeat' (first | with_reducible assumption | (intro _) | with_reducible apply cq_if0 | with_reducible apply cq_if1 | with_reducible apply cq_if2 | with_reducible apply cq_if3 | with_reducible apply cq_it0 | with_reducible apply cq_it1 | with_reducible apply cq_it2 | with_reducible apply cq_it3 | with_reducible apply cq_sp_X9_no | decide)
theorem cq_sp_X9_ofKind {M : MT} {a0 : Int32} (h : CQ R M) : CQ R (sp_X9_ofKind M a0).2 := by
  unfold sp_X9_ofKind
  repeat' (first | with_reducible assumption | (intro _) | with_reducible apply cq_if0 | with_reducible apply cq_if1 | with_reducible apply cq_if2 | with_reducible apply cq_if3 | with_reducible apply cq_it0 | with_reducible apply cq_it1 | with_reducible apply cq_it2 | with_reducible apply cq_it3 | with_reducible apply cq_sp_X9_no | decide)
theorem cq_sp_X9_late {M : MT} {a0 : Int32} (h : CQ R M) : CQ R (sp_X9_late M a0).2 := by
  unfold sp_X9_late
  repeat' (first | with_reducible assumption | (intro _) | with_reducible apply cq_if0 | with_reducible apply cq_if1 | with_reducible apply cq_if2 | with_reducible apply cq_if3 | with_reducible apply cq_it0 | with_reducible apply cq_it1 | with_reducible apply cq_it2 | with_reducible apply cq_it3 | with_reducible apply cq_sp_X9_no | decide)
theorem cq_sp_X9_due {M : MT} {a0 : Int32} (h : CQ R M) : CQ R (sp_X9_due M a0).2 := by
  unfold sp_X9_due
  repeat' (first | with_reducible assumption | (intro _) | with_reducible apply cq_if0 | with_reducible apply cq_if1 | with_reducible apply cq_if2 | with_reducible apply cq_if3 | with_reducible apply cq_it0 | with_reducible apply cq_it1 | with_reducible apply cq_it2 | with_reducible apply cq_it3 | with_reducible apply cq_sp_X9_no | decide)
theorem cq_sp_X9_having {M : MT} {a0 : Int32} (h : CQ R M) : CQ R (sp_X9_having M a0).2 := by
  unfold sp_X9_having
  repeat' (first | with_reducible assumption | (intro _) | with_reducible apply cq_if0 | with_reducible apply cq_if1 | with_reducible apply cq_if2 | with_reducible apply cq_if3 | with_reducible apply cq_it0 | with_reducible apply cq_it1 | with_reducible apply cq_it2 | with_reducible apply cq_it3 | with_reducible apply cq_sp_X9_no | decide)
theorem cq_sp_X9_throwsFor {M : MT} {a0 : Int32} {a1 : Int32} {a2 : Int32} (h : CQ R M) : CQ R (sp_X9_throwsFor M a0 a1 a2).2 := by
  unfold sp_X9_throwsFor
  repeat' (first | with_reducible assumption | (intro _) | with_reducible apply cq_if0 | with_reducible apply cq_if1 | with_reducible apply cq_if2 | with_reducible apply cq_if3 | with_reducible apply cq_it0 | with_reducible apply cq_it1 | with_reducible apply cq_it2 | with_reducible apply cq_it3 | with_reducible apply cq_sp_X9_no | decide)
theorem cq_sp_X9_longest {M : MT} {a0 : Int32} (h : CQ R M) : CQ R (sp_X9_longest M a0).2 := by
  unfold sp_X9_longest
  repeat' (first | with_reducible assumption | (intro _) | with_reducible apply cq_if0 | with_reducible apply cq_if1 | with_reducible apply cq_if2 | with_reducible apply cq_if3 | with_reducible apply cq_it0 | with_reducible apply cq_it1 | with_reducible apply cq_it2 | with_reducible apply cq_it3 | with_reducible apply cq_sp_X9_no | decide)
theorem cq_sp_X9_whose {M : MT} {a0 : Int32} {a1 : Int32} {a2 : Int32} (h : CQ R M) : CQ R (sp_X9_whose M a0 a1 a2).2 := by
  unfold sp_X9_whose
  repeat' (first | with_reducible assumption | (intro _) | with_reducible apply cq_if0 | with_reducible apply cq_if1 | with_reducible apply cq_if2 | with_reducible apply cq_if3 | with_reducible apply cq_it0 | with_reducible apply cq_it1 | with_reducible apply cq_it2 | with_reducible apply cq_it3 | with_reducible apply cq_sp_X9_no | decide)
theorem cq_sp_X9_best {M : MT} {a0 : Int32} (h : CQ R M) : CQ R (sp_X9_best M a0).2 := by
  unfold sp_X9_best
  repeat' (first | with_reducible assumption | (intro _) | with_reducible apply cq_if0 | with_reducible apply cq_if1 | with_reducible apply cq_if2 | with_reducible apply cq_if3 | with_reducible apply cq_sp_X9_no | with_reducible apply cq_it0 | with_reducible apply cq_it1 | with_reducible apply cq_it2 | with_reducible apply cq_it3 | decide)
theorem cq_sp_X9_bed {M : MT} {a0 : Int32} (h : CQ R M) : CQ R (sp_X9_bed M a0).2 := by
  unfold sp_X9_bed
  repeat' (first | with_reducible assumption | (intro _) | with_reducible apply cq_if0 | with_reducible apply cq_if1 | with_reducible apply cq_if2 | with_reducible apply cq_if3 | with_reducible apply cq_it0 | with_reducible apply cq_it1 | with_reducible apply cq_it2 | with_reducible apply cq_it3 | with_reducible apply cq_sp_X9_no | decide)
theorem cq_sp_X9_fondest {M : MT} {a0 : Int32} (h : CQ R M) : CQ R (sp_X9_fondest M a0).2 := by
  unfold sp_X9_fondest
  repeat' (first | with_reducible assumption | (intro _) | with_reducible apply cq_if0 | with_reducible apply cq_if1 | with_reducible apply cq_if2 | with_reducible apply cq_if3 | with_reducible apply cq_it0 | with_reducible apply cq_it1 | with_reducible apply cq_it2 | with_reducible apply cq_it3 | with_reducible apply cq_sp_X9_no | decide)
theorem cq_sp_X9_admirer {M : MT} {a0 : Int32} (h : CQ R M) : CQ R (sp_X9_admirer M a0).2 := by
  unfold sp_X9_admirer
  repeat' (first | with_reducible assumption | (intro _) | with_reducible apply cq_if0 | with_reducible apply cq_if1 | with_reducible apply cq_if2 | with_reducible apply cq_if3 | with_reducible apply cq_it0 | with_reducible apply cq_it1 | with_reducible apply cq_it2 | with_reducible apply cq_it3 | with_reducible apply cq_sp_X9_no | decide)
theorem cq_sp_X9_judge {M : MT} {a0 : Int32} {a1 : Int32} (h : CQ R M) : CQ R (sp_X9_judge M a0 a1).2 := by
  unfold sp_X9_judge
  repeat' (first | with_reducible assumption | (intro _) | with_reducible apply cq_if0 | with_reducible apply cq_if1 | with_reducible apply cq_if2 | with_reducible apply cq_if3 | with_reducible apply cq_sp_X9_no | decide)
theorem cq_sp_X9_status {M : MT} {a0 : Int32} (h : CQ R M) : CQ R (sp_X9_status M a0).2 := by
  unfold sp_X9_status
  repeat' (first | with_reducible assumption | (intro _) | with_reducible apply cq_if0 | with_reducible apply cq_if1 | with_reducible apply cq_if2 | with_reducible apply cq_if3 | with_reducible apply cq_it0 | with_reducible apply cq_it1 | with_reducible apply cq_it2 | with_reducible apply cq_it3 | decide)
theorem cq_st_X9_astray_12 {M : MT} {a0 : Int32} {i : Nat} {b12 : Int32 × MT} (h : CQ R b12.2) : CQ R (st_X9_astray_12 M a0 i b12).2 := by
  unfold st_X9_astray_12
  repeat' (first | with_reducible assumption | (intro _) | with_reducible apply cq_if0 | with_reducible apply cq_if1 | with_reducible apply cq_if2 | with_reducible apply cq_if3 | with_reducible apply cq_u1 | decide)
theorem cq_sp_X9_astray {M : MT} {a0 : Int32} (h : CQ R M) : CQ R (sp_X9_astray M a0).2 := by
  unfold sp_X9_astray
  repeat' (first | with_reducible assumption | (intro _) | with_reducible apply cq_if0 | with_reducible apply cq_if1 | with_reducible apply cq_if2 | with_reducible apply cq_if3 | with_reducible apply cq_it0 | with_reducible apply cq_it1 | with_reducible apply cq_it2 | with_reducible apply cq_it3 | with_reducible apply cq_st_X9_astray_12 | with_reducible apply cq_u1 | decide)
theorem cq_st_X9_windsFor_14 {M : MT} {a0 : Int32} {a1 : Int32} {a2 : Int32} {a3 : Int32} {i : Nat} {b14 : Int32 × MT} (h : CQ R b14.2) : CQ R (st_X9_windsFor_14 M a0 a1 a2 a3 i b14).2 := by
  unfold st_X9_windsFor_14
  repeat' (first | with_reducible assumption | (intro _) | with_reducible apply cq_if0 | with_reducible apply cq_if1 | with_reducible apply cq_if2 | with_reducible apply cq_if3 | with_reducible apply cq_u1 | decide)
theorem cq_sp_X9_windsFor {M : MT} {a0 : Int32} {a1 : Int32} {a2 : Int32} {a3 : Int32} (h : CQ R M) : CQ R (sp_X9_windsFor M a0 a1 a2 a3).2 := by
  unfold sp_X9_windsFor
  repeat' (first | with_reducible assumption | (intro _) | with_reducible apply cq_if0 | with_reducible apply cq_if1 | with_reducible apply cq_if2 | with_reducible apply cq_if3 | with_reducible apply cq_it0 | with_reducible apply cq_it1 | with_reducible apply cq_it2 | with_reducible apply cq_it3 | with_reducible apply cq_st_X9_windsFor_14 | with_reducible apply cq_u1 | decide)
theorem cq_sp_X9_open {M : MT} {a0 : Int32} {a1 : Int32} (h : CQ R M) : CQ R (sp_X9_open M a0 a1).2 := by
  unfold sp_X9_open
  repeat' (first | with_reducible assumption | (intro _) | with_reducible apply cq_if0 | with_reducible apply cq_if1 | with_reducible apply cq_if2 | with_reducible apply cq_if3 | with_reducible apply cq_sp_X9_astray | with_reducible apply cq_sp_X9_no | decide)
theorem cq_sp_X9_chance {M : MT} {a0 : Int32} {a1 : Int32} {a2 : Int32} {a3 : Int32} (h : CQ R M) : CQ R (sp_X9_chance M a0 a1 a2 a3).2 := by
  unfold sp_X9_chance
  repeat' (first | with_reducible assumption | (intro _) | with_reducible apply cq_if0 | with_reducible apply cq_if1 | with_reducible apply cq_if2 | with_reducible apply cq_if3 | with_reducible apply cq_sp_X9_windsFor | with_reducible apply cq_sp_X9_no | decide)
theorem cq_st_X9_safest_31 {M : MT} {a0 : Int32} {a1 : Int32} {i : Nat} {b31 : Int32 × Int32 × MT} (h : CQ R b31.2.2) : CQ R (st_X9_safest_31 M a0 a1 i b31).2.2 := by
  unfold st_X9_safest_31
  repeat' (first | with_reducible assumption | (intro _) | with_reducible apply cq_if0 | with_reducible apply cq_if1 | with_reducible apply cq_if2 | with_reducible apply cq_if3 | with_reducible apply cq_sp_X9_windsFor | decide)
theorem cq_safe {M : MT} {a0 a1 : Int32} {n : Nat} (h : CQ R M) : CQ R (itN n (st_X9_safest_31 M a0 a1) ((-1), 0, M)).2.2 := cq_it2 h (fun k x hx => cq_st_X9_safest_31 hx)
theorem cq_safe2 {M : MT} {a0 a1 : Int32} {x : Int32 × Int32 × MT} (h : CQ R M) (key : CQ R x.2.2) : CQ R (if (sp_X9_isOne M a0) = true then if (sp_X9_isWindow M a1) = true then (x.1, x.2.2) else ((sp_X9_no M (-2)).1, (sp_X9_no M (-2)).2) else ((sp_X9_no M (-2)).1, (sp_X9_no M (-2)).2)).2 :=
  cq_if1 (fun _ => cq_if1 (fun _ => cq_mk1 key) (fun _ => cq_mk1 (cq_sp_X9_no h))) (fun _ => cq_mk1 (cq_sp_X9_no h))
theorem cq_sp_X9_safest {M : MT} {a0 : Int32} {a1 : Int32} (h : CQ R M) : CQ R (sp_X9_safest M a0 a1).2 := by
  rw [sp_X9_safest.eq_1]
  exact cq_safe2 h (cq_safe h)
theorem cq_st_X9_windFor_41 {M : MT} {a0 : Int32} {a1 : Int32} {a2 : Int32} {a3 : Int32} {i : Nat} {b41 : Int32 × MT} (h : CQ R b41.2) : CQ R (st_X9_windFor_41 M a0 a1 a2 a3 i b41).2 := by
  unfold st_X9_windFor_41
  repeat' (first | with_reducible assumption | (intro _) | with_reducible apply cq_if0 | with_reducible apply cq_if1 | with_reducible apply cq_if2 | with_reducible apply cq_if3 | with_reducible apply cq_u1 | decide)
theorem cq_sp_X9_windFor {M : MT} {a0 : Int32} {a1 : Int32} {a2 : Int32} {a3 : Int32} (h : CQ R M) : CQ R (sp_X9_windFor M a0 a1 a2 a3).2 := by
  unfold sp_X9_windFor
  repeat' (first | with_reducible assumption | (intro _) | with_reducible apply cq_if0 | with_reducible apply cq_if1 | with_reducible apply cq_if2 | with_reducible apply cq_if3 | with_reducible apply cq_it0 | with_reducible apply cq_it1 | with_reducible apply cq_it2 | with_reducible apply cq_it3 | with_reducible apply cq_st_X9_windFor_41 | with_reducible apply cq_u1 | with_reducible apply cq_sp_X9_no | decide)
theorem cq_st_X9_winds_95 {M : MT} {a0 : Int32} {a1 : Int32} {i : Nat} {b95 : Int32 × MT} (h : CQ R b95.2) : CQ R (st_X9_winds_95 M a0 a1 i b95).2 := by
  unfold st_X9_winds_95
  repeat' (first | with_reducible assumption | (intro _) | with_reducible apply cq_if0 | with_reducible apply cq_if1 | with_reducible apply cq_if2 | with_reducible apply cq_if3 | with_reducible apply cq_it0 | with_reducible apply cq_it1 | with_reducible apply cq_it2 | with_reducible apply cq_it3 | with_reducible apply cq_u1 | decide)
theorem cq_sp_X9_winds {M : MT} {a0 : Int32} {a1 : Int32} (h : CQ R M) : CQ R (sp_X9_winds M a0 a1).2 := by
  unfold sp_X9_winds
  repeat' (first | with_reducible assumption | (intro _) | with_reducible apply cq_if0 | with_reducible apply cq_if1 | with_reducible apply cq_if2 | with_reducible apply cq_if3 | with_reducible apply cq_fn1 | with_reducible apply cq_it0 | with_reducible apply cq_it1 | with_reducible apply cq_it2 | with_reducible apply cq_it3 | with_reducible apply cq_st_X9_winds_95 | with_reducible apply cq_u1 | with_reducible apply cq_sp_X9_no | decide)
theorem cq_st_X9_kinds_122 {M : MT} {a0 : Int32} {a1 : Int32} {a2 : Int32} {i : Nat} {b122 : Int32 × MT} (h : CQ R b122.2) : CQ R (st_X9_kinds_122 M a0 a1 a2 i b122).2 := by
  unfold st_X9_kinds_122
  repeat' (first | with_reducible assumption | (intro _) | with_reducible apply cq_if0 | with_reducible apply cq_if1 | with_reducible apply cq_if2 | with_reducible apply cq_if3 | with_reducible apply cq_it0 | with_reducible apply cq_it1 | with_reducible apply cq_it2 | with_reducible apply cq_it3 | with_reducible apply cq_u1 | decide)
theorem cq_sp_X9_kinds {M : MT} {a0 : Int32} {a1 : Int32} {a2 : Int32} (h : CQ R M) : CQ R (sp_X9_kinds M a0 a1 a2).2 := by
  unfold sp_X9_kinds
  repeat' (first | with_reducible assumption | (intro _) | with_reducible apply cq_if0 | with_reducible apply cq_if1 | with_reducible apply cq_if2 | with_reducible apply cq_if3 | with_reducible apply cq_fn1 | with_reducible apply cq_sp_X9_no | with_reducible apply cq_it0 | with_reducible apply cq_it1 | with_reducible apply cq_it2 | with_reducible apply cq_it3 | with_reducible apply cq_st_X9_kinds_122 | with_reducible apply cq_u1 | decide)
theorem cq_sp_X9_throwsOne {M : MT} {a0 : Int32} {a1 : Int32} {a2 : Int32} (h : CQ R M) : CQ R (sp_X9_throwsOne M a0 a1 a2).2 := by
  unfold sp_X9_throwsOne
  repeat' (first | with_reducible assumption | (intro _) | with_reducible apply cq_if0 | with_reducible apply cq_if1 | with_reducible apply cq_if2 | with_reducible apply cq_if3 | with_reducible apply cq_u1 | decide)
theorem cq_sp_X9_thrown {M : MT} {a0 : Int32} {a1 : Int32} {a2 : Int32} (h : CQ R M) : CQ R (sp_X9_thrown M a0 a1 a2).2 := by
  unfold sp_X9_thrown
  repeat' (first | with_reducible assumption | (intro _) | with_reducible apply cq_if0 | with_reducible apply cq_if1 | with_reducible apply cq_if2 | with_reducible apply cq_if3 | with_reducible apply cq_sp_X9_throwsOne | with_reducible apply cq_sp_X9_no | decide)
theorem cq_st_X9_passes_24 {M : MT} {i : Nat} {b24 : MT} (h : CQ R b24) : CQ R (st_X9_passes_24 M i b24) := by
  unfold st_X9_passes_24
  repeat' (first | with_reducible assumption | (intro _) | with_reducible apply cq_if0 | with_reducible apply cq_if1 | with_reducible apply cq_if2 | with_reducible apply cq_if3 | with_reducible apply cq_u1 | decide)
theorem cq_sp_X9_passes {M : MT} (h : CQ R M) : CQ R (sp_X9_passes M) := by
  unfold sp_X9_passes
  repeat' (first | with_reducible assumption | (intro _) | with_reducible apply cq_if0 | with_reducible apply cq_if1 | with_reducible apply cq_if2 | with_reducible apply cq_if3 | with_reducible apply cq_it0 | with_reducible apply cq_it1 | with_reducible apply cq_it2 | with_reducible apply cq_it3 | with_reducible apply cq_st_X9_passes_24 | with_reducible apply cq_u1 | decide)
theorem cq_st_X9_days_19 {M : MT} {a0 : Int32} {i : Nat} {b19 : MT} (h : CQ R b19) : CQ R (st_X9_days_19 M a0 i b19) := by
  unfold st_X9_days_19
  repeat' (first | with_reducible assumption | (intro _) | with_reducible apply cq_if0 | with_reducible apply cq_if1 | with_reducible apply cq_if2 | with_reducible apply cq_if3 | with_reducible apply cq_sp_X9_passes | decide)
theorem cq_sp_X9_days {M : MT} {a0 : Int32} (h : CQ R M) : CQ R (sp_X9_days M a0).2 := by
  unfold sp_X9_days
  repeat' (first | with_reducible assumption | (intro _) | with_reducible apply cq_if0 | with_reducible apply cq_if1 | with_reducible apply cq_if2 | with_reducible apply cq_if3 | with_reducible apply cq_it0 | with_reducible apply cq_it1 | with_reducible apply cq_it2 | with_reducible apply cq_it3 | with_reducible apply cq_st_X9_days_19 | with_reducible apply cq_sp_X9_no | decide)
theorem cq_sp_X9_draw {M : MT} {a0 : Int32} (h : CQ R M) : CQ R (sp_X9_draw M a0).2 := by
  unfold sp_X9_draw
  repeat' (first | with_reducible assumption | (intro _) | with_reducible apply cq_if0 | with_reducible apply cq_if1 | with_reducible apply cq_if2 | with_reducible apply cq_if3 | with_reducible apply cq_u1 | decide)
theorem cq_st_X9_drawn_35 {M : MT} {a0 : Int32} {i : Nat} {b35 : Int32 × MT} (h : CQ R b35.2) : CQ R (st_X9_drawn_35 M a0 i b35).2 := by
  unfold st_X9_drawn_35
  repeat' (first | with_reducible assumption | (intro _) | with_reducible apply cq_if0 | with_reducible apply cq_if1 | with_reducible apply cq_if2 | with_reducible apply cq_if3 | with_reducible apply cq_sp_X9_throwsOne | with_reducible apply cq_sdN | with_reducible apply cq_u1 | with_reducible apply cq_sp_X9_draw | with_reducible apply cq_sp_X9_passes | decide)
theorem cq_sp_X9_drawn {M : MT} {a0 : Int32} (h : CQ R M) : CQ R (sp_X9_drawn M a0).2 := by
  unfold sp_X9_drawn
  repeat' (first | with_reducible assumption | (intro _) | with_reducible apply cq_if0 | with_reducible apply cq_if1 | with_reducible apply cq_if2 | with_reducible apply cq_if3 | with_reducible apply cq_sp_X9_no | with_reducible apply cq_it0 | with_reducible apply cq_it1 | with_reducible apply cq_it2 | with_reducible apply cq_it3 | with_reducible apply cq_st_X9_drawn_35 | decide)
theorem cq_st_X9_keepO_109 {M : MT} {i : Nat} {b109 : MT} (h : CQ R b109) : CQ R (st_X9_keepO_109 M i b109) := by
  unfold st_X9_keepO_109
  repeat' (first | with_reducible assumption | (intro _) | with_reducible apply cq_if0 | with_reducible apply cq_if1 | with_reducible apply cq_if2 | with_reducible apply cq_if3 | with_reducible apply cq_u2 | decide)
theorem cq_st_X9_keepO_2 {M : MT} {i : Nat} {b2 : MT} (h : CQ R b2) : CQ R (st_X9_keepO_2 M i b2) := by
  unfold st_X9_keepO_2
  repeat' (first | with_reducible assumption | (intro _) | with_reducible apply cq_if0 | with_reducible apply cq_if1 | with_reducible apply cq_if2 | with_reducible apply cq_if3 | with_reducible apply cq_u2 | decide)
theorem cq_sp_X9_keepO {M : MT} (h : CQ R M) : CQ R (sp_X9_keepO M) := by
  unfold sp_X9_keepO
  repeat' (first | with_reducible assumption | (intro _) | with_reducible apply cq_if0 | with_reducible apply cq_if1 | with_reducible apply cq_if2 | with_reducible apply cq_if3 | with_reducible apply cq_u2 | with_reducible apply cq_it0 | with_reducible apply cq_it1 | with_reducible apply cq_it2 | with_reducible apply cq_it3 | with_reducible apply cq_st_X9_keepO_109 | with_reducible apply cq_st_X9_keepO_2 | decide)
theorem cq_st_X9_againO_109 {M : MT} {i : Nat} {b109 : MT} (h : CQ R b109) : CQ R (st_X9_againO_109 M i b109) := by
  unfold st_X9_againO_109
  repeat' (first | with_reducible assumption | (intro _) | with_reducible apply cq_if0 | with_reducible apply cq_if1 | with_reducible apply cq_if2 | with_reducible apply cq_if3 | with_reducible apply cq_u1 | decide)
theorem cq_st_X9_againO_2 {M : MT} {i : Nat} {b2 : MT} (h : CQ R b2) : CQ R (st_X9_againO_2 M i b2) := by
  unfold st_X9_againO_2
  repeat' (first | with_reducible assumption | (intro _) | with_reducible apply cq_if0 | with_reducible apply cq_if1 | with_reducible apply cq_if2 | with_reducible apply cq_if3 | with_reducible apply cq_u1 | decide)
theorem cq_sp_X9_againO {M : MT} (h : CQ R M) : CQ R (sp_X9_againO M) := by
  unfold sp_X9_againO
  repeat' (first | with_reducible assumption | (intro _) | with_reducible apply cq_if0 | with_reducible apply cq_if1 | with_reducible apply cq_if2 | with_reducible apply cq_if3 | with_reducible apply cq_u1 | with_reducible apply cq_it0 | with_reducible apply cq_it1 | with_reducible apply cq_it2 | with_reducible apply cq_it3 | with_reducible apply cq_st_X9_againO_109 | with_reducible apply cq_st_X9_againO_2 | decide)
theorem cq_st_X9_keepB_109 {M : MT} {i : Nat} {b109 : MT} (h : CQ R b109) : CQ R (st_X9_keepB_109 M i b109) := by
  unfold st_X9_keepB_109
  repeat' (first | with_reducible assumption | (intro _) | with_reducible apply cq_if0 | with_reducible apply cq_if1 | with_reducible apply cq_if2 | with_reducible apply cq_if3 | with_reducible apply cq_u2 | decide)
theorem cq_st_X9_keepB_2 {M : MT} {i : Nat} {b2 : MT} (h : CQ R b2) : CQ R (st_X9_keepB_2 M i b2) := by
  unfold st_X9_keepB_2
  repeat' (first | with_reducible assumption | (intro _) | with_reducible apply cq_if0 | with_reducible apply cq_if1 | with_reducible apply cq_if2 | with_reducible apply cq_if3 | with_reducible apply cq_u2 | decide)
theorem cq_sp_X9_keepB {M : MT} (h : CQ R M) : CQ R (sp_X9_keepB M) := by
  unfold sp_X9_keepB
  repeat' (first | with_reducible assumption | (intro _) | with_reducible apply cq_if0 | with_reducible apply cq_if1 | with_reducible apply cq_if2 | with_reducible apply cq_if3 | with_reducible apply cq_u2 | with_reducible apply cq_it0 | with_reducible apply cq_it1 | with_reducible apply cq_it2 | with_reducible apply cq_it3 | with_reducible apply cq_st_X9_keepB_109 | with_reducible apply cq_st_X9_keepB_2 | decide)
theorem cq_st_X9_againB_109 {M : MT} {i : Nat} {b109 : MT} (h : CQ R b109) : CQ R (st_X9_againB_109 M i b109) := by
  unfold st_X9_againB_109
  repeat' (first | with_reducible assumption | (intro _) | with_reducible apply cq_if0 | with_reducible apply cq_if1 | with_reducible apply cq_if2 | with_reducible apply cq_if3 | with_reducible apply cq_u1 | decide)
theorem cq_st_X9_againB_2 {M : MT} {i : Nat} {b2 : MT} (h : CQ R b2) : CQ R (st_X9_againB_2 M i b2) := by
  unfold st_X9_againB_2
  repeat' (first | with_reducible assumption | (intro _) | with_reducible apply cq_if0 | with_reducible apply cq_if1 | with_reducible apply cq_if2 | with_reducible apply cq_if3 | with_reducible apply cq_u1 | decide)
theorem cq_sp_X9_againB {M : MT} (h : CQ R M) : CQ R (sp_X9_againB M) := by
  unfold sp_X9_againB
  repeat' (first | with_reducible assumption | (intro _) | with_reducible apply cq_if0 | with_reducible apply cq_if1 | with_reducible apply cq_if2 | with_reducible apply cq_if3 | with_reducible apply cq_u1 | with_reducible apply cq_it0 | with_reducible apply cq_it1 | with_reducible apply cq_it2 | with_reducible apply cq_it3 | with_reducible apply cq_st_X9_againB_109 | with_reducible apply cq_st_X9_againB_2 | decide)
theorem cq_sp_X9_image {M : MT} (h : CQ R M) : CQ R (sp_X9_image M).2 := by
  unfold sp_X9_image
  repeat' (first | with_reducible assumption | (intro _) | with_reducible apply cq_if0 | with_reducible apply cq_if1 | with_reducible apply cq_if2 | with_reducible apply cq_if3 | with_reducible apply cq_sp_X9_keepO | with_reducible apply cq_u2 | decide)
theorem cq_st_X9_back_24 {M : MT} {i : Nat} {b24 : MT} (h : CQ R b24) : CQ R (st_X9_back_24 M i b24) := by
  unfold st_X9_back_24
  repeat' (first | with_reducible assumption | (intro _) | with_reducible apply cq_if0 | with_reducible apply cq_if1 | with_reducible apply cq_if2 | with_reducible apply cq_if3 | with_reducible apply cq_u2 | decide)
theorem cq_sp_X9_back {M : MT} (h : CQ R M) : CQ R (sp_X9_back M).2 := by
  unfold sp_X9_back
  repeat' (first | with_reducible assumption | (intro _) | with_reducible apply cq_if0 | with_reducible apply cq_if1 | with_reducible apply cq_if2 | with_reducible apply cq_if3 | with_reducible apply cq_sp_X9_no | with_reducible apply cq_it0 | with_reducible apply cq_it1 | with_reducible apply cq_it2 | with_reducible apply cq_it3 | with_reducible apply cq_st_X9_back_24 | with_reducible apply cq_sp_X9_againO | decide)
theorem cq_st_X9_move_40 {M : MT} {a0 : Int32} {a1 : Int32} {i : Nat} {b40 : Int32 × Int32 × MT} (h : CQ R b40.2.2) : CQ R (st_X9_move_40 M a0 a1 i b40).2.2 := by
  unfold st_X9_move_40
  repeat' (first | with_reducible assumption | (intro _) | with_reducible apply cq_if0 | with_reducible apply cq_if1 | with_reducible apply cq_if2 | with_reducible apply cq_if3 | with_reducible apply cq_it0 | with_reducible apply cq_it1 | with_reducible apply cq_it2 | with_reducible apply cq_it3 | with_reducible apply cq_u1 | decide)
theorem cq_sp_X9_move {M : MT} {a0 : Int32} {a1 : Int32} (h : CQ R M) : CQ R (sp_X9_move M a0 a1).2 := by
  unfold sp_X9_move
  repeat' (first | with_reducible assumption | (intro _) | with_reducible apply cq_if0 | with_reducible apply cq_if1 | with_reducible apply cq_if2 | with_reducible apply cq_if3 | with_reducible apply cq_it0 | with_reducible apply cq_it1 | with_reducible apply cq_it2 | with_reducible apply cq_it3 | with_reducible apply cq_st_X9_move_40 | with_reducible apply cq_u1 | with_reducible apply cq_sp_X9_no | decide)
theorem cq_st_X9_behind_90 {M : MT} {a0 : Int32} {a1 : Int32} {a2 : Int32} {i : Nat} {b90 : Int32 × Int32 × Int32 × MT} (h : CQ R b90.2.2.2) : CQ R (st_X9_behind_90 M a0 a1 a2 i b90).2.2.2 := by
  unfold st_X9_behind_90
  repeat' (first | with_reducible assumption | (intro _) | with_reducible apply cq_if0 | with_reducible apply cq_if1 | with_reducible apply cq_if2 | with_reducible apply cq_if3 | with_reducible apply cq_u1 | decide)
theorem cq_sp_X9_behind {M : MT} {a0 : Int32} {a1 : Int32} {a2 : Int32} (h : CQ R M) : CQ R (sp_X9_behind M a0 a1 a2).2 := by
  unfold sp_X9_behind
  repeat' (first | with_reducible assumption | (intro _) | with_reducible apply cq_if0 | with_reducible apply cq_if1 | with_reducible apply cq_if2 | with_reducible apply cq_if3 | with_reducible apply cq_it0 | with_reducible apply cq_it1 | with_reducible apply cq_it2 | with_reducible apply cq_it3 | with_reducible apply cq_st_X9_behind_90 | with_reducible apply cq_sp_X9_keepB | with_reducible apply cq_sp_X9_againB | with_reducible apply cq_sp_X9_no | decide)
theorem cq_st_X9_pairs_87 {M : MT} {a0 : Int32} {i : Nat} {b87 : MT} (h : CQ R b87) : CQ R (st_X9_pairs_87 M a0 i b87) := by
  unfold st_X9_pairs_87
  repeat' (first | with_reducible assumption | (intro _) | with_reducible apply cq_if0 | with_reducible apply cq_if1 | with_reducible apply cq_if2 | with_reducible apply cq_if3 | with_reducible apply cq_u1 | decide)
theorem cq_st_X9_pairs_60 {M : MT} {a0 : Int32} {i : Nat} {b60 : MT} (h : CQ R b60) : CQ R (st_X9_pairs_60 M a0 i b60) := by
  unfold st_X9_pairs_60
  repeat' (first | with_reducible assumption | (intro _) | with_reducible apply cq_if0 | with_reducible apply cq_if1 | with_reducible apply cq_if2 | with_reducible apply cq_if3 | with_reducible apply cq_u2 | decide)
theorem cq_st_X9_pairs_27 {M : MT} {a0 : Int32} {i : Nat} {b27 : MT} (h : CQ R b27) : CQ R (st_X9_pairs_27 M a0 i b27) := by
  unfold st_X9_pairs_27
  repeat' (first | with_reducible assumption | (intro _) | with_reducible apply cq_if0 | with_reducible apply cq_if1 | with_reducible apply cq_if2 | with_reducible apply cq_if3 | with_reducible apply cq_u1 | with_reducible apply cq_u2 | decide)
theorem cq_sp_X9_next {M : MT} (h : CQ R M) : CQ R (sp_X9_next M) := by
  unfold sp_X9_next
  repeat' (first | with_reducible assumption | (intro _) | with_reducible apply cq_if0 | with_reducible apply cq_if1 | with_reducible apply cq_if2 | with_reducible apply cq_if3 | with_reducible apply cq_rpM | decide)
theorem cq_sp_X9_number {M : MT} {a0 : Int32} {a1 : Int32} (h : CQ R M) : CQ R (sp_X9_number M a0 a1).2 := by
  unfold sp_X9_number
  repeat' (first | with_reducible assumption | (intro _) | with_reducible apply cq_if0 | with_reducible apply cq_if1 | with_reducible apply cq_if2 | with_reducible apply cq_if3 | with_reducible apply cq_sp_X9_next | decide)
theorem cq_sp_X9_cellTold {M : MT} (h : CQ R M) : CQ R (sp_X9_cellTold M).2 := by
  unfold sp_X9_cellTold
  repeat' (first | with_reducible assumption | (intro _) | with_reducible apply cq_if0 | with_reducible apply cq_if1 | with_reducible apply cq_if2 | with_reducible apply cq_if3 | with_reducible apply cq_sp_X9_number | decide)
theorem cq_sp_X9_opens {M : MT} (h : CQ R M) : CQ R (sp_X9_opens M).2 := by
  unfold sp_X9_opens
  repeat' (first | with_reducible assumption | (intro _) | with_reducible apply cq_if0 | with_reducible apply cq_if1 | with_reducible apply cq_if2 | with_reducible apply cq_if3 | with_reducible apply cq_sp_X9_cellTold | with_reducible apply cq_sp_X9_number | with_reducible apply cq_sp_X9_newWindow | decide)
theorem cq_sp_X9_arrives {M : MT} (h : CQ R M) : CQ R (sp_X9_arrives M).2 := by
  unfold sp_X9_arrives
  repeat' (first | with_reducible assumption | (intro _) | with_reducible apply cq_if0 | with_reducible apply cq_if1 | with_reducible apply cq_if2 | with_reducible apply cq_if3 | with_reducible apply cq_sp_X9_number | with_reducible apply cq_sp_X9_cellTold | with_reducible apply cq_sp_X9_newOne | decide)
theorem cq_sp_X9_statement {M : MT} (h : CQ R M) : CQ R (sp_X9_statement M).2 := by
  unfold sp_X9_statement
  repeat' (first | with_reducible assumption | (intro _) | with_reducible apply cq_if0 | with_reducible apply cq_if1 | with_reducible apply cq_if2 | with_reducible apply cq_if3 | with_reducible apply cq_sp_X9_opens | with_reducible apply cq_sp_X9_arrives | with_reducible apply cq_sp_X9_number | with_reducible apply cq_u1 | with_reducible apply cq_sp_X9_cellTold | decide)
theorem cq_st_X9_copy_225 {M : MT} {a0 : Int32} {a1 : Int32} {a2 : Int32} {a3 : Int32} {a4 : Int32} {i : Nat} {b225 : MT} (h : CQ R b225) : CQ R (st_X9_copy_225 M a0 a1 a2 a3 a4 i b225) := by
  unfold st_X9_copy_225
  repeat' (first | with_reducible assumption | (intro _) | with_reducible apply cq_if0 | with_reducible apply cq_if1 | with_reducible apply cq_if2 | with_reducible apply cq_if3 | with_reducible apply cq_u3 | decide)
theorem cq_st_X9_copy_179 {M : MT} {a0 : Int32} {a1 : Int32} {a2 : Int32} {a3 : Int32} {a4 : Int32} {i : Nat} {b179 : MT} (h : CQ R b179) : CQ R (st_X9_copy_179 M a0 a1 a2 a3 a4 i b179) := by
  unfold st_X9_copy_179
  repeat' (first | with_reducible assumption | (intro _) | with_reducible apply cq_if0 | with_reducible apply cq_if1 | with_reducible apply cq_if2 | with_reducible apply cq_if3 | with_reducible apply cq_u3 | decide)
theorem cq_sp_X9_copy {M : MT} {a0 : Int32} {a1 : Int32} {a2 : Int32} {a3 : Int32} {a4 : Int32} (h : CQ R M) : CQ R (sp_X9_copy M a0 a1 a2 a3 a4).2 := by
  unfold sp_X9_copy
  repeat' (first | with_reducible assumption | (intro _) | with_reducible apply cq_if0 | with_reducible apply cq_if1 | with_reducible apply cq_if2 | with_reducible apply cq_if3 | with_reducible apply cq_sp_X9_no | with_reducible apply cq_it0 | with_reducible apply cq_it1 | with_reducible apply cq_it2 | with_reducible apply cq_it3 | with_reducible apply cq_st_X9_copy_225 | with_reducible apply cq_st_X9_copy_179 | decide)
theorem cq_tr {X Y : MT} (h : TF X Y) : CQ X Y := ⟨fun s _ => congrFun h.1 s, fun c hc => h.2.2.1 c (by omega) (by omega) (by omega), fun r _ => congrFun h.2.1 r⟩
theorem cq_tries25 {T : TT} {a b c : Int32} {i : Nat} {x : MT} (h : CQ R x) : CQ R (st_X9_tries_25 M T a b c i x) := cq_u2 h (by decide)
theorem cq_tries {T : TT} (hT : ∀ X a b c, CQ R X → CQ R (T X a b c)) {X : MT} {a b c : Int32} (h : CQ R X) : CQ R (sp_X9_tries X T a b c) := by
  unfold sp_X9_tries
  refine cq_if0 (fun _ => cq_if0 (fun _ => cq_it0 (cq_u2 h (by decide)) (fun k x hx => cq_tries25 hx)) (fun _ => h)) (fun _ => cq_it0 (hT _ _ _ _ (cq_u2 h (by decide))) (fun k x hx => ?_))
  unfold st_X9_tries_72
  exact cq_if0 (fun _ => hx) (fun _ => cq_if0 (fun _ => hx) (fun _ => hT _ _ _ _ (cq_u2 hx (by decide))))
theorem cq_tryN : ∀ (n : Nat) (X : MT) (a b c : Int32), CQ R X → CQ R (tryN n X a b c)
  | 0, X, a, b, c, h => cq_tries (T := fun M _ _ _ => M) (fun _ _ _ _ h => h) h
  | n + 1, X, a, b, c, h => cq_tries (T := tryN n) (fun X a b c h => cq_tryN n X a b c h) h
theorem cq_tryT {X : MT} {a b c : Int32} (h : CQ R X) : CQ R (tryT X a b c) := cq_tryN _ X a b c h
theorem cq_rd9 : ∀ (n k : Nat) (X : MT), CQ R X → CQ R (rd9 n k X).2.2
  | 0, _, _, h => h
  | n + 1, k, X, h => by
    have h1 := cq_sp_X9_statement (cq_sp_X9_next h)
    have h2 := cq_sp_X9_next h1
    unfold rd9
    exact cq_if2 (fun _ => cq_if2 (fun _ => h2) (fun _ => cq_if2 (fun _ => cq_rd9 n (k + 1) _ h2) (fun _ => h2))) (fun _ => h1)
theorem cq_sp_X9_street (h : CQ R M) : CQ R (sp_X9_street M).2 := by
  unfold sp_X9_street
  have h1 := cq_rd9 251 0 _ (cq_u2 (i := 2) (v := 0) (cq_sp_X9_keepB h) (show 30 ≤ 30 by decide))
  generalize rd9 251 0 (u2 (sp_X9_keepB M) 30 2 0) = q at h1 ⊢
  obtain ⟨b, k, X⟩ := q
  cases b
  · rw [st9_f]
    exact cq_mk1 (cq_sp_X9_no (cq_u2 (cq_sp_X9_againB h1) (by decide)))
  · rw [st9_t]
    exact cq_mk1 (cq_u2 h1 (by decide))
theorem cq_sp_X9_pairs {M : MT} {a0 : Int32} (h : CQ R M) : CQ R (sp_X9_pairs M a0).2 := by
  unfold sp_X9_pairs
  repeat' (first | with_reducible assumption | (intro _) | with_reducible apply cq_if0 | with_reducible apply cq_if1 | with_reducible apply cq_if2 | with_reducible apply cq_if3 | with_reducible apply cq_sp_X9_within | with_reducible apply cq_tryT | with_reducible apply cq_u2 | with_reducible apply cq_it0 | with_reducible apply cq_it1 | with_reducible apply cq_it2 | with_reducible apply cq_it3 | with_reducible apply cq_st_X9_pairs_87 | with_reducible apply cq_st_X9_pairs_60 | with_reducible apply cq_st_X9_pairs_27 | with_reducible apply cq_st_X9_pairs_150 | with_reducible apply cq_sp_X9_isWindow | with_reducible apply cq_sp_X9_no | decide)
end FrameR
