/-! ===== words of the tape ===== -/
theorem lscan_eq {P Q : Nat → Prop} [DecidablePred P] [DecidablePred Q] : ∀ (n e : Nat), (∀ k, e ≤ k → k < e + n → (P k ↔ Q k)) → lscan P n e = lscan Q n e
  | 0, _, _ => rfl
  | n + 1, e, h => by
    have h0 := h e (Nat.le_refl _) (by omega)
    by_cases c : P e
    · rw [lscan_p c, lscan_p (h0.mp c)]
      exact lscan_eq n (e + 1) (fun k h1 h2 => h k (by omega) (by omega))
    · rw [lscan_n c, lscan_n (fun z => c (h0.mpr z))]
theorem e_letter {a : Int32} : sp_X9_isLetter a = sp_X8_within a 97 122 := rfl
theorem e_digit {a : Int32} : sp_X9_isDigit a = sp_X8_within a 48 57 := rfl
section Words
variable {A B : MT}
/-- both have read as far -/
def RT0 (A B X Y : MT) : Prop :=
  tkI X ∧ X.2.1 6 0 = Y.2.1 30 0 ∧ (∀ i, i < tn (X.2.1 6 0) → X.2.1 7 i = Y.2.1 31 i) ∧ X.2.1 6 3 = Y.2.1 30 2 ∧ AG (X.1 4) (Y.1 5) ∧ tn (A.1 0 1 0) ≤ tn (X.1 4 1 0) ∧
  ((∀ t, t ≠ 4 → X.1 t = A.1 t) ∧ (∀ c, c ≠ 6 → c ≠ 8 → X.2.1 c = A.2.1 c) ∧ X.2.2 = A.2.2) ∧
  ((∀ c, c ≠ 30 → Y.2.1 c = B.2.1 c) ∧ (∀ j, j = 0 ∨ 5 ≤ j → Y.2.1 30 j = B.2.1 30 j) ∧ Y.2.2 = B.2.2)
/-- and the same word -/
def RT1 (A B X Y : MT) : Prop := RT0 A B X Y ∧ teB X ∧ X.2.1 6 2 = Y.2.1 30 1
def TKN (X Y : MT) : Prop :=
  (X.2.1 6 1 = 0 ↔ Y.2.1 30 3 = 101) ∧ (X.2.1 6 1 = 1 ↔ Y.2.1 30 3 = 119) ∧ (X.2.1 6 1 = 3 ↔ Y.2.1 30 3 = 59) ∧
  ((X.2.1 6 1 = 2 ∧ X.2.1 6 3 - X.2.1 6 2 ≤ 3) ↔ Y.2.1 30 3 = 48) ∧ (Y.2.1 30 3 = 48 → sp_X6_number X = Y.2.1 30 4)
/-- the digits' value -/
def valN (T : Nat → Int32) (s m : Nat) : Int32 := itN m (fun i b => ((10 * b) + T (s + i)) - 48) 0
theorem nxD_spec {Y : MT} {s : Nat} : ∀ (n e : Nat) (v : Int32), s ≤ e → e + n ≤ 250 → v = valN (Y.2.1 31) s (e - s) →
    (nxD Y s n e v).1 = lscan (fun e => sp_X9_isDigit (Y.2.1 31 e) = true) n e ∧ ((nxD Y s n e v).1 - s ≤ 3 → (nxD Y s n e v).2 = valN (Y.2.1 31) s ((nxD Y s n e v).1 - s))
  | 0, e, v, _, _, h => ⟨rfl, fun _ => h⟩
  | n + 1, e, v, hs, hb, h => by
    unfold nxD
    by_cases c : sp_X9_isDigit (Y.2.1 31 e) = true
    · rw [if_pos c, lscan_p (P := fun e => sp_X9_isDigit (Y.2.1 31 e) = true) c, show nI e - nI s = nI (e - s) from pk_sub hs]
      by_cases c3 : (3 : Int32) ≤ nI (e - s)
      · rw [if_pos c3]
        have c3' : 3 ≤ e - s := (nI_leI (a := 3) (by omega) (by omega)).mp c3
        have g := nxD_le (M := Y) (f := s) n (e + 1) v
        have key : ∀ m f (w : Int32), (nxD Y s m f w).1 = lscan (fun e => sp_X9_isDigit (Y.2.1 31 e) = true) m f := by
          intro m
          induction m with
          | zero => intro f w; rfl
          | succ m ih =>
            intro f w
            unfold nxD
            by_cases d : sp_X9_isDigit (Y.2.1 31 f) = true
            · rw [if_pos d, lscan_p (P := fun e => sp_X9_isDigit (Y.2.1 31 e) = true) d]; exact ih _ _
            · rw [if_neg d, lscan_n (P := fun e => sp_X9_isDigit (Y.2.1 31 e) = true) d]
        exact ⟨key _ _ _, fun q => absurd q (by omega)⟩
      · rw [if_neg c3]
        refine nxD_spec n (e + 1) _ (by omega) (by omega) ?_
        rw [show e + 1 - s = (e - s) + 1 by omega, h]
        show _ = ((10 * valN (Y.2.1 31) s (e - s)) + Y.2.1 31 (s + (e - s))) - 48
        rw [show s + (e - s) = e by omega]
    · rw [if_neg c, lscan_n (P := fun e => sp_X9_isDigit (Y.2.1 31 e) = true) c]
      exact ⟨rfl, fun _ => h⟩
theorem ty_in {X : MT} {e : Nat} (hsz : bd (X.2.1 6 0) 251) (he : e < tn (X.2.1 6 0)) : sp_X6_typeAt X (nI e) = if sp_X8_within (X.2.1 7 e) 97 122 = true then 1 else if sp_X8_within (X.2.1 7 e) 48 57 = true then 2 else if X.2.1 7 e = 59 then 3 else 4 := by
  have hl := bd_lt hsz
  unfold sp_X6_typeAt
  rw [tn_nI (by omega), if_pos (by conv => rhs; rw [bd_eq hsz]
                                   exact nI_lt (by omega) (by omega))]
theorem ty_out {X : MT} {e : Nat} (hsz : bd (X.2.1 6 0) 251) (he : tn (X.2.1 6 0) ≤ e) (h2 : e ≤ 250) : sp_X6_typeAt X (nI e) = 0 := by
  have hl := bd_lt hsz
  unfold sp_X6_typeAt
  rw [if_neg (by conv => arg 1; rhs; rw [bd_eq hsz]
                 exact nI_nlt (by omega) (by omega))]
theorem let_dig {a : Int32} (h : sp_X8_within a 97 122 = true) : ¬ sp_X8_within a 48 57 = true := by
  intro z
  have h1 := (within_iff.mp h).1
  have h2 := (within_iff.mp z).2
  exact absurd (Int32.le_trans h1 h2) (by decide)
theorem num_eq {X Y : MT} {s e : Nat} (hX2 : X.2.1 6 2 = nI s) (hX3 : X.2.1 6 3 = nI e) (hs : s ≤ e) (he : e ≤ 250) (ht : ∀ i, i < e → X.2.1 7 i = Y.2.1 31 i) : sp_X6_number X = valN (Y.2.1 31) s (e - s) := by
  unfold sp_X6_number valN
  rw [hX2, hX3, tn_nI (by omega), tn_nI (by omega)]
  refine itN_congr rfl (fun k b hk => ?_)
  unfold st_X6_number_7
  rw [hX2, show nI s + nI k = nI (s + k) from nI_add _ _, tn_nI (by omega), ht _ (by omega)]
/-- the next word: the class' tape and the reference's -/
theorem adv_next {X Y : MT} (h : RT0 A B X Y) : RT1 A B (sp_X6_advance X) (sp_X9_next Y) ∧ TKN (sp_X6_advance X) (sp_X9_next Y) := by
  have hh := h
  obtain ⟨tk, sz, tp, en, ag, pc, ⟨x1, x2, x3⟩, ⟨y1, y2, y3⟩⟩ := hh
  obtain ⟨q1, q2⟩ := adv_tk tk
  have hsz := tk.1
  have hl := bd_lt hsz
  have hle := tk.2.2
  have a1 := av1_le hle
  have es : nx1 Y = av1 X := by
    unfold nx1 av1
    rw [← sz, ← en]
    exact lscan_eq _ _ (fun k h1 h2 => by rw [tp k (by omega)])
  have szB : tn (Y.2.1 30 0) = tn (X.2.1 6 0) := by rw [sz]
  have frX : ∀ ty st e, (∀ t, t ≠ 4 → (tpM X ty st e).1 t = A.1 t) ∧ (∀ c, c ≠ 6 → c ≠ 8 → (tpM X ty st e).2.1 c = A.2.1 c) ∧ (tpM X ty st e).2.2 = A.2.2 := fun ty st e => ⟨x1, fun c h6 h8 => by
    rw [← x2 c h6 h8]; funext i; exact if_neg h6, x3⟩
  have frY : ∀ k f t v, (∀ c, c ≠ 30 → (rpM Y k f t v).2.1 c = B.2.1 c) ∧ (∀ j, j = 0 ∨ 5 ≤ j → (rpM Y k f t v).2.1 30 j = B.2.1 30 j) ∧ (rpM Y k f t v).2.2 = B.2.2 := fun k f t v => ⟨fun c hc => by
    rw [← y1 c hc]; funext i; exact if_neg hc, fun j hj => by
    rw [← y2 j hj]
    show (if 30 = 30 then (if j = 1 then f else if j = 2 then t else if j = 3 then k else if j = 4 then v else Y.2.1 30 j) else Y.2.1 30 j) = _
    rw [if_pos rfl, if_neg (by omega), if_neg (by omega), if_neg (by omega), if_neg (by omega)], y3⟩
  have fin : ∀ (ty k : Int32) (e : Nat) (v : Int32), sp_X6_advance X = tpM X ty (nI (av1 X)) (nI e) → sp_X9_next Y = rpM Y k (nI (av1 X)) (nI e) v →
      (ty = 0 ↔ k = 101) ∧ (ty = 1 ↔ k = 119) ∧ (ty = 3 ↔ k = 59) ∧ ((ty = 2 ∧ nI e - nI (av1 X) ≤ 3) ↔ k = 48) ∧ (k = 48 → sp_X6_number (sp_X6_advance X) = v) → RT1 A B (sp_X6_advance X) (sp_X9_next Y) ∧ TKN (sp_X6_advance X) (sp_X9_next Y) := by
    intro ty k e v e1 e2 hk
    rw [e1] at q1 q2 hk ⊢
    rw [e2]
    exact ⟨⟨⟨q1, sz, tp, rfl, ag, pc, frX _ _ _, frY _ _ _ _⟩, q2, rfl⟩, hk⟩
  have eN : sp_X9_next Y = _ := sp_X9_next.eq_1 Y
  have eA : sp_X6_advance X = _ := sp_X6_advance.eq_1 X
  rw [es, szB] at eN
  by_cases c0 : tn (X.2.1 6 0) ≤ av1 X
  · rw [if_pos c0] at eN
    have t0 := ty_out hsz c0 (by omega)
    have e3 : av3 X 0 (av2 X (av1 X)) = av1 X := by
      unfold av3 av2
      rw [if_neg (by decide), if_neg (by omega)]
    rw [t0, e3] at eA
    exact fin 0 101 (av1 X) _ eA eN ⟨by decide, by decide, by decide, ⟨fun z => absurd z.1 (by decide), fun z => absurd z (by decide)⟩, fun z => absurd z (by decide)⟩
  · have lt : av1 X < tn (X.2.1 6 0) := by omega
    have eT := tp _ lt
    have ty := ty_in hsz lt
    have e2 : av2 X (av1 X) = av1 X + 1 := if_pos lt
    rw [if_neg c0, e_letter, ← eT] at eN
    rw [e2] at eA
    by_cases c1 : sp_X8_within (X.2.1 7 (av1 X)) 97 122 = true
    · rw [if_pos c1] at eN ty
      have e3 : av3 X 1 (av1 X + 1) = nxW Y (av1 X + 1) := by
        unfold av3 nxW
        rw [if_pos (Or.inl rfl), szB]
        refine lscan_eq _ _ (fun k h1 h2 => ?_)
        rw [ty_in hsz (by omega), e_letter, ← tp k (by omega)]
        constructor
        · intro z
          by_cases d : sp_X8_within (X.2.1 7 k) 97 122 = true
          · exact d
          · rw [if_neg d] at z
            (repeat' split at z) <;> exact absurd z (by decide)
        · intro z; rw [if_pos z]
      rw [ty, e3] at eA
      exact fin 1 119 _ _ eA eN ⟨by decide, by decide, by decide, ⟨fun z => absurd z.1 (by decide), fun z => absurd z (by decide)⟩, fun z => absurd z (by decide)⟩
    · rw [if_neg c1] at eN ty
      rw [e_digit] at eN
      by_cases c2 : sp_X8_within (X.2.1 7 (av1 X)) 48 57 = true
      · rw [if_pos c2] at eN ty
        have v0 : X.2.1 7 (av1 X) - 48 = valN (Y.2.1 31) (av1 X) (av1 X + 1 - av1 X) := by
          rw [show av1 X + 1 - av1 X = 1 by omega]
          show _ = ((10 * (0 : Int32)) + Y.2.1 31 (av1 X + 0)) - 48
          rw [Nat.add_zero, ← eT, Int32.mul_zero, Int32.zero_add]
        obtain ⟨d1, d2⟩ := nxD_spec (Y := Y) (s := av1 X) (tn (X.2.1 6 0) - (av1 X + 1)) (av1 X + 1) (X.2.1 7 (av1 X) - 48) (by omega) (by omega) v0
        have dl := nxD_le (M := Y) (f := av1 X) (tn (X.2.1 6 0) - (av1 X + 1)) (av1 X + 1) (X.2.1 7 (av1 X) - 48)
        generalize nxD Y (av1 X) (tn (X.2.1 6 0) - (av1 X + 1)) (av1 X + 1) (X.2.1 7 (av1 X) - 48) = D at eN d1 d2 dl
        have e3 : av3 X 2 (av1 X + 1) = D.1 := by
          rw [d1]
          unfold av3
          rw [if_pos (Or.inr rfl)]
          refine lscan_eq _ _ (fun k h1 h2 => ?_)
          rw [ty_in hsz (by omega), e_digit, ← tp k (by omega)]
          constructor
          · intro z
            by_cases d : sp_X8_within (X.2.1 7 k) 97 122 = true
            · rw [if_pos d] at z; exact absurd z (by decide)
            · rw [if_neg d] at z
              by_cases d' : sp_X8_within (X.2.1 7 k) 48 57 = true
              · exact d'
              · rw [if_neg d'] at z
                (repeat' split at z) <;> exact absurd z (by decide)
          · intro z; rw [if_neg (fun q => let_dig q z), if_pos z]
        rw [ty, e3] at eA
        have hsub : nI D.1 - nI (av1 X) = nI (D.1 - av1 X) := pk_sub (by omega)
        have h3 : (nI (D.1 - av1 X) ≤ (3 : Int32)) ↔ D.1 - av1 X ≤ 3 := nI_leI (b := 3) (by omega) (by omega)
        have hn : sp_X6_number (sp_X6_advance X) = valN (Y.2.1 31) (av1 X) (D.1 - av1 X) := by
          rw [eA]
          exact num_eq (X := tpM X 2 (nI (av1 X)) (nI D.1)) rfl rfl (by omega) (by omega) (fun i hi => tp i (by omega))
        by_cases c3 : D.1 - av1 X ≤ 3
        · rw [hsub, if_pos (h3.mpr c3)] at eN
          exact fin 2 48 _ _ eA eN ⟨by decide, by decide, by decide, ⟨fun _ => rfl, fun _ => ⟨rfl, by rw [hsub]; exact h3.mpr c3⟩⟩, fun _ => by rw [hn, d2 c3]⟩
        · rw [hsub, if_neg (fun z => c3 (h3.mp z))] at eN
          exact fin 2 120 _ _ eA eN ⟨by decide, by decide, by decide, ⟨fun z => absurd (by rw [hsub] at z; exact h3.mp z.2) c3, fun z => absurd z (by decide)⟩, fun z => absurd z (by decide)⟩
      · rw [if_neg c2] at eN ty
        have e3 : ∀ t : Int32, ¬ (t = 1 ∨ t = 2) → av3 X t (av1 X + 1) = av1 X + 1 := fun t ht => if_neg ht
        by_cases c3 : X.2.1 7 (av1 X) = 59
        · rw [if_pos c3] at eN ty
          rw [ty, e3 3 (by decide)] at eA
          exact fin 3 59 _ _ eA eN ⟨by decide, by decide, by decide, ⟨fun z => absurd z.1 (by decide), fun z => absurd z (by decide)⟩, fun z => absurd z (by decide)⟩
        · rw [if_neg c3] at eN ty
          rw [ty, e3 4 (by decide)] at eA
          exact fin 4 120 _ _ eA eN ⟨by decide, by decide, by decide, ⟨fun z => absurd z.1 (by decide), fun z => absurd z (by decide)⟩, fun z => absurd z (by decide)⟩
/-- where a part ends, there was a sign -/
theorem adv_3 {X : MT} (h : tkI X) (e : (sp_X6_advance X).2.1 6 1 = 3) : tn (X.2.1 6 3) < tn (X.2.1 6 0) := by
  have hl := bd_lt h.1
  have a1 := av1_le h.2.2
  have e' : sp_X6_typeAt X (nI (av1 X)) = 3 := e
  rcases Nat.lt_or_ge (av1 X) (tn (X.2.1 6 0)) with q | q
  · omega
  · rw [ty_out h.1 q (by omega)] at e'
    exact absurd e' (by decide)
end Words
