theorem cpw_spec {M M0 : MT} {s s0 : Nat} (hne : ¬ s0 = s) : ∀ n, (itN n (st_X5_copyFrom_66 M s s0) M0).2 = M0.2 ∧ ∀ a b c, (itN n (st_X5_copyFrom_66 M s s0) M0).1 a b c = if a = s ∧ 6 ≤ b ∧ b < 9 ∧ c < n then M0.1 s0 b c else M0.1 a b c
  | 0 => ⟨rfl, fun a b c => by rw [if_neg (by omega)]; rfl⟩
  | n + 1 => by
    obtain ⟨h1, h2⟩ := cpw_spec (M := M) (M0 := M0) hne n
    refine ⟨h1, fun a b c => ?_⟩
    show (sp_X7_copyFrom (itN n (st_X5_copyFrom_66 M s s0) M0) s n s0 n).1 a b c = _
    generalize itN n (st_X5_copyFrom_66 M s s0) M0 = m at h2 ⊢
    simp only [sp_X7_copyFrom, u1, hne, h2, false_and, if_false]
    grind
theorem cpp_spec {M M0 : MT} {s s0 : Nat} (hne : ¬ s0 = s) : ∀ n, (itN n (st_X5_copyFrom_97 M s s0) M0).2 = M0.2 ∧ ∀ a b c, (itN n (st_X5_copyFrom_97 M s s0) M0).1 a b c = if a = s ∧ 9 ≤ b ∧ b < 14 ∧ c < n then M0.1 s0 b c else M0.1 a b c
  | 0 => ⟨rfl, fun a b c => by rw [if_neg (by omega)]; rfl⟩
  | n + 1 => by
    obtain ⟨h1, h2⟩ := cpp_spec (M := M) (M0 := M0) hne n
    refine ⟨h1, fun a b c => ?_⟩
    show (sp_X2_copyFrom (itN n (st_X5_copyFrom_97 M s s0) M0) s n s0 n).1 a b c = _
    generalize itN n (st_X5_copyFrom_97 M s s0) M0 = m at h2 ⊢
    simp only [sp_X2_copyFrom, u1, hne, h2, false_and, if_false]
    clear h1 h2
    grind (splits := 25)
def cpV (M : MT) (s s0 : Nat) : Nat → Nat → Nat → Int32 := fun a b c => if a = s then (if (b < 6 ∧ b ≠ 3 ∧ c = 0) ∨ (b = 3 ∧ c < 3) ∨ (6 ≤ b ∧ b < 9 ∧ c < tn (M.1 s0 0 0)) ∨ (9 ≤ b ∧ b < 14 ∧ c < tn (M.1 s0 1 0)) then M.1 s0 b c else M.1 s b c) else M.1 a b c
theorem copy_eq {M : MT} {s s0 : Nat} (hne : ¬ s0 = s) : sp_X5_copyFrom M s s0 = (cpV M s s0, M.2) := by
  unfold sp_X5_copyFrom
  obtain ⟨h1, h2⟩ := cpp_spec (M := M) (M0 := itN (tn (M.1 s0 0 0)) (st_X5_copyFrom_66 M s s0) ((u1 (u1 (u1 (u1 (u1 (u1 (u1 (u1 M s 0 0 (M.1 s0 0 0)) s 1 0 ((u1 M s 0 0 (M.1 s0 0 0)).1 s0 1 0)) s 2 0 ((u1 (u1 M s 0 0 (M.1 s0 0 0)) s 1 0 ((u1 M s 0 0 (M.1 s0 0 0)).1 s0 1 0)).1 s0 2 0)) s 3 0 ((u1 (u1 (u1 M s 0 0 (M.1 s0 0 0)) s 1 0 ((u1 M s 0 0 (M.1 s0 0 0)).1 s0 1 0)) s 2 0 ((u1 (u1 M s 0 0 (M.1 s0 0 0)) s 1 0 ((u1 M s 0 0 (M.1 s0 0 0)).1 s0 1 0)).1 s0 2 0)).1 s0 3 0)) s 3 1 ((u1 (u1 (u1 (u1 M s 0 0 (M.1 s0 0 0)) s 1 0 ((u1 M s 0 0 (M.1 s0 0 0)).1 s0 1 0)) s 2 0 ((u1 (u1 M s 0 0 (M.1 s0 0 0)) s 1 0 ((u1 M s 0 0 (M.1 s0 0 0)).1 s0 1 0)).1 s0 2 0)) s 3 0 ((u1 (u1 (u1 M s 0 0 (M.1 s0 0 0)) s 1 0 ((u1 M s 0 0 (M.1 s0 0 0)).1 s0 1 0)) s 2 0 ((u1 (u1 M s 0 0 (M.1 s0 0 0)) s 1 0 ((u1 M s 0 0 (M.1 s0 0 0)).1 s0 1 0)).1 s0 2 0)).1 s0 3 0)).1 s0 3 1)) s 3 2 ((u1 (u1 (u1 (u1 (u1 M s 0 0 (M.1 s0 0 0)) s 1 0 ((u1 M s 0 0 (M.1 s0 0 0)).1 s0 1 0)) s 2 0 ((u1 (u1 M s 0 0 (M.1 s0 0 0)) s 1 0 ((u1 M s 0 0 (M.1 s0 0 0)).1 s0 1 0)).1 s0 2 0)) s 3 0 ((u1 (u1 (u1 M s 0 0 (M.1 s0 0 0)) s 1 0 ((u1 M s 0 0 (M.1 s0 0 0)).1 s0 1 0)) s 2 0 ((u1 (u1 M s 0 0 (M.1 s0 0 0)) s 1 0 ((u1 M s 0 0 (M.1 s0 0 0)).1 s0 1 0)).1 s0 2 0)).1 s0 3 0)) s 3 1 ((u1 (u1 (u1 (u1 M s 0 0 (M.1 s0 0 0)) s 1 0 ((u1 M s 0 0 (M.1 s0 0 0)).1 s0 1 0)) s 2 0 ((u1 (u1 M s 0 0 (M.1 s0 0 0)) s 1 0 ((u1 M s 0 0 (M.1 s0 0 0)).1 s0 1 0)).1 s0 2 0)) s 3 0 ((u1 (u1 (u1 M s 0 0 (M.1 s0 0 0)) s 1 0 ((u1 M s 0 0 (M.1 s0 0 0)).1 s0 1 0)) s 2 0 ((u1 (u1 M s 0 0 (M.1 s0 0 0)) s 1 0 ((u1 M s 0 0 (M.1 s0 0 0)).1 s0 1 0)).1 s0 2 0)).1 s0 3 0)).1 s0 3 1)).1 s0 3 2)) s 4 0 ((u1 (u1 (u1 (u1 (u1 (u1 M s 0 0 (M.1 s0 0 0)) s 1 0 ((u1 M s 0 0 (M.1 s0 0 0)).1 s0 1 0)) s 2 0 ((u1 (u1 M s 0 0 (M.1 s0 0 0)) s 1 0 ((u1 M s 0 0 (M.1 s0 0 0)).1 s0 1 0)).1 s0 2 0)) s 3 0 ((u1 (u1 (u1 M s 0 0 (M.1 s0 0 0)) s 1 0 ((u1 M s 0 0 (M.1 s0 0 0)).1 s0 1 0)) s 2 0 ((u1 (u1 M s 0 0 (M.1 s0 0 0)) s 1 0 ((u1 M s 0 0 (M.1 s0 0 0)).1 s0 1 0)).1 s0 2 0)).1 s0 3 0)) s 3 1 ((u1 (u1 (u1 (u1 M s 0 0 (M.1 s0 0 0)) s 1 0 ((u1 M s 0 0 (M.1 s0 0 0)).1 s0 1 0)) s 2 0 ((u1 (u1 M s 0 0 (M.1 s0 0 0)) s 1 0 ((u1 M s 0 0 (M.1 s0 0 0)).1 s0 1 0)).1 s0 2 0)) s 3 0 ((u1 (u1 (u1 M s 0 0 (M.1 s0 0 0)) s 1 0 ((u1 M s 0 0 (M.1 s0 0 0)).1 s0 1 0)) s 2 0 ((u1 (u1 M s 0 0 (M.1 s0 0 0)) s 1 0 ((u1 M s 0 0 (M.1 s0 0 0)).1 s0 1 0)).1 s0 2 0)).1 s0 3 0)).1 s0 3 1)) s 3 2 ((u1 (u1 (u1 (u1 (u1 M s 0 0 (M.1 s0 0 0)) s 1 0 ((u1 M s 0 0 (M.1 s0 0 0)).1 s0 1 0)) s 2 0 ((u1 (u1 M s 0 0 (M.1 s0 0 0)) s 1 0 ((u1 M s 0 0 (M.1 s0 0 0)).1 s0 1 0)).1 s0 2 0)) s 3 0 ((u1 (u1 (u1 M s 0 0 (M.1 s0 0 0)) s 1 0 ((u1 M s 0 0 (M.1 s0 0 0)).1 s0 1 0)) s 2 0 ((u1 (u1 M s 0 0 (M.1 s0 0 0)) s 1 0 ((u1 M s 0 0 (M.1 s0 0 0)).1 s0 1 0)).1 s0 2 0)).1 s0 3 0)) s 3 1 ((u1 (u1 (u1 (u1 M s 0 0 (M.1 s0 0 0)) s 1 0 ((u1 M s 0 0 (M.1 s0 0 0)).1 s0 1 0)) s 2 0 ((u1 (u1 M s 0 0 (M.1 s0 0 0)) s 1 0 ((u1 M s 0 0 (M.1 s0 0 0)).1 s0 1 0)).1 s0 2 0)) s 3 0 ((u1 (u1 (u1 M s 0 0 (M.1 s0 0 0)) s 1 0 ((u1 M s 0 0 (M.1 s0 0 0)).1 s0 1 0)) s 2 0 ((u1 (u1 M s 0 0 (M.1 s0 0 0)) s 1 0 ((u1 M s 0 0 (M.1 s0 0 0)).1 s0 1 0)).1 s0 2 0)).1 s0 3 0)).1 s0 3 1)).1 s0 3 2)).1 s0 4 0)) s 5 0 ((u1 (u1 (u1 (u1 (u1 (u1 (u1 M s 0 0 (M.1 s0 0 0)) s 1 0 ((u1 M s 0 0 (M.1 s0 0 0)).1 s0 1 0)) s 2 0 ((u1 (u1 M s 0 0 (M.1 s0 0 0)) s 1 0 ((u1 M s 0 0 (M.1 s0 0 0)).1 s0 1 0)).1 s0 2 0)) s 3 0 ((u1 (u1 (u1 M s 0 0 (M.1 s0 0 0)) s 1 0 ((u1 M s 0 0 (M.1 s0 0 0)).1 s0 1 0)) s 2 0 ((u1 (u1 M s 0 0 (M.1 s0 0 0)) s 1 0 ((u1 M s 0 0 (M.1 s0 0 0)).1 s0 1 0)).1 s0 2 0)).1 s0 3 0)) s 3 1 ((u1 (u1 (u1 (u1 M s 0 0 (M.1 s0 0 0)) s 1 0 ((u1 M s 0 0 (M.1 s0 0 0)).1 s0 1 0)) s 2 0 ((u1 (u1 M s 0 0 (M.1 s0 0 0)) s 1 0 ((u1 M s 0 0 (M.1 s0 0 0)).1 s0 1 0)).1 s0 2 0)) s 3 0 ((u1 (u1 (u1 M s 0 0 (M.1 s0 0 0)) s 1 0 ((u1 M s 0 0 (M.1 s0 0 0)).1 s0 1 0)) s 2 0 ((u1 (u1 M s 0 0 (M.1 s0 0 0)) s 1 0 ((u1 M s 0 0 (M.1 s0 0 0)).1 s0 1 0)).1 s0 2 0)).1 s0 3 0)).1 s0 3 1)) s 3 2 ((u1 (u1 (u1 (u1 (u1 M s 0 0 (M.1 s0 0 0)) s 1 0 ((u1 M s 0 0 (M.1 s0 0 0)).1 s0 1 0)) s 2 0 ((u1 (u1 M s 0 0 (M.1 s0 0 0)) s 1 0 ((u1 M s 0 0 (M.1 s0 0 0)).1 s0 1 0)).1 s0 2 0)) s 3 0 ((u1 (u1 (u1 M s 0 0 (M.1 s0 0 0)) s 1 0 ((u1 M s 0 0 (M.1 s0 0 0)).1 s0 1 0)) s 2 0 ((u1 (u1 M s 0 0 (M.1 s0 0 0)) s 1 0 ((u1 M s 0 0 (M.1 s0 0 0)).1 s0 1 0)).1 s0 2 0)).1 s0 3 0)) s 3 1 ((u1 (u1 (u1 (u1 M s 0 0 (M.1 s0 0 0)) s 1 0 ((u1 M s 0 0 (M.1 s0 0 0)).1 s0 1 0)) s 2 0 ((u1 (u1 M s 0 0 (M.1 s0 0 0)) s 1 0 ((u1 M s 0 0 (M.1 s0 0 0)).1 s0 1 0)).1 s0 2 0)) s 3 0 ((u1 (u1 (u1 M s 0 0 (M.1 s0 0 0)) s 1 0 ((u1 M s 0 0 (M.1 s0 0 0)).1 s0 1 0)) s 2 0 ((u1 (u1 M s 0 0 (M.1 s0 0 0)) s 1 0 ((u1 M s 0 0 (M.1 s0 0 0)).1 s0 1 0)).1 s0 2 0)).1 s0 3 0)).1 s0 3 1)).1 s0 3 2)) s 4 0 ((u1 (u1 (u1 (u1 (u1 (u1 M s 0 0 (M.1 s0 0 0)) s 1 0 ((u1 M s 0 0 (M.1 s0 0 0)).1 s0 1 0)) s 2 0 ((u1 (u1 M s 0 0 (M.1 s0 0 0)) s 1 0 ((u1 M s 0 0 (M.1 s0 0 0)).1 s0 1 0)).1 s0 2 0)) s 3 0 ((u1 (u1 (u1 M s 0 0 (M.1 s0 0 0)) s 1 0 ((u1 M s 0 0 (M.1 s0 0 0)).1 s0 1 0)) s 2 0 ((u1 (u1 M s 0 0 (M.1 s0 0 0)) s 1 0 ((u1 M s 0 0 (M.1 s0 0 0)).1 s0 1 0)).1 s0 2 0)).1 s0 3 0)) s 3 1 ((u1 (u1 (u1 (u1 M s 0 0 (M.1 s0 0 0)) s 1 0 ((u1 M s 0 0 (M.1 s0 0 0)).1 s0 1 0)) s 2 0 ((u1 (u1 M s 0 0 (M.1 s0 0 0)) s 1 0 ((u1 M s 0 0 (M.1 s0 0 0)).1 s0 1 0)).1 s0 2 0)) s 3 0 ((u1 (u1 (u1 M s 0 0 (M.1 s0 0 0)) s 1 0 ((u1 M s 0 0 (M.1 s0 0 0)).1 s0 1 0)) s 2 0 ((u1 (u1 M s 0 0 (M.1 s0 0 0)) s 1 0 ((u1 M s 0 0 (M.1 s0 0 0)).1 s0 1 0)).1 s0 2 0)).1 s0 3 0)).1 s0 3 1)) s 3 2 ((u1 (u1 (u1 (u1 (u1 M s 0 0 (M.1 s0 0 0)) s 1 0 ((u1 M s 0 0 (M.1 s0 0 0)).1 s0 1 0)) s 2 0 ((u1 (u1 M s 0 0 (M.1 s0 0 0)) s 1 0 ((u1 M s 0 0 (M.1 s0 0 0)).1 s0 1 0)).1 s0 2 0)) s 3 0 ((u1 (u1 (u1 M s 0 0 (M.1 s0 0 0)) s 1 0 ((u1 M s 0 0 (M.1 s0 0 0)).1 s0 1 0)) s 2 0 ((u1 (u1 M s 0 0 (M.1 s0 0 0)) s 1 0 ((u1 M s 0 0 (M.1 s0 0 0)).1 s0 1 0)).1 s0 2 0)).1 s0 3 0)) s 3 1 ((u1 (u1 (u1 (u1 M s 0 0 (M.1 s0 0 0)) s 1 0 ((u1 M s 0 0 (M.1 s0 0 0)).1 s0 1 0)) s 2 0 ((u1 (u1 M s 0 0 (M.1 s0 0 0)) s 1 0 ((u1 M s 0 0 (M.1 s0 0 0)).1 s0 1 0)).1 s0 2 0)) s 3 0 ((u1 (u1 (u1 M s 0 0 (M.1 s0 0 0)) s 1 0 ((u1 M s 0 0 (M.1 s0 0 0)).1 s0 1 0)) s 2 0 ((u1 (u1 M s 0 0 (M.1 s0 0 0)) s 1 0 ((u1 M s 0 0 (M.1 s0 0 0)).1 s0 1 0)).1 s0 2 0)).1 s0 3 0)).1 s0 3 1)).1 s0 3 2)).1 s0 4 0)).1 s0 5 0)))) hne (tn (M.1 s0 1 0))
  obtain ⟨g1, g2⟩ := cpw_spec (M := M) (M0 := (u1 (u1 (u1 (u1 (u1 (u1 (u1 (u1 M s 0 0 (M.1 s0 0 0)) s 1 0 ((u1 M s 0 0 (M.1 s0 0 0)).1 s0 1 0)) s 2 0 ((u1 (u1 M s 0 0 (M.1 s0 0 0)) s 1 0 ((u1 M s 0 0 (M.1 s0 0 0)).1 s0 1 0)).1 s0 2 0)) s 3 0 ((u1 (u1 (u1 M s 0 0 (M.1 s0 0 0)) s 1 0 ((u1 M s 0 0 (M.1 s0 0 0)).1 s0 1 0)) s 2 0 ((u1 (u1 M s 0 0 (M.1 s0 0 0)) s 1 0 ((u1 M s 0 0 (M.1 s0 0 0)).1 s0 1 0)).1 s0 2 0)).1 s0 3 0)) s 3 1 ((u1 (u1 (u1 (u1 M s 0 0 (M.1 s0 0 0)) s 1 0 ((u1 M s 0 0 (M.1 s0 0 0)).1 s0 1 0)) s 2 0 ((u1 (u1 M s 0 0 (M.1 s0 0 0)) s 1 0 ((u1 M s 0 0 (M.1 s0 0 0)).1 s0 1 0)).1 s0 2 0)) s 3 0 ((u1 (u1 (u1 M s 0 0 (M.1 s0 0 0)) s 1 0 ((u1 M s 0 0 (M.1 s0 0 0)).1 s0 1 0)) s 2 0 ((u1 (u1 M s 0 0 (M.1 s0 0 0)) s 1 0 ((u1 M s 0 0 (M.1 s0 0 0)).1 s0 1 0)).1 s0 2 0)).1 s0 3 0)).1 s0 3 1)) s 3 2 ((u1 (u1 (u1 (u1 (u1 M s 0 0 (M.1 s0 0 0)) s 1 0 ((u1 M s 0 0 (M.1 s0 0 0)).1 s0 1 0)) s 2 0 ((u1 (u1 M s 0 0 (M.1 s0 0 0)) s 1 0 ((u1 M s 0 0 (M.1 s0 0 0)).1 s0 1 0)).1 s0 2 0)) s 3 0 ((u1 (u1 (u1 M s 0 0 (M.1 s0 0 0)) s 1 0 ((u1 M s 0 0 (M.1 s0 0 0)).1 s0 1 0)) s 2 0 ((u1 (u1 M s 0 0 (M.1 s0 0 0)) s 1 0 ((u1 M s 0 0 (M.1 s0 0 0)).1 s0 1 0)).1 s0 2 0)).1 s0 3 0)) s 3 1 ((u1 (u1 (u1 (u1 M s 0 0 (M.1 s0 0 0)) s 1 0 ((u1 M s 0 0 (M.1 s0 0 0)).1 s0 1 0)) s 2 0 ((u1 (u1 M s 0 0 (M.1 s0 0 0)) s 1 0 ((u1 M s 0 0 (M.1 s0 0 0)).1 s0 1 0)).1 s0 2 0)) s 3 0 ((u1 (u1 (u1 M s 0 0 (M.1 s0 0 0)) s 1 0 ((u1 M s 0 0 (M.1 s0 0 0)).1 s0 1 0)) s 2 0 ((u1 (u1 M s 0 0 (M.1 s0 0 0)) s 1 0 ((u1 M s 0 0 (M.1 s0 0 0)).1 s0 1 0)).1 s0 2 0)).1 s0 3 0)).1 s0 3 1)).1 s0 3 2)) s 4 0 ((u1 (u1 (u1 (u1 (u1 (u1 M s 0 0 (M.1 s0 0 0)) s 1 0 ((u1 M s 0 0 (M.1 s0 0 0)).1 s0 1 0)) s 2 0 ((u1 (u1 M s 0 0 (M.1 s0 0 0)) s 1 0 ((u1 M s 0 0 (M.1 s0 0 0)).1 s0 1 0)).1 s0 2 0)) s 3 0 ((u1 (u1 (u1 M s 0 0 (M.1 s0 0 0)) s 1 0 ((u1 M s 0 0 (M.1 s0 0 0)).1 s0 1 0)) s 2 0 ((u1 (u1 M s 0 0 (M.1 s0 0 0)) s 1 0 ((u1 M s 0 0 (M.1 s0 0 0)).1 s0 1 0)).1 s0 2 0)).1 s0 3 0)) s 3 1 ((u1 (u1 (u1 (u1 M s 0 0 (M.1 s0 0 0)) s 1 0 ((u1 M s 0 0 (M.1 s0 0 0)).1 s0 1 0)) s 2 0 ((u1 (u1 M s 0 0 (M.1 s0 0 0)) s 1 0 ((u1 M s 0 0 (M.1 s0 0 0)).1 s0 1 0)).1 s0 2 0)) s 3 0 ((u1 (u1 (u1 M s 0 0 (M.1 s0 0 0)) s 1 0 ((u1 M s 0 0 (M.1 s0 0 0)).1 s0 1 0)) s 2 0 ((u1 (u1 M s 0 0 (M.1 s0 0 0)) s 1 0 ((u1 M s 0 0 (M.1 s0 0 0)).1 s0 1 0)).1 s0 2 0)).1 s0 3 0)).1 s0 3 1)) s 3 2 ((u1 (u1 (u1 (u1 (u1 M s 0 0 (M.1 s0 0 0)) s 1 0 ((u1 M s 0 0 (M.1 s0 0 0)).1 s0 1 0)) s 2 0 ((u1 (u1 M s 0 0 (M.1 s0 0 0)) s 1 0 ((u1 M s 0 0 (M.1 s0 0 0)).1 s0 1 0)).1 s0 2 0)) s 3 0 ((u1 (u1 (u1 M s 0 0 (M.1 s0 0 0)) s 1 0 ((u1 M s 0 0 (M.1 s0 0 0)).1 s0 1 0)) s 2 0 ((u1 (u1 M s 0 0 (M.1 s0 0 0)) s 1 0 ((u1 M s 0 0 (M.1 s0 0 0)).1 s0 1 0)).1 s0 2 0)).1 s0 3 0)) s 3 1 ((u1 (u1 (u1 (u1 M s 0 0 (M.1 s0 0 0)) s 1 0 ((u1 M s 0 0 (M.1 s0 0 0)).1 s0 1 0)) s 2 0 ((u1 (u1 M s 0 0 (M.1 s0 0 0)) s 1 0 ((u1 M s 0 0 (M.1 s0 0 0)).1 s0 1 0)).1 s0 2 0)) s 3 0 ((u1 (u1 (u1 M s 0 0 (M.1 s0 0 0)) s 1 0 ((u1 M s 0 0 (M.1 s0 0 0)).1 s0 1 0)) s 2 0 ((u1 (u1 M s 0 0 (M.1 s0 0 0)) s 1 0 ((u1 M s 0 0 (M.1 s0 0 0)).1 s0 1 0)).1 s0 2 0)).1 s0 3 0)).1 s0 3 1)).1 s0 3 2)).1 s0 4 0)) s 5 0 ((u1 (u1 (u1 (u1 (u1 (u1 (u1 M s 0 0 (M.1 s0 0 0)) s 1 0 ((u1 M s 0 0 (M.1 s0 0 0)).1 s0 1 0)) s 2 0 ((u1 (u1 M s 0 0 (M.1 s0 0 0)) s 1 0 ((u1 M s 0 0 (M.1 s0 0 0)).1 s0 1 0)).1 s0 2 0)) s 3 0 ((u1 (u1 (u1 M s 0 0 (M.1 s0 0 0)) s 1 0 ((u1 M s 0 0 (M.1 s0 0 0)).1 s0 1 0)) s 2 0 ((u1 (u1 M s 0 0 (M.1 s0 0 0)) s 1 0 ((u1 M s 0 0 (M.1 s0 0 0)).1 s0 1 0)).1 s0 2 0)).1 s0 3 0)) s 3 1 ((u1 (u1 (u1 (u1 M s 0 0 (M.1 s0 0 0)) s 1 0 ((u1 M s 0 0 (M.1 s0 0 0)).1 s0 1 0)) s 2 0 ((u1 (u1 M s 0 0 (M.1 s0 0 0)) s 1 0 ((u1 M s 0 0 (M.1 s0 0 0)).1 s0 1 0)).1 s0 2 0)) s 3 0 ((u1 (u1 (u1 M s 0 0 (M.1 s0 0 0)) s 1 0 ((u1 M s 0 0 (M.1 s0 0 0)).1 s0 1 0)) s 2 0 ((u1 (u1 M s 0 0 (M.1 s0 0 0)) s 1 0 ((u1 M s 0 0 (M.1 s0 0 0)).1 s0 1 0)).1 s0 2 0)).1 s0 3 0)).1 s0 3 1)) s 3 2 ((u1 (u1 (u1 (u1 (u1 M s 0 0 (M.1 s0 0 0)) s 1 0 ((u1 M s 0 0 (M.1 s0 0 0)).1 s0 1 0)) s 2 0 ((u1 (u1 M s 0 0 (M.1 s0 0 0)) s 1 0 ((u1 M s 0 0 (M.1 s0 0 0)).1 s0 1 0)).1 s0 2 0)) s 3 0 ((u1 (u1 (u1 M s 0 0 (M.1 s0 0 0)) s 1 0 ((u1 M s 0 0 (M.1 s0 0 0)).1 s0 1 0)) s 2 0 ((u1 (u1 M s 0 0 (M.1 s0 0 0)) s 1 0 ((u1 M s 0 0 (M.1 s0 0 0)).1 s0 1 0)).1 s0 2 0)).1 s0 3 0)) s 3 1 ((u1 (u1 (u1 (u1 M s 0 0 (M.1 s0 0 0)) s 1 0 ((u1 M s 0 0 (M.1 s0 0 0)).1 s0 1 0)) s 2 0 ((u1 (u1 M s 0 0 (M.1 s0 0 0)) s 1 0 ((u1 M s 0 0 (M.1 s0 0 0)).1 s0 1 0)).1 s0 2 0)) s 3 0 ((u1 (u1 (u1 M s 0 0 (M.1 s0 0 0)) s 1 0 ((u1 M s 0 0 (M.1 s0 0 0)).1 s0 1 0)) s 2 0 ((u1 (u1 M s 0 0 (M.1 s0 0 0)) s 1 0 ((u1 M s 0 0 (M.1 s0 0 0)).1 s0 1 0)).1 s0 2 0)).1 s0 3 0)).1 s0 3 1)).1 s0 3 2)) s 4 0 ((u1 (u1 (u1 (u1 (u1 (u1 M s 0 0 (M.1 s0 0 0)) s 1 0 ((u1 M s 0 0 (M.1 s0 0 0)).1 s0 1 0)) s 2 0 ((u1 (u1 M s 0 0 (M.1 s0 0 0)) s 1 0 ((u1 M s 0 0 (M.1 s0 0 0)).1 s0 1 0)).1 s0 2 0)) s 3 0 ((u1 (u1 (u1 M s 0 0 (M.1 s0 0 0)) s 1 0 ((u1 M s 0 0 (M.1 s0 0 0)).1 s0 1 0)) s 2 0 ((u1 (u1 M s 0 0 (M.1 s0 0 0)) s 1 0 ((u1 M s 0 0 (M.1 s0 0 0)).1 s0 1 0)).1 s0 2 0)).1 s0 3 0)) s 3 1 ((u1 (u1 (u1 (u1 M s 0 0 (M.1 s0 0 0)) s 1 0 ((u1 M s 0 0 (M.1 s0 0 0)).1 s0 1 0)) s 2 0 ((u1 (u1 M s 0 0 (M.1 s0 0 0)) s 1 0 ((u1 M s 0 0 (M.1 s0 0 0)).1 s0 1 0)).1 s0 2 0)) s 3 0 ((u1 (u1 (u1 M s 0 0 (M.1 s0 0 0)) s 1 0 ((u1 M s 0 0 (M.1 s0 0 0)).1 s0 1 0)) s 2 0 ((u1 (u1 M s 0 0 (M.1 s0 0 0)) s 1 0 ((u1 M s 0 0 (M.1 s0 0 0)).1 s0 1 0)).1 s0 2 0)).1 s0 3 0)).1 s0 3 1)) s 3 2 ((u1 (u1 (u1 (u1 (u1 M s 0 0 (M.1 s0 0 0)) s 1 0 ((u1 M s 0 0 (M.1 s0 0 0)).1 s0 1 0)) s 2 0 ((u1 (u1 M s 0 0 (M.1 s0 0 0)) s 1 0 ((u1 M s 0 0 (M.1 s0 0 0)).1 s0 1 0)).1 s0 2 0)) s 3 0 ((u1 (u1 (u1 M s 0 0 (M.1 s0 0 0)) s 1 0 ((u1 M s 0 0 (M.1 s0 0 0)).1 s0 1 0)) s 2 0 ((u1 (u1 M s 0 0 (M.1 s0 0 0)) s 1 0 ((u1 M s 0 0 (M.1 s0 0 0)).1 s0 1 0)).1 s0 2 0)).1 s0 3 0)) s 3 1 ((u1 (u1 (u1 (u1 M s 0 0 (M.1 s0 0 0)) s 1 0 ((u1 M s 0 0 (M.1 s0 0 0)).1 s0 1 0)) s 2 0 ((u1 (u1 M s 0 0 (M.1 s0 0 0)) s 1 0 ((u1 M s 0 0 (M.1 s0 0 0)).1 s0 1 0)).1 s0 2 0)) s 3 0 ((u1 (u1 (u1 M s 0 0 (M.1 s0 0 0)) s 1 0 ((u1 M s 0 0 (M.1 s0 0 0)).1 s0 1 0)) s 2 0 ((u1 (u1 M s 0 0 (M.1 s0 0 0)) s 1 0 ((u1 M s 0 0 (M.1 s0 0 0)).1 s0 1 0)).1 s0 2 0)).1 s0 3 0)).1 s0 3 1)).1 s0 3 2)).1 s0 4 0)).1 s0 5 0))) hne (tn (M.1 s0 0 0))
  refine Prod.ext ?_ (h1.trans g1)
  funext a b c
  rw [h2, g2, g2]
  clear h1 h2 g1 g2
  simp only [u1, hne, false_and, if_false, cpV]
  by_cases ha : a = s
  · subst ha
    simp only [true_and, if_true]
    by_cases p3 : b = 3
    · subst p3
      simp
      grind
    · grind (splits := 25)
  · simp only [ha, false_and, if_false]
theorem OKs_copy {M : MT} {s s0 : Nat} (hne : ¬ s0 = s) (h : OKs M s0) (ha : OKa M s) : OKs (sp_X5_copyFrom M s s0) s := by
  rw [copy_eq hne]
  obtain ⟨h1, h2, h3, h4, h5, h6, h7, h8, h9, h10⟩ := h
  have e : ∀ f, f < 6 → f ≠ 3 → cpV M s s0 s f 0 = M.1 s0 f 0 := fun f h1 h2 => by simp [cpV, h1, h2]
  have e3 : ∀ i, i < 3 → cpV M s s0 s 3 i = M.1 s0 3 i := fun i h => by simp [cpV, h]
  have ew : ∀ f w, 6 ≤ f → f < 9 → w < tn (M.1 s0 0 0) → cpV M s s0 s f w = M.1 s0 f w := fun f w h1 h2 h3 => by simp [cpV, h1, h2, h3]
  have ep : ∀ f w, 9 ≤ f → f < 14 → w < tn (M.1 s0 1 0) → cpV M s s0 s f w = M.1 s0 f w := fun f w h1 h2 h3 => by simp [cpV, h1, h2, h3]
  have ek : ∀ f w, cpV M s s0 s f w = M.1 s0 f w ∨ cpV M s s0 s f w = M.1 s f w := fun f w => by
    simp only [cpV, if_true]; split
    · exact Or.inl rfl
    · exact Or.inr rfl
  show bd (cpV M s s0 s 0 0) 9 ∧ _
  refine ⟨by rw [e 0 (by omega) (by omega)]; exact h1, by show bd (cpV M s s0 s 1 0) 9; rw [e 1 (by omega) (by omega)]; exact h2, by show bd (cpV M s s0 s 2 0) 31 ∧ 2 ≤ tn (cpV M s s0 s 2 0); rw [e 2 (by omega) (by omega)]; exact h3, by show bd (cpV M s s0 s 3 0) 11; rw [e3 0 (by omega)]; exact h4, by show bd (cpV M s s0 s 3 1) 1000; rw [e3 1 (by omega)]; exact h5, by show bd (cpV M s s0 s 3 2) 1000; rw [e3 2 (by omega)]; exact h6, fun p hp => ?_, fun p hp => ?_, fun w hw => ?_, fun p hp => ?_⟩
  · show bd (cpV M s s0 s 9 p) 6
    rcases ek 9 p with q | q <;> rw [q]
    · exact h7 p hp
    · exact ha.1 p hp
  · show bd (cpV M s s0 s 11 p) 31
    rcases ek 11 p with q | q <;> rw [q]
    · exact h8 p hp
    · exact ha.2 p hp
  · have hw : w < tn (cpV M s s0 s 0 0) := hw
    rw [e 0 (by omega) (by omega)] at hw
    show bd (cpV M s s0 s 6 w) (tn (cpV M s s0 s 2 0)) ∧ bd (cpV M s s0 s 7 w) 6 ∧ 1 ≤ tn (cpV M s s0 s 7 w) ∧ bd (cpV M s s0 s 8 w) 10
    rw [e 2 (by omega) (by omega), ew 6 w (by omega) (by omega) hw, ew 7 w (by omega) (by omega) hw, ew 8 w (by omega) (by omega) hw]
    exact h9 w hw
  · have hp : p < tn (cpV M s s0 s 1 0) := hp
    rw [e 1 (by omega) (by omega)] at hp
    show bd (cpV M s s0 s 10 p) 10 ∧ bd (cpV M s s0 s 11 p) (tn (cpV M s s0 s 2 0)) ∧ (cpV M s s0 s 12 p = -1 ∨ bd (cpV M s s0 s 12 p) (tn (cpV M s s0 s 0 0))) ∧ (cpV M s s0 s 13 p = -1 ∨ bd (cpV M s s0 s 13 p) 1000) ∧ (cpV M s s0 s 12 p = -1 → cpV M s s0 s 13 p = -1)
    rw [e 2 (by omega) (by omega), e 0 (by omega) (by omega), ep 10 p (by omega) (by omega) hp, ep 11 p (by omega) (by omega) hp, ep 12 p (by omega) (by omega) hp, ep 13 p (by omega) (by omega) hp]
    exact h10 p hp
theorem OKs_copyN {M : MT} {s s0 r : Nat} (hne : ¬ s0 = s) (hr : ¬ r = s) (h : OKs M r) : OKs (sp_X5_copyFrom M s s0) r := by
  rw [copy_eq hne]
  refine OKs_congr h ?_
  funext b c
  exact if_neg hr
theorem pd_day {M : MT} {s : Nat} (h : OKs M s) : bd (imin ((M.1 s 3 1) + 1) 999) 1000 := by
  have h5 := h.2.2.2.2.1
  have hl := bd_lt h5
  have e : M.1 s 3 1 + 1 = nI (tn (M.1 s 3 1) + 1) := by rw [← nI_1, ← bd_eq h5]
  unfold imin
  split
  · exact bd_lit (by decide +kernel)
  · rename_i q
    rw [e] at q ⊢
    have : ¬ 999 < tn (M.1 s 3 1) + 1 := fun w => q (nI_lt w (by omega))
    exact bd_nI (by omega) (by omega)
theorem OKs_pd {M : MT} {s : Nat} (h : OKs M s) : ∀ n, OKs (itN n (st_X5_passDay_18 M s) (u1 M s 3 1 (imin ((M.1 s 3 1) + 1) 999))) s := fun n =>
  itN_inv (fun m : MT => OKs m s) n (OKs_day (Or.inl rfl) (pd_day h) h) (fun k m _ hm => by
    unfold st_X5_passDay_18
    (repeat' split) <;> first | exact hm | exact OKs_other (Or.inl rfl) (OKs_rd (Or.inl rfl) (Or.inl rfl) (fun _ => rfl) hm))
theorem OKs_passDay {M : MT} {s : Nat} (h : OKs M s) : OKs (sp_X5_passDay M s) s := OKs_pd h _
theorem OKs_throw {M : MT} {s : Nat} {a b c : Int32} (h : OKs M s) (ha : tn a < tn (M.1 s 0 0)) (ha8 : bd a 8) : OKs (sp_X5_throwRose M s a b c).2 s := by
  unfold sp_X5_throwRose
  split
  · exact h
  · rename_i q
    rw [dD_rose]
    refine OKs_rd (Or.inr ⟨ha8.1, ha⟩) (dD_ok h ?_ ha) (fun z => absurd z (fun z => ?_)) h
    · exact (cB_t h.2.1).resolve_left q
    · rw [bd_eq ha8] at z
      have := bd_lt ha8
      have := Int32.toInt_inj.mpr z
      rw [nI_toInt (by omega)] at this
      have e : (-1 : Int32).toInt = -1 := by decide
      rw [e] at this
      omega
def cpM (M : MT) (s s0 : Nat) : MT := (cpV M s s0, M.2)
theorem OKs_copy2 {M : MT} {s s0 : Nat} (hne : ¬ s0 = s) (h : OKs M s0) (ha : OKa M s) : OKs (cpM M s s0) s := by
  have := OKs_copy hne h ha
  rw [copy_eq hne] at this
  exact this
theorem OKs_copy3 {M : MT} {s s0 r : Nat} (hr : ¬ r = s) (h : OKs M r) : OKs (cpM M s s0) r := by
  refine OKs_congr h ?_
  funext b c
  exact if_neg hr
theorem OKs_a {M : MT} {s : Nat} (h : OKs M s) : OKa M s := ⟨h.2.2.2.2.2.2.1, h.2.2.2.2.2.2.2.1⟩
theorem c_X5_copyM {K : KT} {M : MT} {s : Nat} {s0 : Nat} (hs : s < 5) (hs0 : s0 < 5) (hne : ¬ s0 = s) (hoks0 : OKs M s0) : CM K 2 yX5_copyFrom cX5_copyFrom 3 none [rf K (iS s), rf K (iS s0)] M none (cpM M s s0) := by
  have h := c_X5_copyFrom (K := K) hs hs0 hoks0
  rw [copy_eq hne] at h
  exact h
