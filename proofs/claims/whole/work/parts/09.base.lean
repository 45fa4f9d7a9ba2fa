/-! ===== small things that the walks use ===== -/
def tn (x : Int32) : Nat := x.toNatClampNeg
/-- 0 to n less 1 -/
def bd (x : Int32) (n : Nat) : Prop := ¬ x < 0 ∧ x.toNatClampNeg < n
theorem bd_lt {x : Int32} {n : Nat} (h : bd x n) : tn x < n := h.2
theorem tn_nI {i : Nat} (h : i < 2147483648) : tn (nI i) = i := nI_clamp h
theorem bd_nI {i n : Nat} (h : i < n) (hn : n ≤ 2147483648) : bd (nI i) n := ⟨nI_pos (by omega), by rw [nI_clamp (by omega)]; exact h⟩
theorem bd_lit {x : Int32} {n : Nat} (h : (decide (x < 0) == false && Nat.blt x.toNatClampNeg n) = true) : bd x n := by
  simp only [Bool.and_eq_true, beq_iff_eq, decide_eq_false_iff_not] at h
  exact ⟨h.1, Nat.le_of_ble_eq_true h.2⟩
theorem bd_mono {x : Int32} {n k : Nat} (h : bd x n) (hk : n ≤ k) : bd x k := ⟨h.1, Nat.lt_of_lt_of_le h.2 hk⟩
theorem tn_small (x : Int32) : tn x < 2147483648 := by
  have h := x.toInt_lt
  unfold tn Int32.toNatClampNeg
  omega
theorem bd_eq {x : Int32} {n : Nat} (h : bd x n) : x = nI (tn x) := by
  have h0 : (0 : Int) ≤ x.toInt := by
    have := Int32.not_lt.mp h.1
    simpa using Int32.le_iff_toInt_le.mp this
  apply Int32.toInt_inj.mp
  rw [nI_toInt (tn_small x)]
  show x.toInt = ((x.toInt.toNat : Nat) : Int)
  omega
theorem ix_bd {x : Int32} {n : Nat} (h : bd x n) : ix x n (tn x) := ⟨fun q => q.elim h.1 (fun q => absurd h.2 (Nat.not_lt.mpr q)), rfl, h.2⟩
theorem ix_lit {x : Int32} {n j : Nat} (h : (decide (x < 0) == false && x.toNatClampNeg == j && decide (j < n)) = true) : ix x n j := by
  simp only [Bool.and_eq_true, beq_iff_eq, decide_eq_false_iff_not, decide_eq_true_eq] at h
  obtain ⟨⟨h1, h2⟩, h3⟩ := h
  exact ⟨fun q => q.elim h1 (fun q => by omega), h2, h3⟩
theorem bd_le {x : Int32} {n i : Nat} (h : bd x n) (hi : i < 2147483648) : x ≤ nI i ↔ tn x ≤ i := by
  rw [bd_eq h, nI_leI (by have := tn_small x; omega) hi, tn_nI (tn_small x)]
theorem bd_ge {x : Int32} {n i : Nat} (h : bd x n) (hi : i < 2147483648) : nI i < x ↔ i < tn x := by
  rw [bd_eq h, nI_ltI hi (by have := tn_small x; omega), tn_nI (tn_small x)]
theorem le_nI {k i : Nat} (hk : k < 2147483648) (hi : i < 2147483648) : nI k ≤ nI i ↔ k ≤ i := nI_leI hk hi
theorem lt_nI {k i : Nat} (hk : k < 2147483648) (hi : i < 2147483648) : nI k < nI i ↔ k < i := nI_ltI hk hi
theorem rng_step (x : Int32) (i : Nat) : x + nI (i + 1) = x + nI i + 1 := by rw [nI_succ, Int32.add_assoc]
theorem rng_zero (x : Int32) : x + nI 0 = x := by rw [nI_0, Int32.add_zero]
theorem pair_fst {α β : Type} {p : α × β} {a : α} {b : β} (h : p = (a, b)) : a = p.1 := by rw [h]
theorem pair_snd {α β : Type} {p : α × β} {a : α} {b : β} (h : p = (a, b)) : b = p.2 := by rw [h]
/-- f 0 first, f (n - 1) last -/
def itN {β : Type} : Nat → (Nat → β → β) → β → β
  | 0, _, b => b
  | n + 1, f, b => f n (itN n f b)
/-- A of the first below n that P holds of; else B -/
def fndN {β : Type} (P : Nat → Bool) (A : Nat → β) (B : β) : Nat → Nat → β
  | 0, _ => B
  | n + 1, i => if P i = true then A i else fndN P A B n (i + 1)
theorem fndN_hit {β : Type} {P : Nat → Bool} {A : Nat → β} {B : β} : ∀ (n i j : Nat), i ≤ j → j < i + n → P j = true → (∀ k, i ≤ k → k < j → P k = false) → fndN P A B n i = A j
  | 0, i, j, h1, h2, _, _ => by omega
  | n + 1, i, j, h1, h2, h3, h4 => by
    unfold fndN
    by_cases e : i = j
    · subst e; rw [if_pos h3]
    · rw [if_neg (by rw [h4 i (Nat.le_refl _) (by omega)]; decide)]
      exact fndN_hit n (i + 1) j (by omega) (by omega) h3 (fun k h5 h6 => h4 k (by omega) h6)
theorem fndN_none {β : Type} {P : Nat → Bool} {A : Nat → β} {B : β} : ∀ (n i : Nat), (∀ k, i ≤ k → k < i + n → P k = false) → fndN P A B n i = B
  | 0, i, _ => rfl
  | n + 1, i, h => by
    unfold fndN
    rw [if_neg (by rw [h i (Nat.le_refl _) (by omega)]; decide)]
    exact fndN_none n (i + 1) (fun k h5 h6 => h k (by omega) (by omega))
theorem up_ind {P : Nat → Prop} (n : Nat) (h : ∀ i, i ≤ n → (i + 1 ≤ n → P (i + 1)) → P i) : ∀ i, i ≤ n → P i := by
  intro i hi
  obtain ⟨k, hk⟩ : ∃ k, k = n - i := ⟨_, rfl⟩
  induction k generalizing i with
  | zero => exact h i hi (fun q => by omega)
  | succ k ih => exact h i hi (fun q => ih (i + 1) q (by omega))
/-- fewer known locals -/
def wk : List (Option Value) → List (Option Value) → Prop
  | [], _ => True
  | none :: a, _ :: b => wk a b
  | some v :: a, some w :: b => v = w ∧ wk a b
  | none :: a, [] => wk a []
  | some _ :: _, _ => False
theorem wk_asc : ∀ (a b : List (Option Value)) (i : Nat), wk a b → ∀ q ∈ asc i a, q ∈ asc i b
  | [], _, _, _, q, hq => by simp [asc] at hq
  | none :: a, y :: b, i, h, q, hq => by
    simp only [asc] at hq
    have := wk_asc a b (i + 1) (by simpa [wk] using h) q hq
    cases y with
    | none => simpa [asc] using this
    | some y => simp only [asc]; exact List.mem_cons_of_mem _ this
  | some v :: a, some w :: b, i, h, q, hq => by
    simp only [wk] at h
    simp only [asc, List.mem_cons] at hq ⊢
    rcases hq with rfl | hq
    · exact Or.inl (by rw [h.1])
    · exact Or.inr (wk_asc a b (i + 1) h.2 q hq)
  | none :: a, [], i, h, q, hq => by
    simp only [asc] at hq
    have := wk_asc a [] (i + 1) (by simpa [wk] using h) q hq
    simp [asc] at this
  | some v :: a, none :: b, i, h, q, hq => by simp [wk] at h
  | some v :: a, [], i, h, q, hq => by simp [wk] at h
theorem wk_0 {b : List (Option Value)} : wk [] b := trivial
theorem wk_n {a b : List (Option Value)} {x : Option Value} (h : wk a b) : wk (none :: a) (x :: b) := h
theorem wk_s {a b : List (Option Value)} {v w : Value} (h : v = w) (h2 : wk a b) : wk (some v :: a) (some w :: b) := ⟨h, h2⟩
section Zrows
variable {G : GT} {K : KT} {M : MT} {own : String} {cc : ByteArray} {d pc : Nat} {ls : List (Option Value)} {st : List Value}
theorem J.wk {ls' : List (Option Value)} (k : J G K M pc ls' st) (hl : ls'.length = ls.length) (h : wk ls' ls) : J G K M pc ls st :=
  fun hn H locs lc hP hS h2 => k (by rw [hl]; exact hn) H locs lc hP hS ⟨h2.1, h2.2.1, fun q hq => h2.2.2 q (wk_asc ls' ls 0 h q hq)⟩
def bz (b : Bool) : Int32 := if b then 1 else 0
theorem J.castM {M' : MT} (k : J G K M' pc ls st) (h : M = M') : J G K M pc ls st := by subst h; exact k
theorem bz_0 {b : Bool} (h : bz b = 0) : ¬ b = true := by cases b <;> simp_all [bz]
theorem bz_n0 {b : Bool} (h : ¬ bz b = 0) : b = true := by cases b <;> simp_all [bz]
theorem bz_t {b : Bool} (h : b = true) : (1 : Int32) = bz b := by rw [h]; rfl
theorem bz_f {b : Bool} (h : b = false) : (0 : Int32) = bz b := by rw [h]; rfl
theorem bz_e {b c : Bool} (h : b = c) : bz c = bz b := by rw [h]
theorem r_ifz_eq {b : Bool} {off : Int} {tgt : Nat} (hG : GF G K own cc d) (hd : decode cc pc = .ok (.ifCond .eq off, 3)) (ht : (pc : Int) + off = (tgt : Int)) (kt : ¬ b = true → J G K M tgt ls st) (kf : b = true → J G K M (pc + 3) ls st) : J G K M pc ls (.int (bz b) :: st) := r_if_eq hG hd ht (fun c => kt (bz_0 c)) (fun c => kf (bz_n0 c))
theorem r_ifz_ne {b : Bool} {off : Int} {tgt : Nat} (hG : GF G K own cc d) (hd : decode cc pc = .ok (.ifCond .ne off, 3)) (ht : (pc : Int) + off = (tgt : Int)) (kt : b = true → J G K M tgt ls st) (kf : ¬ b = true → J G K M (pc + 3) ls st) : J G K M pc ls (.int (bz b) :: st) := r_if_ne hG hd ht (fun c => kt (bz_n0 c)) (fun c => kf (bz_0 c))
theorem lc_lt (x y : Int64) : lg_cmp x y < 0 ↔ x < y := by
  unfold lg_cmp
  simp only [gt_iff_lt, Int64.lt_iff_toInt_lt, Int64.le_iff_toInt_le, ← Int64.toInt_inj]
  split
  · constructor <;> intro h <;> first | omega | (exact absurd h (by decide)) | decide
  · split
    · constructor <;> intro h <;> first | omega | (exact absurd h (by decide)) | decide
    · constructor <;> intro h <;> first | omega | (exact absurd h (by decide)) | decide
theorem r_lc_lt {x y : Int64} {off : Int} {tgt : Nat} (hG : GF G K own cc d) (hd : decode cc pc = .ok (.ifCond .lt off, 3)) (ht : (pc : Int) + off = (tgt : Int)) (kt : x < y → J G K M tgt ls st) (kf : ¬ x < y → J G K M (pc + 3) ls st) : J G K M pc ls (.int (lg_cmp x y) :: st) := r_if_lt hG hd ht (fun c => kt ((lc_lt x y).mp c)) (fun c => kf (fun q => c ((lc_lt x y).mpr q)))
theorem lc_ge (x y : Int64) : 0 ≤ lg_cmp x y ↔ y ≤ x := by
  unfold lg_cmp
  simp only [gt_iff_lt, Int64.lt_iff_toInt_lt, Int64.le_iff_toInt_le, ← Int64.toInt_inj]
  split
  · constructor <;> intro h <;> first | omega | (exact absurd h (by decide)) | decide
  · split
    · constructor <;> intro h <;> first | omega | (exact absurd h (by decide)) | decide
    · constructor <;> intro h <;> first | omega | (exact absurd h (by decide)) | decide
theorem r_lc_ge {x y : Int64} {off : Int} {tgt : Nat} (hG : GF G K own cc d) (hd : decode cc pc = .ok (.ifCond .ge off, 3)) (ht : (pc : Int) + off = (tgt : Int)) (kt : y ≤ x → J G K M tgt ls st) (kf : ¬ y ≤ x → J G K M (pc + 3) ls st) : J G K M pc ls (.int (lg_cmp x y) :: st) := r_if_ge hG hd ht (fun c => kt ((lc_ge x y).mp c)) (fun c => kf (fun q => c ((lc_ge x y).mpr q)))
theorem lc_gt (x y : Int64) : 0 < lg_cmp x y ↔ y < x := by
  unfold lg_cmp
  simp only [gt_iff_lt, Int64.lt_iff_toInt_lt, Int64.le_iff_toInt_le, ← Int64.toInt_inj]
  split
  · constructor <;> intro h <;> first | omega | (exact absurd h (by decide)) | decide
  · split
    · constructor <;> intro h <;> first | omega | (exact absurd h (by decide)) | decide
    · constructor <;> intro h <;> first | omega | (exact absurd h (by decide)) | decide
theorem r_lc_gt {x y : Int64} {off : Int} {tgt : Nat} (hG : GF G K own cc d) (hd : decode cc pc = .ok (.ifCond .gt off, 3)) (ht : (pc : Int) + off = (tgt : Int)) (kt : y < x → J G K M tgt ls st) (kf : ¬ y < x → J G K M (pc + 3) ls st) : J G K M pc ls (.int (lg_cmp x y) :: st) := r_if_gt hG hd ht (fun c => kt ((lc_gt x y).mp c)) (fun c => kf (fun q => c ((lc_gt x y).mpr q)))
theorem lc_le (x y : Int64) : lg_cmp x y ≤ 0 ↔ x ≤ y := by
  unfold lg_cmp
  simp only [gt_iff_lt, Int64.lt_iff_toInt_lt, Int64.le_iff_toInt_le, ← Int64.toInt_inj]
  split
  · constructor <;> intro h <;> first | omega | (exact absurd h (by decide)) | decide
  · split
    · constructor <;> intro h <;> first | omega | (exact absurd h (by decide)) | decide
    · constructor <;> intro h <;> first | omega | (exact absurd h (by decide)) | decide
theorem r_lc_le {x y : Int64} {off : Int} {tgt : Nat} (hG : GF G K own cc d) (hd : decode cc pc = .ok (.ifCond .le off, 3)) (ht : (pc : Int) + off = (tgt : Int)) (kt : x ≤ y → J G K M tgt ls st) (kf : ¬ x ≤ y → J G K M (pc + 3) ls st) : J G K M pc ls (.int (lg_cmp x y) :: st) := r_if_le hG hd ht (fun c => kt ((lc_le x y).mp c)) (fun c => kf (fun q => c ((lc_le x y).mpr q)))
theorem lc_eq (x y : Int64) : lg_cmp x y = 0 ↔ x = y := by
  unfold lg_cmp
  simp only [gt_iff_lt, Int64.lt_iff_toInt_lt, Int64.le_iff_toInt_le, ← Int64.toInt_inj]
  split
  · constructor <;> intro h <;> first | omega | (exact absurd h (by decide)) | decide
  · split
    · constructor <;> intro h <;> first | omega | (exact absurd h (by decide)) | decide
    · constructor <;> intro h <;> first | omega | (exact absurd h (by decide)) | decide
theorem r_lc_eq {x y : Int64} {off : Int} {tgt : Nat} (hG : GF G K own cc d) (hd : decode cc pc = .ok (.ifCond .eq off, 3)) (ht : (pc : Int) + off = (tgt : Int)) (kt : x = y → J G K M tgt ls st) (kf : ¬ x = y → J G K M (pc + 3) ls st) : J G K M pc ls (.int (lg_cmp x y) :: st) := r_if_eq hG hd ht (fun c => kt ((lc_eq x y).mp c)) (fun c => kf (fun q => c ((lc_eq x y).mpr q)))
theorem r_lc_ne {x y : Int64} {off : Int} {tgt : Nat} (hG : GF G K own cc d) (hd : decode cc pc = .ok (.ifCond .ne off, 3)) (ht : (pc : Int) + off = (tgt : Int)) (kt : ¬ x = y → J G K M tgt ls st) (kf : x = y → J G K M (pc + 3) ls st) : J G K M pc ls (.int (lg_cmp x y) :: st) := r_if_ne hG hd ht (fun c => kt (fun q => c ((lc_eq x y).mpr q))) (fun c => kf ((lc_eq x y).mp c))
end Zrows
theorem ic_m1 : Int32.ofInt (-1) = (-1) := by decide
theorem ic_0 : Int32.ofInt (0) = 0 := by decide
theorem ic_1 : Int32.ofInt (1) = 1 := by decide
theorem ic_2 : Int32.ofInt (2) = 2 := by decide
theorem ic_3 : Int32.ofInt (3) = 3 := by decide
theorem ic_4 : Int32.ofInt (4) = 4 := by decide
theorem ic_5 : Int32.ofInt (5) = 5 := by decide
theorem bc_m20 : (Int8.ofInt (-20)).toInt32 = (-20) := by decide
theorem bc_m6 : (Int8.ofInt (-6)).toInt32 = (-6) := by decide
theorem bc_m5 : (Int8.ofInt (-5)).toInt32 = (-5) := by decide
theorem bc_m4 : (Int8.ofInt (-4)).toInt32 = (-4) := by decide
theorem bc_m3 : (Int8.ofInt (-3)).toInt32 = (-3) := by decide
theorem bc_m2 : (Int8.ofInt (-2)).toInt32 = (-2) := by decide
theorem bc_6 : (Int8.ofInt (6)).toInt32 = 6 := by decide
theorem bc_7 : (Int8.ofInt (7)).toInt32 = 7 := by decide
theorem bc_8 : (Int8.ofInt (8)).toInt32 = 8 := by decide
theorem bc_9 : (Int8.ofInt (9)).toInt32 = 9 := by decide
theorem bc_10 : (Int8.ofInt (10)).toInt32 = 10 := by decide
theorem bc_11 : (Int8.ofInt (11)).toInt32 = 11 := by decide
theorem bc_12 : (Int8.ofInt (12)).toInt32 = 12 := by decide
theorem bc_16 : (Int8.ofInt (16)).toInt32 = 16 := by decide
theorem bc_20 : (Int8.ofInt (20)).toInt32 = 20 := by decide
theorem bc_24 : (Int8.ofInt (24)).toInt32 = 24 := by decide
theorem bc_29 : (Int8.ofInt (29)).toInt32 = 29 := by decide
theorem bc_30 : (Int8.ofInt (30)).toInt32 = 30 := by decide
theorem bc_32 : (Int8.ofInt (32)).toInt32 = 32 := by decide
theorem bc_40 : (Int8.ofInt (40)).toInt32 = 40 := by decide
theorem bc_48 : (Int8.ofInt (48)).toInt32 = 48 := by decide
theorem bc_56 : (Int8.ofInt (56)).toInt32 = 56 := by decide
theorem bc_57 : (Int8.ofInt (57)).toInt32 = 57 := by decide
theorem bc_59 : (Int8.ofInt (59)).toInt32 = 59 := by decide
theorem bc_60 : (Int8.ofInt (60)).toInt32 = 60 := by decide
theorem bc_63 : (Int8.ofInt (63)).toInt32 = 63 := by decide
theorem bc_64 : (Int8.ofInt (64)).toInt32 = 64 := by decide
theorem bc_67 : (Int8.ofInt (67)).toInt32 = 67 := by decide
theorem bc_68 : (Int8.ofInt (68)).toInt32 = 68 := by decide
theorem bc_69 : (Int8.ofInt (69)).toInt32 = 69 := by decide
theorem bc_70 : (Int8.ofInt (70)).toInt32 = 70 := by decide
theorem bc_71 : (Int8.ofInt (71)).toInt32 = 71 := by decide
theorem bc_75 : (Int8.ofInt (75)).toInt32 = 75 := by decide
theorem bc_97 : (Int8.ofInt (97)).toInt32 = 97 := by decide
theorem bc_100 : (Int8.ofInt (100)).toInt32 = 100 := by decide
theorem bc_101 : (Int8.ofInt (101)).toInt32 = 101 := by decide
theorem bc_119 : (Int8.ofInt (119)).toInt32 = 119 := by decide
theorem bc_120 : (Int8.ofInt (120)).toInt32 = 120 := by decide
theorem bc_122 : (Int8.ofInt (122)).toInt32 = 122 := by decide
theorem sc_250 : (Int16.ofInt (250)).toInt32 = 250 := by decide
theorem sc_255 : (Int16.ofInt (255)).toInt32 = 255 := by decide
theorem sc_256 : (Int16.ofInt (256)).toInt32 = 256 := by decide
theorem sc_320 : (Int16.ofInt (320)).toInt32 = 320 := by decide
theorem sc_999 : (Int16.ofInt (999)).toInt32 = 999 := by decide
theorem sc_1000 : (Int16.ofInt (1000)).toInt32 = 1000 := by decide
theorem sc_12345 : (Int16.ofInt (12345)).toInt32 = 12345 := by decide
theorem nw_RX3_19 : Cond.methodLinkNest RX3 19 yX8_within RX8 ∈ kNest := List.mem_of_getElem? (i := 0) rfl
theorem nw_RX5_57 : Cond.methodLinkNest RX5 57 yX8_within RX8 ∈ kNest := List.mem_of_getElem? (i := 1) rfl
theorem nw_RX6_63 : Cond.methodLinkNest RX6 63 yX8_within RX8 ∈ kNest := List.mem_of_getElem? (i := 2) rfl
theorem nw_RX5_104 : Cond.methodLinkNest RX5 104 yX8_slowness RX8 ∈ kNest := List.mem_of_getElem? (i := 3) rfl
theorem nw_RX2_27 : Cond.fieldLinkNest RX2 27 RX8 "KIND_ABOVE" "[I" RX8 ∈ kNest := List.mem_of_getElem? (i := 4) rfl
theorem nw_RX2_31 : Cond.fieldLinkNest RX2 31 RX8 "REACH_OF_KIND" "[I" RX8 ∈ kNest := List.mem_of_getElem? (i := 5) rfl
theorem ks_RX6_78 : (RX6, 78, 0) ∈ kStr := List.mem_of_getElem? (i := 0) rfl
theorem ks_RX6_84 : (RX6, 84, 1) ∈ kStr := List.mem_of_getElem? (i := 1) rfl
theorem ks_RX6_86 : (RX6, 86, 2) ∈ kStr := List.mem_of_getElem? (i := 2) rfl
theorem ks_RX6_88 : (RX6, 88, 3) ∈ kStr := List.mem_of_getElem? (i := 3) rfl
theorem ks_RX6_90 : (RX6, 90, 4) ∈ kStr := List.mem_of_getElem? (i := 4) rfl
theorem ks_RX6_92 : (RX6, 92, 5) ∈ kStr := List.mem_of_getElem? (i := 5) rfl
theorem ks_RX6_94 : (RX6, 94, 6) ∈ kStr := List.mem_of_getElem? (i := 6) rfl
theorem ks_RX9_185 : (RX9, 185, 0) ∈ kStr := List.mem_of_getElem? (i := 7) rfl
theorem ks_RX9_170 : (RX9, 170, 1) ∈ kStr := List.mem_of_getElem? (i := 8) rfl
theorem ks_RX9_180 : (RX9, 180, 2) ∈ kStr := List.mem_of_getElem? (i := 9) rfl
theorem ks_RX9_187 : (RX9, 187, 3) ∈ kStr := List.mem_of_getElem? (i := 10) rfl
theorem ks_RX9_188 : (RX9, 188, 4) ∈ kStr := List.mem_of_getElem? (i := 11) rfl
theorem ks_RX9_190 : (RX9, 190, 5) ∈ kStr := List.mem_of_getElem? (i := 12) rfl
theorem ks_RX9_192 : (RX9, 192, 6) ∈ kStr := List.mem_of_getElem? (i := 13) rfl
