/-! ===== a new object, made by its own method ===== -/
section Make
variable {G : GT} {X : XT} {ws : va_W} {own : String} {cc : ByteArray} {d k o pc : Nat} {ls : List (Option Value)} {st : List Value}
theorem va_nd_range : ∀ n : Nat, ∀ l : List Nat, (∀ a, a ∈ l → n ≤ a) → va_nd l = true → va_nd (List.range n ++ l) = true
  | 0, l, _, h => by simpa using h
  | n + 1, l, h1, h2 => by
    rw [List.range_succ, List.append_assoc]
    refine va_nd_range n ([n] ++ l) (fun a ha => ?_) ?_
    · rcases List.mem_append.mp ha with h | h
      · rw [List.mem_singleton.mp h]; exact Nat.le_refl _
      · exact Nat.le_trans (Nat.le_succ n) (h1 a h)
    · show (decide (n ∉ l) && va_nd l) = true
      rw [h2, Bool.and_true, decide_eq_true_eq]
      intro hm
      exact absurd (h1 n hm) (by omega)
theorem grow_join {A0 : Nat → Prop} {D : va_G} {cl : List vw_C} {ws w1 : va_W} {x : Nat × va_E} {H H1 : Heap} (hP : va_P D cl (ws ++ [x]) H) (hD : va_D A0 (ws ++ [x])) (hk : ∀ q : Nat, q < H.size → ¬ va_A [x] H.size q → H1[q]? = H[q]?) (hF : ∀ q, va_A [x] H.size q → A0 q) (hP1 : va_P D cl w1 H1) (hD1 : va_D (va_A [x] H.size) w1) : va_P D cl (ws ++ w1) H1 ∧ va_D A0 (ws ++ w1) := by
  refine va_join (wc := [x]) (wr := ws) hP hD [ws.length] (List.range ws.length) (by simp) ?_ ?_ ?_ hk hF hP1 hD1
  · apply List.ext_getElem?
    intro i
    rw [List.getElem?_map, List.getElem?_map]
    by_cases h : i < ws.length
    · rw [List.getElem?_range h]
      simp only [Option.map_some]
      rw [List.getElem?_append_left h, List.getElem?_eq_getElem h]
      rfl
    · rw [List.getElem?_eq_none (by rw [List.length_range]; omega), List.getElem?_eq_none (Nat.le_of_not_lt h)]
      rfl
  · have := va_nd_range ws.length [] (fun a h => by cases h) rfl
    rwa [List.append_nil] at this
  · intro i hi hc
    rw [List.mem_singleton] at hc
    have := List.mem_range.mp hi
    omega
theorem l_make {S : Type} {ci N idx idx2 nY d' mc ms : Nat} {C : String} {T : u_T} {fs : List Value} {y : MethodName} {cy : ByteArray} {Wf : (Nat → ClassId) → Nat → S → va_W} (hF : LF G X own cc d) (hd0 : decode cc pc = .ok (.new idx, 3)) (hd1 : decode cc (pc + 3) = .ok (.dup, 1)) (hd2 : decode cc (pc + 4) = .ok (.invokespecial idx2, 3)) (hC : CI d' y cy nY mc ms ci fs Wf) (hlk : Cond.methodLink own idx2 y ∈ TW ∨ Cond.methodLinkNest own idx2 y RX8 ∈ kIn) (w1 : Cond.classLink own idx C ∈ TW) (w2 : Cond.instantiable C N ∈ TW) (w3 : Cond.initialized C ∈ TW) (w4 : Cond.instanceMethod y ∈ TW) (w5 : Cond.code y cy nY none ∈ TW) (hin : ∀ w ∈ u_ws C T N, w ∈ TW) (ty : Nat → FieldType) (hty : ∀ k, k < N → parseFieldDescriptor (T k).2.2.1 = some (ty k)) (hc : vwCl[ci]? = some (C, T, N)) (hfs : ∀ j, j < N → defaultValue (ty j) = vp_V fs j) (hy : y.cls = C ∧ y.name = "<init>" ∧ y.cls ≠ "java/lang/invoke/MethodHandle" ∧ y.cls ≠ "java/lang/invoke/VarHandle" ∧ (parseMethodDescriptor y.desc).map (fun d => d.parameters.length) = some 0) (hdd : d' + 1 ≤ d) (hnY : nY ≤ 20) (h1 : k + 1 + mc ≤ (gR G).cells) (h2 : o + N + ms ≤ (gR G).slots) (hst : (st.map fun v => v.category).sum ≤ 7)
    (kk : ∀ (q : Nat) (u : S), L G X (ws ++ Wf X.2.1 q u) (k + 1 + mc) (o + N + ms) (pc + 7) ls (.ref q :: st)) : L G X ws k o pc ls st := by
  intro hn H locs lc hP hD hS hl
  have hrm := hF.2.2.2.2.2.2.1
  refine va_new (ci := ci) (fs := fs) (C := C) (T := T) (N := N) hF.1 hF.2.1 hF.2.2.2.2.1 hin ty hty hF.2.2.2.1 (hF.2.2.2.2.1 _ w1) (hF.2.2.2.2.1 _ w2) (hF.2.2.2.2.1 _ w3) hF.2.2.2.2.2.1.1 hP hD hS hF.2.2.2.2.2.2.2 hc hfs (by omega) (by omega) hd0 (fun q H1 hP1 hD1 hS1 => ?_)
  refine lv_dup hF.1 hF.2.1 hd1 rfl ?_
  have hPc : va_P X.1 vwCl [(q, .inr (ci, fs))] H1 := hP1.sub [ws.length] (by simp)
  have hFc := va_free (wc := [(q, .inr (ci, fs))]) hD1 hS1 hF.2.2.2.2.2.2.2 [ws.length] (by simp)
  have hT : GoodIn TW (Cond.code y cy nY none :: TW) := by
    intro w hw
    rcases List.mem_cons.mp hw with rfl | hw
    · exact TWg w5
    · exact TWg hw
  have hini : (Cond.initialized y.cls).before (gA G) (gS G) = true := by rw [hy.1]; exact hF.2.2.2.2.1 _ w3
  have hR : d' + 1 ≤ (gR G).frames ∧ 8 + (nY + 11) + 40 * d' ≤ (gR G).locals := ⟨by omega, by omega⟩
  have hpre : PreS (gS G) H1 (va_Pc [.ref q] (fun U => U.heap.size = H1.size ∧ va_P X.1 vwCl [(q, .inr (ci, fs))] U.heap ∧ FA X.1 X.2.1 U)) (.ref q :: []) :=
    ⟨fun a U g mk z => ⟨z.1, z.2.1, z.2.2.1, z.2.2.2.same rfl⟩, fun U hU hW => ⟨rfl, by rw [hU], by rw [hU]; exact hPc, hF.2.2.2.2.2.1.warm hW⟩⟩
  have hw8 : ((Value.ref q :: st).map fun v => v.category).sum ≤ 8 := by
    rw [List.map_cons, List.sum_cons]
    show 1 + _ ≤ 8
    omega
  have hr : va_Run (gP G) (gL G) (gE G) (gR G) (gS G) (gM G) (gA G) (gB G) (gH G) (gC G) H1 locs (k + 1) (o + N) mc ms (F0 (gM G) (pc + 4) lc (.ref q :: .ref q :: st)) (.ref q :: st) (va_Qv (fun _ : S => True) (fun u t => va_P X.1 vwCl (Wf X.2.1 q u) t.heap ∧ va_D (va_A [(q, .inr (ci, fs))] H1.size) (Wf X.2.1 q u)) (va_A [(q, .inr (ci, fs))] H1.size) (Value.ref q :: []).toArray) (va_A [(q, .inr (ci, fs))] H1.size) := by
    rcases hlk with h | h
    · exact va_runI (As := []) (rest := .ref q :: st) ⟨hF.1, hF.2.1, hF.2.2.1, hF.2.2.2.1, hF.2.2.2.2.1⟩ (hC (gL G) X.1 X.2.1 q H1.size) (cwI 0 hF.2.2.2.2.1 hT rfl rfl rfl hini (hF.2.2.2.2.1 _ h) (hF.2.2.2.2.1 _ w4) hy.2.1 ⟨hy.2.2.1, hy.2.2.2.1, hy.2.2.2.2⟩ hR) hpre rfl rfl hl.1 rfl (lv_room hw8) hd2 ⟨h1, h2⟩
    · exact va_runIN (As := []) (rest := .ref q :: st) ⟨hF.1, hF.2.1, hF.2.2.1, hF.2.2.2.1, hF.2.2.2.2.1⟩ (hC (gL G) X.1 X.2.1 q H1.size) ⟨va_cnB 0 hF.2.2.2.2.1 hT rfl rfl rfl (hF.2.2.2.2.2.1.2.1 _ h) hini ⟨hy.2.2.1, hy.2.2.2.1, hy.2.2.2.2⟩ hR, hy.2.1, hF.2.2.2.2.1 _ w4⟩ hpre rfl rfl hl.1 rfl (lv_room hw8) hd2 ⟨h1, h2⟩
  refine va_callv hr hS1 (fun x _ h => hFc x h) hFc (fun u t H2 locs2 ht hvm hw hB hz hk hS2 => ?_)
  obtain ⟨hP2, hD2⟩ := hB
  rw [ht] at hP2
  obtain ⟨hP3, hD3⟩ := grow_join hP1 hD1 hk hFc hP2 hD2
  exact kk q u hn H2 locs2 lc hP3 hD3 hS2 hl
/-- f 0, then f 1, .. f (n - 1) -/
def mkW : Nat → (Nat → va_W) → va_W
  | 0, _ => []
  | n + 1, f => mkW n f ++ f n
theorem mkW_congr {f g : Nat → va_W} : ∀ n : Nat, (∀ i, i < n → f i = g i) → mkW n f = mkW n g
  | 0, _ => rfl
  | n + 1, h => by
    show mkW n f ++ f n = mkW n g ++ g n
    rw [mkW_congr n (fun i hi => h i (Nat.lt_succ_of_lt hi)), h n (Nat.lt_succ_self n)]
/-- the first j of an array's references -/
def rr (j : Nat) (r : Nat → Nat) : Nat → Option Nat := fun i => if i < j then some (r i) else none
theorem rr_0 (r : Nat → Nat) : rr 0 r = fun _ => none := funext fun i => if_neg (Nat.not_lt_zero i)
theorem rr_up (r : Nat → Nat) (j q : Nat) : va_up (rr j r) j (some q) = rr (j + 1) (fun i => if i = j then q else r i) := by
  funext i
  unfold va_up rr
  by_cases h : i = j
  · rw [if_pos h, if_pos (by omega)]
    simp [h]
  · by_cases h2 : i < j
    · rw [if_neg h, if_pos h2, if_pos (by omega)]
      simp [h]
    · rw [if_neg h, if_neg h2, if_neg (by omega)]
theorem L.nums {k' o' : Nat} (hk : k = k') (ho : o = o') (kk : L G X ws k' o' pc ls st) : L G X ws k o pc ls st := by
  subst hk ho; exact kk
/-- eight new objects into an array of the own object: the loop at b -/
theorem l_fill {S : Type} (u0 : S) {ci N idx idx2 nY d' mc ms co NO g t b e h0 w : Nat} {C CO : String} {T TO : u_T} {fs fo : List Value} {y : MethodName} {cy : ByteArray} {Wf : (Nat → ClassId) → Nat → S → va_W} {off1 off2 : Int} {Y : va_W} (hF : LF G X own cc d)
    (e0 : decode cc b = .ok (.iload_n 1, 1)) (e1 : decode cc (b + 1) = .ok (.bipush 8, 2)) (e3 : decode cc (b + 3) = .ok (.if_icmp .ge off1, 3)) (ho1 : ((b + 3 : Nat) : Int) + off1 = (e : Int)) (e6 : decode cc (b + 6) = .ok (.aload_n 0, 1)) (e7 : decode cc (b + 7) = .ok (.getfield g, 3)) (e10 : decode cc (b + 10) = .ok (.iload_n 1, 1)) (hd0 : decode cc (b + 11) = .ok (.new idx, 3)) (hd1 : decode cc (b + 14) = .ok (.dup, 1)) (hd2 : decode cc (b + 15) = .ok (.invokespecial idx2, 3)) (e18 : decode cc (b + 18) = .ok (.aastore, 1)) (e19 : decode cc (b + 19) = .ok (.iinc 1 1, 3)) (e22 : decode cc (b + 22) = .ok (.goto off2, 3)) (ho2 : ((b + 22 : Nat) : Int) + off2 = (b : Int))
    (hC : CI d' y cy nY mc ms ci fs Wf) (hlk : Cond.methodLink own idx2 y ∈ TW ∨ Cond.methodLinkNest own idx2 y RX8 ∈ kIn) (w1 : Cond.classLink own idx C ∈ TW) (w2 : Cond.instantiable C N ∈ TW) (w3 : Cond.initialized C ∈ TW) (w4 : Cond.instanceMethod y ∈ TW) (w5 : Cond.code y cy nY none ∈ TW) (hin : ∀ w ∈ u_ws C T N, w ∈ TW) (ty : Nat → FieldType) (hty : ∀ k, k < N → parseFieldDescriptor (T k).2.2.1 = some (ty k)) (hc : vwCl[ci]? = some (C, T, N)) (hfs : ∀ j, j < N → defaultValue (ty j) = vp_V fs j) (hy : y.cls = C ∧ y.name = "<init>" ∧ y.cls ≠ "java/lang/invoke/MethodHandle" ∧ y.cls ≠ "java/lang/invoke/VarHandle" ∧ (parseMethodDescriptor y.desc).map (fun d => d.parameters.length) = some 0) (hdd : d' + 1 ≤ d) (hnY : nY ≤ 20)
    (j0 : Nat) (hgl : Cond.fieldLink own g (TO j0).1 (TO j0).2.1 (TO j0).2.2.1 ∈ TW) (hgin : ∀ w ∈ u_ws CO TO NO, w ∈ TW) (hgc : vwCl[co]? = some (CO, TO, NO)) (hgk : j0 < NO) (hgv : fo[j0]? = some (.ref w)) (ht : (kT6 X.1 X.2.1)[t]? = some (X.2.1 t, .object C)) (hW0 : ∀ (q : Nat) (u : S), ∃ vs, (Wf X.2.1 q u)[0]? = some (q, .inr (ci, vs)))
    (h1 : k + 8 * (1 + mc) ≤ (gR G).cells) (h2 : o + 8 * (N + ms) ≤ (gR G).slots)
    (kk : ∀ (r : Nat → Nat) (a : Nat → S), L G X ((h0, .inr (co, fo)) :: (w, .inl (X.2.1 t, 8, .inr (.inr (.inr (.inr (rr 8 r)))))) :: (Y ++ mkW 8 (fun i => Wf X.2.1 (r i) (a i)))) (k + 8 * (1 + mc)) (o + 8 * (N + ms)) e [some (.ref h0), some (.int (nI 8))] []) :
    L G X ((h0, .inr (co, fo)) :: (w, .inl (X.2.1 t, 8, .inr (.inr (.inr (.inr (fun _ => none)))))) :: Y) k o b [some (.ref h0), some (.int (nI 0))] [] := by
  have key : ∀ n j : Nat, n + j = 8 → ∀ (r : Nat → Nat) (a : Nat → S), L G X ((h0, .inr (co, fo)) :: (w, .inl (X.2.1 t, 8, .inr (.inr (.inr (.inr (rr j r)))))) :: (Y ++ mkW j (fun i => Wf X.2.1 (r i) (a i)))) (k + j * (1 + mc)) (o + j * (N + ms)) b [some (.ref h0), some (.int (nI j))] [] := by
    intro n
    induction n with
    | zero =>
      intro j hj r a
      have hj8 : j = 8 := by omega
      subst hj8
      refine l_iload hF e0 rfl ?_
      refine l_bipush (v := nI 8) hF e1 rfl ?_
      exact l_icmp_ge hF e3 ho1 (fun _ => kk r a) (fun h => absurd ((le_nI (by decide) (by decide)).mpr (Nat.le_refl 8)) h)
    | succ n ih =>
      intro j hj r a
      have hj8 : j < 8 := by omega
      refine l_iload hF e0 rfl ?_
      refine l_bipush (v := nI 8) hF e1 rfl ?_
      refine l_icmp_ge hF e3 ho1 (fun h => absurd ((le_nI (by decide) (by omega)).mp h) (by omega)) (fun _ => ?_)
      refine l_aload hF e6 rfl ?_
      refine l_get (C := CO) (T := TO) (N := NO) hF e7 j0 hgl hgin hgc hgk hgv ?_
      refine l_iload hF e10 rfl ?_
      have hb1 : (j + 1) * (1 + mc) ≤ 8 * (1 + mc) := Nat.mul_le_mul_right _ hj8
      have hb2 : (j + 1) * (N + ms) ≤ 8 * (N + ms) := Nat.mul_le_mul_right _ hj8
      rw [Nat.succ_mul] at hb1 hb2
      refine l_make (C := C) (T := T) (N := N) hF hd0 hd1 hd2 hC hlk w1 w2 w3 w4 w5 hin ty hty hc hfs hy hdd hnY (by omega) (by omega) (Nat.le_of_ble_eq_true rfl) (fun q u => ?_)
      obtain ⟨vs, hvs⟩ := hW0 q u
      refine l_astq (q0 := 1) (qk := (Y ++ mkW j (fun i => Wf X.2.1 (r i) (a i))).length + 2) (t := t) (ci := ci) (j := j) (r := (C, T, N)) (vs := vs) hF e18 rfl ht ?_ hc (ix_nI hj8 (by decide)) rfl ?_
      · show ((Y ++ mkW j (fun i => Wf X.2.1 (r i) (a i))) ++ Wf X.2.1 q u)[(Y ++ mkW j (fun i => Wf X.2.1 (r i) (a i))).length]? = _
        rw [List.getElem?_append_right (Nat.le_refl _), Nat.sub_self]
        exact hvs
      refine l_iinc (v := nI (j + 1)) hF e19 rfl (by rw [nI_succ]; rfl) rfl rfl ?_
      refine l_goto hF e22 ho2 ?_
      refine L.nums (k' := k + (j + 1) * (1 + mc)) (o' := o + (j + 1) * (N + ms)) (by rw [Nat.succ_mul]; omega) (by rw [Nat.succ_mul]; omega) ?_
      refine L.eq (ws' := (h0, .inr (co, fo)) :: (w, .inl (X.2.1 t, 8, .inr (.inr (.inr (.inr (rr (j + 1) (fun i => if i = j then q else r i))))))) :: (Y ++ mkW (j + 1) (fun i => Wf X.2.1 (if i = j then q else r i) (if i = j then u else a i)))) ?_ (ih (j + 1) (by omega) _ _)
      rw [← rr_up]
      show (h0, .inr (co, fo)) :: (w, _) :: (Y ++ (mkW j (fun i => Wf X.2.1 (if i = j then q else r i) (if i = j then u else a i)) ++ Wf X.2.1 (if j = j then q else r j) (if j = j then u else a j))) = (h0, .inr (co, fo)) :: (w, _) :: ((Y ++ mkW j (fun i => Wf X.2.1 (r i) (a i))) ++ Wf X.2.1 q u)
      rw [if_pos rfl, if_pos rfl, mkW_congr (g := fun i => Wf X.2.1 (r i) (a i)) j (fun i hi => by
        have hne : ¬ i = j := by omega
        simp only [if_neg hne]), List.append_assoc]
  have h := key 8 0 rfl (fun _ => 0) (fun _ => u0)
  rw [rr_0] at h
  refine L.nums (k' := k + 0 * (1 + mc)) (o' := o + 0 * (N + ms)) (by omega) (by omega) ?_
  exact L.eq (by show _ :: _ :: (Y ++ []) = _; rw [List.append_nil]) h
end Make
