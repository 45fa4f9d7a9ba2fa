/-! ===== contracts over worlds, and calls ===== -/
def rmd (d : Nat) : Room := { frames := d, cells := 0, slots := 0, locals := 40 * d }
def pcs (K : KT) (av : List Value) (M : MT) : Array Value → State → Prop := fun v U => v = av.toArray ∧ va_P K.1 vwCl (wd K M) U.heap ∧ va_K K.1 vwCl (tysK K) U ∧ inj K ∧ St K (aK K) U U.heap
def qcs (K : KT) (r : Option Value) (M' : MT) : Array Value → State → Outcome → State → Prop := fun _ st oc t => (oc = .returned r ∧ va_P K.1 vwCl (wd K M') t.heap) ∧ va_F (aK K) st t
/-- method y, called with av in the world M, answers r and leaves the world M' (d: how deep it calls) -/
def CM (K : KT) (d : Nat) (y : MethodName) (cc : ByteArray) (nL : Nat) (ret : Option FieldType) (av : List Value) (M : MT) (r : Option Value) (M' : MT) : Prop :=
  ∀ l : Launch, Met l y (.code y cc nL ret :: TW) (rmd d) (pcs K av M) (qcs K r M') 0 0 (aK K)
theorem pcs_blind {K : KT} {av : List Value} {M : MT} : FrameBlind (pcs K av M) := fun a U g mk q => ⟨q.1, q.2.1, va_K.moved (u := U) (U := U.calling g mk a) (Vm.Alike.refl U.vm) q.2.2.1, q.2.2.2.1, St.same q.2.2.2.2 rfl rfl⟩
theorem CM.of0 {K : KT} {d : Nat} {y : MethodName} {cc : ByteArray} {nL : Nat} {ret : Option FieldType} {av : List Value} {M : MT} {r : Option Value} {M' : MT} (hy : plainName y.cls = true) (ls : List (Option Value)) (hent : asc 0 ls = lv_args 0 av) (hav : (lg_sl av).length ≤ nL) (hls : ls.length ≤ nL)
    (body : ∀ G : GT, GF G K y.cls cc d → gN G = nL → (gH G).sig.returnType = ret → (gH G).locks = false → gK G = 0 → gO G = 0 → gQ G = MQ (gB G) (qcs K r M') (gA G) (gS G) 0 0 (aK K) → J G K M 0 ls []) : CM K d y cc nL ret av M r M' := by
  intro l
  refine Met.ofW (cc := cc) (maxL := nL) (ret := ret) hy rfl ?_
  intro p e s m args below meth c s₁ B hml hv
  obtain ⟨rfl, hP, hKk, hi, hSt⟩ := hv
  have hts0 : ∀ w ∈ (Cond.code y cc nL ret :: TW), w.before av.toArray s = true := atoms_spec (ws := Cond.code y cc nL ret :: TW) B.pre
  have hown : s.vm.findClass y.cls = some m.cls := findClass_of_methodNamed B.named
  have hG : GF (p, l, e, (headSpec (Cond.code y cc nL ret :: TW) (rmd d)).room, s, m, av.toArray, below, meth, c, 0, 0, MQ below (qcs K r M') av.toArray s 0 0 (aK K), nL) K y.cls cc d :=
    ⟨B.exec, B.bytes, hml, hown, fun w hw => hts0 w (List.mem_cons_of_mem _ hw), hKk, hi, hSt, ⟨Nat.le_refl _, Nat.le_refl _⟩, Nat.zero_le _, Nat.zero_le _⟩
  have hb := body _ hG rfl B.returns B.notSynchronized rfl rfl rfl
  rw [lg_entry_eq]
  exact hb hls s.heap [] _ hP va_S.rf (by rw [hent]; exact lv_entry av hav)
theorem CM.ofI {K : KT} {d : Nat} {y : MethodName} {cc : ByteArray} {nL : Nat} {av : List Value} {M : MT} {v : Int32} {M' : MT} (hy : plainName y.cls = true) (ls : List (Option Value)) (hent : asc 0 ls = lv_args 0 av) (hav : (lg_sl av).length ≤ nL) (hls : ls.length ≤ nL)
    (body : ∀ G : GT, GF G K y.cls cc d → gN G = nL → (∀ (pc : Nat) (ls : List (Option Value)) (w : Int32) (M₁ : MT), decode cc pc = .ok (.ireturn, 1) → w = v → M₁ = M' → J G K M₁ pc ls [.int w]) → J G K M 0 ls []) : CM K d y cc nL (some .int) av M (some (.int v)) M' := by
  refine CM.of0 hy ls hent hav hls (fun G hG hN hr hlk h0 h1 hQ => body G hG hN (fun pc ls' w M₁ hd hw hM => ?_))
  subst hw hM
  intro hn H locs lc hP hS hl
  rw [hQ, h0, h1]
  exact W.iret hG.1 hG.2.1 hr (fun t ht hW => ⟨⟨rfl, by rw [ht]; exact hP⟩, hS.F ht⟩) hS.2.2 hd hlk
theorem bz_narrow (b : Bool) : narrow .boolean (.int (bz b)) = .int (bz b) := by cases b <;> rfl
theorem CM.ofZ {K : KT} {d : Nat} {y : MethodName} {cc : ByteArray} {nL : Nat} {av : List Value} {M : MT} {v : Bool} {M' : MT} (hy : plainName y.cls = true) (ls : List (Option Value)) (hent : asc 0 ls = lv_args 0 av) (hav : (lg_sl av).length ≤ nL) (hls : ls.length ≤ nL)
    (body : ∀ G : GT, GF G K y.cls cc d → gN G = nL → (∀ (pc : Nat) (ls : List (Option Value)) (w : Int32) (M₁ : MT), decode cc pc = .ok (.ireturn, 1) → w = bz v → M₁ = M' → J G K M₁ pc ls [.int w]) → J G K M 0 ls []) : CM K d y cc nL (some .boolean) av M (some (.int (bz v))) M' := by
  refine CM.of0 hy ls hent hav hls (fun G hG hN hr hlk h0 h1 hQ => body G hG hN (fun pc ls' w M₁ hd hw hM => ?_))
  subst hw hM
  intro hn H locs lc hP hS hl
  rw [hQ, h0, h1]
  exact W.zret hG.1 hG.2.1 hr (bz_narrow v) (fun t ht hW => ⟨⟨rfl, by rw [ht]; exact hP⟩, hS.F ht⟩) hS.2.2 hd hlk
theorem CM.ofL {K : KT} {d : Nat} {y : MethodName} {cc : ByteArray} {nL : Nat} {av : List Value} {M : MT} {v : Int64} {M' : MT} (hy : plainName y.cls = true) (ls : List (Option Value)) (hent : asc 0 ls = lv_args 0 av) (hav : (lg_sl av).length ≤ nL) (hls : ls.length ≤ nL)
    (body : ∀ G : GT, GF G K y.cls cc d → gN G = nL → (∀ (pc : Nat) (ls : List (Option Value)) (w : Int64) (M₁ : MT), decode cc pc = .ok (.lreturn, 1) → w = v → M₁ = M' → J G K M₁ pc ls [.long w]) → J G K M 0 ls []) : CM K d y cc nL (some .long) av M (some (.long v)) M' := by
  refine CM.of0 hy ls hent hav hls (fun G hG hN hr hlk h0 h1 hQ => body G hG hN (fun pc ls' w M₁ hd hw hM => ?_))
  subst hw hM
  intro hn H locs lc hP hS hl
  rw [hQ, h0, h1]
  exact W.lret hG.1 hG.2.1 hr (fun t ht hW => ⟨⟨rfl, by rw [ht]; exact hP⟩, hS.F ht⟩) hS.2.2 hd hlk
theorem CM.ofV {K : KT} {d : Nat} {y : MethodName} {cc : ByteArray} {nL : Nat} {av : List Value} {M : MT} {M' : MT} (hy : plainName y.cls = true) (ls : List (Option Value)) (hent : asc 0 ls = lv_args 0 av) (hav : (lg_sl av).length ≤ nL) (hls : ls.length ≤ nL)
    (body : ∀ G : GT, GF G K y.cls cc d → gN G = nL → (∀ (pc : Nat) (ls : List (Option Value)) (M₁ : MT), decode cc pc = .ok (.return_, 1) → M₁ = M' → J G K M₁ pc ls []) → J G K M 0 ls []) : CM K d y cc nL none av M none M' := by
  refine CM.of0 hy ls hent hav hls (fun G hG hN hr hlk h0 h1 hQ => body G hG hN (fun pc ls' M₁ hd hM => ?_))
  subst hM
  intro hn H locs lc hP hS hl
  rw [hQ, h0, h1]
  exact W.vret hG.1 hG.2.1 hr (fun t ht hW => ⟨⟨rfl, by rw [ht]; exact hP⟩, hS.F ht⟩) hS.2.2 hd hlk
theorem CM.ofR {K : KT} {d : Nat} {y : MethodName} {cc : ByteArray} {nL b : Nat} {C : String} {av : List Value} {M : MT} {M' : MT} (hy : plainName y.cls = true) (ls : List (Option Value)) (hent : asc 0 ls = lv_args 0 av) (hav : (lg_sl av).length ≤ nL) (hls : ls.length ≤ nL)
    (body : ∀ G : GT, GF G K y.cls cc d → gN G = nL → (∀ (pc : Nat) (ls : List (Option Value)) (M₁ : MT), decode cc pc = .ok (.areturn, 1) → M₁ = M' → J G K M₁ pc ls [rf K b]) → J G K M 0 ls []) : CM K d y cc nL (some (.object C)) av M (some (rf K b)) M' := by
  refine CM.of0 hy ls hent hav hls (fun G hG hN hr hlk h0 h1 hQ => body G hG hN (fun pc ls' M₁ hd hM => ?_))
  subst hM
  intro hn H locs lc hP hS hl
  rw [hQ, h0, h1]
  exact W.aret hG.1 hG.2.1 hr (Or.inl ⟨_, rfl⟩) (Or.inr ⟨_, rfl⟩) (fun t ht hW => ⟨⟨rfl, by rw [ht]; exact hP⟩, hS.F ht⟩) hS.2.2 hd hlk
theorem TWg {w : Cond} (h : w ∈ TW) : w ∈ TW ∧ ((w.onTables && w.keeps) = true ∨ ∃ ty, w = .arrayClass ty) := ⟨h, good_of_word (List.mem_filter.mp h).2⟩
section Calls
variable {G : GT} {K : KT} {M : MT} {own : String} {cc : ByteArray} {d pc : Nat} {ls : List (Option Value)} {st : List Value}
theorem J_ran {av : List Value} {r : Option Value} {M' : MT} {H : Heap} {locs : List Loc} {lc : Array Slot} {st0 : List Value} (hn : ls.length ≤ gN G) (hS : va_S (aK K) (gS G).heap H locs) (hl : lv_has lc (gN G) (asc 0 ls))
    (hr : va_Run (gP G) (gL G) (gE G) (gR G) (gS G) (gM G) (gA G) (gB G) (gH G) (gC G) H locs (gK G) (gO G) 0 0 (F0 (gM G) pc lc st0) st (qcs K r M' av.toArray) (aK K)) (k : J G K M' (pc + 3) ls (r.toList ++ st)) :
    W (gP G) (gL G) (gE G) (gR G) (gS G) (gM G) (gA G) (gB G) (gH G) (gC G) H locs (gK G) (gO G) (gQ G) (F0 (gM G) pc lc st0) := by
  intro T hT X
  obtain ⟨v, st₀, t, T', L, h0, X', hL, e1, e2, ⟨⟨hv, hP1⟩, hz, hk⟩, stp⟩ := hr T hT X
  cases hv
  rw [h0] at hz hk
  obtain ⟨t2, a1, b1⟩ := k hn T'.heap (locs ++ L) lc (by rw [e1]; exact hP1) ⟨Nat.le_trans hS.1 (by rw [e1]; exact hz), fun q h1 h2 => by rw [e1, hk q (Nat.lt_of_lt_of_le h1 hS.1) h2]; exact hS.2.1 q h1 h2, fun q hq => (List.mem_append.mp hq).elim (hS.2.2 q) (fun h => hL q h)⟩ hl T' rfl X'
  exact ⟨t2, stp t2 a1, b1⟩
theorem J_pre {av : List Value} {H : Heap} {locs : List Loc} (hG : GF G K own cc d) (hP : va_P K.1 vwCl (wd K M) H) (hS : va_S (aK K) (gS G).heap H locs) : ∀ U : State, U.heap = H → (gS G).WarmedH U.vm → pcs K av M av.toArray U := by
  intro U hU hW
  refine ⟨rfl, by rw [hU]; exact hP, va_K.moved hW.alike hG.2.2.2.2.2.1, hG.2.2.2.2.2.2.1, ?_⟩
  rw [hU]
  exact St.warm hG.2.2.2.2.2.2.2.1 hW hS.2.1
theorem J_rooms {d' maxL : Nat} (hG : GF G K own cc d) (hdd : d' + 1 ≤ d) (hm : maxL ≤ 20) : (rmd d').frames + 1 ≤ (gR G).frames ∧ 8 + (maxL + 11) + (rmd d').locals ≤ (gR G).locals := by
  obtain ⟨h1, h2⟩ := hG.2.2.2.2.2.2.2.2.1
  refine ⟨Nat.le_trans hdd h1, Nat.le_trans ?_ h2⟩
  show 8 + (maxL + 11) + 40 * d' ≤ 40 * d
  omega
theorem J_callV {y : MethodName} {cy : ByteArray} {nY : Nat} {ret : Option FieldType} {r : Option Value} {M' : MT} {d' ci N b index : Nat} {T : u_T} {C : String} {fs As : List Value} (hG : GF G K own cc d) (hd : decode cc pc = .ok (.invokevirtual index, 3)) (hM : CM K d' y cy nY ret (rf K b :: As) M r M') (hdd : d' + 1 ≤ d) (hnY : nY ≤ 20) (w1 : Cond.methodLink own index y ∈ TW) (w2 : Cond.instanceMethod y ∈ TW) (w3 : Cond.selects C y y ∈ TW) (w4 : Cond.initialized C ∈ TW) (w5 : Cond.code y cy nY ret ∈ TW)
    (hy : y.cls = C ∧ y.cls ≠ "java/lang/invoke/MethodHandle" ∧ y.cls ≠ "java/lang/invoke/VarHandle" ∧ (parseMethodDescriptor y.desc).map (fun d => d.parameters.length) = some As.length) (hc : vwCl[ci]? = some (C, T, N)) (hb : b < 161) (he : mem K M b = .inr (ci, fs)) (hw : (st.map fun v => v.category).sum ≤ 8) (k : J G K M' (pc + 3) ls (r.toList ++ st)) : J G K M pc ls (As.reverse ++ rf K b :: st) := by
  intro hn H locs lc hP hS hl
  have hT : GoodIn TW (wsV own index C y (Cond.code y cy nY ret :: TW)) := by
    intro w hw
    simp only [wsV, List.mem_append, List.mem_cons, List.not_mem_nil, or_false] at hw
    rcases hw with (rfl | rfl | rfl | rfl) | (rfl | hw)
    · exact TWg w1
    · exact TWg w2
    · exact TWg w3
    · exact TWg w4
    · exact TWg w5
    · exact TWg hw
  refine J_ran (av := rf K b :: As) hn hS hl (va_runV (y := y) (bytes := cy) (maxL := nY) (ret := ret) (As := As) (rest := st) ⟨hG.1, hG.2.1, hG.2.2.1, hG.2.2.2.1, hG.2.2.2.2.1⟩ (hM (gL G)) (cwV As.length hG.2.2.2.2.1 hT rfl rfl rfl hy (J_rooms hG hdd hnY)) ⟨pcs_blind, va_recv hG.2.2.2.2.2.1 hP hc (wd_at K M hb he), J_pre (av := rf K b :: As) hG hP hS⟩ rfl rfl hl.1 rfl (lv_room hw) hd ⟨hG.2.2.2.2.2.2.2.2.2.1, hG.2.2.2.2.2.2.2.2.2.2⟩) k
theorem J_callS {y : MethodName} {cy : ByteArray} {nY : Nat} {ret : Option FieldType} {r : Option Value} {M' : MT} {d' index : Nat} {As : List Value} (hG : GF G K own cc d) (hd : decode cc pc = .ok (.invokestatic index, 3)) (hM : CM K d' y cy nY ret As M r M') (hdd : d' + 1 ≤ d) (hnY : nY ≤ 20) (w1 : Cond.methodLink own index y ∈ TW) (w2 : Cond.static y ∈ TW) (w4 : Cond.initialized y.cls ∈ TW) (w5 : Cond.code y cy nY ret ∈ TW)
    (hy : y.cls ≠ "java/lang/invoke/MethodHandle" ∧ y.cls ≠ "java/lang/invoke/VarHandle" ∧ (parseMethodDescriptor y.desc).map (fun d => d.parameters.length) = some As.length) (hw : (st.map fun v => v.category).sum ≤ 8) (k : J G K M' (pc + 3) ls (r.toList ++ st)) : J G K M pc ls (As.reverse ++ st) := by
  intro hn H locs lc hP hS hl
  have hT : GoodIn TW (va_wsS own index y (Cond.code y cy nY ret :: TW)) := by
    intro w hw
    simp only [va_wsS, List.mem_append, List.mem_cons, List.not_mem_nil, or_false] at hw
    rcases hw with (rfl | rfl | rfl) | (rfl | hw)
    · exact TWg w1
    · exact TWg w2
    · exact TWg w4
    · exact TWg w5
    · exact TWg hw
  refine J_ran (av := As) hn hS hl (va_runS (y := y) (bytes := cy) (maxL := nY) (ret := ret) (As := As) (rest := st) ⟨hG.1, hG.2.1, hG.2.2.1, hG.2.2.2.1, hG.2.2.2.2.1⟩ (hM (gL G)) (va_cwS As.length hG.2.2.2.2.1 hT rfl rfl rfl hy (J_rooms hG hdd hnY)) ⟨pcs_blind, J_pre (av := As) hG hP hS⟩ rfl rfl hl.1 rfl (lv_room hw) hd ⟨hG.2.2.2.2.2.2.2.2.2.1, hG.2.2.2.2.2.2.2.2.2.2⟩) k
theorem J_callSN {y : MethodName} {cy : ByteArray} {nY : Nat} {ret : Option FieldType} {r : Option Value} {M' : MT} {d' index : Nat} {As : List Value} {host : String} (hG : GF G K own cc d) (hd : decode cc pc = .ok (.invokestatic index, 3)) (hM : CM K d' y cy nY ret As M r M') (hdd : d' + 1 ≤ d) (hnY : nY ≤ 20) (w1 : Cond.methodLinkNest own index y host ∈ kNest) (w2 : Cond.static y ∈ TW) (w4 : Cond.initialized y.cls ∈ TW) (w5 : Cond.code y cy nY ret ∈ TW)
    (hy : y.cls ≠ "java/lang/invoke/MethodHandle" ∧ y.cls ≠ "java/lang/invoke/VarHandle" ∧ (parseMethodDescriptor y.desc).map (fun d => d.parameters.length) = some As.length) (hw : (st.map fun v => v.category).sum ≤ 8) (k : J G K M' (pc + 3) ls (r.toList ++ st)) : J G K M pc ls (As.reverse ++ st) := by
  intro hn H locs lc hP hS hl
  have hT : GoodIn TW (Cond.code y cy nY ret :: TW) := by
    intro w hw
    rcases List.mem_cons.mp hw with rfl | hw
    · exact TWg w5
    · exact TWg hw
  refine J_ran (av := As) hn hS hl (va_runSN (y := y) (bytes := cy) (maxL := nY) (ret := ret) (As := As) (rest := st) (host := host) ⟨hG.1, hG.2.1, hG.2.2.1, hG.2.2.2.1, hG.2.2.2.2.1⟩ (hM (gL G)) ⟨va_cnB As.length hG.2.2.2.2.1 hT rfl rfl rfl (hG.2.2.2.2.2.2.2.1.2.1 _ w1) (hG.2.2.2.2.1 _ w4) hy (J_rooms hG hdd hnY), hG.2.2.2.2.1 _ w2, trivial⟩ ⟨pcs_blind, J_pre (av := As) hG hP hS⟩ rfl rfl hl.1 rfl (lv_room hw) hd ⟨hG.2.2.2.2.2.2.2.2.2.1, hG.2.2.2.2.2.2.2.2.2.2⟩) k
theorem J_room1 (hG : GF G K own cc d) (h1 : 1 ≤ d) {x : Nat} (hx : x ≤ 8) : 1 ≤ (gR G).frames ∧ x + 13 ≤ (gR G).locals ∧ x + 27 ≤ (gR G).locals := by
  obtain ⟨a, b⟩ := hG.2.2.2.2.2.2.2.2.1
  omega
def iabs (x : Int32) : Int32 := if 0 ≤ x then x else 0 - x
def imax (x y : Int32) : Int32 := if x < y then y else x
def imin (x y : Int32) : Int32 := if y < x then y else x
theorem r_mabs {index : Nat} {x : Int32} (hG : GF G K own cc d) (hd : decode cc pc = .ok (.invokestatic index, 3)) (w1 : Cond.methodLink own index yJ9_abs_0f7a4 ∈ TW) (h1 : 1 ≤ d) (hw : (st.map fun v => v.category).sum ≤ 8) (k : J G K M (pc + 3) ls (.int (iabs x) :: st)) : J G K M pc ls (.int x :: st) :=
  fun hn H locs lc hP hS hl => va_mabs hG.1 hG.2.1 (hG.2.2.1.trans hl.1.symm) hG.2.2.2.1 (hG.2.2.2.2.1 _ w1) (hG.2.2.2.2.1 _ tw_704) (hG.2.2.2.2.1 _ tw_88) (hG.2.2.2.2.1 _ tw_705) (J_room1 hG h1 hw).1 (J_room1 hG h1 hw).2.1 hG.2.2.2.2.2.2.2.2.2.1 hG.2.2.2.2.2.2.2.2.2.2 hd (k hn H locs lc hP hS hl)
theorem r_mmax {index : Nat} {x y : Int32} (hG : GF G K own cc d) (hd : decode cc pc = .ok (.invokestatic index, 3)) (w1 : Cond.methodLink own index yJ9_max_7cf53 ∈ TW) (h1 : 1 ≤ d) (hw : (st.map fun v => v.category).sum ≤ 8) (k : J G K M (pc + 3) ls (.int (imax x y) :: st)) : J G K M pc ls (.int y :: .int x :: st) :=
  fun hn H locs lc hP hS hl => va_mmax hG.1 hG.2.1 (hG.2.2.1.trans hl.1.symm) hG.2.2.2.1 (hG.2.2.2.2.1 _ w1) (hG.2.2.2.2.1 _ tw_844) (hG.2.2.2.2.1 _ tw_88) (hG.2.2.2.2.1 _ tw_845) (J_room1 hG h1 hw).1 (J_room1 hG h1 hw).2.1 hG.2.2.2.2.2.2.2.2.2.1 hG.2.2.2.2.2.2.2.2.2.2 hd (k hn H locs lc hP hS hl)
theorem r_mmin {index : Nat} {x y : Int32} (hG : GF G K own cc d) (hd : decode cc pc = .ok (.invokestatic index, 3)) (w1 : Cond.methodLink own index yJ9_min_7cf53 ∈ TW) (h1 : 1 ≤ d) (hw : (st.map fun v => v.category).sum ≤ 8) (k : J G K M (pc + 3) ls (.int (imin x y) :: st)) : J G K M pc ls (.int y :: .int x :: st) :=
  fun hn H locs lc hP hS hl => va_mmin hG.1 hG.2.1 (hG.2.2.1.trans hl.1.symm) hG.2.2.2.1 (hG.2.2.2.2.1 _ w1) (hG.2.2.2.2.1 _ tw_1123) (hG.2.2.2.2.1 _ tw_88) (hG.2.2.2.2.1 _ tw_1124) (J_room1 hG h1 hw).1 (J_room1 hG h1 hw).2.1 hG.2.2.2.2.2.2.2.2.2.1 hG.2.2.2.2.2.2.2.2.2.2 hd (k hn H locs lc hP hS hl)
theorem J_gets {C n : String} {k N index : Nat} {f : Nat → Int32} (hG : GF G K own cc d) (hd : decode cc pc = .ok (.getstatic index, 3)) (hq : (C, n, k, N, f) ∈ kTab) (w1 : Cond.fieldLink own index C n "[I" ∈ TW) (kk : J G K M (pc + 3) ls (rf K k :: st)) : J G K M pc ls st :=
  fun hn H locs lc hP hS hl => va_gets hG.1 hG.2.1 (hG.2.2.2.2.2.2.2.1.1 _ hq).1 hS hG.2.2.2.1 (hG.2.2.2.2.1 _ w1) va_hsame hd (kk hn H locs lc hP hS hl)
theorem J_getsN {C n host : String} {k N index : Nat} {f : Nat → Int32} (hG : GF G K own cc d) (hd : decode cc pc = .ok (.getstatic index, 3)) (hq : (C, n, k, N, f) ∈ kTab) (w1 : Cond.fieldLinkNest own index C n "[I" host ∈ kNest) (kk : J G K M (pc + 3) ls (rf K k :: st)) : J G K M pc ls st :=
  fun hn H locs lc hP hS hl => va_getsN hG.1 hG.2.1 (hG.2.2.2.2.2.2.2.1.1 _ hq).1 hS hG.2.2.2.1 (va_Nw.use rfl (hG.2.2.2.2.2.2.2.1.2.1 _ w1)) va_hsame hd (kk hn H locs lc hP hS hl)
theorem J_tald {C n : String} {k N j : Nat} {f : Nat → Int32} {i : Int32} (hG : GF G K own cc d) (hd : decode cc pc = .ok (.iaload, 1)) (hq : (C, n, k, N, f) ∈ kTab) (hx : ix i N j) (kk : J G K M (pc + 1) ls (.int (f j) :: st)) : J G K M pc ls (.int i :: rf K k :: st) := by
  intro hn H locs lc hP hS hl
  refine va_ti hG.1 hG.2.1 (hG.2.2.2.2.2.2.2.1.1 _ hq).2 hS hx.1 (v := .int (f j)) (by rw [hx.2.1]) hd (kk hn H locs lc hP hS hl)
theorem r_ldcS {i index : Nat} (hG : GF G K own cc d) (hd : decode cc pc = .ok (.ldc index, 2)) (hq : (own, index, i) ∈ kStr) (kk : J G K M (pc + 2) ls (rf K (210 + i) :: st)) : J G K M pc ls st :=
  fun hn H locs lc hP hS hl => va_ldcS hG.1 hG.2.1 hG.2.2.2.1 (hG.2.2.2.2.2.2.2.1.2.2.1 _ hq) hd (kk hn H locs lc hP hS hl)
end Calls
