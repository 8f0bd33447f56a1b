theorem goodIn_app2 {big a b : List Cond} (ha : GoodIn big a) (hb : GoodIn big b) : GoodIn big (a ++ b) := fun w h => (List.mem_append.mp h).elim (ha w) (hb w)
section HC
variable {p : Program} {l : Launch} {e : Env} {R : Room} {s : State} {m : MethodId} {args : Array Value} {below : List Frame} {meth : Method} {c : Code} {cells slots : Nat} {Q : State → Prop} {cc : ByteArray} {nL : Nat} {own : String} {D : va_G} {K : Nat → ClassId} {A : Nat → Prop} {w : hm_M} {pc pc2 : Nat} {lv : List (Nat × Value)} {st : List Value}
theorem hv_iret {w0 : hm_M} {post : Int32 → hm_M → Prop} {v : Int32} (E : hm_E p s m args meth c cc nL own D K (hm_A w0 s.heap.size)) (d : decode cc pc = .ok (.ireturn, 1)) (hr : meth.sig.returnType = some .int) (hpost : post v w) : hm_V p l e R s m args below meth c D (hm_A w0 s.heap.size) nL cells slots (MQ below (hm_Qi D w0 s.heap.size post) args s cells slots (hm_A w0 s.heap.size)) w pc lv [.int v] := fun H locs ls h1 h2 h3 h4 => W.iret (hlocks := E.2.2.2.2.2.2.2) E.1 E.2.1 hr (fun t ht hW => ⟨v, w, rfl, hpost, by rw [ht]; exact h1, h2, h3.F ht⟩) h3.2.2 d
theorem hv_zret {w0 : hm_M} {post : Int32 → hm_M → Prop} {b : Bool} (E : hm_E p s m args meth c cc nL own D K (hm_A w0 s.heap.size)) (d : decode cc pc = .ok (.ireturn, 1)) (hr : meth.sig.returnType = some .boolean) (hpost : post (bI b) w) : hm_V p l e R s m args below meth c D (hm_A w0 s.heap.size) nL cells slots (MQ below (hm_Qi D w0 s.heap.size post) args s cells slots (hm_A w0 s.heap.size)) w pc lv [.int (bI b)] := fun H locs ls h1 h2 h3 h4 => W.zret (hlocks := E.2.2.2.2.2.2.2) E.1 E.2.1 hr (bI_narrow b) (fun t ht hW => ⟨bI b, w, rfl, hpost, by rw [ht]; exact h1, h2, h3.F ht⟩) h3.2.2 d
theorem hv_vret {w0 : hm_M} {post : hm_M → Prop} (E : hm_E p s m args meth c cc nL own D K (hm_A w0 s.heap.size)) (d : decode cc pc = .ok (.return_, 1)) (hr : meth.sig.returnType = none) (hpost : post w) : hm_V p l e R s m args below meth c D (hm_A w0 s.heap.size) nL cells slots (MQ below (hm_Qv D w0 s.heap.size post) args s cells slots (hm_A w0 s.heap.size)) w pc lv [] := fun H locs ls h1 h2 h3 h4 => W.vret (hlocks := E.2.2.2.2.2.2.2) E.1 E.2.1 hr (fun t ht hW => ⟨w, rfl, hpost, by rw [ht]; exact h1, h2, h3.F ht⟩) h3.2.2 d
theorem hm_enterI {y : MethodName} {b : ByteArray} {n : Nat} {rt : FieldType} {d : Nat} {As : List Value} {mc ms : Nat} {post : Int32 → hm_M → Prop} (hy : plainName y.cls = true) (hl : (lg_sl As).length ≤ n)
    (body : ∀ (p : Program) (e : Env) (s : State) (m : MethodId) (args : Array Value) (below : List Frame) (meth : Method) (c : Code), hm_E p s m args meth c b n y.cls D K (hm_A w s.heap.size) → meth.sig.returnType = (some rt) → meth.name = y.name → hm_V p l e (hm_rm d mc ms) s m args below meth c D (hm_A w s.heap.size) n 0 0 (MQ below (hm_Qi D w s.heap.size post) args s mc ms (hm_A w s.heap.size)) w 0 (lv_args 0 As) []) : hm_Ci l D K y b n rt d As w mc ms post := by
  intro sz
  refine Met.ofW (cc := b) (maxL := n) (ret := (some rt)) hy rfl ?_
  intro p e s m args below meth c s₁ B hml hv
  obtain ⟨rfl, hsz, hH, hK⟩ := hv
  subst hsz
  have hts := atoms_spec (ws := Cond.code y b n (some rt) :: hG) B.pre
  have hown : s.vm.findClass y.cls = some m.cls := findClass_of_methodNamed B.named
  have E : hm_E p s m As.toArray meth c b n y.cls D K (hm_A w s.heap.size) := ⟨B.exec, B.bytes, hml, hown, fun x hx => hts x (List.mem_cons_of_mem _ hx), hK, fun q h => Or.inr h, B.notSynchronized⟩
  rw [lg_entry_eq]
  exact body p e s m _ below meth c E B.returns (name_of_methodNamed B.named B.method).1 s.heap [] _ hH (fun q h => Or.inl h) va_S.rf (lv_entry As hl)
theorem hm_enterV {y : MethodName} {b : ByteArray} {n : Nat} {d : Nat} {As : List Value} {mc ms : Nat} {post : hm_M → Prop} (hy : plainName y.cls = true) (hl : (lg_sl As).length ≤ n)
    (body : ∀ (p : Program) (e : Env) (s : State) (m : MethodId) (args : Array Value) (below : List Frame) (meth : Method) (c : Code), hm_E p s m args meth c b n y.cls D K (hm_A w s.heap.size) → meth.sig.returnType = none → meth.name = y.name → hm_V p l e (hm_rm d mc ms) s m args below meth c D (hm_A w s.heap.size) n 0 0 (MQ below (hm_Qv D w s.heap.size post) args s mc ms (hm_A w s.heap.size)) w 0 (lv_args 0 As) []) : hm_Cv l D K y b n d As w mc ms post := by
  intro sz
  refine Met.ofW (cc := b) (maxL := n) (ret := none) hy rfl ?_
  intro p e s m args below meth c s₁ B hml hv
  obtain ⟨rfl, hsz, hH, hK⟩ := hv
  subst hsz
  have hts := atoms_spec (ws := Cond.code y b n none :: hG) B.pre
  have hown : s.vm.findClass y.cls = some m.cls := findClass_of_methodNamed B.named
  have E : hm_E p s m As.toArray meth c b n y.cls D K (hm_A w s.heap.size) := ⟨B.exec, B.bytes, hml, hown, fun x hx => hts x (List.mem_cons_of_mem _ hx), hK, fun q h => Or.inr h, B.notSynchronized⟩
  rw [lg_entry_eq]
  exact body p e s m _ below meth c E B.returns (name_of_methodNamed B.named B.method).1 s.heap [] _ hH (fun q h => Or.inl h) va_S.rf (lv_entry As hl)
theorem hm_goI {H : Heap} {locs : List Loc} {ls : Array Slot} {mc ms : Nat} {st0 : List Value} {ar : Array Value} {post : Int32 → hm_M → Prop} (hr : va_Run p l e R s m args below meth c H locs cells slots mc ms (F0 m pc ls st0) st (hm_Qi D w H.size post ar) (hm_A w H.size)) (h2 : ∀ q, w q ≠ none → A q) (h3 : va_S A s.heap H locs) (hA : ∀ q, s.heap.size ≤ q → A q) (h4 : lv_has ls nL lv) (k : ∀ (r : Int32) (w2 : hm_M), post r w2 → hm_V p l e R s m args below meth c D A nL (cells + mc) (slots + ms) Q w2 (pc + 3) lv (.int r :: st)) : W p l e R s m args below meth c H locs cells slots Q (F0 m pc ls st0) := by
  intro T hT X
  obtain ⟨v, st₀, t, T2, L, h0, X2, hL, e1, e2, ⟨r, w2, hv, hpost, hH2, hdom, hz, hk⟩, stp⟩ := hr T hT X
  cases hv
  rw [h0] at hz hk
  have hsub : ∀ q, hm_A w H.size q → A q := fun q hq => hq.elim (h2 q) (fun z => hA q (Nat.le_trans h3.1 z))
  obtain ⟨t2, a1, b1⟩ := k r w2 hpost T2.heap (locs ++ L) ls (by rw [e1]; exact hH2) (fun q hq => hsub q (hdom q hq)) ⟨Nat.le_trans h3.1 (by rw [e1]; exact hz), fun q g1 g2 => by rw [e1, hk q (Nat.lt_of_lt_of_le g1 h3.1) (fun z => g2 (hsub q z))]; exact h3.2.1 q g1 g2, fun q hq => by
      rcases List.mem_append.mp hq with h | h
      · exact h3.2.2 q h
      · exact hsub _ (hL q h)⟩ h4 T2 rfl X2
  exact ⟨t2, stp t2 a1, b1⟩
theorem hm_goV {H : Heap} {locs : List Loc} {ls : Array Slot} {mc ms : Nat} {st0 : List Value} {ar : Array Value} {post : hm_M → Prop} (hr : va_Run p l e R s m args below meth c H locs cells slots mc ms (F0 m pc ls st0) st (hm_Qv D w H.size post ar) (hm_A w H.size)) (h2 : ∀ q, w q ≠ none → A q) (h3 : va_S A s.heap H locs) (hA : ∀ q, s.heap.size ≤ q → A q) (h4 : lv_has ls nL lv) (k : ∀ (w2 : hm_M), post w2 → hm_V p l e R s m args below meth c D A nL (cells + mc) (slots + ms) Q w2 (pc + 3) lv st) : W p l e R s m args below meth c H locs cells slots Q (F0 m pc ls st0) := by
  intro T hT X
  obtain ⟨v, st₀, t, T2, L, h0, X2, hL, e1, e2, ⟨w2, hv, hpost, hH2, hdom, hz, hk⟩, stp⟩ := hr T hT X
  cases hv
  rw [h0] at hz hk
  have hsub : ∀ q, hm_A w H.size q → A q := fun q hq => hq.elim (h2 q) (fun z => hA q (Nat.le_trans h3.1 z))
  obtain ⟨t2, a1, b1⟩ := k w2 hpost T2.heap (locs ++ L) ls (by rw [e1]; exact hH2) (fun q hq => hsub q (hdom q hq)) ⟨Nat.le_trans h3.1 (by rw [e1]; exact hz), fun q g1 g2 => by rw [e1, hk q (Nat.lt_of_lt_of_le g1 h3.1) (fun z => g2 (hsub q z))]; exact h3.2.1 q g1 g2, fun q hq => by
      rcases List.mem_append.mp hq with h | h
      · exact h3.2.2 q h
      · exact hsub _ (hL q h)⟩ h4 T2 rfl X2
  exact ⟨t2, stp t2 a1, b1⟩
theorem hv_callSI (E : hm_E p s m args meth c cc nL own D K A) {y : MethodName} {b : ByteArray} {n : Nat} {rt : FieldType} {d na idx mc ms : Nat} {As st0 : List Value} {post : Int32 → hm_M → Prop} (C : hm_Ci l D K y b n rt d (As) w mc ms post) (dd : decode cc pc = .ok (.invokestatic idx, 3)) (hl : Cond.methodLink own idx y ∈ hG) (hs : Cond.static y ∈ hG) (hc : Cond.code y b n (some rt) ∈ hG) (hi : Cond.initialized y.cls ∈ hG) (hd : y.cls ≠ "java/lang/invoke/MethodHandle" ∧ y.cls ≠ "java/lang/invoke/VarHandle" ∧ (parseMethodDescriptor y.desc).map (fun d => d.parameters.length) = some na) (hn : As.length = na) (hR : d + 1 ≤ R.frames ∧ 8 + (n + 11) + 35 * d ≤ R.locals) (hq : (st.map fun v => v.category).sum ≤ 8) (hf : cells + mc ≤ R.cells ∧ slots + ms ≤ R.slots) (hs0 : st0 = As.reverse ++ st) (hp : pc + 3 = pc2) (k : ∀ (r : Int32) (w2 : hm_M), post r w2 → hm_V p l e R s m args below meth c D A nL (cells + mc) (slots + ms) Q w2 pc2 lv (.int r :: st)) : hm_V p l e R s m args below meth c D A nL cells slots Q w pc lv st0 := by
  subst hp; subst hs0
  exact fun H locs ls h1 h2 h3 h4 => hm_goI (va_runS (Ts := hG) ⟨E.1, E.2.1, E.2.2.1, E.2.2.2.1, E.2.2.2.2.1⟩ (C H.size) ⟨callB_of na E.2.2.2.2.1 (hG_good0 hc) rfl rfl rfl (E.2.2.2.2.1 _ hi) (E.2.2.2.2.1 _ hl) hd hR, E.2.2.2.2.1 _ hs⟩ ⟨hm_Pre.blind, fun U hU hW => ⟨rfl, by rw [hU], by rw [hU]; exact h1, hm_Kn.warm hW E.2.2.2.2.2.1⟩⟩ rfl hn h4.1 rfl (lv_room hq) dd hf) h2 h3 E.2.2.2.2.2.2.1 h4 k
theorem hv_callSNI (E : hm_E p s m args meth c cc nL own D K A) {y : MethodName} {b : ByteArray} {n : Nat} {rt : FieldType} {d na idx mc ms : Nat} {As st0 : List Value} {post : Int32 → hm_M → Prop} {host : String} (C : hm_Ci l D K y b n rt d (As) w mc ms post) (dd : decode cc pc = .ok (.invokestatic idx, 3)) (hl : (own, idx, y, host) ∈ hNm) (hs : Cond.static y ∈ hG) (hc : Cond.code y b n (some rt) ∈ hG) (hi : Cond.initialized y.cls ∈ hG) (hd : y.cls ≠ "java/lang/invoke/MethodHandle" ∧ y.cls ≠ "java/lang/invoke/VarHandle" ∧ (parseMethodDescriptor y.desc).map (fun d => d.parameters.length) = some na) (hn : As.length = na) (hR : d + 1 ≤ R.frames ∧ 8 + (n + 11) + 35 * d ≤ R.locals) (hq : (st.map fun v => v.category).sum ≤ 8) (hf : cells + mc ≤ R.cells ∧ slots + ms ≤ R.slots) (hs0 : st0 = As.reverse ++ st) (hp : pc + 3 = pc2) (k : ∀ (r : Int32) (w2 : hm_M), post r w2 → hm_V p l e R s m args below meth c D A nL (cells + mc) (slots + ms) Q w2 pc2 lv (.int r :: st)) : hm_V p l e R s m args below meth c D A nL cells slots Q w pc lv st0 := by
  subst hp; subst hs0
  exact fun H locs ls h1 h2 h3 h4 => hm_goI (va_runSN (Ts := hG) (host := host) ⟨E.1, E.2.1, E.2.2.1, E.2.2.2.1, E.2.2.2.2.1⟩ (C H.size) ⟨va_cnB na E.2.2.2.2.1 (hG_good0 hc) rfl rfl rfl (E.2.2.2.2.2.1.2.1 _ hl) (E.2.2.2.2.1 _ hi) hd hR, E.2.2.2.2.1 _ hs, trivial⟩ ⟨hm_Pre.blind, fun U hU hW => ⟨rfl, by rw [hU], by rw [hU]; exact h1, hm_Kn.warm hW E.2.2.2.2.2.1⟩⟩ rfl hn h4.1 rfl (lv_room hq) dd hf) h2 h3 E.2.2.2.2.2.2.1 h4 k
theorem hv_callVI (E : hm_E p s m args meth c cc nL own D K A) {y : MethodName} {b : ByteArray} {n : Nat} {rt : FieldType} {d na idx mc ms : Nat} {As st0 : List Value} {post : Int32 → hm_M → Prop} {a ci N : Nat} {C0 : String} {T0 : u_T} {fs : List Value} (C : hm_Ci l D K y b n rt d (.ref a :: As) w mc ms post) (dd : decode cc pc = .ok (.invokevirtual idx, 3)) (ha : w a = some (.inr (ci, fs))) (hcl : vwCl[ci]? = some (C0, T0, N)) (hl : Cond.methodLink own idx y ∈ hG) (hs : Cond.selects C0 y y ∈ hG) (him : Cond.instanceMethod y ∈ hG) (hc : Cond.code y b n (some rt) ∈ hG) (hi : Cond.initialized y.cls ∈ hG) (hd : y.cls ≠ "java/lang/invoke/MethodHandle" ∧ y.cls ≠ "java/lang/invoke/VarHandle" ∧ (parseMethodDescriptor y.desc).map (fun d => d.parameters.length) = some na) (hn : As.length = na) (hR : d + 1 ≤ R.frames ∧ 8 + (n + 11) + 35 * d ≤ R.locals) (hq : (st.map fun v => v.category).sum ≤ 8) (hf : cells + mc ≤ R.cells ∧ slots + ms ≤ R.slots) (hs0 : st0 = As.reverse ++ .ref a :: st) (hp : pc + 3 = pc2) (k : ∀ (r : Int32) (w2 : hm_M), post r w2 → hm_V p l e R s m args below meth c D A nL (cells + mc) (slots + ms) Q w2 pc2 lv (.int r :: st)) : hm_V p l e R s m args below meth c D A nL cells slots Q w pc lv st0 := by
  subst hp; subst hs0
  exact fun H locs ls h1 h2 h3 h4 => hm_goI (va_runV (Ts := hG) (C := C0) ⟨E.1, E.2.1, E.2.2.1, E.2.2.2.1, E.2.2.2.2.1⟩ (C H.size) ⟨callB_of na E.2.2.2.2.1 (hG_good0 hc) rfl rfl rfl (E.2.2.2.2.1 _ hi) (E.2.2.2.2.1 _ hl) hd hR, E.2.2.2.2.1 _ him, E.2.2.2.2.1 _ hs⟩ ⟨hm_Pre.blind, va_recv (q0 := 0) (fs := fs) E.2.2.2.2.2.1.1 (hm_one h1 ha) hcl rfl, fun U hU hW => ⟨rfl, by rw [hU], by rw [hU]; exact h1, hm_Kn.warm hW E.2.2.2.2.2.1⟩⟩ rfl hn h4.1 rfl (lv_room hq) dd hf) h2 h3 E.2.2.2.2.2.2.1 h4 k
theorem hv_callUI (E : hm_E p s m args meth c cc nL own D K A) {y : MethodName} {b : ByteArray} {n : Nat} {rt : FieldType} {d na idx mc ms : Nat} {As st0 : List Value} {post : Int32 → hm_M → Prop} {a ci N : Nat} {C0 : String} {T0 : u_T} {fs : List Value} {owner : String} {x : MethodName} (C : hm_Ci l D K y b n rt d (.ref a :: As) w mc ms post) (dd : decode cc pc = .ok (.invokevirtual idx, 3)) (ha : w a = some (.inr (ci, fs))) (hcl : vwCl[ci]? = some (C0, T0, N)) (hl : Cond.methodLink own idx x ∈ hG) (hsm : Cond.sameMethod x.cls owner x.name x.desc ∈ hG) (hs : Cond.selects C0 x y ∈ hG) (him : Cond.instanceMethod y ∈ hG) (hdc : (⟨owner, x.name, x.desc⟩ : MethodName) ∈ hNd) (hc : Cond.code y b n (some rt) ∈ hG) (hi : Cond.initialized y.cls ∈ hG) (hd : owner ≠ "java/lang/invoke/MethodHandle" ∧ owner ≠ "java/lang/invoke/VarHandle" ∧ (parseMethodDescriptor x.desc).map (fun d => d.parameters.length) = some na) (hn : As.length = na) (hR : d + 1 ≤ R.frames ∧ 8 + (n + 11) + 35 * d ≤ R.locals) (hq : (st.map fun v => v.category).sum ≤ 8) (hf : cells + mc ≤ R.cells ∧ slots + ms ≤ R.slots) (hs0 : st0 = As.reverse ++ .ref a :: st) (hp : pc + 3 = pc2) (k : ∀ (r : Int32) (w2 : hm_M), post r w2 → hm_V p l e R s m args below meth c D A nL (cells + mc) (slots + ms) Q w2 pc2 lv (.int r :: st)) : hm_V p l e R s m args below meth c D A nL cells slots Q w pc lv st0 := by
  subst hp; subst hs0
  have hgd : GoodIn hG (va_wsU own idx C0 owner x y (Cond.code y b n (some rt) :: hG)) := goodIn_app2 (fun z hz => by
    have : z ∈ hG := by
      simp only [List.mem_cons, List.not_mem_nil, or_false] at hz
      rcases hz with rfl | rfl | rfl | rfl | rfl
      · exact hl
      · exact hsm
      · exact hs
      · exact him
      · exact hi
    exact ⟨this, good_of_word (hG_in this).2⟩) (hG_good0 hc)
  exact fun H locs ls h1 h2 h3 h4 => hm_goI (va_runU (Ts := hG) (C := C0) ⟨E.1, E.2.1, E.2.2.1, E.2.2.2.1, E.2.2.2.2.1⟩ (C H.size) (va_cwA na E.2.2.2.2.1 hgd rfl rfl rfl (E.2.2.2.2.2.1.2.2.1 _ hdc) hd hR) ⟨hm_Pre.blind, va_recv (q0 := 0) (fs := fs) E.2.2.2.2.2.1.1 (hm_one h1 ha) hcl rfl, fun U hU hW => ⟨rfl, by rw [hU], by rw [hU]; exact h1, hm_Kn.warm hW E.2.2.2.2.2.1⟩⟩ rfl hn h4.1 rfl (lv_room hq) dd hf) h2 h3 E.2.2.2.2.2.2.1 h4 k
theorem hv_callSV (E : hm_E p s m args meth c cc nL own D K A) {y : MethodName} {b : ByteArray} {n : Nat} {d na idx mc ms : Nat} {As st0 : List Value} {post : hm_M → Prop} (C : hm_Cv l D K y b n d (As) w mc ms post) (dd : decode cc pc = .ok (.invokestatic idx, 3)) (hl : Cond.methodLink own idx y ∈ hG) (hs : Cond.static y ∈ hG) (hc : Cond.code y b n none ∈ hG) (hi : Cond.initialized y.cls ∈ hG) (hd : y.cls ≠ "java/lang/invoke/MethodHandle" ∧ y.cls ≠ "java/lang/invoke/VarHandle" ∧ (parseMethodDescriptor y.desc).map (fun d => d.parameters.length) = some na) (hn : As.length = na) (hR : d + 1 ≤ R.frames ∧ 8 + (n + 11) + 35 * d ≤ R.locals) (hq : (st.map fun v => v.category).sum ≤ 8) (hf : cells + mc ≤ R.cells ∧ slots + ms ≤ R.slots) (hs0 : st0 = As.reverse ++ st) (hp : pc + 3 = pc2) (k : ∀ (w2 : hm_M), post w2 → hm_V p l e R s m args below meth c D A nL (cells + mc) (slots + ms) Q w2 pc2 lv st) : hm_V p l e R s m args below meth c D A nL cells slots Q w pc lv st0 := by
  subst hp; subst hs0
  exact fun H locs ls h1 h2 h3 h4 => hm_goV (va_runS (Ts := hG) ⟨E.1, E.2.1, E.2.2.1, E.2.2.2.1, E.2.2.2.2.1⟩ (C H.size) ⟨callB_of na E.2.2.2.2.1 (hG_good0 hc) rfl rfl rfl (E.2.2.2.2.1 _ hi) (E.2.2.2.2.1 _ hl) hd hR, E.2.2.2.2.1 _ hs⟩ ⟨hm_Pre.blind, fun U hU hW => ⟨rfl, by rw [hU], by rw [hU]; exact h1, hm_Kn.warm hW E.2.2.2.2.2.1⟩⟩ rfl hn h4.1 rfl (lv_room hq) dd hf) h2 h3 E.2.2.2.2.2.2.1 h4 k
theorem hv_callSNV (E : hm_E p s m args meth c cc nL own D K A) {y : MethodName} {b : ByteArray} {n : Nat} {d na idx mc ms : Nat} {As st0 : List Value} {post : hm_M → Prop} {host : String} (C : hm_Cv l D K y b n d (As) w mc ms post) (dd : decode cc pc = .ok (.invokestatic idx, 3)) (hl : (own, idx, y, host) ∈ hNm) (hs : Cond.static y ∈ hG) (hc : Cond.code y b n none ∈ hG) (hi : Cond.initialized y.cls ∈ hG) (hd : y.cls ≠ "java/lang/invoke/MethodHandle" ∧ y.cls ≠ "java/lang/invoke/VarHandle" ∧ (parseMethodDescriptor y.desc).map (fun d => d.parameters.length) = some na) (hn : As.length = na) (hR : d + 1 ≤ R.frames ∧ 8 + (n + 11) + 35 * d ≤ R.locals) (hq : (st.map fun v => v.category).sum ≤ 8) (hf : cells + mc ≤ R.cells ∧ slots + ms ≤ R.slots) (hs0 : st0 = As.reverse ++ st) (hp : pc + 3 = pc2) (k : ∀ (w2 : hm_M), post w2 → hm_V p l e R s m args below meth c D A nL (cells + mc) (slots + ms) Q w2 pc2 lv st) : hm_V p l e R s m args below meth c D A nL cells slots Q w pc lv st0 := by
  subst hp; subst hs0
  exact fun H locs ls h1 h2 h3 h4 => hm_goV (va_runSN (Ts := hG) (host := host) ⟨E.1, E.2.1, E.2.2.1, E.2.2.2.1, E.2.2.2.2.1⟩ (C H.size) ⟨va_cnB na E.2.2.2.2.1 (hG_good0 hc) rfl rfl rfl (E.2.2.2.2.2.1.2.1 _ hl) (E.2.2.2.2.1 _ hi) hd hR, E.2.2.2.2.1 _ hs, trivial⟩ ⟨hm_Pre.blind, fun U hU hW => ⟨rfl, by rw [hU], by rw [hU]; exact h1, hm_Kn.warm hW E.2.2.2.2.2.1⟩⟩ rfl hn h4.1 rfl (lv_room hq) dd hf) h2 h3 E.2.2.2.2.2.2.1 h4 k
theorem hv_callVV (E : hm_E p s m args meth c cc nL own D K A) {y : MethodName} {b : ByteArray} {n : Nat} {d na idx mc ms : Nat} {As st0 : List Value} {post : hm_M → Prop} {a ci N : Nat} {C0 : String} {T0 : u_T} {fs : List Value} (C : hm_Cv l D K y b n d (.ref a :: As) w mc ms post) (dd : decode cc pc = .ok (.invokevirtual idx, 3)) (ha : w a = some (.inr (ci, fs))) (hcl : vwCl[ci]? = some (C0, T0, N)) (hl : Cond.methodLink own idx y ∈ hG) (hs : Cond.selects C0 y y ∈ hG) (him : Cond.instanceMethod y ∈ hG) (hc : Cond.code y b n none ∈ hG) (hi : Cond.initialized y.cls ∈ hG) (hd : y.cls ≠ "java/lang/invoke/MethodHandle" ∧ y.cls ≠ "java/lang/invoke/VarHandle" ∧ (parseMethodDescriptor y.desc).map (fun d => d.parameters.length) = some na) (hn : As.length = na) (hR : d + 1 ≤ R.frames ∧ 8 + (n + 11) + 35 * d ≤ R.locals) (hq : (st.map fun v => v.category).sum ≤ 8) (hf : cells + mc ≤ R.cells ∧ slots + ms ≤ R.slots) (hs0 : st0 = As.reverse ++ .ref a :: st) (hp : pc + 3 = pc2) (k : ∀ (w2 : hm_M), post w2 → hm_V p l e R s m args below meth c D A nL (cells + mc) (slots + ms) Q w2 pc2 lv st) : hm_V p l e R s m args below meth c D A nL cells slots Q w pc lv st0 := by
  subst hp; subst hs0
  exact fun H locs ls h1 h2 h3 h4 => hm_goV (va_runV (Ts := hG) (C := C0) ⟨E.1, E.2.1, E.2.2.1, E.2.2.2.1, E.2.2.2.2.1⟩ (C H.size) ⟨callB_of na E.2.2.2.2.1 (hG_good0 hc) rfl rfl rfl (E.2.2.2.2.1 _ hi) (E.2.2.2.2.1 _ hl) hd hR, E.2.2.2.2.1 _ him, E.2.2.2.2.1 _ hs⟩ ⟨hm_Pre.blind, va_recv (q0 := 0) (fs := fs) E.2.2.2.2.2.1.1 (hm_one h1 ha) hcl rfl, fun U hU hW => ⟨rfl, by rw [hU], by rw [hU]; exact h1, hm_Kn.warm hW E.2.2.2.2.2.1⟩⟩ rfl hn h4.1 rfl (lv_room hq) dd hf) h2 h3 E.2.2.2.2.2.2.1 h4 k
theorem hv_callUV (E : hm_E p s m args meth c cc nL own D K A) {y : MethodName} {b : ByteArray} {n : Nat} {d na idx mc ms : Nat} {As st0 : List Value} {post : hm_M → Prop} {a ci N : Nat} {C0 : String} {T0 : u_T} {fs : List Value} {owner : String} {x : MethodName} (C : hm_Cv l D K y b n d (.ref a :: As) w mc ms post) (dd : decode cc pc = .ok (.invokevirtual idx, 3)) (ha : w a = some (.inr (ci, fs))) (hcl : vwCl[ci]? = some (C0, T0, N)) (hl : Cond.methodLink own idx x ∈ hG) (hsm : Cond.sameMethod x.cls owner x.name x.desc ∈ hG) (hs : Cond.selects C0 x y ∈ hG) (him : Cond.instanceMethod y ∈ hG) (hdc : (⟨owner, x.name, x.desc⟩ : MethodName) ∈ hNd) (hc : Cond.code y b n none ∈ hG) (hi : Cond.initialized y.cls ∈ hG) (hd : owner ≠ "java/lang/invoke/MethodHandle" ∧ owner ≠ "java/lang/invoke/VarHandle" ∧ (parseMethodDescriptor x.desc).map (fun d => d.parameters.length) = some na) (hn : As.length = na) (hR : d + 1 ≤ R.frames ∧ 8 + (n + 11) + 35 * d ≤ R.locals) (hq : (st.map fun v => v.category).sum ≤ 8) (hf : cells + mc ≤ R.cells ∧ slots + ms ≤ R.slots) (hs0 : st0 = As.reverse ++ .ref a :: st) (hp : pc + 3 = pc2) (k : ∀ (w2 : hm_M), post w2 → hm_V p l e R s m args below meth c D A nL (cells + mc) (slots + ms) Q w2 pc2 lv st) : hm_V p l e R s m args below meth c D A nL cells slots Q w pc lv st0 := by
  subst hp; subst hs0
  have hgd : GoodIn hG (va_wsU own idx C0 owner x y (Cond.code y b n none :: hG)) := goodIn_app2 (fun z hz => by
    have : z ∈ hG := by
      simp only [List.mem_cons, List.not_mem_nil, or_false] at hz
      rcases hz with rfl | rfl | rfl | rfl | rfl
      · exact hl
      · exact hsm
      · exact hs
      · exact him
      · exact hi
    exact ⟨this, good_of_word (hG_in this).2⟩) (hG_good0 hc)
  exact fun H locs ls h1 h2 h3 h4 => hm_goV (va_runU (Ts := hG) (C := C0) ⟨E.1, E.2.1, E.2.2.1, E.2.2.2.1, E.2.2.2.2.1⟩ (C H.size) (va_cwA na E.2.2.2.2.1 hgd rfl rfl rfl (E.2.2.2.2.2.1.2.2.1 _ hdc) hd hR) ⟨hm_Pre.blind, va_recv (q0 := 0) (fs := fs) E.2.2.2.2.2.1.1 (hm_one h1 ha) hcl rfl, fun U hU hW => ⟨rfl, by rw [hU], by rw [hU]; exact h1, hm_Kn.warm hW E.2.2.2.2.2.1⟩⟩ rfl hn h4.1 rfl (lv_room hq) dd hf) h2 h3 E.2.2.2.2.2.2.1 h4 k
theorem hv_callI (E : hm_E p s m args meth c cc nL own D K A) {y : MethodName} {b : ByteArray} {n : Nat} {d na idx mc ms : Nat} {As st0 : List Value} {post : hm_M → Prop} {a : Nat} (C : hm_Cv l D K y b n d (.ref a :: As) w mc ms post) (dd : decode cc pc = .ok (.invokespecial idx, 3)) (hl : Cond.methodLink own idx y ∈ hG) (hnm : y.name = "<init>") (him : Cond.instanceMethod y ∈ hG) (hc : Cond.code y b n none ∈ hG) (hi : Cond.initialized y.cls ∈ hG) (hd : y.cls ≠ "java/lang/invoke/MethodHandle" ∧ y.cls ≠ "java/lang/invoke/VarHandle" ∧ (parseMethodDescriptor y.desc).map (fun d => d.parameters.length) = some na) (hn : As.length = na) (hR : d + 1 ≤ R.frames ∧ 8 + (n + 11) + 35 * d ≤ R.locals) (hq : (st.map fun v => v.category).sum ≤ 8) (hf : cells + mc ≤ R.cells ∧ slots + ms ≤ R.slots) (hs0 : st0 = As.reverse ++ .ref a :: st) (hp : pc + 3 = pc2) (k : ∀ (w2 : hm_M), post w2 → hm_V p l e R s m args below meth c D A nL (cells + mc) (slots + ms) Q w2 pc2 lv st) : hm_V p l e R s m args below meth c D A nL cells slots Q w pc lv st0 := by
  subst hp; subst hs0
  exact fun H locs ls h1 h2 h3 h4 => hm_goV (va_runI (Ts := hG) ⟨E.1, E.2.1, E.2.2.1, E.2.2.2.1, E.2.2.2.2.1⟩ (C H.size) ⟨callB_of na E.2.2.2.2.1 (hG_good0 hc) rfl rfl rfl (E.2.2.2.2.1 _ hi) (E.2.2.2.2.1 _ hl) hd hR, hnm, E.2.2.2.2.1 _ him⟩ ⟨hm_Pre.blind, fun U hU hW => ⟨rfl, by rw [hU], by rw [hU]; exact h1, hm_Kn.warm hW E.2.2.2.2.2.1⟩⟩ rfl hn h4.1 rfl (lv_room hq) dd hf) h2 h3 E.2.2.2.2.2.2.1 h4 k
theorem hv_callIN (E : hm_E p s m args meth c cc nL own D K A) {y : MethodName} {b : ByteArray} {n : Nat} {d na idx mc ms : Nat} {As st0 : List Value} {post : hm_M → Prop} {a : Nat} (C : hm_Cv l D K y b n d (.ref a :: As) w mc ms post) (dd : decode cc pc = .ok (.invokespecial idx, 3)) {host : String} (hl : (own, idx, y, host) ∈ hNm) (hnm : y.name = "<init>") (him : Cond.instanceMethod y ∈ hG) (hc : Cond.code y b n none ∈ hG) (hi : Cond.initialized y.cls ∈ hG) (hd : y.cls ≠ "java/lang/invoke/MethodHandle" ∧ y.cls ≠ "java/lang/invoke/VarHandle" ∧ (parseMethodDescriptor y.desc).map (fun d => d.parameters.length) = some na) (hn : As.length = na) (hR : d + 1 ≤ R.frames ∧ 8 + (n + 11) + 35 * d ≤ R.locals) (hq : (st.map fun v => v.category).sum ≤ 8) (hf : cells + mc ≤ R.cells ∧ slots + ms ≤ R.slots) (hs0 : st0 = As.reverse ++ .ref a :: st) (hp : pc + 3 = pc2) (k : ∀ (w2 : hm_M), post w2 → hm_V p l e R s m args below meth c D A nL (cells + mc) (slots + ms) Q w2 pc2 lv st) : hm_V p l e R s m args below meth c D A nL cells slots Q w pc lv st0 := by
  subst hp; subst hs0
  exact fun H locs ls h1 h2 h3 h4 => hm_goV (va_runIN (Ts := hG) ⟨E.1, E.2.1, E.2.2.1, E.2.2.2.1, E.2.2.2.2.1⟩ (C H.size) ⟨va_cnB na E.2.2.2.2.1 (hG_good0 hc) rfl rfl rfl (E.2.2.2.2.2.1.2.1 _ hl) (E.2.2.2.2.1 _ hi) hd hR, hnm, E.2.2.2.2.1 _ him⟩ ⟨hm_Pre.blind, fun U hU hW => ⟨rfl, by rw [hU], by rw [hU]; exact h1, hm_Kn.warm hW E.2.2.2.2.2.1⟩⟩ rfl hn h4.1 rfl (lv_room hq) dd hf) h2 h3 E.2.2.2.2.2.2.1 h4 k
theorem hv_objInit (E : hm_E p s m args meth c cc nL own D K A) {idx a : Nat} (dd : decode cc pc = .ok (.invokespecial idx, 3)) (hl : Cond.methodLink own idx objectInit ∈ hG) (hq : (st.map fun v => v.category).sum ≤ 8) (hR : 1 ≤ R.frames ∧ 35 ≤ R.locals) (hp : pc + 3 = pc2) (k : hm_V p l e R s m args below meth c D A nL cells slots Q w pc2 lv st) : hm_V p l e R s m args below meth c D A nL cells slots Q w pc lv (.ref a :: st) := by
  subst hp
  exact fun H locs ls h1 h2 h3 h4 => W.objInit E.1 E.2.1 E.2.2.2.1 (E.2.2.2.2.1 _ hl) (E.2.2.2.2.1 _ gI_objectInit) (E.2.2.2.2.1 _ gC_objectInit) rfl (by rw [E.2.2.1]; exact h4.1) rfl dd hR.1 (by show 2 * 0 + _ + 12 ≤ _; omega) (k H locs ls h1 h2 h3 h4)
theorem hv_new (E : hm_E p s m args meth c cc nL own D K A) {ci N idx : Nat} {C : String} {T : u_T} {ty : Nat → FieldType} {fs : List Value} (dd : decode cc pc = .ok (.new idx, 3)) (hc : vwCl[ci]? = some (C, T, N)) (hw : ∀ w ∈ u_ws C T N, w ∈ hG) (hty : ∀ k, k < N → parseFieldDescriptor (T k).2.2.1 = some (ty k)) (hcl : Cond.classLink own idx C ∈ hG) (hin : Cond.instantiable C N ∈ hG) (hi : Cond.initialized C ∈ hG) (hfs : ∀ j, j < N → defaultValue (ty j) = vp_V fs j) (hcells : cells + 1 ≤ R.cells) (hslots : slots + N ≤ R.slots) (hp : pc + 3 = pc2) (k : ∀ q : Nat, w q = none → s.heap.size ≤ q → hm_V p l e R s m args below meth c D A nL (cells + 1) (slots + N) Q (hm_up w q (.inr (ci, fs))) pc2 lv (.ref q :: st)) : hm_V p l e R s m args below meth c D A nL cells slots Q w pc lv st := by
  subst hp
  intro H locs ls h1 h2 h3 h4
  have hts := E.2.2.2.2.1
  have hKn := E.2.2.2.2.2.1.1.1 ci _ hc
  refine W.newcK E.1 E.2.1 E.2.2.2.1 (hts _ hcl) (hts _ hin) (hts _ hi) rfl dd hcells hslots hKn.2.1 rfl fun H1 kC hkC e1 z1 o1 => ?_
  refine k H.size (h1.fresh (Nat.le_refl _)) h3.1 H1 locs ls (h1.new ⟨_, hc, (u_born ty hts hw hKn hkC e1 hty).to hfs⟩ o1) (hm_dom h2 (E.2.2.2.2.2.2.1 _ h3.1)) ⟨Nat.le_trans h3.1 (by omega), fun x g1 g2 => (o1 x (Nat.lt_of_lt_of_le g1 h3.1)).trans (h3.2.1 x g1 g2), h3.2.2⟩ h4
theorem hv_newaI (E : hm_E p s m args meth c cc nL own D K A) {z : Int} (dd : decode cc pc = .ok (.newarray .int, 2)) (h0 : 0 ≤ z) (hz : z ≤ 100000) (hcells : cells + 1 ≤ R.cells) (hslots : slots + z.toNat ≤ R.slots) (hp : pc + 2 = pc2) (k : ∀ q : Nat, w q = none → s.heap.size ≤ q → hm_V p l e R s m args below meth c D A nL (cells + 1) (slots + z.toNat) Q (hm_up w q (.inl (K 0, z.toNat, .inl (fun _ => 0)))) pc2 lv (.ref q :: st)) : hm_V p l e R s m args below meth c D A nL cells slots Q w pc lv (.int (iI z) :: st) := by
  subst hp
  intro H locs ls h1 h2 h3 h4
  have hcl : (iI z).toNatClampNeg = z.toNat := iI_cl h0 (by omega)
  have hbt : componentBytes (newarray.typeOf .int) ≤ 8 := by decide
  refine va_newaK (atype := .int) E.1 E.2.1 (E.2.2.2.2.1 _ gA_int) rfl dd rfl (by rw [Int32.lt_iff_toInt_lt, iI_toInt ⟨by omega, by omega⟩]; simp; omega) hcl (Nat.le_trans (Nat.mul_le_mul_left _ hbt) (by omega)) hcells hslots rfl fun H1 cA e1 z1 o1 hAr hNm => ?_
  have hcA : cA = K 0 := Option.some.inj (hNm.symm.trans (E.2.2.2.2.2.1.1.2 0 _ rfl).2)
  subst hcA
  refine k H.size (h1.fresh (Nat.le_refl _)) h3.1 H1 locs ls (h1.new ?_ o1) (hm_dom h2 (E.2.2.2.2.2.2.1 _ h3.1)) ⟨Nat.le_trans h3.1 (by omega), fun x g1 g2 => (o1 x (Nat.lt_of_lt_of_le g1 h3.1)).trans (h3.2.1 x g1 g2), h3.2.2⟩ h4
  show H1[H.size]? = some (vp_cell _ _)
  rw [vp_cell_i]
  exact e1
theorem hv_newaZ (E : hm_E p s m args meth c cc nL own D K A) {z : Int} (dd : decode cc pc = .ok (.newarray .boolean, 2)) (h0 : 0 ≤ z) (hz : z ≤ 100000) (hcells : cells + 1 ≤ R.cells) (hslots : slots + z.toNat ≤ R.slots) (hp : pc + 2 = pc2) (k : ∀ q : Nat, w q = none → s.heap.size ≤ q → hm_V p l e R s m args below meth c D A nL (cells + 1) (slots + z.toNat) Q (hm_up w q (.inl (K 1, z.toNat, .inl (fun _ => bI false)))) pc2 lv (.ref q :: st)) : hm_V p l e R s m args below meth c D A nL cells slots Q w pc lv (.int (iI z) :: st) := by
  subst hp
  intro H locs ls h1 h2 h3 h4
  have hcl : (iI z).toNatClampNeg = z.toNat := iI_cl h0 (by omega)
  have hbt : componentBytes (newarray.typeOf .boolean) ≤ 8 := by decide
  refine va_newaK (atype := .boolean) E.1 E.2.1 (E.2.2.2.2.1 _ gA_boolean) rfl dd rfl (by rw [Int32.lt_iff_toInt_lt, iI_toInt ⟨by omega, by omega⟩]; simp; omega) hcl (Nat.le_trans (Nat.mul_le_mul_left _ hbt) (by omega)) hcells hslots rfl fun H1 cA e1 z1 o1 hAr hNm => ?_
  have hcA : cA = K 1 := Option.some.inj (hNm.symm.trans (E.2.2.2.2.2.1.1.2 1 _ rfl).2)
  subst hcA
  refine k H.size (h1.fresh (Nat.le_refl _)) h3.1 H1 locs ls (h1.new ?_ o1) (hm_dom h2 (E.2.2.2.2.2.2.1 _ h3.1)) ⟨Nat.le_trans h3.1 (by omega), fun x g1 g2 => (o1 x (Nat.lt_of_lt_of_le g1 h3.1)).trans (h3.2.1 x g1 g2), h3.2.2⟩ h4
  show H1[H.size]? = some (vp_cell _ _)
  rw [vp_cell_i]
  exact e1
theorem hv_anewN (E : hm_E p s m args meth c cc nL own D K A) {z : Int} {idx : Nat} (dd : decode cc pc = .ok (.anewarray idx, 3)) (hcl : Cond.classLink own idx "KeyRows$Numbers" ∈ hG) (h0 : 0 ≤ z) (hz : z ≤ 100000) (hcells : cells + 1 ≤ R.cells) (hslots : slots + z.toNat ≤ R.slots) (hp : pc + 3 = pc2) (k : ∀ q : Nat, w q = none → s.heap.size ≤ q → hm_V p l e R s m args below meth c D A nL (cells + 1) (slots + z.toNat) Q (hm_up w q (.inl (K 2, z.toNat, .inr (.inr (.inr (.inr (fun _ => none))))))) pc2 lv (.ref q :: st)) : hm_V p l e R s m args below meth c D A nL cells slots Q w pc lv (.int (iI z) :: st) := by
  subst hp
  intro H locs ls h1 h2 h3 h4
  have hcz : (iI z).toNatClampNeg = z.toNat := iI_cl h0 (by omega)
  refine W.anew E.1 E.2.1 E.2.2.2.1 (E.2.2.2.2.1 _ hcl) (va_AO.use (E.2.2.2.2.2.1.2.2.2.2 "KeyRows$Numbers" (by decide))) rfl dd rfl (by rw [Int32.lt_iff_toInt_lt, iI_toInt ⟨by omega, by omega⟩]; simp; omega) (by rw [hcz]; omega) hcells (by rw [hcz]; exact hslots) fun cA kA comp f1 f2 f3 f4 => ?_
  obtain ⟨kA2, comp2, _, _, _, f5⟩ := (E.2.2.2.2.2.1.1.2 2 _ rfl).2
  have hcA : cA = K 2 := Option.some.inj (f1.symm.trans f5)
  subst hcA
  rw [hcz]
  generalize hH1 : H.push ({ cls := K 2, slots := Array.replicate z.toNat .null, vm := .none } : Cell) = H1
  have z1 : H1.size = H.size + 1 := by rw [← hH1, Array.size_push]
  have e1 : H1[H.size]? = some (arrV (K 2) z.toNat (fun _ => .null)) := by rw [← hH1, Array.getElem?_push_size, ← arrV_new]
  have o1 : ∀ q : Nat, q < H.size → H1[q]? = H[q]? := fun q hq => by rw [← hH1, Array.getElem?_push, if_neg (Nat.ne_of_lt hq)]
  refine k H.size (h1.fresh (Nat.le_refl _)) h3.1 H1 locs ls (h1.new ?_ o1) (hm_dom h2 (E.2.2.2.2.2.2.1 _ h3.1)) ⟨Nat.le_trans h3.1 (by omega), fun x g1 g2 => (o1 x (Nat.lt_of_lt_of_le g1 h3.1)).trans (h3.2.1 x g1 g2), h3.2.2⟩ h4
  show H1[H.size]? = some (vp_cell _ _)
  rw [vp_cell_q]
  exact e1
theorem hv_anewC (E : hm_E p s m args meth c cc nL own D K A) {z : Int} {idx : Nat} (dd : decode cc pc = .ok (.anewarray idx, 3)) (hcl : Cond.classLink own idx "KeyRows$Code" ∈ hG) (h0 : 0 ≤ z) (hz : z ≤ 100000) (hcells : cells + 1 ≤ R.cells) (hslots : slots + z.toNat ≤ R.slots) (hp : pc + 3 = pc2) (k : ∀ q : Nat, w q = none → s.heap.size ≤ q → hm_V p l e R s m args below meth c D A nL (cells + 1) (slots + z.toNat) Q (hm_up w q (.inl (K 3, z.toNat, .inr (.inr (.inr (.inr (fun _ => none))))))) pc2 lv (.ref q :: st)) : hm_V p l e R s m args below meth c D A nL cells slots Q w pc lv (.int (iI z) :: st) := by
  subst hp
  intro H locs ls h1 h2 h3 h4
  have hcz : (iI z).toNatClampNeg = z.toNat := iI_cl h0 (by omega)
  refine W.anew E.1 E.2.1 E.2.2.2.1 (E.2.2.2.2.1 _ hcl) (va_AO.use (E.2.2.2.2.2.1.2.2.2.2 "KeyRows$Code" (by decide))) rfl dd rfl (by rw [Int32.lt_iff_toInt_lt, iI_toInt ⟨by omega, by omega⟩]; simp; omega) (by rw [hcz]; omega) hcells (by rw [hcz]; exact hslots) fun cA kA comp f1 f2 f3 f4 => ?_
  obtain ⟨kA2, comp2, _, _, _, f5⟩ := (E.2.2.2.2.2.1.1.2 3 _ rfl).2
  have hcA : cA = K 3 := Option.some.inj (f1.symm.trans f5)
  subst hcA
  rw [hcz]
  generalize hH1 : H.push ({ cls := K 3, slots := Array.replicate z.toNat .null, vm := .none } : Cell) = H1
  have z1 : H1.size = H.size + 1 := by rw [← hH1, Array.size_push]
  have e1 : H1[H.size]? = some (arrV (K 3) z.toNat (fun _ => .null)) := by rw [← hH1, Array.getElem?_push_size, ← arrV_new]
  have o1 : ∀ q : Nat, q < H.size → H1[q]? = H[q]? := fun q hq => by rw [← hH1, Array.getElem?_push, if_neg (Nat.ne_of_lt hq)]
  refine k H.size (h1.fresh (Nat.le_refl _)) h3.1 H1 locs ls (h1.new ?_ o1) (hm_dom h2 (E.2.2.2.2.2.2.1 _ h3.1)) ⟨Nat.le_trans h3.1 (by omega), fun x g1 g2 => (o1 x (Nat.lt_of_lt_of_le g1 h3.1)).trans (h3.2.1 x g1 g2), h3.2.2⟩ h4
  show H1[H.size]? = some (vp_cell _ _)
  rw [vp_cell_q]
  exact e1
end HC
