/-! ints: iI of an Int, bI of a Bool -/
def iI (z : Int) : Int32 := Int32.ofInt z
def iB (z : Int) : Prop := -2147483648 ≤ z ∧ z < 2147483648
def bI (b : Bool) : Int32 := iI (if b then 1 else 0)
theorem iI_toInt {z : Int} (h : iB z) : (iI z).toInt = z := Int32.toInt_ofInt_of_le (by have := h.1; omega) (by have := h.2; omega)
theorem iI_add (x y : Int) : iI x + iI y = iI (x + y) := (Int32.ofInt_add x y).symm
theorem iI_sub (x y : Int) : iI x - iI y = iI (x - y) := (Int32.ofInt_sub x y).symm
theorem iI_mul (x y : Int) : iI x * iI y = iI (x * y) := (Int32.ofInt_mul x y).symm
theorem iI_neg (x : Int) : - iI x = iI (-x) := (Int32.ofInt_neg x).symm
theorem iI_of (x : Int32) : ∃ z : Int, iB z ∧ x = iI z := ⟨x.toInt, ⟨by have := x.le_toInt; omega, by have := x.toInt_lt; omega⟩, (Int32.ofInt_toInt x).symm⟩
theorem iI_le {x y : Int} (hx : iB x) (hy : iB y) : iI x ≤ iI y ↔ x ≤ y := by rw [Int32.le_iff_toInt_le, iI_toInt hx, iI_toInt hy]
theorem iI_lt {x y : Int} (hx : iB x) (hy : iB y) : iI x < iI y ↔ x < y := by rw [Int32.lt_iff_toInt_lt, iI_toInt hx, iI_toInt hy]
theorem iI_eq {x y : Int} (hx : iB x) (hy : iB y) : iI x = iI y ↔ x = y := by rw [← Int32.toInt_inj, iI_toInt hx, iI_toInt hy]
theorem iI_0 : (0 : Int32) = iI 0 := by decide +kernel
theorem iI_1 : (1 : Int32) = iI 1 := by decide +kernel
theorem iI_nI (n : Nat) : iI (n : Int) = nI n := by simp [iI, nI, Int32.ofInt_eq_ofNat]
theorem iI_cl {z : Int} (h0 : 0 ≤ z) (h1 : z < 2147483648) : (iI z).toNatClampNeg = z.toNat := Int32.toNatClampNeg_ofInt_of_le (by omega) (by omega)
theorem iI_in {z : Int} {n : Nat} (h0 : 0 ≤ z) (h1 : z < (n : Int)) (hn : n < 2147483648) : vp_in (iI z) n := by
  rw [vp_in_iff, iI_toInt ⟨by omega, by omega⟩]; exact ⟨h0, h1⟩
theorem iB_0 : iB 0 := ⟨by omega, by omega⟩
theorem bI_t : bI true = iI 1 := rfl
theorem bI_f : bI false = iI 0 := rfl
theorem bI_inj {x y : Bool} (h : bI x = bI y) : x = y := by cases x <;> cases y <;> first | rfl | (exact absurd h (by decide +kernel))
theorem bI_eq {x y : Bool} : bI x = bI y ↔ x = y := ⟨bI_inj, fun h => h ▸ rfl⟩
theorem bI_nar (b : Bool) : vp_nar .boolean (bI b) = bI b := by cases b <;> decide +kernel
theorem bI_narrow (b : Bool) : narrow .boolean (.int (bI b)) = .int (bI b) := by cases b <;> decide +kernel
theorem bI_fits (b : Bool) : fits .boolean (.int (bI b)) = true := by cases b <;> decide +kernel
/-! memories -/
abbrev hm_M : Type := Nat → Option va_E
def hm_up (w : hm_M) (a : Nat) (e : va_E) : hm_M := fun q => if q = a then some e else w q
theorem hm_us {w : hm_M} {a : Nat} {e : va_E} : hm_up w a e a = some e := by simp [hm_up]
theorem hm_un {w : hm_M} {a q : Nat} {e : va_E} (h : q ≠ a) : hm_up w a e q = w q := by simp [hm_up, h]
theorem hm_uu {w : hm_M} {a : Nat} {e e' : va_E} : hm_up (hm_up w a e) a e' = hm_up w a e' := by
  funext q; by_cases h : q = a <;> simp [hm_up, h]
theorem hm_uc {w : hm_M} {a b : Nat} {e e' : va_E} (h : a ≠ b) : hm_up (hm_up w a e) b e' = hm_up (hm_up w b e') a e := by
  funext q; by_cases h1 : q = a
  · subst h1; simp [hm_up, h]
  · by_cases h2 : q = b <;> simp [hm_up, h1, h2, Ne.symm h]
theorem hm_uid {w : hm_M} {a : Nat} {e : va_E} (h : w a = some e) : hm_up w a e = w := by
  funext q; by_cases h1 : q = a
  · subst h1; rw [hm_us, h]
  · rw [hm_un h1]
def hm_N (U : State) : Prop := (∀ q ∈ hNm, va_Nw (.methodLinkNest q.1 q.2.1 q.2.2.1 q.2.2.2) U) ∧ (∀ q ∈ hNd, va_Nw (.declares q) U) ∧ (∀ q ∈ hNc, va_Nw (.castable q.1 q.2) U) ∧ ∀ q ∈ hNa, va_AO q U
theorem hm_N.warm {s U : State} (hW : s.WarmedH U.vm) (h : hm_N s) : hm_N U := ⟨fun q hq => va_Nw.warmM hW (h.1 q hq), fun q hq => va_Nw.warmD hW (h.2.1 q hq), fun q hq => va_Nw.warmC hW (h.2.2.1 q hq), fun q hq => (h.2.2.2 q hq).moved hW.alike⟩
theorem hm_N.same {u U : State} (h : u.vm = U.vm) (hN : hm_N u) : hm_N U := ⟨fun q hq => va_Nw.same rfl h (hN.1 q hq), fun q hq => va_Nw.same rfl h (hN.2.1 q hq), fun q hq => va_Nw.same rfl h (hN.2.2.1 q hq), fun q hq => (hN.2.2.2 q hq).moved (by rw [h]; exact Vm.Alike.refl _)⟩
def hm_T (K : Nat → ClassId) : List (ClassId × FieldType) := [(K 0, .int), (K 1, .boolean), (K 2, .object "KeyRows$Numbers"), (K 3, .object "KeyRows$Code")]
def hm_Kn (D : va_G) (K : Nat → ClassId) (U : State) : Prop := va_K D vwCl (hm_T K) U ∧ hm_N U
theorem hm_Kn.warm {D : va_G} {K : Nat → ClassId} {s U : State} (hW : s.WarmedH U.vm) (h : hm_Kn D K s) : hm_Kn D K U := ⟨va_K.moved hW.alike h.1, h.2.warm hW⟩
def hm_H (D : va_G) (w : hm_M) (H : Heap) : Prop := ∀ (a : Nat) (e : va_E), w a = some e → va_at D vwCl (a, e) H
theorem hm_H.lt {D : va_G} {w : hm_M} {H : Heap} {a : Nat} {e : va_E} (h : hm_H D w H) (ha : w a = some e) : a < H.size := (h a e ha).lt
theorem hm_H.put {D : va_G} {w : hm_M} {H H1 : Heap} {a : Nat} {e : va_E} (h : hm_H D w H) (hn : va_at D vwCl (a, e) H1) (oq : ∀ q : Nat, q ≠ a → H1[q]? = H[q]?) : hm_H D (hm_up w a e) H1 := by
  intro b x hb
  by_cases hq : b = a
  · subst hq; rw [hm_us] at hb; cases hb; exact hn
  · rw [hm_un hq] at hb; exact (h b x hb).kept (oq b hq)
theorem hm_H.new {D : va_G} {w : hm_M} {H H1 : Heap} {e : va_E} (h : hm_H D w H) (hn : va_at D vwCl (H.size, e) H1) (oq : ∀ q : Nat, q < H.size → H1[q]? = H[q]?) : hm_H D (hm_up w H.size e) H1 := by
  intro b x hb
  by_cases hq : b = H.size
  · subst hq; rw [hm_us] at hb; cases hb; exact hn
  · rw [hm_un hq] at hb; exact (h b x hb).kept (oq b (h.lt hb))
theorem hm_H.fresh {D : va_G} {w : hm_M} {H : Heap} {a : Nat} (h : hm_H D w H) (ha : H.size ≤ a) : w a = none := by
  cases e : w a with
  | none => rfl
  | some x => exact absurd (h.lt e) (by omega)
def hm_A (w : hm_M) (sz : Nat) : Nat → Prop := fun q => w q ≠ none ∨ sz ≤ q
/-- what stands fixed in a method: machine, code, locals' number, own class, words, classes, cells that may change -/
def hm_E (p : Program) (s : State) (m : MethodId) (args : Array Value) (meth : Method) (c : Code) (cc : ByteArray) (nL : Nat) (own : String) (D : va_G) (K : Nat → ClassId) (A : Nat → Prop) : Prop :=
  p.tables.exec = Jvm.exec ∧ c.code = cc ∧ c.maxLocals = nL ∧ s.vm.findClass own = some m.cls ∧ (∀ w ∈ hG, w.before args s = true) ∧ hm_Kn D K s ∧ (∀ q, s.heap.size ≤ q → A q) ∧ meth.locks = false
/-- the machine at pc with locals lv, stack st and memory w comes to a state with Q -/
def hm_V (p : Program) (l : Launch) (e : Env) (R : Room) (s : State) (m : MethodId) (args : Array Value) (below : List Frame) (meth : Method) (c : Code) (D : va_G) (A : Nat → Prop) (nL cells slots : Nat) (Q : State → Prop) (w : hm_M) (pc : Nat) (lv : List (Nat × Value)) (st : List Value) : Prop :=
  ∀ (H : Heap) (locs : List Loc) (ls : Array Slot), hm_H D w H → (∀ q, w q ≠ none → A q) → va_S A s.heap H locs → lv_has ls nL lv → W p l e R s m args below meth c H locs cells slots Q (F0 m pc ls st)
def hm_rm (d mc ms : Nat) : Room := { frames := d, cells := mc, slots := ms, locals := 35 * d }
def hm_Pre (D : va_G) (K : Nat → ClassId) (As : List Value) (w : hm_M) (sz : Nat) : Array Value → State → Prop := va_Pc As (fun U => U.heap.size = sz ∧ hm_H D w U.heap ∧ hm_Kn D K U)
def hm_Qi (D : va_G) (w : hm_M) (sz : Nat) (post : Int32 → hm_M → Prop) : Array Value → State → Outcome → State → Prop := fun _ st oc t => ∃ (r : Int32) (w' : hm_M), oc = .returned (some (.int r)) ∧ post r w' ∧ hm_H D w' t.heap ∧ (∀ q, w' q ≠ none → hm_A w sz q) ∧ va_F (hm_A w sz) st t
def hm_Qv (D : va_G) (w : hm_M) (sz : Nat) (post : hm_M → Prop) : Array Value → State → Outcome → State → Prop := fun _ st oc t => ∃ w' : hm_M, oc = .returned none ∧ post w' ∧ hm_H D w' t.heap ∧ (∀ q, w' q ≠ none → hm_A w sz q) ∧ va_F (hm_A w sz) st t
/-- a contract: with arguments As and memory w, method y answers r and leaves memory w' with 'post r w''; d: calls below it; mc cells of ms slots come -/
def hm_Ci (l : Launch) (D : va_G) (K : Nat → ClassId) (y : MethodName) (b : ByteArray) (n : Nat) (rt : FieldType) (d : Nat) (As : List Value) (w : hm_M) (mc ms : Nat) (post : Int32 → hm_M → Prop) : Prop := ∀ sz, Met l y (.code y b n (some rt) :: hG) (hm_rm d mc ms) (hm_Pre D K As w sz) (hm_Qi D w sz post) mc ms (hm_A w sz)
def hm_Cv (l : Launch) (D : va_G) (K : Nat → ClassId) (y : MethodName) (b : ByteArray) (n : Nat) (d : Nat) (As : List Value) (w : hm_M) (mc ms : Nat) (post : hm_M → Prop) : Prop := ∀ sz, Met l y (.code y b n none :: hG) (hm_rm d mc ms) (hm_Pre D K As w sz) (hm_Qv D w sz post) mc ms (hm_A w sz)
theorem hm_Pre.blind {D : va_G} {K : Nat → ClassId} {As : List Value} {w : hm_M} {sz : Nat} : FrameBlind (hm_Pre D K As w sz) := fun a U g mk q => by
  obtain ⟨q0, q1, q2, q3, q4⟩ := q
  exact ⟨q0, q1, q2, va_K.moved (u := U) (U := U.calling g mk a) (Vm.Alike.refl U.vm) q3, q4.same (u := U) (U := U.calling g mk a) rfl⟩
theorem hG_good {c0 : Cond} {y : MethodName} {b : ByteArray} {n : Nat} {rt : Option FieldType} (h : Cond.code y b n rt ∈ hG) : GoodIn (c0 :: hG) (Cond.code y b n rt :: hG) := fun w hw => by
  have h1 : w ∈ hG := by rcases List.mem_cons.mp hw with e | e; · rw [e]; exact h
                         · exact e
  exact ⟨List.mem_cons_of_mem _ h1, good_of_word (hG_in h1).2⟩
theorem hG_good0 {y : MethodName} {b : ByteArray} {n : Nat} {rt : Option FieldType} (h : Cond.code y b n rt ∈ hG) : GoodIn hG (Cond.code y b n rt :: hG) := fun w hw => by
  have h1 : w ∈ hG := by rcases List.mem_cons.mp hw with e | e; · rw [e]; exact h
                         · exact e
  exact ⟨h1, good_of_word (hG_in h1).2⟩
section HV
variable {p : Program} {l : Launch} {e : Env} {R : Room} {s : State} {m : MethodId} {args : Array Value} {below : List Frame} {meth : Method} {c : Code} {cells slots : Nat} {Q : State → Prop} {cc : ByteArray} {nL : Nat} {own : String} {D : va_G} {K : Nat → ClassId} {A : Nat → Prop} {w : hm_M} {pc pc2 : Nat} {lv : List (Nat × Value)} {st : List Value}
theorem hv_iconst (E : hm_E p s m args meth c cc nL own D K A) {n : Int} (d : decode cc pc = .ok (.iconst n, 1))  (hp : pc + 1 = pc2) (k : hm_V p l e R s m args below meth c D A nL cells slots Q w pc2 lv (.int (iI n) :: st)) : hm_V p l e R s m args below meth c D A nL cells slots Q w pc lv st := by
  subst hp
  exact fun H locs ls h1 h2 h3 h4 => lv_iconst E.1 E.2.1 d rfl (k H locs ls h1 h2 h3 h4)
theorem hv_bipush (E : hm_E p s m args meth c cc nL own D K A) {n : Int} (d : decode cc pc = .ok (.bipush n, 2)) (hv : (Int8.ofInt n).toInt32 = iI n) (hp : pc + 2 = pc2) (k : hm_V p l e R s m args below meth c D A nL cells slots Q w pc2 lv (.int (iI n) :: st)) : hm_V p l e R s m args below meth c D A nL cells slots Q w pc lv st := by
  subst hp
  exact fun H locs ls h1 h2 h3 h4 => lv_bipush E.1 E.2.1 d hv (k H locs ls h1 h2 h3 h4)
theorem hv_sipush (E : hm_E p s m args meth c cc nL own D K A) {n : Int} (d : decode cc pc = .ok (.sipush n, 3)) (hv : (Int16.ofInt n).toInt32 = iI n) (hp : pc + 3 = pc2) (k : hm_V p l e R s m args below meth c D A nL cells slots Q w pc2 lv (.int (iI n) :: st)) : hm_V p l e R s m args below meth c D A nL cells slots Q w pc lv st := by
  subst hp
  exact fun H locs ls h1 h2 h3 h4 => lv_sipush E.1 E.2.1 d hv (k H locs ls h1 h2 h3 h4)
theorem hv_ldc (E : hm_E p s m args meth c cc nL own D K A) {i : Nat} {v : Int32} (d : decode cc pc = .ok (.ldc i, 2)) (hc : Cond.constant own i v ∈ hG) (hp : pc + 2 = pc2) (k : hm_V p l e R s m args below meth c D A nL cells slots Q w pc2 lv (.int v :: st)) : hm_V p l e R s m args below meth c D A nL cells slots Q w pc lv st := by
  subst hp
  exact fun H locs ls h1 h2 h3 h4 => lv_ldc E.1 E.2.1 E.2.2.2.1 (E.2.2.2.2.1 _ hc) d (k H locs ls h1 h2 h3 h4)
theorem hv_ldcw (E : hm_E p s m args meth c cc nL own D K A) {i : Nat} {v : Int32} (d : decode cc pc = .ok (.ldc_w i, 3)) (hc : Cond.constant own i v ∈ hG) (hp : pc + 3 = pc2) (k : hm_V p l e R s m args below meth c D A nL cells slots Q w pc2 lv (.int v :: st)) : hm_V p l e R s m args below meth c D A nL cells slots Q w pc lv st := by
  subst hp
  exact fun H locs ls h1 h2 h3 h4 => lv_ldcw E.1 E.2.1 E.2.2.2.1 (E.2.2.2.2.1 _ hc) d (k H locs ls h1 h2 h3 h4)
theorem hv_iload_n (E : hm_E p s m args meth c cc nL own D K A) {n : Fin 4} {i : Nat} {x : Int32} (d : decode cc pc = .ok (.iload_n n, 1)) (hi : (n : Nat) = i) (j : Nat) (hj : lv[j]? = some (i, .int x)) (hp : pc + 1 = pc2) (k : hm_V p l e R s m args below meth c D A nL cells slots Q w pc2 lv (.int x :: st)) : hm_V p l e R s m args below meth c D A nL cells slots Q w pc lv st := by
  subst hp
  exact fun H locs ls h1 h2 h3 h4 => lv_iload_n E.1 E.2.1 d hi (lv_at h4 j hj) (k H locs ls h1 h2 h3 h4)
theorem hv_iload (E : hm_E p s m args meth c cc nL own D K A) {i : Nat} {x : Int32} (d : decode cc pc = .ok (.iload i, 2)) (j : Nat) (hj : lv[j]? = some (i, .int x)) (hp : pc + 2 = pc2) (k : hm_V p l e R s m args below meth c D A nL cells slots Q w pc2 lv (.int x :: st)) : hm_V p l e R s m args below meth c D A nL cells slots Q w pc lv st := by
  subst hp
  exact fun H locs ls h1 h2 h3 h4 => lv_iload E.1 E.2.1 d (lv_at h4 j hj) (k H locs ls h1 h2 h3 h4)
theorem hv_aload_n (E : hm_E p s m args meth c cc nL own D K A) {n : Fin 4} {i : Nat} {x : Nat} (d : decode cc pc = .ok (.aload_n n, 1)) (hi : (n : Nat) = i) (j : Nat) (hj : lv[j]? = some (i, .ref x)) (hp : pc + 1 = pc2) (k : hm_V p l e R s m args below meth c D A nL cells slots Q w pc2 lv (.ref x :: st)) : hm_V p l e R s m args below meth c D A nL cells slots Q w pc lv st := by
  subst hp
  exact fun H locs ls h1 h2 h3 h4 => lv_aload_n E.1 E.2.1 d hi (lv_at h4 j hj) (k H locs ls h1 h2 h3 h4)
theorem hv_aload (E : hm_E p s m args meth c cc nL own D K A) {i : Nat} {x : Nat} (d : decode cc pc = .ok (.aload i, 2)) (j : Nat) (hj : lv[j]? = some (i, .ref x)) (hp : pc + 2 = pc2) (k : hm_V p l e R s m args below meth c D A nL cells slots Q w pc2 lv (.ref x :: st)) : hm_V p l e R s m args below meth c D A nL cells slots Q w pc lv st := by
  subst hp
  exact fun H locs ls h1 h2 h3 h4 => lv_aload E.1 E.2.1 d (lv_at h4 j hj) (k H locs ls h1 h2 h3 h4)
theorem hv_istore_n (E : hm_E p s m args meth c cc nL own D K A) {n : Fin 4} {i : Nat} {x : Int32} {lv2 : List (Nat × Value)} (d : decode cc pc = .ok (.istore_n n, 1)) (hi : (n : Nat) = i) (hn : i < nL) (hl : (i, Value.int x) :: lv.filter (fun q => !(q.1 == i) && !(q.1 + 1 == i && q.2.category == 2)) = lv2) (hp : pc + 1 = pc2) (k : hm_V p l e R s m args below meth c D A nL cells slots Q w pc2 lv2 st) : hm_V p l e R s m args below meth c D A nL cells slots Q w pc lv (.int x :: st) := by
  subst hp
  exact fun H locs ls h1 h2 h3 h4 => lv_istore_n E.1 E.2.1 d hi h4 hn hl (fun ls2 h5 => k H locs ls2 h1 h2 h3 h5)
theorem hv_istore (E : hm_E p s m args meth c cc nL own D K A) {i : Nat} {x : Int32} {lv2 : List (Nat × Value)} (d : decode cc pc = .ok (.istore i, 2)) (hn : i < nL) (hl : (i, Value.int x) :: lv.filter (fun q => !(q.1 == i) && !(q.1 + 1 == i && q.2.category == 2)) = lv2) (hp : pc + 2 = pc2) (k : hm_V p l e R s m args below meth c D A nL cells slots Q w pc2 lv2 st) : hm_V p l e R s m args below meth c D A nL cells slots Q w pc lv (.int x :: st) := by
  subst hp
  exact fun H locs ls h1 h2 h3 h4 => lv_istore E.1 E.2.1 d h4 hn hl (fun ls2 h5 => k H locs ls2 h1 h2 h3 h5)
theorem hv_astore_n (E : hm_E p s m args meth c cc nL own D K A) {n : Fin 4} {i : Nat} {x : Nat} {lv2 : List (Nat × Value)} (d : decode cc pc = .ok (.astore_n n, 1)) (hi : (n : Nat) = i) (hn : i < nL) (hl : (i, Value.ref x) :: lv.filter (fun q => !(q.1 == i) && !(q.1 + 1 == i && q.2.category == 2)) = lv2) (hp : pc + 1 = pc2) (k : hm_V p l e R s m args below meth c D A nL cells slots Q w pc2 lv2 st) : hm_V p l e R s m args below meth c D A nL cells slots Q w pc lv (.ref x :: st) := by
  subst hp
  exact fun H locs ls h1 h2 h3 h4 => lv_astore_n E.1 E.2.1 d hi h4 hn hl (fun ls2 h5 => k H locs ls2 h1 h2 h3 h5)
theorem hv_astore (E : hm_E p s m args meth c cc nL own D K A) {i : Nat} {x : Nat} {lv2 : List (Nat × Value)} (d : decode cc pc = .ok (.astore i, 2)) (hn : i < nL) (hl : (i, Value.ref x) :: lv.filter (fun q => !(q.1 == i) && !(q.1 + 1 == i && q.2.category == 2)) = lv2) (hp : pc + 2 = pc2) (k : hm_V p l e R s m args below meth c D A nL cells slots Q w pc2 lv2 st) : hm_V p l e R s m args below meth c D A nL cells slots Q w pc lv (.ref x :: st) := by
  subst hp
  exact fun H locs ls h1 h2 h3 h4 => lv_astore E.1 E.2.1 d h4 hn hl (fun ls2 h5 => k H locs ls2 h1 h2 h3 h5)
theorem hv_iinc (E : hm_E p s m args meth c cc nL own D K A) {i : Nat} {n : Int} {z : Int} {x : Int32} {lv2 : List (Nat × Value)} (d : decode cc pc = .ok (.iinc i n, 3)) (j : Nat) (hj : lv[j]? = some (i, .int x)) (hx : x = iI z) (hn : i < nL) (hl : (i, Value.int (iI (z + n))) :: lv.filter (fun q => !(q.1 == i) && !(q.1 + 1 == i && q.2.category == 2)) = lv2) (hp : pc + 3 = pc2) (k : hm_V p l e R s m args below meth c D A nL cells slots Q w pc2 lv2 st) : hm_V p l e R s m args below meth c D A nL cells slots Q w pc lv st := by
  subst hp
  exact fun H locs ls h1 h2 h3 h4 => lv_iinc E.1 E.2.1 d h4 hj (by rw [hx]; exact iI_add z n) hn hl (fun ls2 h5 => k H locs ls2 h1 h2 h3 h5)
theorem hv_iaddR (E : hm_E p s m args meth c cc nL own D K A) {x y : Int32} (d : decode cc pc = .ok (.iadd, 1))  (hp : pc + 1 = pc2) (k : hm_V p l e R s m args below meth c D A nL cells slots Q w pc2 lv (.int (x + y) :: st)) : hm_V p l e R s m args below meth c D A nL cells slots Q w pc lv (.int y :: .int x :: st) := by
  subst hp
  exact fun H locs ls h1 h2 h3 h4 => lv_iadd E.1 E.2.1 d (k H locs ls h1 h2 h3 h4)
theorem hv_isubR (E : hm_E p s m args meth c cc nL own D K A) {x y : Int32} (d : decode cc pc = .ok (.isub, 1))  (hp : pc + 1 = pc2) (k : hm_V p l e R s m args below meth c D A nL cells slots Q w pc2 lv (.int (x - y) :: st)) : hm_V p l e R s m args below meth c D A nL cells slots Q w pc lv (.int y :: .int x :: st) := by
  subst hp
  exact fun H locs ls h1 h2 h3 h4 => lv_isub E.1 E.2.1 d (k H locs ls h1 h2 h3 h4)
theorem hv_imulR (E : hm_E p s m args meth c cc nL own D K A) {x y : Int32} (d : decode cc pc = .ok (.imul, 1))  (hp : pc + 1 = pc2) (k : hm_V p l e R s m args below meth c D A nL cells slots Q w pc2 lv (.int (x * y) :: st)) : hm_V p l e R s m args below meth c D A nL cells slots Q w pc lv (.int y :: .int x :: st) := by
  subst hp
  exact fun H locs ls h1 h2 h3 h4 => lv_imul E.1 E.2.1 d (k H locs ls h1 h2 h3 h4)
theorem hv_iandR (E : hm_E p s m args meth c cc nL own D K A) {x y : Int32} (d : decode cc pc = .ok (.iand, 1))  (hp : pc + 1 = pc2) (k : hm_V p l e R s m args below meth c D A nL cells slots Q w pc2 lv (.int (x &&& y) :: st)) : hm_V p l e R s m args below meth c D A nL cells slots Q w pc lv (.int y :: .int x :: st) := by
  subst hp
  exact fun H locs ls h1 h2 h3 h4 => lv_iand E.1 E.2.1 d (k H locs ls h1 h2 h3 h4)
theorem hv_iorR (E : hm_E p s m args meth c cc nL own D K A) {x y : Int32} (d : decode cc pc = .ok (.ior, 1))  (hp : pc + 1 = pc2) (k : hm_V p l e R s m args below meth c D A nL cells slots Q w pc2 lv (.int (x ||| y) :: st)) : hm_V p l e R s m args below meth c D A nL cells slots Q w pc lv (.int y :: .int x :: st) := by
  subst hp
  exact fun H locs ls h1 h2 h3 h4 => lv_ior E.1 E.2.1 d (k H locs ls h1 h2 h3 h4)
theorem hv_ixorR (E : hm_E p s m args meth c cc nL own D K A) {x y : Int32} (d : decode cc pc = .ok (.ixor, 1))  (hp : pc + 1 = pc2) (k : hm_V p l e R s m args below meth c D A nL cells slots Q w pc2 lv (.int (x ^^^ y) :: st)) : hm_V p l e R s m args below meth c D A nL cells slots Q w pc lv (.int y :: .int x :: st) := by
  subst hp
  exact fun H locs ls h1 h2 h3 h4 => lv_ixor E.1 E.2.1 d (k H locs ls h1 h2 h3 h4)
theorem hv_iadd (E : hm_E p s m args meth c cc nL own D K A) {x y : Int} (d : decode cc pc = .ok (.iadd, 1))  (hp : pc + 1 = pc2) (k : hm_V p l e R s m args below meth c D A nL cells slots Q w pc2 lv (.int (iI (x + y)) :: st)) : hm_V p l e R s m args below meth c D A nL cells slots Q w pc lv (.int (iI y) :: .int (iI x) :: st) := by
  subst hp
  exact fun H locs ls h1 h2 h3 h4 => lv_iadd E.1 E.2.1 d (by rw [iI_add]; exact (k H locs ls h1 h2 h3 h4))
theorem hv_isub (E : hm_E p s m args meth c cc nL own D K A) {x y : Int} (d : decode cc pc = .ok (.isub, 1))  (hp : pc + 1 = pc2) (k : hm_V p l e R s m args below meth c D A nL cells slots Q w pc2 lv (.int (iI (x - y)) :: st)) : hm_V p l e R s m args below meth c D A nL cells slots Q w pc lv (.int (iI y) :: .int (iI x) :: st) := by
  subst hp
  exact fun H locs ls h1 h2 h3 h4 => lv_isub E.1 E.2.1 d (by rw [iI_sub]; exact (k H locs ls h1 h2 h3 h4))
theorem hv_imul (E : hm_E p s m args meth c cc nL own D K A) {x y : Int} (d : decode cc pc = .ok (.imul, 1))  (hp : pc + 1 = pc2) (k : hm_V p l e R s m args below meth c D A nL cells slots Q w pc2 lv (.int (iI (x * y)) :: st)) : hm_V p l e R s m args below meth c D A nL cells slots Q w pc lv (.int (iI y) :: .int (iI x) :: st) := by
  subst hp
  exact fun H locs ls h1 h2 h3 h4 => lv_imul E.1 E.2.1 d (by rw [iI_mul]; exact (k H locs ls h1 h2 h3 h4))
theorem hv_inegR (E : hm_E p s m args meth c cc nL own D K A) {x : Int32} (d : decode cc pc = .ok (.ineg, 1))  (hp : pc + 1 = pc2) (k : hm_V p l e R s m args below meth c D A nL cells slots Q w pc2 lv (.int (-x) :: st)) : hm_V p l e R s m args below meth c D A nL cells slots Q w pc lv (.int x :: st) := by
  subst hp
  exact fun H locs ls h1 h2 h3 h4 => lv_ineg E.1 E.2.1 d (k H locs ls h1 h2 h3 h4)
theorem hv_ishlR (E : hm_E p s m args meth c cc nL own D K A) {x y v : Int32} (d : decode cc pc = .ok (.ishl, 1)) (hv : x <<< (y &&& 31) = v) (hp : pc + 1 = pc2) (k : hm_V p l e R s m args below meth c D A nL cells slots Q w pc2 lv (.int v :: st)) : hm_V p l e R s m args below meth c D A nL cells slots Q w pc lv (.int y :: .int x :: st) := by
  subst hp
  exact fun H locs ls h1 h2 h3 h4 => lv_ishl E.1 E.2.1 d (by rw [hv]; exact (k H locs ls h1 h2 h3 h4))
theorem hv_ishrR (E : hm_E p s m args meth c cc nL own D K A) {x y v : Int32} (d : decode cc pc = .ok (.ishr, 1)) (hv : x >>> (y &&& 31) = v) (hp : pc + 1 = pc2) (k : hm_V p l e R s m args below meth c D A nL cells slots Q w pc2 lv (.int v :: st)) : hm_V p l e R s m args below meth c D A nL cells slots Q w pc lv (.int y :: .int x :: st) := by
  subst hp
  exact fun H locs ls h1 h2 h3 h4 => lv_ishr E.1 E.2.1 d (by rw [hv]; exact (k H locs ls h1 h2 h3 h4))
theorem hv_iushrR (E : hm_E p s m args meth c cc nL own D K A) {x y v : Int32} (d : decode cc pc = .ok (.iushr, 1)) (hv : (x.toUInt32 >>> (y.toUInt32 &&& Int32.toUInt32 31)).toInt32 = v) (hp : pc + 1 = pc2) (k : hm_V p l e R s m args below meth c D A nL cells slots Q w pc2 lv (.int v :: st)) : hm_V p l e R s m args below meth c D A nL cells slots Q w pc lv (.int y :: .int x :: st) := by
  subst hp
  exact fun H locs ls h1 h2 h3 h4 => lv_iushr E.1 E.2.1 d hv (k H locs ls h1 h2 h3 h4)
theorem hv_iremR (E : hm_E p s m args meth c cc nL own D K A) {x y v : Int32} (d : decode cc pc = .ok (.irem, 1)) (hne : ¬ y = 0) (hv : x - x / y * y = v) (hp : pc + 1 = pc2) (k : hm_V p l e R s m args below meth c D A nL cells slots Q w pc2 lv (.int v :: st)) : hm_V p l e R s m args below meth c D A nL cells slots Q w pc lv (.int y :: .int x :: st) := by
  subst hp
  exact fun H locs ls h1 h2 h3 h4 => lv_irem E.1 E.2.1 d hne (by rw [hv]; exact (k H locs ls h1 h2 h3 h4))
theorem hv_iandV (E : hm_E p s m args meth c cc nL own D K A) {x y v : Int32} (d : decode cc pc = .ok (.iand, 1)) (hv : x &&& y = v) (hp : pc + 1 = pc2) (k : hm_V p l e R s m args below meth c D A nL cells slots Q w pc2 lv (.int v :: st)) : hm_V p l e R s m args below meth c D A nL cells slots Q w pc lv (.int y :: .int x :: st) := by
  subst hp
  exact fun H locs ls h1 h2 h3 h4 => lv_iand E.1 E.2.1 d (by rw [hv]; exact (k H locs ls h1 h2 h3 h4))
theorem hv_dup (E : hm_E p s m args meth c cc nL own D K A) {va : Value} (d : decode cc pc = .ok (.dup, 1)) (hc : va.category = 1) (hp : pc + 1 = pc2) (k : hm_V p l e R s m args below meth c D A nL cells slots Q w pc2 lv (va :: va :: st)) : hm_V p l e R s m args below meth c D A nL cells slots Q w pc lv (va :: st) := by
  subst hp
  exact fun H locs ls h1 h2 h3 h4 => lv_dup E.1 E.2.1 d hc (k H locs ls h1 h2 h3 h4)
theorem hv_pop (E : hm_E p s m args meth c cc nL own D K A) {va : Value} (d : decode cc pc = .ok (.pop, 1)) (hc : va.category = 1) (hp : pc + 1 = pc2) (k : hm_V p l e R s m args below meth c D A nL cells slots Q w pc2 lv st) : hm_V p l e R s m args below meth c D A nL cells slots Q w pc lv (va :: st) := by
  subst hp
  exact fun H locs ls h1 h2 h3 h4 => lv_pop E.1 E.2.1 d hc (k H locs ls h1 h2 h3 h4)
theorem hv_dup2 (E : hm_E p s m args meth c cc nL own D K A) {va vb : Value} (d : decode cc pc = .ok (.dup2, 1)) (hc : va.category = 1) (hd : vb.category = 1) (hp : pc + 1 = pc2) (k : hm_V p l e R s m args below meth c D A nL cells slots Q w pc2 lv (va :: vb :: va :: vb :: st)) : hm_V p l e R s m args below meth c D A nL cells slots Q w pc lv (va :: vb :: st) := by
  subst hp
  exact fun H locs ls h1 h2 h3 h4 => lv_dup2_11 E.1 E.2.1 d hc hd (k H locs ls h1 h2 h3 h4)
theorem hv_goto (E : hm_E p s m args meth c cc nL own D K A) {off : Int} (tgt : Nat) (d : decode cc pc = .ok (.goto off, 3)) (ht : (pc : Int) + off = (tgt : Int)) (k : hm_V p l e R s m args below meth c D A nL cells slots Q w tgt lv st) : hm_V p l e R s m args below meth c D A nL cells slots Q w pc lv st := fun H locs ls h1 h2 h3 h4 => lv_goto E.1 E.2.1 d ht (k H locs ls h1 h2 h3 h4)
theorem hv_topi {x y : Int32} (he : x = y) (k : hm_V p l e R s m args below meth c D A nL cells slots Q w pc lv (.int y :: st)) : hm_V p l e R s m args below meth c D A nL cells slots Q w pc lv (.int x :: st) := by rw [he]; exact k
theorem hv_sub {lv2 : List (Nat × Value)} (ks : List Nat) (hl : lv_pick lv ks = lv2) (k : hm_V p l e R s m args below meth c D A nL cells slots Q w pc lv2 st) : hm_V p l e R s m args below meth c D A nL cells slots Q w pc lv st := fun H locs ls h1 h2 h3 h4 => k H locs ls h1 h2 h3 (lv_sub h4 ks hl)
theorem hv_widen {k n : Nat} (hk : cells ≤ k) (hn : slots ≤ n) (kk : hm_V p l e R s m args below meth c D A nL k n Q w pc lv st) : hm_V p l e R s m args below meth c D A nL cells slots Q w pc lv st := fun H locs ls h1 h2 h3 h4 => W.widen hk hn (kk H locs ls h1 h2 h3 h4)
theorem hv_mem {w2 : hm_M} (hw : w = w2) (k : hm_V p l e R s m args below meth c D A nL cells slots Q w2 pc lv st) : hm_V p l e R s m args below meth c D A nL cells slots Q w pc lv st := by rw [hw]; exact k
theorem hv_icmp_eq (E : hm_E p s m args meth c cc nL own D K A) {x y : Int} {off : Int} (tgt : Nat) (d : decode cc pc = .ok (.if_icmp .eq off, 3)) (ht : (pc : Int) + off = (tgt : Int)) (hx : iB x) (hy : iB y) (hp : pc + 3 = pc2) (kt : x = y → hm_V p l e R s m args below meth c D A nL cells slots Q w tgt lv st) (kf : ¬ x = y → hm_V p l e R s m args below meth c D A nL cells slots Q w pc2 lv st) : hm_V p l e R s m args below meth c D A nL cells slots Q w pc lv (.int (iI y) :: .int (iI x) :: st) := by
  subst hp
  exact fun H locs ls h1 h2 h3 h4 => lv_icmp_eq E.1 E.2.1 d ht (fun hc => kt ((iI_eq hx hy).mp hc) H locs ls h1 h2 h3 h4) (fun hc => kf ((fun q => q) (fun q => hc ((iI_eq hx hy).mpr q))) H locs ls h1 h2 h3 h4)
theorem hv_if_eq (E : hm_E p s m args meth c cc nL own D K A) {x : Int} {off : Int} (tgt : Nat) (d : decode cc pc = .ok (.ifCond .eq off, 3)) (ht : (pc : Int) + off = (tgt : Int)) (hx : iB x) (hp : pc + 3 = pc2) (kt : x = 0 → hm_V p l e R s m args below meth c D A nL cells slots Q w tgt lv st) (kf : ¬ x = 0 → hm_V p l e R s m args below meth c D A nL cells slots Q w pc2 lv st) : hm_V p l e R s m args below meth c D A nL cells slots Q w pc lv (.int (iI x) :: st) := by
  subst hp
  exact fun H locs ls h1 h2 h3 h4 => lv_if_eq E.1 E.2.1 d ht (fun hc => kt ((iI_eq hx iB_0).mp (by rw [← iI_0]; exact hc)) H locs ls h1 h2 h3 h4) (fun hc => kf ((fun q => q) (fun q => hc (by have h9 := (iI_eq hx iB_0).mpr q; rw [← iI_0] at h9; exact h9))) H locs ls h1 h2 h3 h4)
theorem hv_icmp_ne (E : hm_E p s m args meth c cc nL own D K A) {x y : Int} {off : Int} (tgt : Nat) (d : decode cc pc = .ok (.if_icmp .ne off, 3)) (ht : (pc : Int) + off = (tgt : Int)) (hx : iB x) (hy : iB y) (hp : pc + 3 = pc2) (kt : ¬ x = y → hm_V p l e R s m args below meth c D A nL cells slots Q w tgt lv st) (kf : x = y → hm_V p l e R s m args below meth c D A nL cells slots Q w pc2 lv st) : hm_V p l e R s m args below meth c D A nL cells slots Q w pc lv (.int (iI y) :: .int (iI x) :: st) := by
  subst hp
  exact fun H locs ls h1 h2 h3 h4 => lv_icmp_ne E.1 E.2.1 d ht (fun hc => kt ((not_congr (iI_eq hx hy)).mp hc) H locs ls h1 h2 h3 h4) (fun hc => kf ((iI_eq hx hy).mp hc) H locs ls h1 h2 h3 h4)
theorem hv_if_ne (E : hm_E p s m args meth c cc nL own D K A) {x : Int} {off : Int} (tgt : Nat) (d : decode cc pc = .ok (.ifCond .ne off, 3)) (ht : (pc : Int) + off = (tgt : Int)) (hx : iB x) (hp : pc + 3 = pc2) (kt : ¬ x = 0 → hm_V p l e R s m args below meth c D A nL cells slots Q w tgt lv st) (kf : x = 0 → hm_V p l e R s m args below meth c D A nL cells slots Q w pc2 lv st) : hm_V p l e R s m args below meth c D A nL cells slots Q w pc lv (.int (iI x) :: st) := by
  subst hp
  exact fun H locs ls h1 h2 h3 h4 => lv_if_ne E.1 E.2.1 d ht (fun hc => kt ((not_congr (iI_eq hx iB_0)).mp (by rw [← iI_0]; exact hc)) H locs ls h1 h2 h3 h4) (fun hc => kf ((iI_eq hx iB_0).mp (by rw [← iI_0]; exact hc)) H locs ls h1 h2 h3 h4)
theorem hv_icmp_lt (E : hm_E p s m args meth c cc nL own D K A) {x y : Int} {off : Int} (tgt : Nat) (d : decode cc pc = .ok (.if_icmp .lt off, 3)) (ht : (pc : Int) + off = (tgt : Int)) (hx : iB x) (hy : iB y) (hp : pc + 3 = pc2) (kt : x < y → hm_V p l e R s m args below meth c D A nL cells slots Q w tgt lv st) (kf : y ≤ x → hm_V p l e R s m args below meth c D A nL cells slots Q w pc2 lv st) : hm_V p l e R s m args below meth c D A nL cells slots Q w pc lv (.int (iI y) :: .int (iI x) :: st) := by
  subst hp
  exact fun H locs ls h1 h2 h3 h4 => lv_icmp_lt E.1 E.2.1 d ht (fun hc => kt ((iI_lt hx hy).mp hc) H locs ls h1 h2 h3 h4) (fun hc => kf ((fun q => Int.not_lt.mp q) (fun q => hc ((iI_lt hx hy).mpr q))) H locs ls h1 h2 h3 h4)
theorem hv_if_lt (E : hm_E p s m args meth c cc nL own D K A) {x : Int} {off : Int} (tgt : Nat) (d : decode cc pc = .ok (.ifCond .lt off, 3)) (ht : (pc : Int) + off = (tgt : Int)) (hx : iB x) (hp : pc + 3 = pc2) (kt : x < 0 → hm_V p l e R s m args below meth c D A nL cells slots Q w tgt lv st) (kf : 0 ≤ x → hm_V p l e R s m args below meth c D A nL cells slots Q w pc2 lv st) : hm_V p l e R s m args below meth c D A nL cells slots Q w pc lv (.int (iI x) :: st) := by
  subst hp
  exact fun H locs ls h1 h2 h3 h4 => lv_if_lt E.1 E.2.1 d ht (fun hc => kt ((iI_lt hx iB_0).mp (by rw [← iI_0]; exact hc)) H locs ls h1 h2 h3 h4) (fun hc => kf ((fun q => Int.not_lt.mp q) (fun q => hc (by have h9 := (iI_lt hx iB_0).mpr q; rw [← iI_0] at h9; exact h9))) H locs ls h1 h2 h3 h4)
theorem hv_icmp_ge (E : hm_E p s m args meth c cc nL own D K A) {x y : Int} {off : Int} (tgt : Nat) (d : decode cc pc = .ok (.if_icmp .ge off, 3)) (ht : (pc : Int) + off = (tgt : Int)) (hx : iB x) (hy : iB y) (hp : pc + 3 = pc2) (kt : y ≤ x → hm_V p l e R s m args below meth c D A nL cells slots Q w tgt lv st) (kf : x < y → hm_V p l e R s m args below meth c D A nL cells slots Q w pc2 lv st) : hm_V p l e R s m args below meth c D A nL cells slots Q w pc lv (.int (iI y) :: .int (iI x) :: st) := by
  subst hp
  exact fun H locs ls h1 h2 h3 h4 => lv_icmp_ge E.1 E.2.1 d ht (fun hc => kt ((iI_le hy hx).mp hc) H locs ls h1 h2 h3 h4) (fun hc => kf ((fun q => Int.not_le.mp q) (fun q => hc ((iI_le hy hx).mpr q))) H locs ls h1 h2 h3 h4)
theorem hv_if_ge (E : hm_E p s m args meth c cc nL own D K A) {x : Int} {off : Int} (tgt : Nat) (d : decode cc pc = .ok (.ifCond .ge off, 3)) (ht : (pc : Int) + off = (tgt : Int)) (hx : iB x) (hp : pc + 3 = pc2) (kt : 0 ≤ x → hm_V p l e R s m args below meth c D A nL cells slots Q w tgt lv st) (kf : x < 0 → hm_V p l e R s m args below meth c D A nL cells slots Q w pc2 lv st) : hm_V p l e R s m args below meth c D A nL cells slots Q w pc lv (.int (iI x) :: st) := by
  subst hp
  exact fun H locs ls h1 h2 h3 h4 => lv_if_ge E.1 E.2.1 d ht (fun hc => kt ((iI_le iB_0 hx).mp (by rw [← iI_0]; exact hc)) H locs ls h1 h2 h3 h4) (fun hc => kf ((fun q => Int.not_le.mp q) (fun q => hc (by have h9 := (iI_le iB_0 hx).mpr q; rw [← iI_0] at h9; exact h9))) H locs ls h1 h2 h3 h4)
theorem hv_icmp_gt (E : hm_E p s m args meth c cc nL own D K A) {x y : Int} {off : Int} (tgt : Nat) (d : decode cc pc = .ok (.if_icmp .gt off, 3)) (ht : (pc : Int) + off = (tgt : Int)) (hx : iB x) (hy : iB y) (hp : pc + 3 = pc2) (kt : y < x → hm_V p l e R s m args below meth c D A nL cells slots Q w tgt lv st) (kf : x ≤ y → hm_V p l e R s m args below meth c D A nL cells slots Q w pc2 lv st) : hm_V p l e R s m args below meth c D A nL cells slots Q w pc lv (.int (iI y) :: .int (iI x) :: st) := by
  subst hp
  exact fun H locs ls h1 h2 h3 h4 => lv_icmp_gt E.1 E.2.1 d ht (fun hc => kt ((iI_lt hy hx).mp hc) H locs ls h1 h2 h3 h4) (fun hc => kf ((fun q => Int.not_lt.mp q) (fun q => hc ((iI_lt hy hx).mpr q))) H locs ls h1 h2 h3 h4)
theorem hv_if_gt (E : hm_E p s m args meth c cc nL own D K A) {x : Int} {off : Int} (tgt : Nat) (d : decode cc pc = .ok (.ifCond .gt off, 3)) (ht : (pc : Int) + off = (tgt : Int)) (hx : iB x) (hp : pc + 3 = pc2) (kt : 0 < x → hm_V p l e R s m args below meth c D A nL cells slots Q w tgt lv st) (kf : x ≤ 0 → hm_V p l e R s m args below meth c D A nL cells slots Q w pc2 lv st) : hm_V p l e R s m args below meth c D A nL cells slots Q w pc lv (.int (iI x) :: st) := by
  subst hp
  exact fun H locs ls h1 h2 h3 h4 => lv_if_gt E.1 E.2.1 d ht (fun hc => kt ((iI_lt iB_0 hx).mp (by rw [← iI_0]; exact hc)) H locs ls h1 h2 h3 h4) (fun hc => kf ((fun q => Int.not_lt.mp q) (fun q => hc (by have h9 := (iI_lt iB_0 hx).mpr q; rw [← iI_0] at h9; exact h9))) H locs ls h1 h2 h3 h4)
theorem hv_icmp_le (E : hm_E p s m args meth c cc nL own D K A) {x y : Int} {off : Int} (tgt : Nat) (d : decode cc pc = .ok (.if_icmp .le off, 3)) (ht : (pc : Int) + off = (tgt : Int)) (hx : iB x) (hy : iB y) (hp : pc + 3 = pc2) (kt : x ≤ y → hm_V p l e R s m args below meth c D A nL cells slots Q w tgt lv st) (kf : y < x → hm_V p l e R s m args below meth c D A nL cells slots Q w pc2 lv st) : hm_V p l e R s m args below meth c D A nL cells slots Q w pc lv (.int (iI y) :: .int (iI x) :: st) := by
  subst hp
  exact fun H locs ls h1 h2 h3 h4 => lv_icmp_le E.1 E.2.1 d ht (fun hc => kt ((iI_le hx hy).mp hc) H locs ls h1 h2 h3 h4) (fun hc => kf ((fun q => Int.not_le.mp q) (fun q => hc ((iI_le hx hy).mpr q))) H locs ls h1 h2 h3 h4)
theorem hv_if_le (E : hm_E p s m args meth c cc nL own D K A) {x : Int} {off : Int} (tgt : Nat) (d : decode cc pc = .ok (.ifCond .le off, 3)) (ht : (pc : Int) + off = (tgt : Int)) (hx : iB x) (hp : pc + 3 = pc2) (kt : x ≤ 0 → hm_V p l e R s m args below meth c D A nL cells slots Q w tgt lv st) (kf : 0 < x → hm_V p l e R s m args below meth c D A nL cells slots Q w pc2 lv st) : hm_V p l e R s m args below meth c D A nL cells slots Q w pc lv (.int (iI x) :: st) := by
  subst hp
  exact fun H locs ls h1 h2 h3 h4 => lv_if_le E.1 E.2.1 d ht (fun hc => kt ((iI_le hx iB_0).mp (by rw [← iI_0]; exact hc)) H locs ls h1 h2 h3 h4) (fun hc => kf ((fun q => Int.not_le.mp q) (fun q => hc (by have h9 := (iI_le hx iB_0).mpr q; rw [← iI_0] at h9; exact h9))) H locs ls h1 h2 h3 h4)
theorem hv_icmp_eqR (E : hm_E p s m args meth c cc nL own D K A) {x y : Int32} {off : Int} (tgt : Nat) (d : decode cc pc = .ok (.if_icmp .eq off, 3)) (ht : (pc : Int) + off = (tgt : Int)) (hp : pc + 3 = pc2) (kt : x = y → hm_V p l e R s m args below meth c D A nL cells slots Q w tgt lv st) (kf : ¬ x = y → hm_V p l e R s m args below meth c D A nL cells slots Q w pc2 lv st) : hm_V p l e R s m args below meth c D A nL cells slots Q w pc lv (.int y :: .int x :: st) := by
  subst hp
  exact fun H locs ls h1 h2 h3 h4 => lv_icmp_eq E.1 E.2.1 d ht (fun hc => kt hc H locs ls h1 h2 h3 h4) (fun hc => kf (hc) H locs ls h1 h2 h3 h4)
theorem hv_if_eqR (E : hm_E p s m args meth c cc nL own D K A) {x : Int32} {off : Int} (tgt : Nat) (d : decode cc pc = .ok (.ifCond .eq off, 3)) (ht : (pc : Int) + off = (tgt : Int)) (hp : pc + 3 = pc2) (kt : x = 0 → hm_V p l e R s m args below meth c D A nL cells slots Q w tgt lv st) (kf : ¬ x = 0 → hm_V p l e R s m args below meth c D A nL cells slots Q w pc2 lv st) : hm_V p l e R s m args below meth c D A nL cells slots Q w pc lv (.int x :: st) := by
  subst hp
  exact fun H locs ls h1 h2 h3 h4 => lv_if_eq E.1 E.2.1 d ht (fun hc => kt hc H locs ls h1 h2 h3 h4) (fun hc => kf (hc) H locs ls h1 h2 h3 h4)
theorem hv_if_eqB (E : hm_E p s m args meth c cc nL own D K A) {b : Bool} {off : Int} (tgt : Nat) (d : decode cc pc = .ok (.ifCond .eq off, 3)) (ht : (pc : Int) + off = (tgt : Int)) (hp : pc + 3 = pc2) (kt : b = false → hm_V p l e R s m args below meth c D A nL cells slots Q w tgt lv st) (kf : b = true → hm_V p l e R s m args below meth c D A nL cells slots Q w pc2 lv st) : hm_V p l e R s m args below meth c D A nL cells slots Q w pc lv (.int (bI b) :: st) := by
  subst hp
  exact fun H locs ls h1 h2 h3 h4 => lv_if_eq E.1 E.2.1 d ht (fun hc => kt (by cases b <;> first | rfl | exact absurd hc (by decide +kernel)) H locs ls h1 h2 h3 h4) (fun hc => kf (by cases b <;> first | rfl | exact absurd hc (by decide +kernel)) H locs ls h1 h2 h3 h4)
theorem hv_icmp_eqB (E : hm_E p s m args meth c cc nL own D K A) {x y : Bool} {off : Int} (tgt : Nat) (d : decode cc pc = .ok (.if_icmp .eq off, 3)) (ht : (pc : Int) + off = (tgt : Int)) (hp : pc + 3 = pc2) (kt : x = y → hm_V p l e R s m args below meth c D A nL cells slots Q w tgt lv st) (kf : ¬ x = y → hm_V p l e R s m args below meth c D A nL cells slots Q w pc2 lv st) : hm_V p l e R s m args below meth c D A nL cells slots Q w pc lv (.int (bI y) :: .int (bI x) :: st) := by
  subst hp
  exact fun H locs ls h1 h2 h3 h4 => lv_icmp_eq E.1 E.2.1 d ht (fun hc => kt (bI_inj hc) H locs ls h1 h2 h3 h4) (fun hc => kf (fun q => hc (congrArg bI q)) H locs ls h1 h2 h3 h4)
theorem hv_icmp_neR (E : hm_E p s m args meth c cc nL own D K A) {x y : Int32} {off : Int} (tgt : Nat) (d : decode cc pc = .ok (.if_icmp .ne off, 3)) (ht : (pc : Int) + off = (tgt : Int)) (hp : pc + 3 = pc2) (kt : ¬ x = y → hm_V p l e R s m args below meth c D A nL cells slots Q w tgt lv st) (kf : x = y → hm_V p l e R s m args below meth c D A nL cells slots Q w pc2 lv st) : hm_V p l e R s m args below meth c D A nL cells slots Q w pc lv (.int y :: .int x :: st) := by
  subst hp
  exact fun H locs ls h1 h2 h3 h4 => lv_icmp_ne E.1 E.2.1 d ht (fun hc => kt hc H locs ls h1 h2 h3 h4) (fun hc => kf (hc) H locs ls h1 h2 h3 h4)
theorem hv_if_neR (E : hm_E p s m args meth c cc nL own D K A) {x : Int32} {off : Int} (tgt : Nat) (d : decode cc pc = .ok (.ifCond .ne off, 3)) (ht : (pc : Int) + off = (tgt : Int)) (hp : pc + 3 = pc2) (kt : ¬ x = 0 → hm_V p l e R s m args below meth c D A nL cells slots Q w tgt lv st) (kf : x = 0 → hm_V p l e R s m args below meth c D A nL cells slots Q w pc2 lv st) : hm_V p l e R s m args below meth c D A nL cells slots Q w pc lv (.int x :: st) := by
  subst hp
  exact fun H locs ls h1 h2 h3 h4 => lv_if_ne E.1 E.2.1 d ht (fun hc => kt hc H locs ls h1 h2 h3 h4) (fun hc => kf (hc) H locs ls h1 h2 h3 h4)
theorem hv_if_neB (E : hm_E p s m args meth c cc nL own D K A) {b : Bool} {off : Int} (tgt : Nat) (d : decode cc pc = .ok (.ifCond .ne off, 3)) (ht : (pc : Int) + off = (tgt : Int)) (hp : pc + 3 = pc2) (kt : b = true → hm_V p l e R s m args below meth c D A nL cells slots Q w tgt lv st) (kf : b = false → hm_V p l e R s m args below meth c D A nL cells slots Q w pc2 lv st) : hm_V p l e R s m args below meth c D A nL cells slots Q w pc lv (.int (bI b) :: st) := by
  subst hp
  exact fun H locs ls h1 h2 h3 h4 => lv_if_ne E.1 E.2.1 d ht (fun hc => kt (by cases b <;> first | rfl | exact absurd hc (by decide +kernel)) H locs ls h1 h2 h3 h4) (fun hc => kf (by cases b <;> first | rfl | exact absurd hc (by decide +kernel)) H locs ls h1 h2 h3 h4)
theorem hv_icmp_neB (E : hm_E p s m args meth c cc nL own D K A) {x y : Bool} {off : Int} (tgt : Nat) (d : decode cc pc = .ok (.if_icmp .ne off, 3)) (ht : (pc : Int) + off = (tgt : Int)) (hp : pc + 3 = pc2) (kt : ¬ x = y → hm_V p l e R s m args below meth c D A nL cells slots Q w tgt lv st) (kf : x = y → hm_V p l e R s m args below meth c D A nL cells slots Q w pc2 lv st) : hm_V p l e R s m args below meth c D A nL cells slots Q w pc lv (.int (bI y) :: .int (bI x) :: st) := by
  subst hp
  exact fun H locs ls h1 h2 h3 h4 => lv_icmp_ne E.1 E.2.1 d ht (fun hc => kt (fun q => hc (congrArg bI q)) H locs ls h1 h2 h3 h4) (fun hc => kf (bI_inj hc) H locs ls h1 h2 h3 h4)
theorem hv_tableOut (E : hm_E p s m args meth c cc nL own D K A) {x dflt lo hi : Int} {offs : Array Int} {len : Nat} (tgt : Nat) (d : decode cc pc = .ok (.tableswitch dflt lo hi offs, len)) (hx : iB x) (h : x < lo ∨ hi < x) (ht : (pc : Int) + dflt = (tgt : Int)) (k : hm_V p l e R s m args below meth c D A nL cells slots Q w tgt lv st) : hm_V p l e R s m args below meth c D A nL cells slots Q w pc lv (.int (iI x) :: st) := fun H locs ls h1 h2 h3 h4 => lv_tableOut E.1 E.2.1 d (by rw [iI_toInt hx]; exact h) ht (k H locs ls h1 h2 h3 h4)
theorem hv_tableIn (E : hm_E p s m args meth c cc nL own D K A) {x dflt lo hi off : Int} {offs : Array Int} {len : Nat} (tgt : Nat) (d : decode cc pc = .ok (.tableswitch dflt lo hi offs, len)) (hx : iB x) (hl : lo ≤ x) (hh : x ≤ hi) (ho : offs[(x - lo).toNat]? = some off) (ht : (pc : Int) + off = (tgt : Int)) (k : hm_V p l e R s m args below meth c D A nL cells slots Q w tgt lv st) : hm_V p l e R s m args below meth c D A nL cells slots Q w pc lv (.int (iI x) :: st) := fun H locs ls h1 h2 h3 h4 => lv_tableIn E.1 E.2.1 d (by rw [iI_toInt hx]; exact Int.not_lt.mpr hl) (by rw [iI_toInt hx]; exact Int.not_lt.mpr hh) (by rw [iI_toInt hx]; exact ho) ht (k H locs ls h1 h2 h3 h4)
theorem hm_one {D : va_G} {w : hm_M} {H : Heap} {a : Nat} {e : va_E} (h : hm_H D w H) (ha : w a = some e) : va_P D vwCl [(a, e)] H := fun k q hk => by
  have hz : k < 1 := (List.getElem?_eq_some_iff.mp hk).1
  rw [show k = 0 by omega] at hk
  cases hk
  exact h a e ha
theorem hv_iald (E : hm_E p s m args meth c cc nL own D K A) {a n : Nat} {f : Nat → Int32} {i : Int} (d : decode cc pc = .ok (.iaload, 1)) (ha : w a = some (.inl (K 0, n, .inl f))) (h0 : 0 ≤ i) (hn : i < (n : Int)) (hN : n < 2147483648) (hp : pc + 1 = pc2) (k : hm_V p l e R s m args below meth c D A nL cells slots Q w pc2 lv (.int (f i.toNat) :: st)) : hm_V p l e R s m args below meth c D A nL cells slots Q w pc lv (.int (iI i) :: .ref a :: st) := by
  subst hp
  exact fun H locs ls h1 h2 h3 h4 => va_iald (tys := hm_T K) E.1 E.2.1 E.2.2.2.2.2.1.1 (hm_one h1 ha) 0 0 rfl rfl (iI_in h0 hn hN) d (by rw [iI_cl h0 (by omega)]; exact (k H locs ls h1 h2 h3 h4))
theorem hv_zald (E : hm_E p s m args meth c cc nL own D K A) {a n : Nat} {g : Nat → Bool} {i : Int} (d : decode cc pc = .ok (.baload, 1)) (ha : w a = some (.inl (K 1, n, .inl (fun j => bI (g j))))) (h0 : 0 ≤ i) (hn : i < (n : Int)) (hN : n < 2147483648) (hp : pc + 1 = pc2) (k : hm_V p l e R s m args below meth c D A nL cells slots Q w pc2 lv (.int (bI (g i.toNat)) :: st)) : hm_V p l e R s m args below meth c D A nL cells slots Q w pc lv (.int (iI i) :: .ref a :: st) := by
  subst hp
  exact fun H locs ls h1 h2 h3 h4 => va_zald (tys := hm_T K) E.1 E.2.1 E.2.2.2.2.2.1.1 (hm_one h1 ha) 0 1 rfl rfl (iI_in h0 hn hN) d (by rw [iI_cl h0 (by omega)]; exact (k H locs ls h1 h2 h3 h4))
theorem hv_aaldN (E : hm_E p s m args meth c cc nL own D K A) {a n b : Nat} {f : Nat → Option Nat} {i : Int} (d : decode cc pc = .ok (.aaload, 1)) (ha : w a = some (.inl (K 2, n, .inr (.inr (.inr (.inr f)))))) (h0 : 0 ≤ i) (hn : i < (n : Int)) (hN : n < 2147483648) (hf : f i.toNat = some b) (hp : pc + 1 = pc2) (k : hm_V p l e R s m args below meth c D A nL cells slots Q w pc2 lv (.ref b :: st)) : hm_V p l e R s m args below meth c D A nL cells slots Q w pc lv (.int (iI i) :: .ref a :: st) := by
  subst hp
  exact fun H locs ls h1 h2 h3 h4 => va_aldq (tys := hm_T K) (C := "KeyRows$Numbers") E.1 E.2.1 E.2.2.2.2.2.1.1 (hm_one h1 ha) 0 2 rfl rfl (iI_in h0 hn hN) d (by rw [iI_cl h0 (by omega), hf]; exact (k H locs ls h1 h2 h3 h4))
theorem hv_aaldC (E : hm_E p s m args meth c cc nL own D K A) {a n b : Nat} {f : Nat → Option Nat} {i : Int} (d : decode cc pc = .ok (.aaload, 1)) (ha : w a = some (.inl (K 3, n, .inr (.inr (.inr (.inr f)))))) (h0 : 0 ≤ i) (hn : i < (n : Int)) (hN : n < 2147483648) (hf : f i.toNat = some b) (hp : pc + 1 = pc2) (k : hm_V p l e R s m args below meth c D A nL cells slots Q w pc2 lv (.ref b :: st)) : hm_V p l e R s m args below meth c D A nL cells slots Q w pc lv (.int (iI i) :: .ref a :: st) := by
  subst hp
  exact fun H locs ls h1 h2 h3 h4 => va_aldq (tys := hm_T K) (C := "KeyRows$Code") E.1 E.2.1 E.2.2.2.2.2.1.1 (hm_one h1 ha) 0 3 rfl rfl (iI_in h0 hn hN) d (by rw [iI_cl h0 (by omega), hf]; exact (k H locs ls h1 h2 h3 h4))
theorem hm_Sput {A : Nat → Prop} {H0 H H1 : Heap} {locs : List Loc} {a k : Nat} (h : va_S A H0 H locs) (z : H1.size = H.size) (oq : ∀ q : Nat, q ≠ a → H1[q]? = H[q]?) (ha : A a) : va_S A H0 H1 (locs ++ [⟨a, k⟩]) := h.put z oq ha
theorem hm_dom {A : Nat → Prop} {w : hm_M} {a : Nat} {e : va_E} (h : ∀ q, w q ≠ none → A q) (ha : A a) : ∀ q, hm_up w a e q ≠ none → A q := fun q hq => by
  by_cases h1 : q = a
  · rw [h1]; exact ha
  · rw [hm_un h1] at hq; exact h q hq
theorem hm_some {A : Nat → Prop} {w : hm_M} {a : Nat} {e : va_E} (h : ∀ q, w q ≠ none → A q) (ha : w a = some e) : A a := h a (by rw [ha]; exact fun q => by cases q)
theorem hv_iast (E : hm_E p s m args meth c cc nL own D K A) {a n : Nat} {f : Nat → Int32} {i : Int} {x : Int32} (d : decode cc pc = .ok (.iastore, 1)) (ha : w a = some (.inl (K 0, n, .inl f))) (h0 : 0 ≤ i) (hn : i < (n : Int)) (hN : n < 2147483648) (hp : pc + 1 = pc2) (k : hm_V p l e R s m args below meth c D A nL cells slots Q (hm_up w a (.inl (K 0, n, .inl (upd f i.toNat x)))) pc2 lv st) : hm_V p l e R s m args below meth c D A nL cells slots Q w pc lv (.int x :: .int (iI i) :: .ref a :: st) := by
  subst hp
  intro H locs ls h1 h2 h3 h4
  refine W.iast E.1 E.2.1 (h1 a _ ha) ((E.2.2.2.2.2.1.1.2 0 _ rfl).1 n (fun j => .int (f j))) (fun q => by cases q) (by show ¬ (iI i < 0 ∨ (arrV _ _ _).slots.size ≤ _); rw [arrV_size]; exact iI_in h0 hn hN) rfl rfl d fun H1 e z oq => ?_
  refine k H1 _ ls (h1.put ?_ oq) (hm_dom h2 (hm_some h2 ha)) (hm_Sput h3 z oq (hm_some h2 ha)) h4
  show H1[a]? = some (vp_cell _ _)
  rw [e, iI_cl h0 (by omega), vp_cell_i, vp_cell_i, arrV_store]
  congr 2
  funext q
  by_cases hq : q = i.toNat
  · subst hq
    simp [updV, upd]
  · simp [updV, upd, hq]
theorem hv_zast (E : hm_E p s m args meth c cc nL own D K A) {a n : Nat} {g : Nat → Bool} {i : Int} {b : Bool} (d : decode cc pc = .ok (.bastore, 1)) (ha : w a = some (.inl (K 1, n, .inl (fun j => bI (g j))))) (h0 : 0 ≤ i) (hn : i < (n : Int)) (hN : n < 2147483648) (hp : pc + 1 = pc2) (k : hm_V p l e R s m args below meth c D A nL cells slots Q (hm_up w a (.inl (K 1, n, .inl (fun j => bI (va_up g i.toNat b j))))) pc2 lv st) : hm_V p l e R s m args below meth c D A nL cells slots Q w pc lv (.int (bI b) :: .int (iI i) :: .ref a :: st) := by
  subst hp
  intro H locs ls h1 h2 h3 h4
  refine W.zast E.1 E.2.1 (h1 a _ ha) ((E.2.2.2.2.2.1.1.2 1 _ rfl).1 n (fun j => .int (bI (g j)))) (fun q => by cases q) (by show ¬ (iI i < 0 ∨ (arrV _ _ _).slots.size ≤ _); rw [arrV_size]; exact iI_in h0 hn hN) rfl rfl d fun H1 e z oq => ?_
  refine k H1 _ ls (h1.put ?_ oq) (hm_dom h2 (hm_some h2 ha)) (hm_Sput h3 z oq (hm_some h2 ha)) h4
  show H1[a]? = some (vp_cell _ _)
  rw [e, iI_cl h0 (by omega), vp_cell_i, vp_cell_i, arrV_store]
  congr 2
  funext q
  by_cases hq : q = i.toNat
  · subst hq
    simp [updV, va_up, bI_narrow]
  · simp [updV, va_up, hq]
theorem hv_get (E : hm_E p s m args meth c cc nL own D K A) {a ci N i kf : Nat} {C ref : String} {T : u_T} {fs : List Value} {v : Value} (d : decode cc pc = .ok (.getfield i, 3)) (hc : vwCl[ci]? = some (C, T, N)) (hk : kf < N) (hw : ∀ w ∈ u_ws C T N, w ∈ hG) (hl : Cond.fieldLink own i ref (T kf).2.1 (T kf).2.2.1 ∈ hG) (hr : (T kf).1 = ref) (ha : w a = some (.inr (ci, fs))) (hv : fs[kf]? = some v) (hp : pc + 3 = pc2) (k : hm_V p l e R s m args below meth c D A nL cells slots Q w pc2 lv (v :: st)) : hm_V p l e R s m args below meth c D A nL cells slots Q w pc lv (.ref a :: st) := by
  subst hp
  exact fun H locs ls h1 h2 h3 h4 => va_get (D := D) (tys := hm_T K) (v := v) E.1 E.2.1 E.2.2.2.2.1 hw E.2.2.2.1 E.2.2.2.2.2.1.1 (hm_one h1 ha) 0 rfl hc kf hk (E.2.2.2.2.1 _ hl) (fun x h9 => by rw [← hr]; exact h9) hv d (k H locs ls h1 h2 h3 h4)
theorem hv_put (E : hm_E p s m args meth c cc nL own D K A) {a ci N i kf : Nat} {C ref : String} {T : u_T} {ty0 : Nat → FieldType} {fs : List Value} {v : Value} (d : decode cc pc = .ok (.putfield i, 3)) (hc : vwCl[ci]? = some (C, T, N)) (hk : kf < N) (hw : ∀ w ∈ u_ws C T N, w ∈ hG) (hty : ∀ k, k < N → parseFieldDescriptor (T k).2.2.1 = some (ty0 k)) (hnm : ∀ a, a < N → ∀ b, b < N → a ≠ b → (T a).2.1 ≠ (T b).2.1) (hl : Cond.fieldLink own i ref (T kf).2.1 (T kf).2.2.1 ∈ hG) (hr : (T kf).1 = ref) (ha : w a = some (.inr (ci, fs))) (hfin : (T kf).2.2.2 = false) (hn : narrow (ty0 kf) v = v) (hfit : fits (ty0 kf) v = true) (hlen : kf < fs.length) (hp : pc + 3 = pc2) (k : hm_V p l e R s m args below meth c D A nL cells slots Q (hm_up w a (.inr (ci, fs.set kf v))) pc2 lv st) : hm_V p l e R s m args below meth c D A nL cells slots Q w pc lv (v :: .ref a :: st) := by
  subst hp
  intro H locs ls h1 h2 h3 h4
  have hts := E.2.2.2.2.1
  have hK := E.2.2.2.2.2.1.1
  have hap := va_apart (own := own) hts hw ty0 hty hnm hK hc
  obtain ⟨r, g1, cell, q1, q2, q3, q4⟩ := h1 a _ ha
  have hr9 : r = (C, T, N) := Option.some.inj (g1.symm.trans hc)
  subst hr9
  obtain ⟨hS, hfc, kC, hkC, hkind⟩ := hK.1 ci _ hc
  obtain ⟨cf, kff, fi, f, hi, hsl⟩ := hS kf hk
  have hlay := hts _ (hw _ (u_in_lay hk))
  unfold u_lay at hlay
  rw [if_neg (by rw [hfin]; decide)] at hlay
  have hst := (u_facts hfc hkC (u_lays hts hw hk) hi).1
  have h6 := u_store hfc hkC hkind hlay hi (hty kf hk) hn hfit
  refine W.putK E.1 E.2.1 (f := f) ⟨E.2.2.2.1, hts _ hl, ⟨_, _, _, by rw [← hr]; exact hi⟩, hst⟩ (by rw [q2]; exact h6) q1 q3 (by rw [hsl]; exact k2_hasslot (q4 kf hk)) rfl rfl d fun H1 e1 e2 e3 => ?_
  rw [hsl] at e1 ⊢
  exact k H1 _ ls (h1.put ⟨_, hc, t_OB.to (V := updV (vp_V fs) kf v) ⟨_, e1, q2, q3, t_set q4 hap hk v⟩ (fun j _ => vp_updV_set hlen v j)⟩ e3) (hm_dom h2 (hm_some h2 ha)) (hm_Sput h3 e2 e3 (hm_some h2 ha)) h4
end HV
