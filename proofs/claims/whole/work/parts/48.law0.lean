def R_law : String := "KeyRowsLaw"
def lw_P (b : Addr) (xs : List Int32) (args : Array Value) (s : State) : Prop := args = #[.ref b] ∧ s.IntsAt b xs ∧ xs.length ≤ 320 ∧ (Jvm.Cond.and given_1 narrow_1).before args s = true
def lw_Q (_ : Array Value) (s : State) (o : Outcome) (t : State) : Prop := o = .returned (some (.int 1)) ∧ Framed s o t [] 600000 7302250
def lw_Z (below : List Frame) (a : Array Value) (s : State) : State → Prop := fun t => ∃ o, t.status = .running ∧ Ended t below o ∧ lw_Q a s o t
/-- the law's own end, with 1 on the stack, nothing written that was there before, its room as the claim has it -/
theorem lw_ret {p : Program} {l : Launch} {e : Env} {s : State} {m : MethodId} {below : List Frame} {meth : Method} {c : Code} {b : Nat} (hx : p.tables.exec = Jvm.exec) (hb : c.code = code) (hr : meth.sig.returnType = ret) (hlocks : meth.locks = false) {pc : Nat} {H : Heap} {ls : Array Slot} (hdg : decode code pc = .ok (.ireturn, 1)) : W p l e room_1 s m #[Value.ref b] below meth c H [] 600000 7302250 (lw_Z below #[Value.ref b] s) (F0 m pc ls [.int 1]) := by
  intro T hT X
  obtain ⟨fs, hret, hrun, hended, hW, hframe⟩ := X.leave (v := some (.int 1)) (hlocks := hlocks) (fun h => by rw [hr] at h; cases h)
  have hmeth' : T.vm.method? m = some meth := X.method'
  refine ⟨T.setFrames fs, ?_, .returned (some (.int 1)), hrun, hended, rfl, ⟨_, rfl⟩, hW, hframe⟩
  jvm_step X.here [X.here.top, hx, hb, hdg, hmeth', hr, ret, narrow_b1]
  (try refine ⟨rfl, ?_⟩); (try refine ⟨rfl, ?_⟩)
  first | (intro acts; rw [hret _ acts rfl rfl rfl]) | rw [hret _ _ rfl rfl rfl]
  exact Steps.refl _
/-- what holds at the law's entry: the machine, the code, the tables' words (any of lw_tbl by 'hts w (by decide +kernel)'), the script of L ints xs at the cell b, what the Statement gives of the start (any of its parts by flat_of_before) -/
def lw_At (p : Program) (s : State) (m : MethodId) (meth : Method) (c : Code) (b L : Nat) (xs : Nat → Int32) : Prop :=
  p.tables.exec = Jvm.exec ∧ c.code = code ∧ meth.sig.returnType = ret ∧ c.maxLocals = 4 ∧ s.vm.findClass R_law = some m.cls ∧ (∀ w ∈ lw_tbl, w.before #[Value.ref b] s = true) ∧ va_X b L xs s s.heap ∧ b < s.heap.size ∧ meth.locks = false ∧ (Jvm.Cond.and given_1 narrow_1).before #[Value.ref b] s = true
section LW
variable {p : Program} {l : Launch} {e : Env} {R : Room} {s : State} {m : MethodId} {args : Array Value} {below : List Frame} {meth : Method} {c : Code} {cells slots : Nat} {Q : State → Prop} {cc : ByteArray} {nL : Nat} {own : String} {D : va_G} {K : Nat → ClassId} {A : Nat → Prop} {w : hm_M} {pc pc2 : Nat} {lv : List (Nat × Value)} {st : List Value}
theorem hv_sld (E : hm_E p s m args meth c cc nL own D K A) {bs Ls : Nat} {xs : Nat → Int32} (hX : va_X bs Ls xs s s.heap) (hbl : bs < s.heap.size) (hbA : ¬ A bs) (hL : Ls ≤ 320) {z : Int} {v : Int32} (h0 : 0 ≤ z) (h1 : z < (Ls : Int)) (hv : xs z.toNat = v) (d : decode cc pc = .ok (.iaload, 1)) (hp : pc + 1 = pc2) (k : hm_V p l e R s m args below meth c D A nL cells slots Q w pc2 lv (.int v :: st)) : hm_V p l e R s m args below meth c D A nL cells slots Q w pc lv (.int (iI z) :: .ref bs :: st) := by
  subst hp; subst hv
  intro H locs ls g1 g2 g3 g4
  have hk := k H locs ls g1 g2 g3 g4
  rw [← iI_cl h0 (by omega)] at hk
  exact va_sld E.1 E.2.1 hX hbl hbA g3 (iI_in h0 h1 (by omega)) d hk
theorem hv_slen (E : hm_E p s m args meth c cc nL own D K A) {bs Ls : Nat} {xs : Nat → Int32} (hX : va_X bs Ls xs s s.heap) (hbl : bs < s.heap.size) (hbA : ¬ A bs) (d : decode cc pc = .ok (.arraylength, 1)) (hp : pc + 1 = pc2) (k : hm_V p l e R s m args below meth c D A nL cells slots Q w pc2 lv (.int (iI (Ls : Int)) :: st)) : hm_V p l e R s m args below meth c D A nL cells slots Q w pc lv (.ref bs :: st) := by
  subst hp
  intro H locs ls g1 g2 g3 g4
  have hk := k H locs ls g1 g2 g3 g4
  rw [iI_nI] at hk
  exact va_slen E.1 E.2.1 hX hbl hbA g3 d hk
theorem hv_tabIn (E : hm_E p s m args meth c cc nL own D K A) {dflt lo hi : Int} {offs : Array Int} {len : Nat} {x : Int32} {off : Int} (tgt : Nat) (d : decode cc pc = .ok (.tableswitch dflt lo hi offs, len)) (h1 : ¬ x.toInt < lo) (h2 : ¬ hi < x.toInt) (ho : offs[(x.toInt - lo).toNat]? = some off) (ht : (pc : Int) + off = (tgt : Int)) (k : hm_V p l e R s m args below meth c D A nL cells slots Q w tgt lv st) : hm_V p l e R s m args below meth c D A nL cells slots Q w pc lv (.int x :: st) := fun H locs ls g1 g2 g3 g4 => lv_tableIn E.1 E.2.1 d h1 h2 ho ht (k H locs ls g1 g2 g3 g4)
theorem hv_tabOut (E : hm_E p s m args meth c cc nL own D K A) {dflt lo hi : Int} {offs : Array Int} {len : Nat} {x : Int32} (tgt : Nat) (d : decode cc pc = .ok (.tableswitch dflt lo hi offs, len)) (h : x.toInt < lo ∨ hi < x.toInt) (ht : (pc : Int) + dflt = (tgt : Int)) (k : hm_V p l e R s m args below meth c D A nL cells slots Q w tgt lv st) : hm_V p l e R s m args below meth c D A nL cells slots Q w pc lv (.int x :: st) := fun H locs ls g1 g2 g3 g4 => lv_tableOut E.1 E.2.1 d h ht (k H locs ls g1 g2 g3 g4)
theorem hv_lret {bs : Nat} (E : hm_E p s m #[Value.ref bs] meth c code 4 own D K (fun z => s.heap.size ≤ z)) (hr : meth.sig.returnType = ret) (d : decode code pc = .ok (.ireturn, 1)) : hm_V p l e room_1 s m #[Value.ref bs] below meth c D (fun z => s.heap.size ≤ z) 4 29 46517 (lw_Z below #[Value.ref bs] s) w pc lv [.int (iI 1)] := by
  intro H locs ls g1 g2 g3 g4
  rw [← iI_1]
  exact va_forget (fun q hq => g3.2.2 q hq) (W.widen (k := 600000) (n := 7302250) (by omega) (by omega) (lw_ret E.1 E.2.1 hr E.2.2.2.2.2.2.2 d))
end LW
/-! the class's object and the model's, side by side -/
theorem kAt.cg {K : Nat → ClassId} {w w2 : hm_M} {ad : Nat → Nat} {F : Nat → Nat → Int32} {tf : Nat → Int32} {L P : Int} {df : Nat → Int32} (h : kAt K w ad F tf L P df) (he : ∀ i, i < 28 → w2 (ad i) = w (ad i)) : kAt K w2 ad F tf L P df := by
  obtain ⟨h0, ⟨fa, h1, h1'⟩, ⟨fc, h2, h2'⟩, ⟨h3, h4, h5⟩, h6, h7, h8, h9, h10, h11⟩ := h
  exact ⟨by rw [he 0 (by omega)]; exact h0, ⟨fa, by rw [he 1 (by omega)]; exact h1, h1'⟩, ⟨fc, by rw [he 2 (by omega)]; exact h2, h2'⟩, ⟨by rw [he 7 (by omega)]; exact h3, by rw [he 8 (by omega)]; exact h4, by rw [he 9 (by omega)]; exact h5⟩, ⟨by rw [he 3 (by omega)]; exact h6.1, by rw [he 5 (by omega)]; exact h6.2⟩, ⟨by rw [he 4 (by omega)]; exact h7.1, by rw [he 6 (by omega)]; exact h7.2⟩, fun i hi => ⟨by rw [he (10 + i) (by omega)]; exact (h8 i hi).1, by rw [he (20 + i) (by omega)]; exact (h8 i hi).2⟩, h9, h10, h11⟩
def apt (ad : Nat → Nat) (q ia ta : Nat) : Prop := ∀ i, i < 28 → ad i ≠ q ∧ ad i ≠ ia ∧ ad i ≠ ta
def eqS (F : Nat → Nat → Int32) (I : Nat → Bool) : Prop := ∀ s u : Nat, s < 8 → u < 4096 → mem (F s) u = mA I s u
def eqT (tf : Nat → Int32) (L : Int) (T : Nat → Bool) : Prop := ∀ i : Nat, (i : Int) < L → mem tf i = T i
def wI (K : Nat → ClassId) (w : hm_M) (ad : Nat → Nat) (q ia ta : Nat) : Prop := ∃ (F : Nat → Nat → Int32) (tf : Nat → Int32) (L P : Int) (df : Nat → Int32) (I T : Nat → Bool) (md td : Int) (ag : Bool) (pl : Int), kAt K w ad F tf L P df ∧ mAt K w q ia ta I T L md td ag pl ∧ eqS F I ∧ eqT tf L T
theorem eqS.x {F : Nat → Nat → Int32} {I : Nat → Bool} (h : eqS F I) {x : Int} (hx : 0 ≤ x ∧ x < 8) : ∀ u, u < 4096 → mem (F x.toNat) u = mS I x u := fun u hu => h x.toNat u (by omega) hu
theorem mAt.fr {K : Nat → ClassId} {w w2 : hm_M} {ad : Nat → Nat} {q ia ta : Nat} {I T : Nat → Bool} {b md td : Int} {ag : Bool} {pl : Int} (h : mAt K w q ia ta I T b md td ag pl) (hap : apt ad q ia ta) (hfr : kFr ad w w2) : mAt K w2 q ia ta I T b md td ag pl := ⟨by rw [hfr q (fun i hi => Ne.symm (hap i hi).1)]; exact h.1, by rw [hfr ia (fun i hi => Ne.symm (hap i hi).2.1)]; exact h.2.1, by rw [hfr ta (fun i hi => Ne.symm (hap i hi).2.2)]; exact h.2.2⟩
section WI
variable {K : Nat → ClassId} {w : hm_M} {ad : Nat → Nat} {q ia ta : Nat} {F : Nat → Nat → Int32} {tf : Nat → Int32} {L P : Int} {df : Nat → Int32} {I T : Nat → Bool} {b md td : Int} {ag : Bool} {pl : Int}
theorem wI_mM (hap : apt ad q ia ta) (hk : kAt K w ad F tf L P df) (hm : mAt K w q ia ta I T b md td ag pl) {J U : Nat → Bool} {md2 td2 : Int} {ag2 : Bool} {pl2 : Int} (hS : eqS F J) (hT : eqT tf L U) : wI K (mM K w q ia ta J U L md2 td2 ag2 pl2) ad q ia ta := ⟨F, tf, L, P, df, J, U, md2, td2, ag2, pl2, hk.cg (fun i hi => mM_other (hap i hi).1 (hap i hi).2.1 (hap i hi).2.2), mAt_mM hm.n1 hm.n2 hm.n3, hS, hT⟩
theorem wI_set (hap : apt ad q ia ta) (hk : kAt K w ad F tf L P df) (hm : mAt K w q ia ta I T L md td ag pl) (J : Nat → Bool) (hS : eqS F J) (hT : eqT tf L T) : wI K (hm_up w ia (mE K J)) ad q ia ta := ⟨F, tf, L, P, df, J, T, md, td, ag, pl, hk.cg (fun i hi => hm_un (hap i hi).2.1), hm.up J, hS, hT⟩
theorem wI_mk (hk : kAt K w ad F tf L P df) (hm : mAt K w q ia ta I T L md td ag pl) (hS : eqS F I) (hT : eqT tf L T) : wI K w ad q ia ta := ⟨F, tf, L, P, df, I, T, md, td, ag, pl, hk, hm, hS, hT⟩
end WI
theorem tb_tB {tf : Nat → Int32} {L : Int} {T : Nat → Bool} (h : eqT tf L T) : tb tf L = tB T L := funext fun i => by
  unfold tb tB
  by_cases q : (i : Int) < L
  · rw [h i q]
  · rw [decide_eq_false q, Bool.false_and, Bool.false_and]
theorem ct_cg {S U : Nat → Bool} {a n : Nat} (h : ∀ u, u < 4096 → S u = U u) (hn : a + n ≤ 4096) : ct S a n = ct U a n := ct_congr (fun i hi => h _ (by omega))
theorem ct_xt (S : Nat → Bool) (a n : Nat) : ct (fun v => S v ^^ true) a n + ct S a n = n := by
  induction n with
  | zero => rfl
  | succ n ih =>
    rw [ct_succ, ct_succ]
    generalize ct (fun v => S v ^^ true) a n = c1 at ih ⊢
    generalize ct S a n = c2 at ih ⊢
    cases S (a + n) <;> simp <;> omega
theorem ct_xf (S : Nat → Bool) (a n : Nat) : ct (fun v => S v ^^ false) a n = ct S a n := ct_congr (fun i _ => by rw [Bool.xor_false])
theorem isNext_cg {S U : Nat → Bool} {v z : Int} (h : ∀ u, u < 4096 → S u = U u) (hz : isNext S 4096 v z) : isNext U 4096 v z := by
  rcases hz with ⟨a1, a2⟩ | ⟨a1, a2, a3, a4, a5⟩
  · exact Or.inl ⟨a1, fun u h1 h2 => by rw [← h u h2]; exact a2 u h1 h2⟩
  · exact Or.inr ⟨a1, a2, a3, by rw [← h _ (by omega)]; exact a4, fun u h1 h2 => by rw [← h u (by omega)]; exact a5 u h1 h2⟩
theorem isBefore_cg {S U : Nat → Bool} {v z : Int} (hv : v ≤ 4096) (h : ∀ u, u < 4096 → S u = U u) (hz : isBefore S v z) : isBefore U v z := by
  rcases hz with ⟨a1, a2⟩ | ⟨a1, a2, a3, a4⟩
  · exact Or.inl ⟨a1, fun u h1 => by rw [← h u (by omega)]; exact a2 u h1⟩
  · exact Or.inr ⟨a1, a2, by rw [← h _ (by omega)]; exact a3, fun u h1 h2 => by rw [← h u (by omega)]; exact a4 u h1 h2⟩
theorem pB_cg {S T : Nat → Bool} {h : Int} (hs : ∀ u, u < 256 → S (256 * h.toNat + u) = T (256 * h.toNat + u)) : pB S h = pB T h := by
  rw [pB_min, pB_min, pN_cg hs, pR_cg hs]
theorem cs_cg {S T : Nat → Bool} (k : Nat) (hk : k ≤ 16) (h : ∀ u, u < 4096 → S u = T u) : cs S k = cs T k := by
  induction k with
  | zero => rfl
  | succ k ih =>
    simp only [cs]
    rw [ih (by omega), pN_cg (S := S) (T := T) (h := (k : Int)) (fun u hu => h _ (by omega)), pB_cg (S := S) (T := T) (h := (k : Int)) (fun u hu => h _ (by omega))]
theorem rdP_eq {X : Nat → Bool} {L x v z1 z2 : Int} {A1 A2 B1 B2 : Nat → Nat → Bool} (h1 : rdP X L x v z1 A1 B1) (h2 : rdP X L x v z2 A2 B2) (hu : 0 ≤ x ∧ x < 8 → 0 ≤ v ∧ v < 3 → uq X L v) (hA : ∀ s u : Nat, s < 8 → u < 4096 → A1 s u = A2 s u) : z1 = z2 ∧ ∀ s u : Nat, s < 8 → u < 4096 → B1 s u = B2 s u := by
  rcases h1 with ⟨a1, a2, a3⟩ | ⟨a1, a2, a3, a4⟩ | ⟨a1, a2, a3, a4, a5⟩ | ⟨a1, a2, U, a3, a4, a5⟩
  · rcases h2 with ⟨b1, b2, b3⟩ | ⟨b1, b2, b3, b4⟩ | ⟨b1, b2, b3, b4, b5⟩ | ⟨b1, b2, V, b3, b4, b5⟩
    · exact ⟨by omega, fun s u hs hu => by rw [a3 s u hs hu, b3 s u hs hu]; exact hA s u hs hu⟩
    · exact absurd b1 a1
    · exact absurd b1 a1
    · exact absurd b1 a1
  · rcases h2 with ⟨b1, b2, b3⟩ | ⟨b1, b2, b3, b4⟩ | ⟨b1, b2, b3, b4, b5⟩ | ⟨b1, b2, V, b3, b4, b5⟩
    · exact absurd a1 b1
    · exact ⟨by omega, fun s u hs hu => by rw [a4 s u hs hu, b4 s u hs hu]; exact hA s u hs hu⟩
    · exact absurd b2 a2
    · exact absurd b2 a2
  · rcases h2 with ⟨b1, b2, b3⟩ | ⟨b1, b2, b3, b4⟩ | ⟨b1, b2, b3, b4, b5⟩ | ⟨b1, b2, V, b3, b4, b5⟩
    · exact absurd a1 b1
    · exact absurd a2 b2
    · exact ⟨by omega, fun s u hs hu => by rw [a5 s u hs hu, b5 s u hs hu]; exact hA s u hs hu⟩
    · exact absurd b3 (a4 V)
  · rcases h2 with ⟨b1, b2, b3⟩ | ⟨b1, b2, b3, b4⟩ | ⟨b1, b2, b3, b4, b5⟩ | ⟨b1, b2, V, b3, b4, b5⟩
    · exact absurd a1 b1
    · exact absurd a2 b2
    · exact absurd a3 (b4 U)
    · have hUV := hu a1 a2 U V a3 b3
      refine ⟨?_, fun s u hs hu => ?_⟩
      · rw [a4, b4, ct_cg hUV (by omega)]
      · rw [a5 s u hs hu, b5 s u hs hu, hUV u hu, hA s u hs hu]
theorem asP_eq {X : Nat → Bool} {L v n z1 z2 : Int} (h1 : asP X L v n z1) (h2 : asP X L v n z2) (hu : 0 ≤ v ∧ v < 3 → uq X L v) : z1 = z2 := by
  rcases h1 with ⟨a1, a2⟩ | ⟨a1, a2, a3⟩ | ⟨a1, U, a2, a3⟩
  · rcases h2 with ⟨b1, b2⟩ | ⟨b1, b2, b3⟩ | ⟨b1, V, b2, b3⟩
    · omega
    · exact absurd b1 a1
    · exact absurd b1 a1
  · rcases h2 with ⟨b1, b2⟩ | ⟨b1, b2, b3⟩ | ⟨b1, V, b2, b3⟩
    · exact absurd a1 b1
    · omega
    · exact absurd b2 (a3 V)
  · rcases h2 with ⟨b1, b2⟩ | ⟨b1, b2, b3⟩ | ⟨b1, V, b2, b3⟩
    · exact absurd a1 b1
    · exact absurd a2 (b3 U)
    · exact isNth_inj (isNth_cg (hu a1 U V a2 b2) a3) b3
