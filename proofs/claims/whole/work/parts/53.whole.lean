theorem mem_z (u : Nat) : mem (fun _ => 0) u = false := b_0 _
set_option maxHeartbeats 4000000 in
set_option maxRecDepth 100000 in
theorem law_known {s : State} {args : Array Value} (hts : ∀ w ∈ lw_tbl, w.before args s = true) : ∃ (D : va_G) (K : Nat → ClassId), hm_Kn D K s := by
  have hg : ∀ w ∈ hG, w.before args s = true := fun w hw => hts w (hG_in hw).1
  obtain ⟨c1, i1, n1⟩ := u_known (C := RX1) (T := TX1) (N := 0) (n := 0) hg gW_X1 (hg _ gT_X1)
  obtain ⟨c2, i2, n2⟩ := u_known (C := RX2) (T := TX2) (N := 1) (n := 1) hg gW_X2 (hg _ gT_X2)
  obtain ⟨c3, i3, n3⟩ := u_known (C := RX3) (T := TX3) (N := 0) (n := 0) hg gW_X3 (hg _ gT_X3)
  obtain ⟨c4, i4, n4⟩ := u_known (C := RX4) (T := TX4) (N := 3) (n := 3) hg gW_X4 (hg _ gT_X4)
  obtain ⟨c5, i5, n5⟩ := u_known (C := RX5) (T := TX5) (N := 0) (n := 0) hg gW_X5 (hg _ gT_X5)
  obtain ⟨c6, i6, n6⟩ := u_known (C := RX6) (T := TX6) (N := 4) (n := 4) hg gW_X6 (hg _ gT_X6)
  obtain ⟨c7, i7, n7⟩ := u_known (C := RX7) (T := TX7) (N := 7) (n := 7) hg gW_X7 (hg _ gT_X7)
  obtain ⟨ka, ma, pa, ra, sa, ta⟩ := Cond.arrayClass_spec (hg _ gA_int)
  obtain ⟨kb, mb, pb, rb, sb, tb⟩ := Cond.arrayClass_spec (hg _ gA_boolean)
  obtain ⟨pc, kc, mc, qc, _, rc, sc, tc⟩ := Cond.arrayOver_spec (hts _ (hNa_in "KeyRows$Numbers" (by decide)))
  obtain ⟨pd, kd, md, qd, _, rd, sd, td⟩ := Cond.arrayOver_spec (hts _ (hNa_in "KeyRows$Code" (by decide)))
  refine ⟨(fun k => if k = 0 then c1 else if k = 1 then c2 else if k = 2 then c3 else if k = 3 then c4 else if k = 4 then c5 else if k = 5 then c6 else c7, fun k => if k = 0 then i1 else if k = 1 then i2 else if k = 2 then i3 else if k = 3 then i4 else if k = 4 then i5 else if k = 5 then i6 else i7), fun k => if k = 0 then ka else if k = 1 then kb else if k = 2 then kc else kd, ⟨fun k q hq => ?_, fun k q hq => ?_⟩, fun q hq => va_Nw.of rfl (hts _ (hNm_in q hq)), fun q hq => va_Nw.of rfl (hts _ (hNd_in q hq)), fun q hq => va_Nw.of rfl (hts _ (hNc_in q hq)), fun q hq => va_AO.of (hts _ (hNa_in q hq))⟩
  · match k, hq with
    | 0, hq => cases hq; exact n1
    | 1, hq => cases hq; exact n2
    | 2, hq => cases hq; exact n3
    | 3, hq => cases hq; exact n4
    | 4, hq => cases hq; exact n5
    | 5, hq => cases hq; exact n6
    | 6, hq => cases hq; exact n7
    | k + 7, hq => simp [vwCl] at hq
  · match k, hq with
    | 0, hq => cases hq; exact ⟨fun n z => ⟨fun k h => (by cases h), ma, sa, pa, ta⟩, ra⟩
    | 1, hq => cases hq; exact ⟨fun n z => ⟨fun k h => (by cases h), mb, sb, pb, tb⟩, rb⟩
    | 2, hq => cases hq; exact ⟨fun n z => ⟨fun k h => (by cases h), mc, rc, pc, sc⟩, mc, pc, rc, sc, qc, tc⟩
    | 3, hq => cases hq; exact ⟨fun n z => ⟨fun k h => (by cases h), md, rd, pd, sd⟩, md, pd, rd, sd, qd, td⟩
    | k + 4, hq => simp [hm_T] at hq
set_option maxHeartbeats 4000000 in
set_option maxRecDepth 100000 in
theorem whole_start {p : Program} {e : Env} {s : State} {m : MethodId} {below : List Frame} {meth : Method} {c : Code} (l : Launch) {b L : Nat} {xs : Nat → Int32} (hL : L ≤ 320) (C0 : lw_At p s m meth c b L xs) : W p l e room_1 s m #[Value.ref b] below meth c s.heap [] 0 0 (lw_Z below #[Value.ref b] s) (entryFrame m ([Value.ref b] : List Value).toArray 4) := by
  obtain ⟨hx, hb, hr, hml, hown, hts, hX, hbl, hlocks, hgv⟩ := id C0
  obtain ⟨D, K, hK⟩ := law_known hts
  have hbA : ¬ (fun z => s.heap.size ≤ z) b := Nat.not_le.mpr hbl
  have E : hm_E p s m #[Value.ref b] meth c cL_law 4 RL D K (fun z => s.heap.size ≤ z) := ⟨hx, hb, hml, hown, fun w hw => hts w (hG_in hw).1, hK, fun q h => h, hlocks⟩
  have V0 : hm_V p l e room_1 s m #[Value.ref b] below meth c D (fun z => s.heap.size ≤ z) 4 0 0 (lw_Z below #[Value.ref b] s) ((fun _ => none)) 0 [(0, .ref (b))] [] := by
    refine hv_new (ty := tyX6) (fs := [.null, .null, .null, .null]) E dL_law_0 (show vwCl[5]? = some (RX6, TX6, 4) from rfl) gW_X6 tyX6_ok gO_L_7 gT_X6 gZ_X6 (fun j hj => by rcases (show j = 0 ∨ j = 1 ∨ j = 2 ∨ j = 3 by omega) with rfl | rfl | rfl | rfl <;> rfl) (Nat.le_of_ble_eq_true rfl) (Nat.le_of_ble_eq_true rfl) rfl (fun a hqa hsa => ?_)
    show hm_V p l e room_1 s m #[Value.ref b] below meth c D (fun z => s.heap.size ≤ z) 4 1 4 (lw_Z below #[Value.ref b] s) (hm_up (fun _ => none) a (.inr (5, [.null, .null, .null, .null]))) 3 [(0, .ref (b))] [.ref (a)]
    refine hv_dup E dL_law_3 rfl rfl ?_
    refine hv_callI (na := 0) (As := []) (st := [.ref (a)]) E (c6_init l D K hm_us) dL_law_4 gL_L_9 rfl gI_X6_init gC_X6_init gZ_X6 (by decide +kernel) rfl ⟨Nat.le_of_ble_eq_true rfl, Nat.le_of_ble_eq_true rfl⟩ (Nat.le_of_ble_eq_true rfl) ⟨Nat.le_of_ble_eq_true rfl, Nat.le_of_ble_eq_true rfl⟩ rfl rfl (fun w2 hp => ?_)
    obtain ⟨ad, ha0, hk, hfa, hne, _⟩ := hp
    show hm_V p l e room_1 s m #[Value.ref b] below meth c D (fun z => s.heap.size ≤ z) 4 26 1436 (lw_Z below #[Value.ref b] s) w2 7 [(0, .ref (b))] [.ref (a)]
    rw [← ha0]
    show hm_V p l e room_1 s m #[Value.ref b] below meth c D (fun z => s.heap.size ≤ z) 4 26 1436 (lw_Z below #[Value.ref b] s) w2 7 [(0, .ref (b))] [.ref (ad 0)]
    refine hv_astore_n (lv2 := [(1, .ref (ad 0)), (0, .ref (b))]) E dL_law_7 rfl (by decide) rfl rfl ?_
    refine hv_new (ty := tyX7) (fs := [.null, .null, .int 0, .int 0, .int 0, .int 0, .int 0]) E dL_law_8 (show vwCl[6]? = some (RX7, TX7, 7) from rfl) gW_X7 tyX7_ok gO_L_10 gT_X7 gZ_X7 (fun j hj => by rcases (show j = 0 ∨ j = 1 ∨ j = 2 ∨ j = 3 ∨ j = 4 ∨ j = 5 ∨ j = 6 by omega) with rfl | rfl | rfl | rfl | rfl | rfl | rfl <;> rfl) (Nat.le_of_ble_eq_true rfl) (Nat.le_of_ble_eq_true rfl) rfl (fun q hqq hsq => ?_)
    show hm_V p l e room_1 s m #[Value.ref b] below meth c D (fun z => s.heap.size ≤ z) 4 27 1443 (lw_Z below #[Value.ref b] s) (hm_up w2 q (.inr (6, [.null, .null, .int 0, .int 0, .int 0, .int 0, .int 0]))) 11 [(1, .ref (ad 0)), (0, .ref (b))] [.ref (q)]
    refine hv_dup E dL_law_11 rfl rfl ?_
    have hk2 := hk.cg (w2 := hm_up w2 q (.inr (6, [.null, .null, .int 0, .int 0, .int 0, .int 0, .int 0]))) (fun i hi => hm_un (fun h => hne i hi (by rw [h]; exact hqq)))
    refine hv_callI (na := 0) (As := []) (st := [.ref (q)]) E (c7_init l D K hm_us) dL_law_12 gL_L_12 rfl gI_X7_init gC_X7_init gZ_X7 (by decide +kernel) rfl ⟨Nat.le_of_ble_eq_true rfl, Nat.le_of_ble_eq_true rfl⟩ (Nat.le_of_ble_eq_true rfl) ⟨Nat.le_of_ble_eq_true rfl, Nat.le_of_ble_eq_true rfl⟩ rfl rfl (fun w3 hp => ?_)
    obtain ⟨ia, ta, h1, h2, hm, hold⟩ := hp
    show hm_V p l e room_1 s m #[Value.ref b] below meth c D (fun z => s.heap.size ≤ z) 4 29 46517 (lw_Z below #[Value.ref b] s) w3 15 [(1, .ref (ad 0)), (0, .ref (b))] [.ref (q)]
    have hap : apt ad q ia ta := fun i hi => (by
      have e0 : ad i ≠ q := fun h => hne i hi (by rw [h]; exact hqq)
      have e1 : (hm_up w2 q (.inr (6, [.null, .null, .int 0, .int 0, .int 0, .int 0, .int 0]))) (ad i) ≠ none := by rw [hm_un e0]; exact hne i hi
      exact ⟨e0, fun h => e1 (by rw [h]; exact h1), fun h => e1 (by rw [h]; exact h2)⟩)
    have hk3 := hk2.cg (w2 := w3) (fun i hi => hold _ (hap i hi).1 (hap i hi).2.1 (hap i hi).2.2)
    have hI : wI K w3 ad q ia ta := wI_mk hk3 hm (fun s u _ _ => mem_z u) (fun i hi => absurd hi (by omega))
    refine hv_astore_n (lv2 := [(2, .ref (q)), (1, .ref (ad 0)), (0, .ref (b))]) E dL_law_15 rfl (by decide) rfl rfl ?_
    refine hv_iconst E dL_law_16 rfl ?_
    refine hv_istore_n (lv2 := [(3, .int (iI (0))), (2, .ref (q)), (1, .ref (ad 0)), (0, .ref (b))]) E dL_law_17 rfl (by decide) rfl rfl ?_
    refine hv_sub (lv2 := [(3, .int (iI (0))), (0, .ref (b)), (1, .ref (ad 0)), (2, .ref (q))]) [0, 3, 2, 1] rfl ?_
    exact law_loop l hap E hX hbl hbA hL hr (L + 1) 0 w3 (by omega) (by omega) hI
  rw [lg_entry_eq]
  exact V0 s.heap [] _ (fun a x h => by cases h) (fun q h => absurd rfl h) va_S.rf (lv_entry ([.ref b]) (n := 4) (Nat.le_of_ble_eq_true rfl))
set_option maxHeartbeats 4000000 in
theorem lw_walk (l : Launch) (b : Addr) (xs : List Int32) : MetFree l x (headSpec (Jvm.Cond.code x code maxLocals ret :: tables_1) room_1) (lw_P b xs) (fun _ _ _ _ _ => True) lw_Q := by
  refine MetFree.of_bodyS (code := code) (maxLocals := maxLocals) (ret := ret) (by decide) ?_ ?_
  · intro args s m h hn
    obtain ⟨meth, c, h1, h2, h3, h4, h5, h6, -, -⟩ := Cond.code_spec hn (atoms_spec (ws := Jvm.Cond.code x code maxLocals ret :: tables_1) h _ List.mem_cons_self)
    exact ⟨meth, c, h1, h2, h3, h4, h5, h6⟩
  · intro p e s m args below meth c s₁ B hml0 hP _
    obtain ⟨rfl, hx, hbd, hgv⟩ := hP
    obtain ⟨scr, harrAt, hlist, hof, hsmall⟩ := hx
    obtain ⟨hcb, hkn, -, -⟩ := State.arrayAt?_spec harrAt
    have hown : s.vm.findClass R_law = some m.cls := findClass_of_methodNamed B.named
    have hts0 : ∀ c ∈ (Jvm.Cond.code x code maxLocals ret :: tables_1), c.before #[Value.ref b] s = true := atoms_spec (ws := Jvm.Cond.code x code maxLocals ret :: tables_1) B.pre
    have hts : ∀ w ∈ lw_tbl, w.before #[Value.ref b] s = true := k2_hts_sels lw_privs (fun w hw => hts0 w (List.mem_cons_of_mem _ hw)) lw_privs_ok
    have hml : c.maxLocals = 4 := B.maxLocals_eq (hts0 _ List.mem_cons_self)
    have X₀ : Stand p l e room_1 s m #[Value.ref b] below meth c s₁ [] 0 0 := Stand.of_body B
    have hh0 : s₁.heap = s.heap := by rw [B.state]; rfl
    have hsz : scr.slots.size = xs.length := by rw [← Array.length_toList, hlist, List.length_map]
    have hval : ∀ j : Nat, j < xs.length → scr.slots[j]? = some (.int (xs.getD j 0)) := fun j hj => by
      rw [← Array.getElem?_toList, hlist]
      simp [hj]
    have hbl : b < s.heap.size := (Array.getElem?_eq_some_iff.mp hcb).1
    have hX : va_X b xs.length (fun j => xs.getD j 0) s s.heap := ⟨scr, hcb, hof, hkn, hsz, hval⟩
    have K : W p l e room_1 s m #[Value.ref b] below meth c s₁.heap [] 0 0 (lw_Z below #[Value.ref b] s) (entryFrame m ([Value.ref b] : List Value).toArray 4) := by
      rw [hh0]
      exact whole_start l hbd ⟨B.exec, B.bytes, B.returns, hml, hown, hts, hX, hbl, B.notSynchronized, hgv⟩
    obtain ⟨t, a1, o, b1, b2, b3⟩ := K s₁ rfl X₀
    exact ⟨t, o, a1, b1, b2, b3⟩
theorem lw_pre_spec {args : Array Value} {s : State} (h : (Jvm.Cond.and given_1 narrow_1).before args s = true) (hr : rest_1_c.before args s = true) : ∃ (b : Addr) (xs : List Int32), lw_P b xs args s := by
  have hs := flat_of_before _ h
  have hq := flat_of_before _ hr
  have hc : (Cond.count 1).before args s = true := hs _ (by decide +kernel)
  have harr : (Cond.arrayOf (.arg 0) .int).before args s = true := hs _ (by decide +kernel)
  have hle : (Cond.le (.length (.arg 0)) (.int 320)).before args s = true := hs _ (by decide +kernel)
  have hlen : (Cond.isInt (.length (.arg 0))).before args s = true := hq _ (by decide +kernel)
  have hall : (Cond.all (.arg 0) (.isInt (.elem (.arg 0) (.index 0)))).before args s = true := hq _ (by decide +kernel)
  obtain ⟨b, xs, hb, hx⟩ := State.ints_of_pre rfl harr hlen hall
  have hsm : xs.length < 2 ^ 31 := hx.choose_spec.2.2.2
  have hev : (Term.length (.arg 0)).eval args s none [] s = some (.int xs.length.toInt32) := hx.length_eval hb
  have hv := Cond.le_ints hev (show (Term.int 320).eval args s none [] s = some (.int 320) from rfl)
  have hd : xs.length.toInt32 ≤ 320 := by
    simpa [Cond.before, Cond.holds, hv] using hle
  have hN : xs.length ≤ 320 := (Int32.ofNat_le_ofNat hsm (by decide)).mp (show Int32.ofNat xs.length ≤ Int32.ofNat 320 from hd)
  exact ⟨b, xs, Cond.one_arg hc (show args[0]? = some (.ref b) from hb), hx, hN, h⟩
theorem lw_comes (l : Launch) : Comes l x (Jvm.Cond.code x code maxLocals ret :: tables_1) room_1 (fun tb e args s => Calls_1 tb e args s ∧ rest_1 tb e args s ∧ Pre_1 tb e args s)
    (fun _ _ args s o t => lw_Q args s o t) := by
  intro p e ha hc hk s m args below hf hfit hheap happ hpre
  obtain ⟨b, xs, hP⟩ := lw_pre_spec hpre.2.2 hpre.2.1
  obtain ⟨k, o, h1, h2, h3, hQ⟩ := lw_walk l b xs p e ha hc hk s m args below hf ((Spec.applies_iff_loose hf).mp happ).1 hP trivial
  exact ⟨k, o, h1, h2, h3, hQ⟩
theorem lw_frame {s t : State} {o : Outcome} {args : Array Value} (h : Framed s o t [] 600000 7302250) :
    Framed s o t (fieldLocs frame_1_writes args s ++ arrayLocs frame_1_arrays args s ++ staticLocs frame_1_statics s) 600000 7302250 := h
theorem lw_limb (L : Cond) (hL : ∀ (args : Array Value) (s t : State), L.after args s (.returned (some (.int 1))) t = true) :
    ArmFor flags0 classFile x code maxLocals ret World_1 tables_1 room_1 Calls_1 rest_1 Pre_1
      (fun tb e a s o t => postC L tb e a s o t ∧ Framed s o t (fieldLocs frame_1_writes a s ++ arrayLocs frame_1_arrays a s ++ staticLocs frame_1_statics s) 600000 7302250) := by
  intro l _ _ _ p e ha hc hk s m args below hf hfit hheap happ hpre
  obtain ⟨k, o, h1, h2, h3, rfl, hF⟩ := lw_comes l p e ha hc hk s m args below hf hfit hheap happ hpre
  exact ⟨k, _, h1, h2, h3, hL args s _, lw_frame hF⟩
theorem i_vc : Claimed_1_1 ∧ Claimed_1_2 := ⟨lw_limb limb_1_1 (fun args s t => by simp [limb_1_1, Cond.after, Cond.holds, Cond.value]), lw_limb limb_1_2 (fun args s t => Cond.after_iff.mpr (by
  first | (rw [show limb_1_2 = Cond.eq .result (.int 1) from rfl, Cond.eq_ints (x := 1) (y := 1) rfl rfl]; simp; done) | (simp [limb_1_2, Cond.value, Term.eval]; done)))⟩
