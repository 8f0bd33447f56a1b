/-! Pieces: the tape read, the set gathered -/
theorem bz0_s (S : Nat → Bool) (a i : Nat) : bdP S 0 a (i + 1) = bdP S 0 a i ++ (if S (a + i) then nb (a + i) 8 else []) := rfl
theorem bz1_s (S : Nat → Bool) (a i : Nat) : bdP S 1 a (i + 1) = bdP S 1 a i ++ [S (a + i)] := rfl
theorem bz2_s (S : Nat → Bool) (a i : Nat) : bdP S 2 a (i + 1) = bdP S 2 a i ++ (if bg S a i then nb (a + i) 8 ++ nb (rlen S a i (256 - i) - 1) 8 else []) := rfl
theorem nb_low {a e : Nat} (ha : a % 256 = 0) : nb (a + e) 8 = nb e 8 := by
  apply nb_congr
  rw [show (2 : Nat) ^ 8 = 256 from rfl]; omega
theorem bd_pre (S : Nat → Bool) (F : Int) (a : Nat) {j n : Nat} (h : j ≤ n) : ∃ t, bdP S F a n = bdP S F a j ++ t := by
  obtain ⟨d, rfl⟩ : ∃ d, n = j + d := ⟨n - j, by omega⟩
  clear h
  induction d with
  | zero => exact ⟨[], by simp⟩
  | succ d ih => obtain ⟨t, ht⟩ := ih; rw [← Nat.add_assoc]; simp only [bdP]; rw [ht, List.append_assoc]; exact ⟨_, rfl⟩
theorem bz0_skip {S : Nat → Bool} {a j e : Nat} (hje : j ≤ e) (hn : ∀ i, j ≤ i → i < e → S (a + i) = false) : bdP S 0 a e = bdP S 0 a j :=
  skip_eq (S := fun i => S (a + i)) (bdP S 0 a) (fun i hi => by rw [bz0_s, if_neg (by rw [hi]; exact Bool.false_ne_true), List.append_nil]) hje hn
theorem bd0_nx {S : Nat → Bool} {a j e : Nat} (hje : j ≤ e) (hn : ∀ i, j ≤ i → i < e → S (a + i) = false) (hs : S (a + e) = true) : bdP S 0 a (e + 1) = bdP S 0 a j ++ nb (a + e) 8 := by
  rw [bz0_s, if_pos hs, bz0_skip hje hn]
theorem ctA_skip {S : Nat → Bool} {a j e : Nat} (hje : j ≤ e) (hn : ∀ i, j ≤ i → i < e → S (a + i) = false) : ct S a e = ct S a j :=
  skip_eq (S := fun i => S (a + i)) (ct S a) (fun i hi => by rw [ct_succ, if_neg (by rw [hi]; exact Bool.false_ne_true)]; rfl) hje hn
/-- gathered so far of a list: body from p on, n numbers -/
def lI (X : Nat → Bool) (p n a : Nat) (U0 U : Nat → Bool) (j k : Nat) : Prop :=
  j ≤ 256 ∧ (∀ u, u < a → U u = U0 u) ∧ (∀ u, a + j ≤ u → u < 4096 → U u = false) ∧ ct U a j = k ∧ rd X p (bdP U 0 a j) ∧ (∀ S, rd X p (bdP S 0 a 256) → ct S a 256 = n → ∀ i, i < j → S (a + i) = U (a + i))
theorem lI_0 {X : Nat → Bool} {p n a : Nat} {U : Nat → Bool} (hU : ∀ u, a ≤ u → u < 4096 → U u = false) : lI X p n a U U 0 0 :=
  ⟨by omega, fun _ _ => rfl, fun u h1 h2 => hU u (by omega) h2, rfl, rd_nil, fun _ _ _ i hi => absurd hi (by omega)⟩
theorem lI_nx {X : Nat → Bool} {p n a : Nat} {U0 U : Nat → Bool} {j k : Nat} (h : lI X p n a U0 U j k) (ha : a % 256 = 0) (hk : k < n) {S : Nat → Bool} (h1 : rd X p (bdP S 0 a 256)) (h2 : ct S a 256 = n) : j ≤ bv X (p + 8 * k) 8 ∧ S (a + bv X (p + 8 * k) 8) = true ∧ ∀ i, j ≤ i → i < bv X (p + 8 * k) 8 → S (a + i) = false := by
  obtain ⟨l1, l2, l3, l4, l5, l6⟩ := h
  have hag := l6 S h1 h2
  have hc : ct S a j = k := by rw [← l4]; exact ct_congr hag
  obtain ⟨e, e1, e2, e3, e4, e5⟩ := ct_nx (S := S) (a := a) (j := j) (n := 256) (by omega)
  obtain ⟨t, ht⟩ := bd_pre S 0 a (show e + 1 ≤ 256 by omega)
  rw [ht, bd0_nx e1 e4 e3, List.append_assoc, rd_app, rd_app, bdP_length S 0 a (by omega), if_neg (by omega), if_pos rfl, hc, nb_low ha] at h1
  have h3 := bv_rd h1.2.1
  rw [Nat.mod_eq_of_lt (by omega)] at h3
  rw [h3]
  exact ⟨e1, e3, e4⟩
theorem lI_step {X : Nat → Bool} {p n a : Nat} {U0 U U2 : Nat → Bool} {j k v : Nat} (h : lI X p n a U0 U j k) (ha : a % 256 = 0) (ha2 : a + 256 ≤ 4096) (hk : k < n) (hv : v = bv X (p + 8 * k) 8) (hj : j ≤ v) (hU : ∀ u, U2 u = (U u || decide (u = a + v))) : lI X p n a U0 U2 (v + 1) (k + 1) := by
  have h0 := h
  obtain ⟨l1, l2, l3, l4, l5, l6⟩ := h
  have hv8 := bv_lt X (p + 8 * k) 8
  rw [← hv, show (2 : Nat) ^ 8 = 256 from rfl] at hv8
  have hlow : ∀ u, u < a + v → U2 u = U u := fun u hu => by rw [hU, decide_eq_false (by omega), Bool.or_false]
  have hs : U2 (a + v) = true := by rw [hU, decide_eq_true rfl, Bool.or_true]
  have hn : ∀ i, j ≤ i → i < v → U2 (a + i) = false := fun i h1 h2 => by rw [hlow _ (by omega)]; exact l3 _ (by omega) (by omega)
  have hbj : bdP U2 0 a j = bdP U 0 a j := by
    have : ∀ i, i ≤ j → bdP U2 0 a i = bdP U 0 a i := by
      intro i
      induction i with
      | zero => intro _; rfl
      | succ i ih => intro hi; rw [bz0_s, bz0_s, ih (by omega), hlow _ (by omega)]
    exact this j (Nat.le_refl _)
  refine ⟨by omega, fun u hu => by rw [hlow u (by omega)]; exact l2 u hu, fun u h1 h2 => by rw [hU, decide_eq_false (by omega), Bool.or_false]; exact l3 u (by omega) h2, ?_, ?_, ?_⟩
  · rw [ct_succ, if_pos hs, ctA_skip hj hn, ← l4]
    congr 1
    exact ct_congr (fun i hi => hlow _ (by omega))
  · rw [bd0_nx hj hn hs, hbj, rd_app]
    refine ⟨l5, ?_⟩
    rw [bdP_length U 0 a (by omega), if_neg (by omega), if_pos rfl, l4, nb_low ha, hv]
    exact rd_bv X _ 8
  · intro S h1 h2 i hi
    obtain ⟨n1, n2, n3⟩ := lI_nx h0 ha hk h1 h2
    rw [← hv] at n1 n2 n3
    rcases (show i < j ∨ j ≤ i ∧ i < v ∨ i = v by omega) with q | ⟨q1, q2⟩ | q
    · rw [l6 S h1 h2 i q, hlow _ (by omega)]
    · rw [n3 i q1 q2, hn i q1 q2]
    · rw [q, n2, hs]
theorem lI_end {X : Nat → Bool} {p n a : Nat} {U0 U : Nat → Bool} {j : Nat} (h : lI X p n a U0 U j n) (ha2 : a + 256 ≤ 4096) : (∀ u, u < a → U u = U0 u) ∧ (∀ u, a + 256 ≤ u → u < 4096 → U u = false) ∧ ct U a 256 = n ∧ rd X p (bdP U 0 a 256) ∧ (∀ S, rd X p (bdP S 0 a 256) → ct S a 256 = n → ∀ i, i < 256 → S (a + i) = U (a + i)) := by
  obtain ⟨l1, l2, l3, l4, l5, l6⟩ := h
  have hn : ∀ i, j ≤ i → i < 256 → U (a + i) = false := fun i h1 h2 => l3 _ (by omega) (by omega)
  refine ⟨l2, fun u h1 h2 => l3 u (by omega) h2, by rw [ctA_skip l1 hn, l4], by rw [bz0_skip l1 hn]; exact l5, fun S h1 h2 i hi => ?_⟩
  rcases Nat.lt_or_ge i j with q | q
  · exact l6 S h1 h2 i q
  · rw [hn i q hi]
    have hc : ct S a j = n := by rw [← l4]; exact ct_congr (l6 S h1 h2)
    exact ct_none (by omega) q hi
/-! runs -/
theorem rlen_uq {S : Nat → Bool} {a i k r : Nat} (h1 : ∀ u, i ≤ u → u < i + r → S (a + u) = true) (h2 : r = k ∨ r < k ∧ S (a + (i + r)) = false) : rlen S a i k = r := by
  induction k generalizing i r with
  | zero => rcases h2 with h2 | h2
            · rw [h2]; rfl
            · omega
  | succ k ih =>
    simp only [rlen]
    rcases Nat.eq_zero_or_pos r with q | q
    · subst q
      rw [if_neg (by rcases h2 with h2 | h2
                     · omega
                     · have h3 := h2.2; rw [Nat.add_zero] at h3; rw [h3]; exact Bool.false_ne_true)]
    · rw [if_pos (h1 i (by omega) (by omega)), ih (i := i + 1) (r := r - 1) (fun u a1 a2 => h1 u (by omega) (by omega)) (by
        rcases h2 with h2 | h2
        · exact Or.inl (by omega)
        · exact Or.inr ⟨by omega, by rw [show i + 1 + (r - 1) = i + r by omega]; exact h2.2⟩)]
      omega
theorem rlen_t {S : Nat → Bool} {a i k u : Nat} (h1 : i ≤ u) (h2 : u < i + rlen S a i k) : S (a + u) = true := by
  induction k generalizing i with
  | zero => simp only [rlen] at h2; omega
  | succ k ih =>
    simp only [rlen] at h2
    by_cases hs : S (a + i) = true
    · rw [if_pos hs] at h2
      rcases (show u = i ∨ i + 1 ≤ u by omega) with q | q
      · rw [q]; exact hs
      · exact ih q (by omega)
    · rw [if_neg hs] at h2; omega
theorem rlen_f {S : Nat → Bool} {a i k : Nat} (h : rlen S a i k < k) : S (a + (i + rlen S a i k)) = false := by
  induction k generalizing i with
  | zero => omega
  | succ k ih =>
    by_cases hs : S (a + i) = true
    · have e : rlen S a i (k + 1) = 1 + rlen S a (i + 1) k := by simp only [rlen]; rw [if_pos hs]
      rw [e] at h ⊢
      have := ih (i := i + 1) (by omega)
      rw [show i + (1 + rlen S a (i + 1) k) = i + 1 + rlen S a (i + 1) k by omega]
      exact this
    · have e : rlen S a i (k + 1) = 0 := by simp only [rlen]; rw [if_neg hs]
      rw [e, Nat.add_zero]; exact eq_false_of_ne_true hs
theorem rlen_stop {S T : Nat → Bool} {a i j k : Nat} (hij : i ≤ j) (h : ∀ u, i ≤ u → u ≤ j → S (a + u) = T (a + u)) (hj : S (a + j) = false) : rlen S a i k = rlen T a i k := by
  induction k generalizing i with
  | zero => rfl
  | succ k ih =>
    simp only [rlen]
    rw [← h i (by omega) hij]
    rcases (show i = j ∨ i + 1 ≤ j by omega) with q | q
    · subst q; rw [hj]; rfl
    · rw [ih q (fun u h1 h2 => h u (by omega) h2)]
theorem bz2_skip {S : Nat → Bool} {a j e : Nat} (hje : j ≤ e) (hn : ∀ i, j ≤ i → i < e → bg S a i = false) : bdP S 2 a e = bdP S 2 a j :=
  skip_eq (S := bg S a) (bdP S 2 a) (fun i hi => by rw [bz2_s, if_neg (by rw [hi]; exact Bool.false_ne_true), List.append_nil]) hje hn
theorem bg_f {S : Nat → Bool} {a i : Nat} (h : S (a + i) = false) : bg S a i = false := by unfold bg; rw [h]; rfl
theorem bg_f2 {S : Nat → Bool} {a i : Nat} (h1 : 1 ≤ i) (h : S (a + (i - 1)) = true) : bg S a i = false := by
  unfold bg; rw [show a + i - 1 = a + (i - 1) by omega, h, decide_eq_false (by omega)]; simp
theorem bg_t {S : Nat → Bool} {a i : Nat} (h : S (a + i) = true) (h0 : i = 0 ∨ 1 ≤ i ∧ S (a + (i - 1)) = false) : bg S a i = true := by
  unfold bg
  rw [h]
  rcases h0 with q | ⟨q, q2⟩
  · rw [decide_eq_true q]; rfl
  · rw [show a + i - 1 = a + (i - 1) by omega, q2]; simp
/-- a run, as it is told -/
theorem run_em {T : Nat → Bool} {a j e r : Nat} (hje : j ≤ e) (h0 : e = 0 ∨ 1 ≤ e ∧ T (a + (e - 1)) = false) (hr : 1 ≤ r) (her : e + r ≤ 256) (hf : ∀ i, j ≤ i → i < e → T (a + i) = false) (ht : ∀ i, e ≤ i → i < e + r → T (a + i) = true) (hz : e + r = 256 ∨ T (a + (e + r)) = false) : bdP T 2 a (e + r) = bdP T 2 a j ++ (nb (a + e) 8 ++ nb (r - 1) 8) ∧ ct (bg T a) 0 (e + r) = ct (bg T a) 0 j + 1 := by
  have g1 : ∀ i, j ≤ i → i < e → bg T a i = false := fun i h1 h2 => bg_f (hf i h1 h2)
  have g2 : ∀ i, e + 1 ≤ i → i < e + r → bg T a i = false := fun i h1 h2 => bg_f2 (by omega) (ht _ (by omega) (by omega))
  have g3 : bg T a e = true := bg_t (ht e (by omega) (by omega)) h0
  have hrl : rlen T a e (256 - e) = r := rlen_uq ht (by
    rcases hz with q | q
    · exact Or.inl (by omega)
    · rcases (show r = 256 - e ∨ r < 256 - e by omega) with q2 | q2
      · exact Or.inl q2
      · exact Or.inr ⟨q2, q⟩)
  refine ⟨?_, ?_⟩
  · rw [bz2_skip (show e + 1 ≤ e + r by omega) g2]
    rw [bz2_s, if_pos g3, hrl, bz2_skip hje g1]
  · rw [ct_skip (S := bg T a) (show e + 1 ≤ e + r by omega) g2, ct_succ, Nat.zero_add, if_pos g3, ct_skip (S := bg T a) hje g1]
theorem bd2_cg {S T : Nat → Bool} {a j : Nat} (h : ∀ u, u ≤ j → S (a + u) = T (a + u)) (hj : S (a + j) = false) : bdP S 2 a j = bdP T 2 a j := by
  have : ∀ i, i ≤ j → bdP S 2 a i = bdP T 2 a i := by
    intro i
    induction i with
    | zero => intro _; rfl
    | succ i ih =>
      intro hi
      rw [bz2_s, bz2_s, ih (by omega), bg_cg (n := j) (fun u hu => h u (by omega)) (by omega), rlen_stop (T := T) (show i ≤ j by omega) (fun u _ h2 => h u h2) hj]
  exact this j (Nat.le_refl _)
theorem bgct_cg {S T : Nat → Bool} {a j : Nat} (h : ∀ u, u < j → S (a + u) = T (a + u)) : ct (bg S a) 0 j = ct (bg T a) 0 j :=
  ct_congr (fun i hi => by rw [Nat.zero_add]; exact bg_cg h hi)
/-- gathered so far of runs: body from p on, n runs -/
def rI (X : Nat → Bool) (p n a : Nat) (U0 U : Nat → Bool) (j k : Nat) : Prop :=
  j ≤ 256 ∧ (∀ u, u < a → U u = U0 u) ∧ (∀ u, a + j ≤ u → u < 4096 → U u = false) ∧ ct (bg U a) 0 j = k ∧ rd X p (bdP U 2 a j) ∧ (∀ S, rd X p (bdP S 2 a 256) → ct (bg S a) 0 256 = n → (∀ i, i < j → S (a + i) = U (a + i)) ∧ (j = 0 ∨ j = 256 ∨ S (a + j) = false))
theorem rI_0 {X : Nat → Bool} {p n a : Nat} {U : Nat → Bool} (hU : ∀ u, a ≤ u → u < 4096 → U u = false) : rI X p n a U U 0 0 :=
  ⟨by omega, fun _ _ => rfl, fun u h1 h2 => hU u (by omega) h2, rfl, rd_nil, fun _ _ _ => ⟨fun i hi => absurd hi (by omega), Or.inl rfl⟩⟩
/-- the next run of a set -/
theorem run_nx {X : Nat → Bool} {p a : Nat} {S : Nat → Bool} {j k : Nat} (ha : a % 256 = 0) (h1 : rd X p (bdP S 2 a 256)) (hc : ct (bg S a) 0 j = k) (hk : k < ct (bg S a) 0 256) (hj : j = 0 ∨ j = 256 ∨ S (a + j) = false) : ∃ e r, j ≤ e ∧ (j = 0 ∨ j + 1 ≤ e) ∧ 1 ≤ r ∧ e + r ≤ 256 ∧ (e = 0 ∨ 1 ≤ e ∧ S (a + (e - 1)) = false) ∧ (∀ i, j ≤ i → i < e → S (a + i) = false) ∧ (∀ i, e ≤ i → i < e + r → S (a + i) = true) ∧ (e + r = 256 ∨ S (a + (e + r)) = false) ∧ bv X (p + 16 * k) 8 = e ∧ bv X (p + 16 * k + 8) 8 = r - 1 := by
  obtain ⟨e, e1, e2, e3, e4, e5⟩ := ct_nx (S := bg S a) (a := 0) (j := j) (n := 256) (by omega)
  rw [Nat.zero_add] at e3
  have hse : S (a + e) = true := by unfold bg at e3; simp only [Bool.and_eq_true] at e3; exact e3.1
  have hje : j = 0 ∨ j + 1 ≤ e := by
    rcases hj with q | q | q
    · exact Or.inl q
    · omega
    · rcases (show j = e ∨ j + 1 ≤ e by omega) with q2 | q2
      · rw [q2, hse] at q; cases q
      · exact Or.inr q2
  have hf : ∀ d i, i = j + d → i < e → S (a + i) = false := by
    intro d
    induction d with
    | zero =>
      intro i hi hie
      rcases hj with q | q | q
      · by_cases hs : S (a + i) = true
        · have := e4 i (by omega) hie
          rw [Nat.zero_add, bg_t hs (Or.inl (by omega))] at this; cases this
        · exact eq_false_of_ne_true hs
      · omega
      · rw [hi]; exact q
    | succ d ih =>
      intro i hi hie
      by_cases hs : S (a + i) = true
      · have := e4 i (by omega) hie
        rw [Nat.zero_add, bg_t hs (Or.inr ⟨by omega, ih (i - 1) (by omega) (by omega)⟩)] at this; cases this
      · exact eq_false_of_ne_true hs
  have hf2 : ∀ i, j ≤ i → i < e → S (a + i) = false := fun i h1 h2 => hf (i - j) i (by omega) h2
  have h0 : e = 0 ∨ 1 ≤ e ∧ S (a + (e - 1)) = false := by
    rcases (show e = 0 ∨ 1 ≤ e by omega) with q | q
    · exact Or.inl q
    · refine Or.inr ⟨q, ?_⟩
      unfold bg at e3
      rw [hse, decide_eq_false (by omega), show a + e - 1 = a + (e - 1) by omega] at e3
      simpa using e3
  have r1 := rlen_1 (S := S) (a := a) (i := e) (k := 256 - e) hse (by omega)
  have r2 := rlen_le S a e (256 - e)
  have r3 : ∀ i, e ≤ i → i < e + rlen S a e (256 - e) → S (a + i) = true := fun i h1 h2 => rlen_t h1 h2
  have r4 : e + rlen S a e (256 - e) = 256 ∨ S (a + (e + rlen S a e (256 - e))) = false := by
    rcases (show rlen S a e (256 - e) = 256 - e ∨ rlen S a e (256 - e) < 256 - e by omega) with q | q
    · exact Or.inl (by omega)
    · exact Or.inr (rlen_f q)
  obtain ⟨r, hr⟩ : ∃ r, r = rlen S a e (256 - e) := ⟨_, rfl⟩
  rw [← hr] at r1 r2 r3 r4
  obtain ⟨m1, m2⟩ := run_em e1 h0 r1 (by omega) hf2 r3 r4
  obtain ⟨t, ht⟩ := bd_pre S 2 a (show e + r ≤ 256 by omega)
  rw [ht, m1, rd_app, rd_app, rd_app, bdP_length S 2 a (by omega), if_neg (by omega), if_neg (by omega), hc, nb_length, nb_low ha] at h1
  have b1 := bv_rd h1.1.2.1
  have b2 := bv_rd h1.1.2.2
  rw [Nat.mod_eq_of_lt (by omega)] at b1 b2
  exact ⟨e, r, e1, hje, r1, by omega, h0, hf2, r3, r4, b1, b2⟩
theorem rI_nx {X : Nat → Bool} {p n a : Nat} {U0 U : Nat → Bool} {j k : Nat} (h : rI X p n a U0 U j k) (ha : a % 256 = 0) (hk : k < n) {S : Nat → Bool} (h1 : rd X p (bdP S 2 a 256)) (h2 : ct (bg S a) 0 256 = n) : (j = 0 ∨ j + 1 ≤ bv X (p + 16 * k) 8) ∧ bv X (p + 16 * k) 8 + bv X (p + 16 * k + 8) 8 < 256 ∧ (∀ i, j ≤ i → i < bv X (p + 16 * k) 8 → S (a + i) = false) ∧ (∀ i, bv X (p + 16 * k) 8 ≤ i → i < bv X (p + 16 * k) 8 + bv X (p + 16 * k + 8) 8 + 1 → S (a + i) = true) ∧ (bv X (p + 16 * k) 8 + bv X (p + 16 * k + 8) 8 + 1 = 256 ∨ S (a + (bv X (p + 16 * k) 8 + bv X (p + 16 * k + 8) 8 + 1)) = false) := by
  obtain ⟨l1, l2, l3, l4, l5, l6⟩ := h
  obtain ⟨a1, a2⟩ := l6 S h1 h2
  have hc : ct (bg S a) 0 j = k := by rw [← l4]; exact bgct_cg a1
  obtain ⟨e, r, e1, e2, e3, e4, e5, e6, e7, e8, b1, b2⟩ := run_nx ha h1 hc (by omega) a2
  rw [b1, b2, show e + (r - 1) + 1 = e + r by omega]
  exact ⟨e2, by omega, e6, e7, e8⟩
theorem rI_step {X : Nat → Bool} {p n a : Nat} {U0 U U2 : Nat → Bool} {j k e r : Nat} (h : rI X p n a U0 U j k) (ha : a % 256 = 0) (ha2 : a + 256 ≤ 4096) (hk : k < n) (he : e = bv X (p + 16 * k) 8) (hr : r = bv X (p + 16 * k + 8) 8 + 1) (hj : j = 0 ∨ j + 1 ≤ e) (her : e + r ≤ 256) (hU : ∀ u, U2 u = (U u || decide (a + e ≤ u ∧ u < a + (e + r)))) : rI X p n a U0 U2 (e + r) (k + 1) := by
  have hh := h
  obtain ⟨l1, l2, l3, l4, l5, l6⟩ := h
  have hlow : ∀ u, u < a + e → U2 u = U u := fun u hu => by rw [hU, decide_eq_false (by omega), Bool.or_false]
  have ht : ∀ i, e ≤ i → i < e + r → U2 (a + i) = true := fun i h1 h2 => by rw [hU, decide_eq_true (by omega), Bool.or_true]
  have hup : ∀ u, a + (e + r) ≤ u → u < 4096 → U2 u = false := fun u h1 h2 => by rw [hU, decide_eq_false (by omega), Bool.or_false]; exact l3 u (by omega) h2
  have hf : ∀ i, j ≤ i → i < e → U2 (a + i) = false := fun i h1 h2 => by rw [hlow _ (by omega)]; exact l3 _ (by omega) (by omega)
  have h0 : e = 0 ∨ 1 ≤ e ∧ U2 (a + (e - 1)) = false := by
    rcases (show e = 0 ∨ 1 ≤ e by omega) with q | q
    · exact Or.inl q
    · exact Or.inr ⟨q, hf _ (by omega) (by omega)⟩
  have hz : e + r = 256 ∨ U2 (a + (e + r)) = false := by
    rcases (show e + r = 256 ∨ e + r < 256 by omega) with q | q
    · exact Or.inl q
    · exact Or.inr (hup _ (by omega) (by omega))
  obtain ⟨m1, m2⟩ := run_em (show j ≤ e by omega) h0 (by omega) her hf ht hz
  have hbj : bdP U2 2 a j = bdP U 2 a j := by
    rcases hj with q | q
    · rw [q]; rfl
    · exact (bd2_cg (S := U) (T := U2) (fun u hu => (hlow _ (by omega)).symm) (l3 _ (by omega) (by omega))).symm
  have hcj : ct (bg U2 a) 0 j = k := by rw [← l4]; exact bgct_cg (fun u hu => hlow _ (by omega))
  refine ⟨her, fun u hu => by rw [hlow u (by omega)]; exact l2 u hu, hup, by rw [m2, hcj], ?_, ?_⟩
  · rw [m1, hbj, rd_app, rd_app, nb_length, bdP_length U 2 a (by omega), if_neg (by omega), if_neg (by omega), l4, nb_low ha]
    refine ⟨l5, ?_, ?_⟩
    · rw [he]; exact rd_bv X _ 8
    · rw [hr, Nat.add_sub_cancel]; exact rd_bv X _ 8
  · intro S h1 h2
    obtain ⟨n1, n2, n3, n4, n5⟩ := rI_nx hh ha hk h1 h2
    rw [Nat.add_assoc, ← hr, ← he] at n4 n5
    rw [← he] at n3
    refine ⟨fun i hi => ?_, Or.inr n5⟩
    rcases (show i < j ∨ j ≤ i ∧ i < e ∨ e ≤ i by omega) with q | ⟨q1, q2⟩ | q
    · rw [(l6 S h1 h2).1 i q, hlow _ (by omega)]
    · rw [n3 i q1 q2, hf i q1 q2]
    · rw [n4 i q hi, ht i q hi]
theorem rI_end {X : Nat → Bool} {p n a : Nat} {U0 U : Nat → Bool} {j : Nat} (h : rI X p n a U0 U j n) (ha2 : a + 256 ≤ 4096) : (∀ u, u < a → U u = U0 u) ∧ (∀ u, a + 256 ≤ u → u < 4096 → U u = false) ∧ ct (bg U a) 0 256 = n ∧ rd X p (bdP U 2 a 256) ∧ (∀ S, rd X p (bdP S 2 a 256) → ct (bg S a) 0 256 = n → ∀ i, i < 256 → S (a + i) = U (a + i)) := by
  obtain ⟨l1, l2, l3, l4, l5, l6⟩ := h
  have hn : ∀ i, j ≤ i → i < 256 → U (a + i) = false := fun i h1 h2 => l3 _ (by omega) (by omega)
  have hg : ∀ i, j ≤ i → i < 256 → bg U a i = false := fun i h1 h2 => bg_f (hn i h1 h2)
  refine ⟨l2, fun u h1 h2 => l3 u (by omega) h2, by rw [ct_skip (S := bg U a) l1 hg, l4], by rw [bz2_skip l1 hg]; exact l5, fun S h1 h2 i hi => ?_⟩
  obtain ⟨a1, a2⟩ := l6 S h1 h2
  rcases Nat.lt_or_ge i j with q | q
  · exact a1 i q
  · rw [hn i q hi]
    have hc : ct (bg S a) 0 j = n := by rw [← l4]; exact bgct_cg a1
    have hb : ∀ i, j ≤ i → i < 256 → bg S a i = false := fun i h3 h4 => by
      have := ct_none (S := bg S a) (a := 0) (j := j) (n := 256) (by omega) h3 h4
      rw [Nat.zero_add] at this; exact this
    have : ∀ d i, i = j + d → i < 256 → S (a + i) = false := by
      intro d
      induction d with
      | zero =>
        intro i hi hie
        rcases a2 with q | q | q
        · by_cases hs : S (a + i) = true
          · have := hb i (by omega) hie
            rw [bg_t hs (Or.inl (by omega))] at this; cases this
          · exact eq_false_of_ne_true hs
        · omega
        · rw [hi]; exact q
      | succ d ih =>
        intro i hi hie
        by_cases hs : S (a + i) = true
        · have := hb i (by omega) hie
          rw [bg_t hs (Or.inr ⟨by omega, ih (i - 1) (by omega) (by omega)⟩)] at this; cases this
        · exact eq_false_of_ne_true hs
    exact this (i - j) i (by omega) hi
/-! bits -/
theorem bd1_get (S : Nat → Bool) (a : Nat) {n i : Nat} (hi : i < n) : (bdP S 1 a n).getD i false = S (a + i) := by
  induction n with
  | zero => omega
  | succ n ih =>
    have hl : (bdP S 1 a n).length = n := by rw [bdP_length S 1 a (by omega), if_pos rfl]
    rw [bz1_s]
    rcases (show i < n ∨ i = n by omega) with q | q
    · rw [getD_app1 (by omega), ih q]
    · subst q
      have := getD_app2 (bdP S 1 a i) [S (a + i)] 0
      rw [hl, Nat.add_zero] at this
      rw [this]; rfl
theorem rd_bits {X : Nat → Bool} {p a : Nat} {S : Nat → Bool} : rd X p (bdP S 1 a 256) ↔ ∀ i, i < 256 → S (a + i) = X (p + i) := by
  have hl : (bdP S 1 a 256).length = 256 := by rw [bdP_length S 1 a (by omega), if_pos rfl]
  constructor
  · intro h i hi; rw [h i (by omega), bd1_get S a hi]
  · intro h i hi; rw [hl] at hi; rw [bd1_get S a hi, h i hi]
