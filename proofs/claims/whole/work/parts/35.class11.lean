/-! the history and the whole, in the memory -/
def pOk (Sh : q_Sh) (p : Nat) : Prop := q_is Sh p 4 ∧ (Sh.2.2 p 2 = some (p + 1) ∧ q_ar Sh (p + 1) 6 7) ∧ (∀ j, j < 7 → Sh.2.2 (p + 1) j = some (p + 2 + 47 * j)) ∧ (∀ j, j < 7 → cOk Sh (p + 2 + 47 * j))
theorem pR {Sh : q_Sh} {p : Nat} (h : pOk Sh p) : Sh.2.2 p 2 = some (p + 1) := h.2.1.1
theorem pA {Sh : q_Sh} {p : Nat} (h : pOk Sh p) : q_ar Sh (p + 1) 6 7 := h.2.1.2
def dOk (Sh : q_Sh) (d : Nat) : Prop := q_is Sh d 6 ∧ (Sh.2.2 d 0 = some (d + 1) ∧ cOk Sh (d + 1)) ∧ (Sh.2.2 d 1 = some (d + 48) ∧ cOk Sh (d + 48)) ∧ (Sh.2.2 d 2 = some (d + 95) ∧ pOk Sh (d + 95)) ∧ (Sh.2.2 d 3 = some (d + 426) ∧ q_ar Sh (d + 426) 6 2) ∧ (Sh.2.2 d 4 = some (d + 427) ∧ q_is Sh (d + 427) 2) ∧ (Sh.2.2 (d + 427) 7 = some (d + 428) ∧ q_ar Sh (d + 428) 2 80)
theorem dn {Sh : q_Sh} {d : Nat} (h : dOk Sh d) : Sh.2.2 d 0 = some (d + 1) := h.2.1.1
theorem dN {Sh : q_Sh} {d : Nat} (h : dOk Sh d) : cOk Sh (d + 1) := h.2.1.2
theorem da {Sh : q_Sh} {d : Nat} (h : dOk Sh d) : Sh.2.2 d 1 = some (d + 48) := h.2.2.1.1
theorem dA {Sh : q_Sh} {d : Nat} (h : dOk Sh d) : cOk Sh (d + 48) := h.2.2.1.2
theorem dp {Sh : q_Sh} {d : Nat} (h : dOk Sh d) : Sh.2.2 d 2 = some (d + 95) := h.2.2.2.1.1
theorem dP {Sh : q_Sh} {d : Nat} (h : dOk Sh d) : pOk Sh (d + 95) := h.2.2.2.1.2
theorem dsl {Sh : q_Sh} {d : Nat} (h : dOk Sh d) : Sh.2.2 d 3 = some (d + 426) := h.2.2.2.2.1.1
theorem dSA {Sh : q_Sh} {d : Nat} (h : dOk Sh d) : q_ar Sh (d + 426) 6 2 := h.2.2.2.2.1.2
theorem dpd {Sh : q_Sh} {d : Nat} (h : dOk Sh d) : Sh.2.2 d 4 = some (d + 427) := h.2.2.2.2.2.1.1
theorem dPd {Sh : q_Sh} {d : Nat} (h : dOk Sh d) : q_is Sh (d + 427) 2 := h.2.2.2.2.2.1.2
theorem Rc.loc {T F b : Nat} {I J : q_Mem} {σ : a_A} (h : Rc T F b I σ) (e : ∀ l, b ≤ l → l < b + 47 → J l = I l) : Rc T F b J σ := by
  obtain ⟨⟨⟨hT, hF⟩, ⟨h1, h2, h3⟩, h4, h5, h6⟩, hw, hW⟩ := h
  refine ⟨⟨⟨hT, hF⟩, ⟨by rw [e b (by omega) (by omega)]; exact h1, by rw [e b (by omega) (by omega)]; exact h2, by rw [e b (by omega) (by omega)]; exact h3⟩, fun i hi => ?_, fun f hf => ?_, fun q hq => ?_⟩, fun i hi => ?_, hW⟩
  · rw [e (b + 4 + i) (by omega) (by omega)]; exact h4 i hi
  · rw [e (b + 34 + f) (by omega) (by omega)]; exact h5 f hf
  · rw [e (b + 39 + q) (by omega) (by omega)]; exact h6 q hq
  · rw [e (b + 4 + i) (by omega) (by omega)]; exact hw i hi
theorem Rs.loc {b : Nat} {I J : q_Mem} {σ : a_A} (h : Rs b I σ) (e : ∀ l, b ≤ l → l < b + 47 → J l = I l) : Rs b J σ := Rc.loc h e
theorem Rs.far {b c : Nat} {I J : q_Mem} {σ : a_A} (h : Rs b I σ) (k : Fr c I J) (hd : b + 47 ≤ c ∨ c + 47 ≤ b) : Rs b J σ := h.loc fun l h1 h2 => k l (by omega)
def Pr (p : Nat) (I : q_Mem) (u n : Nat) (H : Nat → a_A) : Prop := I p 0 = nI u ∧ I p 1 = nI n ∧ u ≤ 6 ∧ n < 7 ∧ ∀ i, i < u → Rs (p + 2 + 47 * ((n + 7 - u + i) % 7)) I (H i)
def a_push (u : Nat) (H : Nat → a_A) (σ : a_A) : Nat → a_A := fun i => if u = 6 then (if i = 5 then σ else H (i + 1)) else if i = u then σ else H i
theorem Pr.note {p u n : Nat} {I J : q_Mem} {H : Nat → a_A} (h : Pr p I u n H) (k : Fr (p + 2 + 47 * n) I J) : Pr p J u n H := by
  obtain ⟨h1, h2, hu, hn, h3⟩ := h
  refine ⟨by rw [k p (by omega)]; exact h1, by rw [k p (by omega)]; exact h2, hu, hn, fun i hi => (h3 i hi).far k ?_⟩
  have h7 : (n + 7 - u + i) % 7 ≠ n := by omega
  omega
theorem Pr.far {p b u n : Nat} {I J : q_Mem} {H : Nat → a_A} (h : Pr p I u n H) (k : Fr b I J) (hb : b + 47 ≤ p) : Pr p J u n H := by
  obtain ⟨h1, h2, hu, hn, h3⟩ := h
  exact ⟨by rw [k p (by omega)]; exact h1, by rw [k p (by omega)]; exact h2, hu, hn, fun i hi => (h3 i hi).far k (by omega)⟩
def kpM (p : Nat) (I : q_Mem) (u n : Nat) : q_Mem := q_setA I p (upd (upd (I p) 1 (nI ((n + 1) % 7))) 0 (nI (a_recN u)))
theorem Pr.keep {p u n : Nat} {I : q_Mem} {H : Nat → a_A} {σ : a_A} (h : Pr p I u n H) (hs : Rs (p + 2 + 47 * n) I σ) : Pr p (kpM p I u n) (a_recN u) ((n + 1) % 7) (a_push u H σ) := by
  obtain ⟨h1, h2, hu, hn, h3⟩ := h
  have hlc : ∀ m τ, m < 7 → Rs (p + 2 + 47 * m) I τ → Rs (p + 2 + 47 * m) (kpM p I u n) τ := fun m τ hm h => h.loc fun l e1 e2 => q_setA_ne (by omega)
  refine ⟨by rw [kpM, q_setA_at, q_upd_at], by rw [kpM, q_setA_at, q_upd_ne (by decide), q_upd_at], by unfold a_recN; split <;> omega, by omega, fun i hi => ?_⟩
  unfold a_recN at hi ⊢
  unfold a_push
  by_cases e6 : u = 6
  · rw [if_pos e6] at hi ⊢
    rw [if_pos e6]
    by_cases e5 : i = 5
    · rw [if_pos e5, show ((n + 1) % 7 + 7 - 6 + i) % 7 = n by omega]; exact hlc n _ hn hs
    · rw [if_neg e5, show ((n + 1) % 7 + 7 - 6 + i) % 7 = (n + 7 - u + (i + 1)) % 7 by omega]; exact hlc _ _ (by omega) (h3 (i + 1) (by omega))
  · rw [if_neg e6] at hi ⊢
    rw [if_neg e6]
    by_cases e5 : i = u
    · rw [if_pos e5, show ((n + 1) % 7 + 7 - (u + 1) + i) % 7 = n by omega]; exact hlc n _ hn hs
    · rw [if_neg e5, show ((n + 1) % 7 + 7 - (u + 1) + i) % 7 = (n + 7 - u + i) % 7 by omega]; exact hlc _ _ (by omega) (h3 i (by omega))
def Ds (d : Nat) (I : q_Mem) (σ : a_A) (u : Nat) (H : Nat → a_A) : Prop := Rs (d + 1) I σ ∧ ∃ n, Pr (d + 95) I u n H
def FrD (d : Nat) (I J : q_Mem) : Prop := ∀ l, (l < d + 1 ∨ d + 426 ≤ l) → J l = I l
def Dn (d : Nat) (I : q_Mem) (ref yes : Int32) (σ σ' : a_A) (u : Nat) (H : Nat → a_A) (w : Option Value) (J : q_Mem) : Prop := ∃ v, w = some (.int v) ∧ ((ref ≠ 0 ∧ v = ref ∧ Ds d J σ u H) ∨ (ref = 0 ∧ v = yes ∧ Ds d J σ' (a_recN u) (a_push u H σ))) ∧ FrD d I J
theorem Dn_fr {d : Nat} {I : q_Mem} {ref yes : Int32} {σ' : a_A} {w : Option Value} {J : q_Mem} (h : Cg (d + 1) I ref yes σ' w J) : Fr (d + 1) I J := by
  obtain ⟨v, -, ⟨-, -, rfl⟩ | ⟨-, -, -, h⟩⟩ := h
  · exact Fr.rf
  · exact h
theorem Dn_fin {d u n : Nat} {I I1 J : q_Mem} {ref yes v : Int32} {σ σ' : a_A} {H : Nat → a_A} (hF : Fr (d + 95 + 2 + 47 * n) I I1) (hn : n < 7) (hP : Pr (d + 95) I1 u n H) (hs : Rs (d + 95 + 2 + 47 * n) I1 σ) (hR : Rs (d + 1) I1 σ)
    (h : Cg (d + 1) I1 ref yes σ' (some (.int v)) J) (hneg : ref ≠ 0 → ref < 0) (hpos : ref = 0 → ¬ yes < 0) : Dn d I ref yes σ σ' u H (some (.int v)) (if v < 0 then J else kpM (d + 95) J u n) := by
  have hfr := Dn_fr h
  obtain ⟨v2, ev, h⟩ := h
  injection ev with ev
  injection ev with ev
  subst ev
  refine ⟨v, rfl, ?_, ?_⟩
  · rcases h with ⟨h0, rfl, rfl⟩ | ⟨h0, rfl, h1, h2⟩
    · rw [if_pos (hneg h0)]
      exact Or.inl ⟨h0, rfl, hR, n, hP⟩
    · rw [if_neg (hpos h0)]
      exact Or.inr ⟨h0, rfl, h1.loc (fun l e1 e2 => q_setA_ne (by omega)), _, (hP.far h2 (by omega)).keep (hs.far h2 (by omega))⟩
  · intro l hl
    have e : J l = I l := (hfr l (by omega)).trans (hF l (by omega))
    split
    · exact e
    · rw [kpM, q_setA_ne (by omega)]; exact e
theorem a_rem7 : ∀ n, n < 7 → (nI n + nI 1) - (nI n + nI 1) / nI 7 * nI 7 = nI ((n + 1) % 7) := by decide +kernel
theorem a_rem76 : ∀ n, n < 7 → (nI n + nI 6) - (nI n + nI 6) / nI 7 * nI 7 = nI ((n + 6) % 7) := by decide +kernel
theorem a_min6 : ∀ u, u ≤ 6 → (if nI 6 < nI u + nI 1 then nI 6 else nI u + nI 1) = nI (a_recN u) := by decide +kernel
set_option maxRecDepth 100000 in
set_option maxHeartbeats 4000000 in
theorem s_X4_nextPlace {Sh : q_Sh} {I : q_Mem} {p n : Nat} (hc : pOk Sh p) (h1 : I p 1 = nI n) (hn : n < 7) : q_Rt mX4_nextPlace 0 [.ref p] Sh (I) (some (.ref (p + 2 + 47 * n))) (I) := by
  refine q_rt_of (by decide) (Nat.le_of_ble_eq_true rfl) fun Γ BM => ?_
  have B := BM.1
  show q_W Γ mX4_nextPlace 0 0 Sh (I) 0 [(0, .ref p)] []
  refine q_aload_n B dX4_nextPlace_0 rfl rfl ?_
  refine q_getI2 B kC_X4 (k := 1) (by decide) rfl kf_X4_15 hc.1 h1 dX4_nextPlace_1 ?_
  refine q_if_lt (tgt := 31) B dX4_nextPlace_4 (by decide) (fun h => absurd h ((nI_pos (by omega)))) (fun _ => ?_)
  refine q_aload_n B dX4_nextPlace_7 rfl rfl ?_
  refine q_getI2 B kC_X4 (k := 1) (by decide) rfl kf_X4_15 hc.1 h1 dX4_nextPlace_8 ?_
  refine q_aload_n B dX4_nextPlace_11 rfl rfl ?_
  refine q_getR B kC_X4 (k := 2) (by decide) rfl kf_X4_20 hc.1 (pR hc) dX4_nextPlace_12 ?_
  refine q_alen B (pA hc) rfl dX4_nextPlace_15 ?_
  refine q_icmp_ge (tgt := 31) B dX4_nextPlace_16 (by decide) (fun h => absurd h ((q_nle (b := n) (a := 7) (by omega) (by decide)))) (fun _ => ?_)
  refine q_aload_n B dX4_nextPlace_19 rfl rfl ?_
  refine q_getR B kC_X4 (k := 2) (by decide) rfl kf_X4_20 hc.1 (pR hc) dX4_nextPlace_20 ?_
  refine q_aload_n B dX4_nextPlace_23 rfl rfl ?_
  refine q_getI2 B kC_X4 (k := 1) (by decide) rfl kf_X4_15 hc.1 h1 dX4_nextPlace_24 ?_
  refine q_aaload B (pA hc) rfl (vp_in_nI (by omega) (by decide)) (by rw [nI_clamp (by omega)]; exact hc.2.2.1 n hn) dX4_nextPlace_27 ?_
  refine q_goto (tgt := 32) B dX4_nextPlace_28 (by decide) ?_
  exact q_aret BM rfl dX4_nextPlace_32 ⟨rfl, rfl, rfl⟩
set_option maxRecDepth 100000 in
set_option maxHeartbeats 4000000 in
theorem s_X4_note {Sh : q_Sh} {I : q_Mem} {p n : Nat} (hc : pOk Sh p) (h1 : I p 1 = nI n) (hn : n < 7) {b T F : Nat} {σ : a_A} (hcc : cOk Sh b) (hR : Rc T F b I σ) (hd : b + 47 ≤ p) : q_Rp mX4_note 2 [.ref p, .ref b] Sh (I) (fun w I2 => w = none ∧ Rc T F (p + 2 + 47 * n) I2 σ ∧ Fr (p + 2 + 47 * n) I I2) := by
  refine q_rp_of (by decide) (Nat.le_of_ble_eq_true rfl) fun Γ BM => ?_
  have B := BM.1
  show q_W Γ mX4_note 0 0 Sh (I) 0 [(0, .ref p), (1, .ref b)] []
  refine q_aload_n B dX4_note_0 rfl rfl ?_
  refine q_rtV B (s_X4_nextPlace hc h1 hn) kv_yX4_nextPlace ki_yX4_nextPlace ks_yX4_nextPlace km_X4_25 rfl (ci := 4) rfl rfl hc.1 (by decide) rfl (Nat.le_of_ble_eq_true rfl) dX4_note_1 ?_
  refine q_astore_n B dX4_note_4 rfl (Nat.le_of_ble_eq_true rfl) rfl ?_
  refine q_aload_n B dX4_note_5 rfl rfl ?_
  refine q_ifnull B dX4_note_6 ?_
  refine q_aload_n B dX4_note_9 rfl rfl ?_
  refine q_aload_n B dX4_note_10 rfl rfl ?_
  refine q_rpV B (s_X0_copyFrom (hc.2.2.2 n hn) hcc hR (by omega)) kv_yX0_copyFrom ki_yX0_copyFrom ks_yX0_copyFrom km_X4_29 rfl (ci := 0) rfl rfl (hc.2.2.2 n hn).1 (by decide) rfl (Nat.le_of_ble_eq_true rfl) dX4_note_11 (fun w I2 hx => ?_)
  obtain ⟨rfl, h2, h3⟩ := hx
  exact q_vret BM rfl dX4_note_14 ⟨rfl, rfl, h2, h3⟩
set_option maxRecDepth 100000 in
set_option maxHeartbeats 4000000 in
theorem s_X4_keep {Sh : q_Sh} {I : q_Mem} {p u n : Nat} (hc : pOk Sh p) (h0 : I p 0 = nI u) (h1 : I p 1 = nI n) (hu : u ≤ 6) (hn : n < 7) : q_Rt mX4_keep 1 [.ref p] Sh (I) (none) (kpM p I u n) := by
  refine q_rt_of (by decide) (Nat.le_of_ble_eq_true rfl) fun Γ BM => ?_
  have B := BM.1
  show q_W Γ mX4_keep 0 0 Sh (I) 0 [(0, .ref p)] []
  refine q_aload_n B dX4_keep_0 rfl rfl ?_
  refine q_aload_n B dX4_keep_1 rfl rfl ?_
  refine q_getI2 B kC_X4 (k := 1) (by decide) rfl kf_X4_15 hc.1 h1 dX4_keep_2 ?_
  refine q_iconst (v := nI 1) B dX4_keep_5 rfl ?_
  refine q_iadd B dX4_keep_6 ?_
  refine q_bipush (v := nI 7) B dX4_keep_7 rfl ?_
  refine q_irem B dX4_keep_9 (by decide) ?_
  refine q_top (a_rem7 n hn) ?_
  refine q_putI2 B kC_X4 (k := 1) (by decide) rfl kf_X4_15 rfl rfl rfl hc.1 dX4_keep_10 ?_
  refine q_aload_n B dX4_keep_13 rfl rfl ?_
  refine q_aload_n B dX4_keep_14 rfl rfl ?_
  refine q_getI2 B kC_X4 (k := 0) (by decide) rfl kf_X4_9 hc.1 ((congrFun (q_setA_at _ _ _) 0).trans ((q_upd_ne (by decide)).trans h0)) dX4_keep_15 ?_
  refine q_iconst (v := nI 1) B dX4_keep_18 rfl ?_
  refine q_iadd B dX4_keep_19 ?_
  refine q_bipush (v := nI 6) B dX4_keep_20 rfl ?_
  refine q_mmin B km_X4_33 kt_mmin k0_J9 kc_mmin (by decide) (Nat.le_of_ble_eq_true rfl) dX4_keep_22 ?_
  refine q_top (a_min6 u hu) ?_
  refine q_putI2 B kC_X4 (k := 0) (by decide) rfl kf_X4_9 rfl rfl rfl hc.1 dX4_keep_25 ?_
  exact q_vret BM rfl dX4_keep_28 ⟨rfl, rfl, by rw [kpM, q_setA_setA, q_setA_at]⟩
set_option maxRecDepth 100000 in
set_option maxHeartbeats 4000000 in
theorem s_X4_takeBack {Sh : q_Sh} {I : q_Mem} {p v n : Nat} (hc : pOk Sh p) (h0 : I p 0 = nI (v + 1)) (h1 : I p 1 = nI n) (hv : v < 6) (hn : n < 7) {b T F : Nat} {σ : a_A} (hcc : cOk Sh b) (hR : Rc T F (p + 2 + 47 * ((n + 6) % 7)) I σ) (hd : b + 47 ≤ p) : q_Rp mX4_takeBack 2 [.ref p, .ref b] Sh (I) (fun w I2 => w = none ∧ Rc T F b I2 σ ∧ Fr b (q_setA I p (upd (upd (I p) 1 (nI ((n + 6) % 7))) 0 (nI v))) I2) := by
  refine q_rp_of (by decide) (Nat.le_of_ble_eq_true rfl) fun Γ BM => ?_
  have B := BM.1
  have hm : (n + 6) % 7 < 7 := by omega
  have hR1 : Rc T F (p + 2 + 47 * ((n + 6) % 7)) (q_setA I p (upd (upd (I p) 1 (nI ((n + 6) % 7))) 0 (nI v))) σ := hR.loc fun l e1 e2 => q_setA_ne (by omega)
  show q_W Γ mX4_takeBack 0 0 Sh (I) 0 [(0, .ref p), (1, .ref b)] []
  refine q_aload_n B dX4_takeBack_0 rfl rfl ?_
  refine q_aload_n B dX4_takeBack_1 rfl rfl ?_
  refine q_getI2 B kC_X4 (k := 1) (by decide) rfl kf_X4_15 hc.1 h1 dX4_takeBack_2 ?_
  refine q_bipush (v := nI 6) B dX4_takeBack_5 rfl ?_
  refine q_iadd B dX4_takeBack_7 ?_
  refine q_bipush (v := nI 7) B dX4_takeBack_8 rfl ?_
  refine q_irem B dX4_takeBack_10 (by decide) ?_
  refine q_top (a_rem76 n hn) ?_
  refine q_putI2 B kC_X4 (k := 1) (by decide) rfl kf_X4_15 rfl rfl rfl hc.1 dX4_takeBack_11 ?_
  refine q_aload_n B dX4_takeBack_14 rfl rfl ?_
  refine q_dup B dX4_takeBack_15 rfl ?_
  refine q_getI2 B kC_X4 (k := 0) (by decide) rfl kf_X4_9 hc.1 ((congrFun (q_setA_at _ _ _) 0).trans ((q_upd_ne (by decide)).trans h0)) dX4_takeBack_16 ?_
  refine q_iconst (v := nI 1) B dX4_takeBack_19 rfl ?_
  refine q_isub B dX4_takeBack_20 ?_
  refine q_top (y := nI v) (by rw [q_nI_sub (by omega)]; rfl) ?_
  refine q_putI2 B kC_X4 (k := 0) (by decide) rfl kf_X4_9 rfl rfl rfl hc.1 dX4_takeBack_21 ?_
  rw [q_setA_setA, q_setA_at]
  refine q_aload_n B dX4_takeBack_24 rfl rfl ?_
  refine q_rtV B (s_X4_nextPlace hc (n := (n + 6) % 7) (by rw [q_setA_at, q_upd_ne (by decide), q_upd_at]) hm) kv_yX4_nextPlace ki_yX4_nextPlace ks_yX4_nextPlace km_X4_25 rfl (ci := 4) rfl rfl hc.1 (by decide) rfl (Nat.le_of_ble_eq_true rfl) dX4_takeBack_25 ?_
  refine q_astore_n B dX4_takeBack_28 rfl (Nat.le_of_ble_eq_true rfl) rfl ?_
  refine q_aload_n B dX4_takeBack_29 rfl rfl ?_
  refine q_ifnull B dX4_takeBack_30 ?_
  refine q_aload_n B dX4_takeBack_33 rfl rfl ?_
  refine q_aload_n B dX4_takeBack_34 rfl rfl ?_
  refine q_rpV B (s_X0_copyFrom hcc (hc.2.2.2 _ hm) hR1 (by omega)) kv_yX0_copyFrom ki_yX0_copyFrom ks_yX0_copyFrom km_X4_29 rfl (ci := 0) rfl rfl hcc.1 (by decide) rfl (Nat.le_of_ble_eq_true rfl) dX4_takeBack_35 (fun w I2 hx => ?_)
  obtain ⟨rfl, h2, h3⟩ := hx
  exact q_vret BM rfl dX4_takeBack_38 ⟨rfl, rfl, h2, h3⟩
set_option maxRecDepth 100000 in
set_option maxHeartbeats 4000000 in
theorem s_X6_kept {Sh : q_Sh} {I : q_Mem} {d u n : Nat} {v : Int32} (hc : dOk Sh d) (h0 : I (d + 95) 0 = nI u) (h1 : I (d + 95) 1 = nI n) (hu : u ≤ 6) (hn : n < 7) : q_Rt mX6_kept 2 [.ref d, .int v] Sh (I) (some (.int v)) (if v < 0 then I else kpM (d + 95) I u n) := by
  refine q_rt_of (by decide) (Nat.le_of_ble_eq_true rfl) fun Γ BM => ?_
  have B := BM.1
  show q_W Γ mX6_kept 0 0 Sh (I) 0 [(0, .ref d), (1, .int v)] []
  refine q_iload_n B dX6_kept_0 rfl rfl ?_
  refine q_if_lt (tgt := 11) B dX6_kept_1 (by decide) (fun c_1 => ?_) (fun c_1 => ?_)
  · skip
    refine q_iload_n B dX6_kept_11 rfl rfl ?_
    exact q_iret BM rfl dX6_kept_12 ⟨rfl, rfl, by first | (rw [if_pos c_1]; done) | (rw [if_neg c_1]; done)⟩
  · skip
    refine q_aload_n B dX6_kept_4 rfl rfl ?_
    refine q_getR B kC_X6 (k := 2) (by decide) rfl kf_X6_22 hc.1 (dp hc) dX6_kept_5 ?_
    refine q_rtV B (s_X4_keep (dP hc) h0 h1 hu hn) kv_yX4_keep ki_yX4_keep ks_yX4_keep km_X6_211 rfl (ci := 4) rfl rfl (dP hc).1 (by decide) rfl (Nat.le_of_ble_eq_true rfl) dX6_kept_8 ?_
    refine q_iload_n B dX6_kept_11 rfl rfl ?_
    exact q_iret BM rfl dX6_kept_12 ⟨rfl, rfl, by first | (rw [if_pos c_1]; done) | (rw [if_neg c_1]; done)⟩
theorem a_refT_neg {σ : a_A} {k b p t : Int32} : a_refT σ k b p t ≠ 0 → a_refT σ k b p t < 0 := by
  unfold a_refT
  (repeat' split) <;> decide
theorem a_refF_neg {σ : a_A} {k c : Int32} : a_refF σ k c ≠ 0 → a_refF σ k c < 0 := by
  unfold a_refF
  (repeat' split) <;> decide
theorem a_refD_neg {p m : Int32} : a_refD p m ≠ 0 → a_refD p m < 0 := by
  unfold a_refD
  (repeat' split) <;> decide
theorem a_refG_neg {σ : a_A} {t : Int32} : a_refG σ t ≠ 0 → a_refG σ t < 0 := by
  unfold a_refG
  (repeat' split) <;> decide
theorem a_refP_neg {σ : a_A} {m : Int32} : a_refP σ m ≠ 0 → a_refP σ m < 0 := by
  unfold a_refP
  (repeat' split) <;> decide
set_option maxRecDepth 100000 in
set_option maxHeartbeats 4000000 in
theorem s_X6_thing {Sh : q_Sh} {I : q_Mem} {d u : Nat} {σ : a_A} {H : Nat → a_A} (hc : dOk Sh d) (hD : Ds d I σ u H) {k m p t : Int32} : q_Rp mX6_thing 3 [.ref d, .int k, .int m, .int p, .int t] Sh (I) (fun w J => Dn d I (a_refT σ k m p t) (nI (a_T σ)) σ (a_comes σ k m p t) u H w J) := by
  refine q_rp_of (by decide) (Nat.le_of_ble_eq_true rfl) fun Γ BM => ?_
  have B := BM.1
  obtain ⟨hR, n, hP⟩ := hD
  have hu := hP.2.2.1
  have hn := hP.2.2.2.1
  show q_W Γ mX6_thing 0 0 Sh (I) 0 [(0, .ref d), (1, .int k), (2, .int m), (3, .int p), (4, .int t)] []
  refine q_aload_n B dX6_thing_0 rfl rfl ?_
  refine q_getR B kC_X6 (k := 2) (by decide) rfl kf_X6_22 hc.1 (dp hc) dX6_thing_1 ?_
  refine q_aload_n B dX6_thing_4 rfl rfl ?_
  refine q_getR B kC_X6 (k := 0) (by decide) rfl kf_X6_10 hc.1 (dn hc) dX6_thing_5 ?_
  refine q_rpV B (s_X4_note (dP hc) hP.2.1 hn (dN hc) hR (by omega)) kv_yX4_note ki_yX4_note ks_yX4_note km_X6_37 rfl (ci := 4) rfl rfl (dP hc).1 (by decide) rfl (Nat.le_of_ble_eq_true rfl) dX6_thing_8 (fun w0 I1 hx => ?_)
  obtain ⟨rfl, hs, hF⟩ := hx
  have hs : Rs (d + 95 + 2 + 47 * n) I1 σ := hs
  have hR1 : Rs (d + 1) I1 σ := hR.far hF (by omega)
  have hP1 := hP.note hF
  refine q_aload_n B dX6_thing_11 rfl rfl ?_
  refine q_aload_n B dX6_thing_12 rfl rfl ?_
  refine q_getR B kC_X6 (k := 0) (by decide) rfl kf_X6_10 hc.1 (dn hc) dX6_thing_13 ?_
  refine q_iload_n B dX6_thing_16 rfl rfl ?_
  refine q_iload_n B dX6_thing_17 rfl rfl ?_
  refine q_iload_n B dX6_thing_18 rfl rfl ?_
  refine q_iload B dX6_thing_19 rfl ?_
  refine q_rpV B (s_X0_addThing (dN hc) hR1) kv_yX0_addThing ki_yX0_addThing ks_yX0_addThing km_X6_41 rfl (ci := 0) rfl rfl (dN hc).1 (by decide) rfl (Nat.le_of_ble_eq_true rfl) dX6_thing_21 (fun w1 I2 hx => ?_)
  have hfr := Dn_fr hx
  have hP2 := hP1.far hfr (by omega)
  obtain ⟨v, rfl, hxx⟩ := hx
  have hx := (show Cg _ _ _ _ _ _ _ from ⟨v, rfl, hxx⟩)
  refine q_rtV B (s_X6_kept hc hP2.1 hP2.2.1 hu hn) kv_yX6_kept ki_yX6_kept ks_yX6_kept km_X6_45 rfl (ci := 6) rfl rfl hc.1 (by decide) rfl (Nat.le_of_ble_eq_true rfl) dX6_thing_24 ?_
  exact q_iret BM rfl dX6_thing_27 ⟨rfl, Dn_fin hF hn hP1 hs hR1 hx (a_refT_neg) (fun _ => nI_pos (by have := hR.1.1.1; omega))⟩
set_option maxRecDepth 100000 in
set_option maxHeartbeats 4000000 in
theorem s_X6_fixer {Sh : q_Sh} {I : q_Mem} {d u : Nat} {σ : a_A} {H : Nat → a_A} (hc : dOk Sh d) (hD : Ds d I σ u H) {k c : Int32} : q_Rp mX6_fixer 3 [.ref d, .int k, .int c] Sh (I) (fun w J => Dn d I (a_refF σ k c) (nI (a_F σ)) σ (a_comesF σ k c) u H w J) := by
  refine q_rp_of (by decide) (Nat.le_of_ble_eq_true rfl) fun Γ BM => ?_
  have B := BM.1
  obtain ⟨hR, n, hP⟩ := hD
  have hu := hP.2.2.1
  have hn := hP.2.2.2.1
  show q_W Γ mX6_fixer 0 0 Sh (I) 0 [(0, .ref d), (1, .int k), (2, .int c)] []
  refine q_aload_n B dX6_fixer_0 rfl rfl ?_
  refine q_getR B kC_X6 (k := 2) (by decide) rfl kf_X6_22 hc.1 (dp hc) dX6_fixer_1 ?_
  refine q_aload_n B dX6_fixer_4 rfl rfl ?_
  refine q_getR B kC_X6 (k := 0) (by decide) rfl kf_X6_10 hc.1 (dn hc) dX6_fixer_5 ?_
  refine q_rpV B (s_X4_note (dP hc) hP.2.1 hn (dN hc) hR (by omega)) kv_yX4_note ki_yX4_note ks_yX4_note km_X6_37 rfl (ci := 4) rfl rfl (dP hc).1 (by decide) rfl (Nat.le_of_ble_eq_true rfl) dX6_fixer_8 (fun w0 I1 hx => ?_)
  obtain ⟨rfl, hs, hF⟩ := hx
  have hs : Rs (d + 95 + 2 + 47 * n) I1 σ := hs
  have hR1 : Rs (d + 1) I1 σ := hR.far hF (by omega)
  have hP1 := hP.note hF
  refine q_aload_n B dX6_fixer_11 rfl rfl ?_
  refine q_aload_n B dX6_fixer_12 rfl rfl ?_
  refine q_getR B kC_X6 (k := 0) (by decide) rfl kf_X6_10 hc.1 (dn hc) dX6_fixer_13 ?_
  refine q_iload_n B dX6_fixer_16 rfl rfl ?_
  refine q_iload_n B dX6_fixer_17 rfl rfl ?_
  refine q_rpV B (s_X0_addFixer (dN hc) hR1) kv_yX0_addFixer ki_yX0_addFixer ks_yX0_addFixer km_X6_49 rfl (ci := 0) rfl rfl (dN hc).1 (by decide) rfl (Nat.le_of_ble_eq_true rfl) dX6_fixer_18 (fun w1 I2 hx => ?_)
  have hfr := Dn_fr hx
  have hP2 := hP1.far hfr (by omega)
  obtain ⟨v, rfl, hxx⟩ := hx
  have hx := (show Cg _ _ _ _ _ _ _ from ⟨v, rfl, hxx⟩)
  refine q_rtV B (s_X6_kept hc hP2.1 hP2.2.1 hu hn) kv_yX6_kept ki_yX6_kept ks_yX6_kept km_X6_45 rfl (ci := 6) rfl rfl hc.1 (by decide) rfl (Nat.le_of_ble_eq_true rfl) dX6_fixer_21 ?_
  exact q_iret BM rfl dX6_fixer_24 ⟨rfl, Dn_fin hF hn hP1 hs hR1 hx (a_refF_neg) (fun _ => nI_pos (by have := hR.1.1.2; omega))⟩
