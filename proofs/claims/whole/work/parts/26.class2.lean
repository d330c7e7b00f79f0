/-! a Cafe in the memory, and the state that it is -/
def tk (x : Int32) : Int32 := if x = 0 then -6 else x - 1
def Rd (T F b : Nat) (I : q_Mem) (σ : a_A) : Prop :=
  (T ≤ 30 ∧ F ≤ 5) ∧ (I b 0 = σ 0 ∧ I b 1 = nI T ∧ I b 2 = nI F) ∧
  (∀ i, i < T → (∀ k, k < 5 → I (b + 4 + i) k = σ (57 + 7 * i + k)) ∧ I (b + 4 + i) 6 = σ (57 + 7 * i + 5) ∧ I (b + 4 + i) 7 = σ (57 + 7 * i + 6)) ∧
  (∀ f, f < F → I (b + 34 + f) 0 = σ (27 + 6 * f) ∧ I (b + 34 + f) 1 = σ (27 + 6 * f + 1) ∧ I (b + 34 + f) 2 = tk (σ (27 + 6 * f + 2)) ∧ I (b + 34 + f) 3 = σ (27 + 6 * f + 3) ∧ I (b + 34 + f) 4 = σ (27 + 6 * f + 4) ∧ I (b + 34 + f) 5 = σ (27 + 6 * f + 5)) ∧
  (∀ p, p < 8 → I (b + 39 + p) 0 = σ (3 + p) ∧ I (b + 39 + p) 1 = σ (11 + p) ∧ I (b + 39 + p) 2 = σ (19 + p))
/-- who works on what -/
def Rw (T b : Nat) (I : q_Mem) (σ : a_A) : Prop := ∀ i, i < T → I (b + 4 + i) 5 = a_fixerOf σ (nI i)
def Rc (T F b : Nat) (I : q_Mem) (σ : a_A) : Prop := Rd T F b I σ ∧ Rw T b I σ ∧ a_W T F σ
/-- outside nothing changed -/
def Fr (b : Nat) (I I' : q_Mem) : Prop := ∀ l, (l < b ∨ b + 47 ≤ l) → I' l = I l
theorem Fr.rf {b : Nat} {I : q_Mem} : Fr b I I := fun _ _ => rfl
theorem Fr.tr {b : Nat} {I I1 I2 : q_Mem} (h : Fr b I I1) (k : Fr b I1 I2) : Fr b I I2 := fun l hl => (k l hl).trans (h l hl)
theorem Fr.set {b l : Nat} {I : q_Mem} {f : a_A} (h1 : b ≤ l) (h2 : l < b + 47) : Fr b I (q_setA I l f) := fun m hm => q_setA_ne (by omega)
theorem Rd_T {T F b t k : Nat} {I : q_Mem} {σ : a_A} {v : Int32} (h : Rd T F b I σ) (ht : t < 30) (hk : k < 5) : Rd T F b (q_setA I (b + 4 + t) (upd (I (b + 4 + t)) k v)) (upd σ (57 + 7 * t + k) v) := by
  obtain ⟨⟨hT, hF⟩, ⟨h1, h2, h3⟩, h4, h5, h6⟩ := h
  refine ⟨⟨hT, hF⟩, ⟨by rw [q_setA_ne (by omega), q_upd_ne (by omega)]; exact h1, by rw [q_setA_ne (by omega)]; exact h2, by rw [q_setA_ne (by omega)]; exact h3⟩, fun i hi => ?_, fun f hf => ?_, fun p hp => ?_⟩
  · obtain ⟨a1, a2, a3⟩ := h4 i hi
    by_cases e : i = t
    · subst e
      rw [q_setA_at]
      refine ⟨fun j hj => ?_, by rw [q_upd_ne (by omega), q_upd_ne (by omega)]; exact a2, by rw [q_upd_ne (by omega), q_upd_ne (by omega)]; exact a3⟩
      by_cases e2 : j = k
      · subst e2; rw [q_upd_at, q_upd_at]
      · rw [q_upd_ne e2, q_upd_ne (by omega)]; exact a1 j hj
    · rw [q_setA_ne (by omega)]
      exact ⟨fun j hj => by rw [q_upd_ne (by omega)]; exact a1 j hj, by rw [q_upd_ne (by omega)]; exact a2, by rw [q_upd_ne (by omega)]; exact a3⟩
  · rw [q_setA_ne (by omega)]
    simp (disch := omega) only [q_upd_ne]
    exact h5 f hf
  · rw [q_setA_ne (by omega)]
    simp (disch := omega) only [q_upd_ne]
    exact h6 p hp
theorem Rd_T6 {T F b t k : Nat} {I : q_Mem} {σ : a_A} {v : Int32} (h : Rd T F b I σ) (ht : t < 30) (hk : k = 5 ∨ k = 6) : Rd T F b (q_setA I (b + 4 + t) (upd (I (b + 4 + t)) (k + 1) v)) (upd σ (57 + 7 * t + k) v) := by
  obtain ⟨⟨hT, hF⟩, ⟨h1, h2, h3⟩, h4, h5, h6⟩ := h
  refine ⟨⟨hT, hF⟩, ⟨by rw [q_setA_ne (by omega), q_upd_ne (by omega)]; exact h1, by rw [q_setA_ne (by omega)]; exact h2, by rw [q_setA_ne (by omega)]; exact h3⟩, fun i hi => ?_, fun f hf => ?_, fun p hp => ?_⟩
  · obtain ⟨a1, a2, a3⟩ := h4 i hi
    by_cases e : i = t
    · subst e
      rw [q_setA_at]
      refine ⟨fun j hj => by rw [q_upd_ne (by omega), q_upd_ne (by omega)]; exact a1 j hj, ?_, ?_⟩
      · rcases hk with rfl | rfl
        · rw [q_upd_at, q_upd_at]
        · rw [q_upd_ne (by omega), q_upd_ne (by omega)]; exact a2
      · rcases hk with rfl | rfl
        · rw [q_upd_ne (by omega), q_upd_ne (by omega)]; exact a3
        · rw [q_upd_at, q_upd_at]
    · rw [q_setA_ne (by omega)]
      exact ⟨fun j hj => by rw [q_upd_ne (by omega)]; exact a1 j hj, by rw [q_upd_ne (by omega)]; exact a2, by rw [q_upd_ne (by omega)]; exact a3⟩
  · rw [q_setA_ne (by omega)]
    simp (disch := omega) only [q_upd_ne]
    exact h5 f hf
  · rw [q_setA_ne (by omega)]
    simp (disch := omega) only [q_upd_ne]
    exact h6 p hp
/-- a thing's worker is no part of the data -/
theorem Rd_wk {T F b t : Nat} {I : q_Mem} {σ : a_A} {v : Int32} (h : Rd T F b I σ) (ht : t < 30) : Rd T F b (q_setA I (b + 4 + t) (upd (I (b + 4 + t)) 5 v)) σ := by
  obtain ⟨⟨hT, hF⟩, ⟨h1, h2, h3⟩, h4, h5, h6⟩ := h
  refine ⟨⟨hT, hF⟩, ⟨by rw [q_setA_ne (by omega)]; exact h1, by rw [q_setA_ne (by omega)]; exact h2, by rw [q_setA_ne (by omega)]; exact h3⟩, fun i hi => ?_, fun f hf => by rw [q_setA_ne (by omega)]; exact h5 f hf, fun p hp => by rw [q_setA_ne (by omega)]; exact h6 p hp⟩
  obtain ⟨a1, a2, a3⟩ := h4 i hi
  by_cases e : i = t
  · subst e
    rw [q_setA_at]
    exact ⟨fun j hj => by rw [q_upd_ne (by omega)]; exact a1 j hj, by rw [q_upd_ne (by omega)]; exact a2, by rw [q_upd_ne (by omega)]; exact a3⟩
  · rw [q_setA_ne (by omega)]
    exact ⟨a1, a2, a3⟩
theorem Rd_F {T F b f k : Nat} {I : q_Mem} {σ : a_A} {v x : Int32} (h : Rd T F b I σ) (hf : f < 5) (hk : k < 6) (hx : (if k = 2 then tk x else x) = v) (hk0 : 0 < k) : Rd T F b (q_setA I (b + 34 + f) (upd (I (b + 34 + f)) k v)) (upd σ (27 + 6 * f + k) x) := by
  obtain ⟨⟨hT, hF⟩, ⟨h1, h2, h3⟩, h4, h5, h6⟩ := h
  refine ⟨⟨hT, hF⟩, ⟨by rw [q_setA_ne (by omega), q_upd_ne (by omega)]; exact h1, by rw [q_setA_ne (by omega)]; exact h2, by rw [q_setA_ne (by omega)]; exact h3⟩, fun i hi => ?_, fun g hg => ?_, fun p hp => ?_⟩
  · rw [q_setA_ne (by omega)]
    obtain ⟨a1, a2, a3⟩ := h4 i hi
    exact ⟨fun j hj => by rw [q_upd_ne (by omega)]; exact a1 j hj, by rw [q_upd_ne (by omega)]; exact a2, by rw [q_upd_ne (by omega)]; exact a3⟩
  · obtain ⟨a0, a1, a2, a3, a4, a5⟩ := h5 g hg
    by_cases e : g = f
    · subst e
      rw [q_setA_at]
      rcases (by omega : k = 1 ∨ k = 2 ∨ k = 3 ∨ k = 4 ∨ k = 5) with rfl | rfl | rfl | rfl | rfl <;> simp (disch := omega) only [q_upd_ne, q_upd_at] <;> (first | rw [if_neg (by decide)] at hx | rw [if_pos rfl] at hx) <;> subst hx <;> simp_all
    · rw [q_setA_ne (by omega)]
      simp (disch := omega) only [q_upd_ne]
      exact ⟨a0, a1, a2, a3, a4, a5⟩
  · rw [q_setA_ne (by omega)]
    simp (disch := omega) only [q_upd_ne]
    exact h6 p hp
theorem Rd_P {T F b q k : Nat} {I : q_Mem} {σ : a_A} {v : Int32} (h : Rd T F b I σ) (hq : q < 8) (hk : k < 3) : Rd T F b (q_setA I (b + 39 + q) (upd (I (b + 39 + q)) k v)) (upd σ (3 + 8 * k + q) v) := by
  obtain ⟨⟨hT, hF⟩, ⟨h1, h2, h3⟩, h4, h5, h6⟩ := h
  refine ⟨⟨hT, hF⟩, ⟨by rw [q_setA_ne (by omega), q_upd_ne (by omega)]; exact h1, by rw [q_setA_ne (by omega)]; exact h2, by rw [q_setA_ne (by omega)]; exact h3⟩, fun i hi => ?_, fun g hg => ?_, fun p hp => ?_⟩
  · rw [q_setA_ne (by omega)]
    obtain ⟨a1, a2, a3⟩ := h4 i hi
    exact ⟨fun j hj => by rw [q_upd_ne (by omega)]; exact a1 j hj, by rw [q_upd_ne (by omega)]; exact a2, by rw [q_upd_ne (by omega)]; exact a3⟩
  · rw [q_setA_ne (by omega)]
    simp (disch := omega) only [q_upd_ne]
    exact h5 g hg
  · obtain ⟨a0, a1, a2⟩ := h6 p hp
    by_cases e : p = q
    · subst e
      rw [q_setA_at]
      rcases (by omega : k = 0 ∨ k = 1 ∨ k = 2) with rfl | rfl | rfl
      · refine ⟨by rw [q_upd_at, Nat.mul_zero, Nat.add_zero, q_upd_at], by rw [q_upd_ne (by omega), q_upd_ne (by omega)]; exact a1, by rw [q_upd_ne (by omega), q_upd_ne (by omega)]; exact a2⟩
      · refine ⟨by rw [q_upd_ne (by omega), q_upd_ne (by omega)]; exact a0, by rw [q_upd_at]; exact (q_upd_at _ _ _).symm, by rw [q_upd_ne (by omega), q_upd_ne (by omega)]; exact a2⟩
      · refine ⟨by rw [q_upd_ne (by omega), q_upd_ne (by omega)]; exact a0, by rw [q_upd_ne (by omega), q_upd_ne (by omega)]; exact a1, by rw [q_upd_at]; exact (q_upd_at _ _ _).symm⟩
    · rw [q_setA_ne (by omega)]
      simp (disch := omega) only [q_upd_ne]
      exact ⟨a0, a1, a2⟩
theorem Rd_M {T F b : Nat} {I : q_Mem} {σ : a_A} {v : Int32} (h : Rd T F b I σ) : Rd T F b (q_setA I b (upd (I b) 0 v)) (upd σ 0 v) := by
  obtain ⟨⟨hT, hF⟩, ⟨h1, h2, h3⟩, h4, h5, h6⟩ := h
  refine ⟨⟨hT, hF⟩, ⟨by rw [q_setA_at, q_upd_at, q_upd_at], by rw [q_setA_at, q_upd_ne (by omega)]; exact h2, by rw [q_setA_at, q_upd_ne (by omega)]; exact h3⟩, fun i hi => ?_, fun g hg => ?_, fun p hp => ?_⟩
  · rw [q_setA_ne (by omega)]
    obtain ⟨a1, a2, a3⟩ := h4 i hi
    exact ⟨fun j hj => by rw [q_upd_ne (by omega)]; exact a1 j hj, by rw [q_upd_ne (by omega)]; exact a2, by rw [q_upd_ne (by omega)]; exact a3⟩
  · rw [q_setA_ne (by omega)]
    simp (disch := omega) only [q_upd_ne]
    exact h5 g hg
  · rw [q_setA_ne (by omega)]
    simp (disch := omega) only [q_upd_ne]
    exact h6 p hp
theorem a_lt8 {x : Int32} (h : x < nI 8) : x ≤ nI 7 := by
  have e1 : (nI 7).toInt = 7 := nI_toInt (by decide)
  have e2 : (nI 8).toInt = 8 := nI_toInt (by decide)
  rw [Int32.lt_iff_toInt_lt, e2] at h
  rw [Int32.le_iff_toInt_le, e1]
  omega
theorem a_bit1 (k : Int32) (i : Nat) : ∀ x : Int32, (x &&& nI 1 = 0) ∨ (x &&& nI 1 = nI 1) := by
  intro x
  have h : x.toBitVec &&& 1#32 = 0#32 ∨ x.toBitVec &&& 1#32 = 1#32 := by
    cases hb : x.toBitVec.getLsbD 0 with
    | false =>
      left
      apply BitVec.eq_of_getLsbD_eq
      intro j hj
      rw [BitVec.getLsbD_and]
      cases j with
      | zero => rw [hb]; rfl
      | succ j => simp
    | true =>
      right
      apply BitVec.eq_of_getLsbD_eq
      intro j hj
      rw [BitVec.getLsbD_and]
      cases j with
      | zero => rw [hb]; rfl
      | succ j => simp
  rcases h with h | h
  · exact Or.inl (Int32.toBitVec_inj.mp h)
  · exact Or.inr (Int32.toBitVec_inj.mp h)
set_option maxRecDepth 100000 in
set_option maxHeartbeats 4000000 in
theorem s_X6_isIn {Sh : q_Sh} {I : q_Mem} {s x : Int32} : q_Rt mX6_isIn 0 [.int s, .int x] Sh (I) (some (.int (if (s >>> (x &&& 31)) &&& nI 1 = nI 1 then 1 else 0))) (I) := by
  refine q_rt_of (by decide) (Nat.le_of_ble_eq_true rfl) fun Γ BM => ?_
  have B := BM.1
  show q_W Γ mX6_isIn 0 0 Sh (I) 0 [(0, .int s), (1, .int x)] []
  refine q_iload_n B dX6_isIn_0 rfl rfl ?_
  refine q_iload_n B dX6_isIn_1 rfl rfl ?_
  refine q_ishr B dX6_isIn_2 ?_
  refine q_iconst (v := nI 1) B dX6_isIn_3 rfl ?_
  refine q_iand B dX6_isIn_4 ?_
  refine q_if_eq (tgt := 12) B dX6_isIn_5 (by decide) (fun c_5 => ?_) (fun c_5 => ?_)
  · skip
    have h5 : ¬ ((s >>> (x &&& 31)) &&& nI 1 = nI 1) := by rw [c_5]; decide
    refine q_iconst (v := 0) B dX6_isIn_12 rfl ?_
    exact q_zret BM rfl (by first | exact Or.inl rfl | exact Or.inr rfl) dX6_isIn_13 ⟨by first | (rw [if_pos h5]; done) | (rw [if_neg h5]; done), rfl, rfl⟩
  · skip
    have h5 : (s >>> (x &&& 31)) &&& nI 1 = nI 1 := (a_bit1 0 0 _).resolve_left c_5
    refine q_iconst (v := 1) B dX6_isIn_8 rfl ?_
    refine q_goto (tgt := 13) B dX6_isIn_9 (by decide) ?_
    exact q_zret BM rfl (by first | exact Or.inl rfl | exact Or.inr rfl) dX6_isIn_13 ⟨by first | (rw [if_pos h5]; done) | (rw [if_neg h5]; done), rfl, rfl⟩
set_option maxRecDepth 100000 in
set_option maxHeartbeats 4000000 in
theorem s_X0_thingAt {Sh : q_Sh} {I : q_Mem} {b : Nat} (hc : cOk Sh b) {T i : Nat} (hT : I b 1 = nI T) (hT2 : T ≤ 30) (hi : i < T) : q_Rt mX0_thingAt 0 [.ref b, .int (nI i)] Sh (I) (some (.ref (b + 4 + i))) (I) := by
  refine q_rt_of (by decide) (Nat.le_of_ble_eq_true rfl) fun Γ BM => ?_
  have B := BM.1
  show q_W Γ mX0_thingAt 0 0 Sh (I) 0 [(0, .ref b), (1, .int (nI i))] []
  refine q_iload_n B dX0_thingAt_0 rfl rfl ?_
  refine q_if_lt (tgt := 30) B dX0_thingAt_1 (by decide) (fun h => absurd h ((nI_pos (by omega)))) (fun _ => ?_)
  refine q_iload_n B dX0_thingAt_4 rfl rfl ?_
  refine q_aload_n B dX0_thingAt_5 rfl rfl ?_
  refine q_getI2 B kC_X0 (k := 1) (by decide) rfl kf_X0_15 hc.1 hT dX0_thingAt_6 ?_
  refine q_icmp_ge (tgt := 30) B dX0_thingAt_9 (by decide) (fun h => absurd h ((q_nle hi (by omega)))) (fun _ => ?_)
  refine q_iload_n B dX0_thingAt_12 rfl rfl ?_
  refine q_aload_n B dX0_thingAt_13 rfl rfl ?_
  refine q_getR B kC_X0 (k := 3) (by decide) rfl kf_X0_23 hc.1 (cR1 hc) dX0_thingAt_14 ?_
  refine q_alen B (cA1 hc) rfl dX0_thingAt_17 ?_
  refine q_icmp_ge (tgt := 30) B dX0_thingAt_18 (by decide) (fun h => absurd h ((q_nle (b := i) (a := 30) (by omega) (by decide)))) (fun _ => ?_)
  refine q_aload_n B dX0_thingAt_21 rfl rfl ?_
  refine q_getR B kC_X0 (k := 3) (by decide) rfl kf_X0_23 hc.1 (cR1 hc) dX0_thingAt_22 ?_
  refine q_iload_n B dX0_thingAt_25 rfl rfl ?_
  refine q_aaload B (cA1 hc) rfl (vp_in_nI (by omega) (by decide)) (by rw [nI_clamp (by omega)]; exact (hc.2.2.2.2.1 i (by omega)).1) dX0_thingAt_26 ?_
  refine q_goto (tgt := 31) B dX0_thingAt_27 (by decide) ?_
  exact q_aret BM rfl dX0_thingAt_31 ⟨rfl, rfl, rfl⟩
set_option maxRecDepth 100000 in
set_option maxHeartbeats 4000000 in
theorem s_X0_thingAt_no {Sh : q_Sh} {I : q_Mem} {b : Nat} (hc : cOk Sh b) {T : Nat} {x : Int32} (hT : I b 1 = nI T) (hx : ¬ (0 ≤ x ∧ x < nI T)) : q_Rt mX0_thingAt 0 [.ref b, .int x] Sh (I) (some .null) (I) := by
  refine q_rt_of (by decide) (Nat.le_of_ble_eq_true rfl) fun Γ BM => ?_
  have B := BM.1
  show q_W Γ mX0_thingAt 0 0 Sh (I) 0 [(0, .ref b), (1, .int x)] []
  refine q_iload_n B dX0_thingAt_0 rfl rfl ?_
  refine q_if_lt (tgt := 30) B dX0_thingAt_1 (by decide) (fun c_1 => ?_) (fun c_1 => ?_)
  · skip
    refine q_null B dX0_thingAt_30 ?_
    exact q_aretN BM rfl dX0_thingAt_31 ⟨rfl, rfl, rfl⟩
  · skip
    refine q_iload_n B dX0_thingAt_4 rfl rfl ?_
    refine q_aload_n B dX0_thingAt_5 rfl rfl ?_
    refine q_getI2 B kC_X0 (k := 1) (by decide) rfl kf_X0_15 hc.1 hT dX0_thingAt_6 ?_
    refine q_icmp_ge (tgt := 30) B dX0_thingAt_9 (by decide) (fun c_9 => ?_) (fun c_9 => ?_)
    · skip
      refine q_null B dX0_thingAt_30 ?_
      exact q_aretN BM rfl dX0_thingAt_31 ⟨rfl, rfl, rfl⟩
    · skip
      exact absurd ⟨Int32.not_lt.mp c_1, Int32.not_le.mp c_9⟩ hx
      skip
set_option maxRecDepth 100000 in
set_option maxHeartbeats 4000000 in
theorem s_X0_fixerAt {Sh : q_Sh} {I : q_Mem} {b : Nat} (hc : cOk Sh b) {T i : Nat} (hT : I b 2 = nI T) (hT2 : T ≤ 5) (hi : i < T) : q_Rt mX0_fixerAt 0 [.ref b, .int (nI i)] Sh (I) (some (.ref (b + 34 + i))) (I) := by
  refine q_rt_of (by decide) (Nat.le_of_ble_eq_true rfl) fun Γ BM => ?_
  have B := BM.1
  show q_W Γ mX0_fixerAt 0 0 Sh (I) 0 [(0, .ref b), (1, .int (nI i))] []
  refine q_iload_n B dX0_fixerAt_0 rfl rfl ?_
  refine q_if_lt (tgt := 30) B dX0_fixerAt_1 (by decide) (fun h => absurd h ((nI_pos (by omega)))) (fun _ => ?_)
  refine q_iload_n B dX0_fixerAt_4 rfl rfl ?_
  refine q_aload_n B dX0_fixerAt_5 rfl rfl ?_
  refine q_getI2 B kC_X0 (k := 2) (by decide) rfl kf_X0_18 hc.1 hT dX0_fixerAt_6 ?_
  refine q_icmp_ge (tgt := 30) B dX0_fixerAt_9 (by decide) (fun h => absurd h ((q_nle hi (by omega)))) (fun _ => ?_)
  refine q_iload_n B dX0_fixerAt_12 rfl rfl ?_
  refine q_aload_n B dX0_fixerAt_13 rfl rfl ?_
  refine q_getR B kC_X0 (k := 4) (by decide) rfl kf_X0_29 hc.1 (cR2 hc) dX0_fixerAt_14 ?_
  refine q_alen B (cA2 hc) rfl dX0_fixerAt_17 ?_
  refine q_icmp_ge (tgt := 30) B dX0_fixerAt_18 (by decide) (fun h => absurd h ((q_nle (b := i) (a := 5) (by omega) (by decide)))) (fun _ => ?_)
  refine q_aload_n B dX0_fixerAt_21 rfl rfl ?_
  refine q_getR B kC_X0 (k := 4) (by decide) rfl kf_X0_29 hc.1 (cR2 hc) dX0_fixerAt_22 ?_
  refine q_iload_n B dX0_fixerAt_25 rfl rfl ?_
  refine q_aaload B (cA2 hc) rfl (vp_in_nI (by omega) (by decide)) (by rw [nI_clamp (by omega)]; exact (hc.2.2.2.2.2.1 i (by omega)).1) dX0_fixerAt_26 ?_
  refine q_goto (tgt := 31) B dX0_fixerAt_27 (by decide) ?_
  exact q_aret BM rfl dX0_fixerAt_31 ⟨rfl, rfl, rfl⟩
set_option maxRecDepth 100000 in
set_option maxHeartbeats 4000000 in
theorem s_X0_fixerAt_no {Sh : q_Sh} {I : q_Mem} {b : Nat} (hc : cOk Sh b) {T : Nat} {x : Int32} (hT : I b 2 = nI T) (hx : ¬ (0 ≤ x ∧ x < nI T)) : q_Rt mX0_fixerAt 0 [.ref b, .int x] Sh (I) (some .null) (I) := by
  refine q_rt_of (by decide) (Nat.le_of_ble_eq_true rfl) fun Γ BM => ?_
  have B := BM.1
  show q_W Γ mX0_fixerAt 0 0 Sh (I) 0 [(0, .ref b), (1, .int x)] []
  refine q_iload_n B dX0_fixerAt_0 rfl rfl ?_
  refine q_if_lt (tgt := 30) B dX0_fixerAt_1 (by decide) (fun c_1 => ?_) (fun c_1 => ?_)
  · skip
    refine q_null B dX0_fixerAt_30 ?_
    exact q_aretN BM rfl dX0_fixerAt_31 ⟨rfl, rfl, rfl⟩
  · skip
    refine q_iload_n B dX0_fixerAt_4 rfl rfl ?_
    refine q_aload_n B dX0_fixerAt_5 rfl rfl ?_
    refine q_getI2 B kC_X0 (k := 2) (by decide) rfl kf_X0_18 hc.1 hT dX0_fixerAt_6 ?_
    refine q_icmp_ge (tgt := 30) B dX0_fixerAt_9 (by decide) (fun c_9 => ?_) (fun c_9 => ?_)
    · skip
      refine q_null B dX0_fixerAt_30 ?_
      exact q_aretN BM rfl dX0_fixerAt_31 ⟨rfl, rfl, rfl⟩
    · skip
      exact absurd ⟨Int32.not_lt.mp c_1, Int32.not_le.mp c_9⟩ hx
      skip
set_option maxRecDepth 100000 in
set_option maxHeartbeats 4000000 in
theorem s_X0_partAt {Sh : q_Sh} {I : q_Mem} {b : Nat} (hc : cOk Sh b) {i : Nat} (hi : i < 8) : q_Rt mX0_partAt 0 [.ref b, .int (nI i)] Sh (I) (some (.ref (b + 39 + i))) (I) := by
  refine q_rt_of (by decide) (Nat.le_of_ble_eq_true rfl) fun Γ BM => ?_
  have B := BM.1
  show q_W Γ mX0_partAt 0 0 Sh (I) 0 [(0, .ref b), (1, .int (nI i))] []
  refine q_iload_n B dX0_partAt_0 rfl rfl ?_
  refine q_if_lt (tgt := 22) B dX0_partAt_1 (by decide) (fun h => absurd h ((nI_pos (by omega)))) (fun _ => ?_)
  refine q_iload_n B dX0_partAt_4 rfl rfl ?_
  refine q_aload_n B dX0_partAt_5 rfl rfl ?_
  refine q_getR B kC_X0 (k := 5) (by decide) rfl kf_X0_35 hc.1 (cR3 hc) dX0_partAt_6 ?_
  refine q_alen B (cA3 hc) rfl dX0_partAt_9 ?_
  refine q_icmp_ge (tgt := 22) B dX0_partAt_10 (by decide) (fun h => absurd h ((q_nle (b := i) (a := 8) (by omega) (by decide)))) (fun _ => ?_)
  refine q_aload_n B dX0_partAt_13 rfl rfl ?_
  refine q_getR B kC_X0 (k := 5) (by decide) rfl kf_X0_35 hc.1 (cR3 hc) dX0_partAt_14 ?_
  refine q_iload_n B dX0_partAt_17 rfl rfl ?_
  refine q_aaload B (cA3 hc) rfl (vp_in_nI (by omega) (by decide)) (by rw [nI_clamp (by omega)]; exact (hc.2.2.2.2.2.2 i (by omega)).1) dX0_partAt_18 ?_
  refine q_goto (tgt := 23) B dX0_partAt_19 (by decide) ?_
  exact q_aret BM rfl dX0_partAt_23 ⟨rfl, rfl, rfl⟩
set_option maxRecDepth 100000 in
set_option maxHeartbeats 4000000 in
theorem s_X0_partAt_no {Sh : q_Sh} {I : q_Mem} {b : Nat} (hc : cOk Sh b) {x : Int32} (hx : ¬ (0 ≤ x ∧ x ≤ nI 7)) : q_Rt mX0_partAt 0 [.ref b, .int x] Sh (I) (some .null) (I) := by
  refine q_rt_of (by decide) (Nat.le_of_ble_eq_true rfl) fun Γ BM => ?_
  have B := BM.1
  show q_W Γ mX0_partAt 0 0 Sh (I) 0 [(0, .ref b), (1, .int x)] []
  refine q_iload_n B dX0_partAt_0 rfl rfl ?_
  refine q_if_lt (tgt := 22) B dX0_partAt_1 (by decide) (fun c_1 => ?_) (fun c_1 => ?_)
  · skip
    refine q_null B dX0_partAt_22 ?_
    exact q_aretN BM rfl dX0_partAt_23 ⟨rfl, rfl, rfl⟩
  · skip
    refine q_iload_n B dX0_partAt_4 rfl rfl ?_
    refine q_aload_n B dX0_partAt_5 rfl rfl ?_
    refine q_getR B kC_X0 (k := 5) (by decide) rfl kf_X0_35 hc.1 (cR3 hc) dX0_partAt_6 ?_
    refine q_alen B (cA3 hc) rfl dX0_partAt_9 ?_
    refine q_icmp_ge (tgt := 22) B dX0_partAt_10 (by decide) (fun c_10 => ?_) (fun c_10 => ?_)
    · skip
      refine q_null B dX0_partAt_22 ?_
      exact q_aretN BM rfl dX0_partAt_23 ⟨rfl, rfl, rfl⟩
    · skip
      exact absurd ⟨Int32.not_lt.mp c_1, a_lt8 (Int32.not_le.mp c_10)⟩ hx
      skip
