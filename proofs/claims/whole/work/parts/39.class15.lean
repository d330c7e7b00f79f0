/-! the pad, in the memory -/
def gOk (Sh : q_Sh) (q : Nat) : Prop := q_is Sh q 2 ∧ (Sh.2.2 q 7 = some (q + 1) ∧ q_ar Sh (q + 1) 2 80)
theorem pdR {Sh : q_Sh} {q : Nat} (h : gOk Sh q) : Sh.2.2 q 7 = some (q + 1) := h.2.1
theorem pdA {Sh : q_Sh} {q : Nat} (h : gOk Sh q) : q_ar Sh (q + 1) 2 80 := h.2.2
/-- the signs on the pad -/
def Pg (P : a_A) (len : Nat) : Prop := len ≤ 80 ∧ ∀ j, j < len → ∃ s, 33 ≤ s ∧ s ≤ 126 ∧ P j = nI s
/-- reading at a, with the letter, digit, set, number and last digit so far -/
def Pd (q : Nat) (I : q_Mem) (P : a_A) (len a : Nat) (L D S N X : Int32) : Prop := (Pg P len ∧ I q 0 = nI len ∧ (∀ j, j < len → I (q + 1) j = P j)) ∧ (a ≤ len ∧ I q 1 = nI a) ∧ I q 2 = L ∧ I q 3 = D ∧ I q 4 = S ∧ I q 5 = N ∧ I q 6 = X
def FrP (q : Nat) (I J : q_Mem) : Prop := ∀ l, l ≠ q → J l = I l
theorem FrP.rf {q : Nat} {I : q_Mem} : FrP q I I := fun _ _ => rfl
theorem FrP.tr {q : Nat} {I I1 I2 : q_Mem} (h : FrP q I I1) (k : FrP q I1 I2) : FrP q I I2 := fun l hl => (k l hl).trans (h l hl)
theorem FrP.set {q : Nat} {I : q_Mem} {f : a_A} : FrP q I (q_setA I q f) := fun m hm => q_setA_ne hm
theorem Pd.at' {q : Nat} {I : q_Mem} {P : a_A} {len a b : Nat} {L D S N X : Int32} (h : Pd q I P len a L D S N X) (hb : b ≤ len) : Pd q (q_setA I q (upd (I q) 1 (nI b))) P len b L D S N X := by
  obtain ⟨⟨h1, h2, h3⟩, ⟨h4, h5⟩, k2, k3, k4, k5, k6⟩ := h
  refine ⟨⟨h1, ?_, fun j hj => ?_⟩, ⟨hb, ?_⟩, ?_, ?_, ?_, ?_, ?_⟩ <;> first | (rw [q_setA_at, q_upd_at]; done) | (rw [q_setA_at, q_upd_ne (by decide)]; assumption) | (rw [q_setA_ne (by omega)]; exact h3 j hj)
theorem Pd.f2 {q : Nat} {I : q_Mem} {P : a_A} {len a : Nat} {L D S N X v : Int32} (h : Pd q I P len a L D S N X) : Pd q (q_setA I q (upd (I q) 2 v)) P len a v D S N X := by
  obtain ⟨⟨h1, h2, h3⟩, ⟨h4, h5⟩, k2, k3, k4, k5, k6⟩ := h
  refine ⟨⟨h1, ?_, fun j hj => ?_⟩, ⟨h4, ?_⟩, ?_, ?_, ?_, ?_, ?_⟩ <;> first | (rw [q_setA_at, q_upd_at]; done) | (rw [q_setA_at, q_upd_ne (by decide)]; assumption) | (rw [q_setA_ne (by omega)]; exact h3 j hj)
theorem Pd.f3 {q : Nat} {I : q_Mem} {P : a_A} {len a : Nat} {L D S N X v : Int32} (h : Pd q I P len a L D S N X) : Pd q (q_setA I q (upd (I q) 3 v)) P len a L v S N X := by
  obtain ⟨⟨h1, h2, h3⟩, ⟨h4, h5⟩, k2, k3, k4, k5, k6⟩ := h
  refine ⟨⟨h1, ?_, fun j hj => ?_⟩, ⟨h4, ?_⟩, ?_, ?_, ?_, ?_, ?_⟩ <;> first | (rw [q_setA_at, q_upd_at]; done) | (rw [q_setA_at, q_upd_ne (by decide)]; assumption) | (rw [q_setA_ne (by omega)]; exact h3 j hj)
theorem Pd.f4 {q : Nat} {I : q_Mem} {P : a_A} {len a : Nat} {L D S N X v : Int32} (h : Pd q I P len a L D S N X) : Pd q (q_setA I q (upd (I q) 4 v)) P len a L D v N X := by
  obtain ⟨⟨h1, h2, h3⟩, ⟨h4, h5⟩, k2, k3, k4, k5, k6⟩ := h
  refine ⟨⟨h1, ?_, fun j hj => ?_⟩, ⟨h4, ?_⟩, ?_, ?_, ?_, ?_, ?_⟩ <;> first | (rw [q_setA_at, q_upd_at]; done) | (rw [q_setA_at, q_upd_ne (by decide)]; assumption) | (rw [q_setA_ne (by omega)]; exact h3 j hj)
theorem Pd.f5 {q : Nat} {I : q_Mem} {P : a_A} {len a : Nat} {L D S N X v : Int32} (h : Pd q I P len a L D S N X) : Pd q (q_setA I q (upd (I q) 5 v)) P len a L D S v X := by
  obtain ⟨⟨h1, h2, h3⟩, ⟨h4, h5⟩, k2, k3, k4, k5, k6⟩ := h
  refine ⟨⟨h1, ?_, fun j hj => ?_⟩, ⟨h4, ?_⟩, ?_, ?_, ?_, ?_, ?_⟩ <;> first | (rw [q_setA_at, q_upd_at]; done) | (rw [q_setA_at, q_upd_ne (by decide)]; assumption) | (rw [q_setA_ne (by omega)]; exact h3 j hj)
theorem Pd.f6 {q : Nat} {I : q_Mem} {P : a_A} {len a : Nat} {L D S N X v : Int32} (h : Pd q I P len a L D S N X) : Pd q (q_setA I q (upd (I q) 6 v)) P len a L D S N v := by
  obtain ⟨⟨h1, h2, h3⟩, ⟨h4, h5⟩, k2, k3, k4, k5, k6⟩ := h
  refine ⟨⟨h1, ?_, fun j hj => ?_⟩, ⟨h4, ?_⟩, ?_, ?_, ?_, ?_, ?_⟩ <;> first | (rw [q_setA_at, q_upd_at]; done) | (rw [q_setA_at, q_upd_ne (by decide)]; assumption) | (rw [q_setA_ne (by omega)]; exact h3 j hj)
theorem p_s_n {P : a_A} {len a : Nat} (h : Pg P len) : ∃ s, s ≤ 126 ∧ p_s P len a = nI s ∧ (s ≠ 0 → a < len) := by
  unfold p_s
  by_cases e : a < len
  · obtain ⟨s, -, h2, h3⟩ := h.2 a e
    exact ⟨s, h2, by rw [if_pos e, h3], fun _ => e⟩
  · exact ⟨0, by omega, by rw [if_neg e]; rfl, fun q => absurd rfl q⟩
theorem p_in_iff {s m : Nat} (hs : s ≤ 126) (hm : m ≤ 9) : p_in (nI s) m = true ↔ ¬ (nI s - nI 48 < 0) ∧ nI s - nI 48 ≤ nI m := by
  have key : ∀ s, s ≤ 126 → ∀ m, m ≤ 9 → (p_in (nI s) m = true ↔ ¬ (nI s - nI 48 < 0) ∧ nI s - nI 48 ≤ nI m) := by decide +kernel
  exact key s hs m hm
set_option maxRecDepth 100000 in
set_option maxHeartbeats 4000000 in
theorem s_X2_sign {Sh : q_Sh} {I : q_Mem} {q len a : Nat} {P : a_A} {L D S N X : Int32} (hc : gOk Sh q) (hG : Pd q I P len a L D S N X) : q_Rt mX2_sign 0 [.ref q] Sh (I) (some (.int (p_s P len a))) (I) := by
  refine q_rt_of (by decide) (Nat.le_of_ble_eq_true rfl) fun Γ BM => ?_
  have B := BM.1
  have hl := hG.1.1.1
  have ha := hG.2.1.1
  show q_W Γ mX2_sign 0 0 Sh (I) 0 [(0, .ref q)] []
  refine q_aload_n B dX2_sign_0 rfl rfl ?_
  refine q_getI2 B kC_X2 (k := 1) (by decide) rfl kf_X2_15 hc.1 hG.2.1.2 dX2_sign_1 ?_
  refine q_if_lt (tgt := 42) B dX2_sign_4 (by decide) (fun h => absurd h ((nI_pos (by omega)))) (fun _ => ?_)
  refine q_aload_n B dX2_sign_7 rfl rfl ?_
  refine q_getI2 B kC_X2 (k := 1) (by decide) rfl kf_X2_15 hc.1 hG.2.1.2 dX2_sign_8 ?_
  refine q_aload_n B dX2_sign_11 rfl rfl ?_
  refine q_getI2 B kC_X2 (k := 0) (by decide) rfl kf_X2_9 hc.1 hG.1.2.1 dX2_sign_12 ?_
  refine q_icmp_ge (tgt := 42) B dX2_sign_15 (by decide) (fun c_15 => ?_) (fun c_15 => ?_)
  · skip
    have h15 : p_s P len a = 0 := if_neg (fun z => absurd c_15 (q_nle z (by omega)))
    refine q_iconst (v := 0) B dX2_sign_42 rfl ?_
    exact q_iret BM rfl dX2_sign_43 ⟨by rw [h15], rfl, rfl⟩
  · skip
    have hal : a < len := by
      rcases Nat.lt_or_ge a len with z | z
      · exact z
      · exact absurd (q_le z (by omega)) c_15
    have h15 : p_s P len a = P a := if_pos hal
    refine q_aload_n B dX2_sign_18 rfl rfl ?_
    refine q_getI2 B kC_X2 (k := 1) (by decide) rfl kf_X2_15 hc.1 hG.2.1.2 dX2_sign_19 ?_
    refine q_aload_n B dX2_sign_22 rfl rfl ?_
    refine q_getR B kC_X2 (k := 7) (by decide) rfl kf_X2_33 hc.1 (pdR hc) dX2_sign_23 ?_
    refine q_alen B (pdA hc) rfl dX2_sign_26 ?_
    refine q_icmp_ge (tgt := 42) B dX2_sign_27 (by decide) (fun h => absurd h ((q_nle (b := a) (a := 80) (by omega) (by decide)))) (fun _ => ?_)
    refine q_aload_n B dX2_sign_30 rfl rfl ?_
    refine q_getR B kC_X2 (k := 7) (by decide) rfl kf_X2_33 hc.1 (pdR hc) dX2_sign_31 ?_
    refine q_aload_n B dX2_sign_34 rfl rfl ?_
    refine q_getI2 B kC_X2 (k := 1) (by decide) rfl kf_X2_15 hc.1 hG.2.1.2 dX2_sign_35 ?_
    refine q_cald (n := _) B (pdA hc) rfl (by omega) (by decide) dX2_sign_38 ?_
    refine q_top (hG.1.2.2 a hal) ?_
    refine q_goto (tgt := 43) B dX2_sign_39 (by decide) ?_
    exact q_iret BM rfl dX2_sign_43 ⟨by rw [h15], rfl, rfl⟩
set_option maxRecDepth 100000 in
set_option maxHeartbeats 4000000 in
theorem s_X2_begin {Sh : q_Sh} {I : q_Mem} {q len a : Nat} {P : a_A} {L D S N X : Int32} (hc : gOk Sh q) (hG : Pd q I P len a L D S N X) : q_Rp mX2_begin 0 [.ref q] Sh (I) (fun w J => w = none ∧ Pd q J P len 0 L D S N X ∧ FrP q I J) := by
  refine q_rp_of (by decide) (Nat.le_of_ble_eq_true rfl) fun Γ BM => ?_
  have B := BM.1
  show q_W Γ mX2_begin 0 0 Sh (I) 0 [(0, .ref q)] []
  refine q_aload_n B dX2_begin_0 rfl rfl ?_
  refine q_iconst (v := nI 0) B dX2_begin_1 rfl ?_
  refine q_putI2 B kC_X2 (k := 1) (by decide) rfl kf_X2_15 rfl rfl rfl hc.1 dX2_begin_2 ?_
  exact q_vret BM rfl dX2_begin_5 ⟨rfl, rfl, hG.at' (Nat.zero_le len), FrP.set⟩
set_option maxRecDepth 100000 in
set_option maxHeartbeats 4000000 in
theorem s_X2_isAtEnd {Sh : q_Sh} {I : q_Mem} {q len a : Nat} {P : a_A} {L D S N X : Int32} (hc : gOk Sh q) (hG : Pd q I P len a L D S N X) : q_Rt mX2_isAtEnd 0 [.ref q] Sh (I) (some (.int (if a < len then 0 else 1))) (I) := by
  refine q_rt_of (by decide) (Nat.le_of_ble_eq_true rfl) fun Γ BM => ?_
  have B := BM.1
  have hl := hG.1.1.1
  have ha := hG.2.1.1
  show q_W Γ mX2_isAtEnd 0 0 Sh (I) 0 [(0, .ref q)] []
  refine q_aload_n B dX2_isAtEnd_0 rfl rfl ?_
  refine q_getI2 B kC_X2 (k := 1) (by decide) rfl kf_X2_15 hc.1 hG.2.1.2 dX2_isAtEnd_1 ?_
  refine q_aload_n B dX2_isAtEnd_4 rfl rfl ?_
  refine q_getI2 B kC_X2 (k := 0) (by decide) rfl kf_X2_9 hc.1 hG.1.2.1 dX2_isAtEnd_5 ?_
  refine q_icmp_lt (tgt := 15) B dX2_isAtEnd_8 (by decide) (fun c_8 => ?_) (fun c_8 => ?_)
  · skip
    have h8 : a < len := (nI_ltI (by omega) (by omega)).mp c_8
    refine q_iconst (v := 0) B dX2_isAtEnd_15 rfl ?_
    exact q_zret BM rfl (by first | exact Or.inl rfl | exact Or.inr rfl) dX2_isAtEnd_16 ⟨by first | (rw [if_pos h8]; done) | (rw [if_neg h8]; done), rfl, rfl⟩
  · skip
    have h8 : ¬ a < len := fun z => c_8 (q_lt z (by omega))
    refine q_iconst (v := 1) B dX2_isAtEnd_11 rfl ?_
    refine q_goto (tgt := 16) B dX2_isAtEnd_12 (by decide) ?_
    exact q_zret BM rfl (by first | exact Or.inl rfl | exact Or.inr rfl) dX2_isAtEnd_16 ⟨by first | (rw [if_pos h8]; done) | (rw [if_neg h8]; done), rfl, rfl⟩
set_option maxRecDepth 100000 in
set_option maxHeartbeats 4000000 in
theorem s_X2_readSign {Sh : q_Sh} {I : q_Mem} {q len a : Nat} {P : a_A} {L D S N X : Int32} (hc : gOk Sh q) (hG : Pd q I P len a L D S N X) {c : Nat} (hc0 : c ≠ 0) (hc1 : c ≤ 126) : q_Rp mX2_readSign 1 [.ref q, .int (nI c)] Sh (I) (fun w J => w = some (.int (b2 (p_T P len (nI c) a true))) ∧ Pd q J P len (pN (p_T P len (nI c) a true) a) L D S N X ∧ FrP q I J) := by
  refine q_rp_of (by decide) (Nat.le_of_ble_eq_true rfl) fun Γ BM => ?_
  have B := BM.1
  have hl := hG.1.1.1
  obtain ⟨s, hs, es, hsl⟩ := p_s_n (a := a) hG.1.1
  show q_W Γ mX2_readSign 0 0 Sh (I) 0 [(0, .ref q), (1, .int (nI c))] []
  refine q_aload_n B dX2_readSign_0 rfl rfl ?_
  refine q_rtV B (s_X2_sign hc hG) kv_yX2_sign ki_yX2_sign ks_yX2_sign km_X2_37 rfl (ci := 2) rfl rfl hc.1 (by decide) rfl (Nat.le_of_ble_eq_true rfl) dX2_readSign_1 ?_
  refine q_iload_n B dX2_readSign_4 rfl rfl ?_
  refine q_icmp_eq (tgt := 10) B dX2_readSign_5 (by decide) (fun c_5 => ?_) (fun c_5 => ?_)
  · skip
    have hT : p_T P len (nI c) a true = true := by unfold p_T; rw [Bool.true_and]; exact decide_eq_true c_5
    have hal : a < len := hsl (fun z => hc0 ((nI_eq (by omega) (by omega)).mp (by rw [← c_5, es, z])))
    refine q_aload_n B dX2_readSign_10 rfl rfl ?_
    refine q_dup B dX2_readSign_11 rfl ?_
    refine q_getI2 B kC_X2 (k := 1) (by decide) rfl kf_X2_15 hc.1 hG.2.1.2 dX2_readSign_12 ?_
    refine q_iconst (v := 1) B dX2_readSign_15 rfl ?_
    refine q_iadd B dX2_readSign_16 ?_
    refine q_top (a_inc a) ?_
    refine q_putI2 B kC_X2 (k := 1) (by decide) rfl kf_X2_15 rfl rfl rfl hc.1 dX2_readSign_17 ?_
    refine q_iconst (v := 1) B dX2_readSign_20 rfl ?_
    exact q_zret BM rfl (Or.inr rfl) dX2_readSign_21 ⟨rfl, by rw [hT]; rfl, by rw [hT]; exact hG.at' hal, FrP.set⟩
  · skip
    have hT : p_T P len (nI c) a true = false := by unfold p_T; rw [Bool.true_and]; exact decide_eq_false c_5
    refine q_iconst (v := 0) B dX2_readSign_8 rfl ?_
    exact q_zret BM rfl (by decide) dX2_readSign_9 ⟨rfl, by rw [hT]; rfl, by rw [hT]; exact hG, FrP.rf⟩
set_option maxRecDepth 100000 in
set_option maxHeartbeats 4000000 in
theorem s_X2_digitAtMost {Sh : q_Sh} {I : q_Mem} {q len a : Nat} {P : a_A} {L D S N X : Int32} (hc : gOk Sh q) (hG : Pd q I P len a L D S N X) {m : Nat} (hm : m ≤ 9) : q_Rp mX2_digitAtMost 1 [.ref q, .int (nI m)] Sh (I) (fun w J => w = some (.int (if p_ok P len m a true = true then p_dv P len a else -1)) ∧ Pd q J P len (pN (p_ok P len m a true) a) L D S N X ∧ FrP q I J) := by
  refine q_rp_of (by decide) (Nat.le_of_ble_eq_true rfl) fun Γ BM => ?_
  have B := BM.1
  have hl := hG.1.1.1
  obtain ⟨s, hs, es, hsl⟩ := p_s_n (a := a) hG.1.1
  have hin := p_in_iff hs hm
  rw [← es] at hin
  show q_W Γ mX2_digitAtMost 0 0 Sh (I) 0 [(0, .ref q), (1, .int (nI m))] []
  refine q_aload_n B dX2_digitAtMost_0 rfl rfl ?_
  refine q_rtV B (s_X2_sign hc hG) kv_yX2_sign ki_yX2_sign ks_yX2_sign km_X2_37 rfl (ci := 2) rfl rfl hc.1 (by decide) rfl (Nat.le_of_ble_eq_true rfl) dX2_digitAtMost_1 ?_
  refine q_bipush (v := nI 48) B dX2_digitAtMost_4 rfl ?_
  refine q_isub B dX2_digitAtMost_6 ?_
  refine q_istore_n B dX2_digitAtMost_7 rfl (Nat.le_of_ble_eq_true rfl) rfl ?_
  refine q_iload_n B dX2_digitAtMost_8 rfl rfl ?_
  refine q_if_lt (tgt := 17) B dX2_digitAtMost_9 (by decide) (fun c_9 => ?_) (fun c_9 => ?_)
  · skip
    have hT : p_ok P len m a true = false := by unfold p_ok; rw [Bool.true_and]; exact Bool.eq_false_iff.mpr (fun z => (hin.mp z).1 c_9)
    refine q_iconst (v := -1) B dX2_digitAtMost_17 rfl ?_
    exact q_iret BM rfl dX2_digitAtMost_18 ⟨rfl, by rw [hT]; rfl, by rw [hT]; exact hG, FrP.rf⟩
  · skip
    refine q_iload_n B dX2_digitAtMost_12 rfl rfl ?_
    refine q_iload_n B dX2_digitAtMost_13 rfl rfl ?_
    refine q_icmp_le (tgt := 19) B dX2_digitAtMost_14 (by decide) (fun c_14 => ?_) (fun c_14 => ?_)
    · skip
      have hT : p_ok P len m a true = true := by unfold p_ok; rw [Bool.true_and]; exact hin.mpr ⟨c_9, c_14⟩
      have hal : a < len := hsl (fun z => c_9 (by rw [es, z]; decide))
      refine q_aload_n B dX2_digitAtMost_19 rfl rfl ?_
      refine q_dup B dX2_digitAtMost_20 rfl ?_
      refine q_getI2 B kC_X2 (k := 1) (by decide) rfl kf_X2_15 hc.1 hG.2.1.2 dX2_digitAtMost_21 ?_
      refine q_iconst (v := 1) B dX2_digitAtMost_24 rfl ?_
      refine q_iadd B dX2_digitAtMost_25 ?_
      refine q_top (a_inc a) ?_
      refine q_putI2 B kC_X2 (k := 1) (by decide) rfl kf_X2_15 rfl rfl rfl hc.1 dX2_digitAtMost_26 ?_
      refine q_iload_n B dX2_digitAtMost_29 rfl rfl ?_
      exact q_iret BM rfl dX2_digitAtMost_30 ⟨rfl, by rw [hT]; rfl, by rw [hT]; exact hG.at' hal, FrP.set⟩
    · skip
      have hT : p_ok P len m a true = false := by unfold p_ok; rw [Bool.true_and]; exact Bool.eq_false_iff.mpr (fun z => c_14 (hin.mp z).2)
      refine q_iconst (v := -1) B dX2_digitAtMost_17 rfl ?_
      exact q_iret BM rfl dX2_digitAtMost_18 ⟨rfl, by rw [hT]; rfl, by rw [hT]; exact hG, FrP.rf⟩
theorem p_dv_pos {P : a_A} {len a m : Nat} (h : Pg P len) (hm : m ≤ 9) (hk : p_ok P len m a true = true) : ¬ p_dv P len a < 0 := by
  obtain ⟨s, hs, es, -⟩ := p_s_n (a := a) h
  unfold p_ok at hk
  rw [Bool.true_and, es] at hk
  unfold p_dv
  rw [es]
  exact ((p_in_iff hs hm).mp hk).1
set_option maxRecDepth 100000 in
set_option maxHeartbeats 4000000 in
theorem s_X2_readDigit {Sh : q_Sh} {I : q_Mem} {q len a : Nat} {P : a_A} {L D S N X : Int32} (hc : gOk Sh q) (hG : Pd q I P len a L D S N X) {m : Nat} (hm : m ≤ 9) : q_Rp mX2_readDigit 2 [.ref q, .int (nI m)] Sh (I) (fun w J => w = some (.int (b2 (p_ok P len m a true))) ∧ Pd q J P len (pN (p_ok P len m a true) a) L (if p_ok P len m a true = true then p_dv P len a else D) S N X ∧ FrP q I J) := by
  refine q_rp_of (by decide) (Nat.le_of_ble_eq_true rfl) fun Γ BM => ?_
  have B := BM.1
  show q_W Γ mX2_readDigit 0 0 Sh (I) 0 [(0, .ref q), (1, .int (nI m))] []
  refine q_aload_n B dX2_readDigit_0 rfl rfl ?_
  refine q_iload_n B dX2_readDigit_1 rfl rfl ?_
  refine q_rpV B (s_X2_digitAtMost hc hG hm) kv_yX2_digitAtMost ki_yX2_digitAtMost ks_yX2_digitAtMost km_X2_61 rfl (ci := 2) rfl rfl hc.1 (by decide) rfl (Nat.le_of_ble_eq_true rfl) dX2_readDigit_2 (fun w0 J hx => ?_)
  obtain ⟨rfl, h1, h2⟩ := hx
  by_cases hk : p_ok P len m a true = true
  · rw [if_pos hk]
    refine q_istore_n B dX2_readDigit_5 rfl (Nat.le_of_ble_eq_true rfl) rfl ?_
    refine q_iload_n B dX2_readDigit_6 rfl rfl ?_
    refine q_if_ge (tgt := 12) B dX2_readDigit_7 (by decide) (fun _ => ?_) (fun h => absurd ((Int32.not_lt.mp (p_dv_pos hG.1.1 hm hk))) h)
    refine q_aload_n B dX2_readDigit_12 rfl rfl ?_
    refine q_iload_n B dX2_readDigit_13 rfl rfl ?_
    refine q_putI2 B kC_X2 (k := 3) (by decide) rfl kf_X2_21 rfl rfl rfl hc.1 dX2_readDigit_14 ?_
    refine q_iconst (v := 1) B dX2_readDigit_17 rfl ?_
    exact q_zret BM rfl (Or.inr rfl) dX2_readDigit_18 ⟨rfl, by rw [hk]; rfl, by rw [if_pos hk]; exact h1.f3, h2.tr FrP.set⟩
  · rw [if_neg hk]
    refine q_istore_n B dX2_readDigit_5 rfl (Nat.le_of_ble_eq_true rfl) rfl ?_
    refine q_iload_n B dX2_readDigit_6 rfl rfl ?_
    refine q_if_ge (tgt := 12) B dX2_readDigit_7 (by decide) (fun h => absurd h ((by decide))) (fun _ => ?_)
    refine q_iconst (v := 0) B dX2_readDigit_10 rfl ?_
    exact q_zret BM rfl (Or.inl rfl) dX2_readDigit_11 ⟨rfl, by rw [Bool.eq_false_iff.mpr hk]; rfl, by rw [if_neg hk]; exact h1, h2⟩
set_option maxRecDepth 100000 in
set_option maxHeartbeats 4000000 in
theorem s_X2_readLast {Sh : q_Sh} {I : q_Mem} {q len a : Nat} {P : a_A} {L D S N X : Int32} (hc : gOk Sh q) (hG : Pd q I P len a L D S N X) {m : Nat} (hm : m ≤ 9) : q_Rp mX2_readLast 2 [.ref q, .int (nI m)] Sh (I) (fun w J => w = some (.int (b2 (p_ok P len m a true))) ∧ Pd q J P len (pN (p_ok P len m a true) a) L D S N (if p_ok P len m a true = true then p_dv P len a else X) ∧ FrP q I J) := by
  refine q_rp_of (by decide) (Nat.le_of_ble_eq_true rfl) fun Γ BM => ?_
  have B := BM.1
  show q_W Γ mX2_readLast 0 0 Sh (I) 0 [(0, .ref q), (1, .int (nI m))] []
  refine q_aload_n B dX2_readLast_0 rfl rfl ?_
  refine q_iload_n B dX2_readLast_1 rfl rfl ?_
  refine q_rpV B (s_X2_digitAtMost hc hG hm) kv_yX2_digitAtMost ki_yX2_digitAtMost ks_yX2_digitAtMost km_X2_61 rfl (ci := 2) rfl rfl hc.1 (by decide) rfl (Nat.le_of_ble_eq_true rfl) dX2_readLast_2 (fun w0 J hx => ?_)
  obtain ⟨rfl, h1, h2⟩ := hx
  by_cases hk : p_ok P len m a true = true
  · rw [if_pos hk]
    refine q_istore_n B dX2_readLast_5 rfl (Nat.le_of_ble_eq_true rfl) rfl ?_
    refine q_iload_n B dX2_readLast_6 rfl rfl ?_
    refine q_if_ge (tgt := 12) B dX2_readLast_7 (by decide) (fun _ => ?_) (fun h => absurd ((Int32.not_lt.mp (p_dv_pos hG.1.1 hm hk))) h)
    refine q_aload_n B dX2_readLast_12 rfl rfl ?_
    refine q_iload_n B dX2_readLast_13 rfl rfl ?_
    refine q_putI2 B kC_X2 (k := 6) (by decide) rfl kf_X2_30 rfl rfl rfl hc.1 dX2_readLast_14 ?_
    refine q_iconst (v := 1) B dX2_readLast_17 rfl ?_
    exact q_zret BM rfl (Or.inr rfl) dX2_readLast_18 ⟨rfl, by rw [hk]; rfl, by rw [if_pos hk]; exact h1.f6, h2.tr FrP.set⟩
  · rw [if_neg hk]
    refine q_istore_n B dX2_readLast_5 rfl (Nat.le_of_ble_eq_true rfl) rfl ?_
    refine q_iload_n B dX2_readLast_6 rfl rfl ?_
    refine q_if_ge (tgt := 12) B dX2_readLast_7 (by decide) (fun h => absurd h ((by decide))) (fun _ => ?_)
    refine q_iconst (v := 0) B dX2_readLast_10 rfl ?_
    exact q_zret BM rfl (Or.inl rfl) dX2_readLast_11 ⟨rfl, by rw [Bool.eq_false_iff.mpr hk]; rfl, by rw [if_neg hk]; exact h1, h2⟩
