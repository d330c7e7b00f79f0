theorem a_next1_no {σ : a_A} {kinds bb : Int32} {i : Nat} (h : ¬ (σ (57 + 7 * i + 4) = 0 ∧ (kinds >>> (σ (57 + 7 * i) &&& 31)) &&& nI 1 = nI 1)) : a_next1 σ kinds i bb = bb := by
  unfold a_next1
  rw [if_neg (fun q => h q.1)]
/-- the least patience of the best so far; 100 of none -/
def a_least (σ : a_A) (bb : Int32) : Int32 := if bb = -6 then nI 100 else σ (57 + 7 * a_n bb + 2)
theorem a_next1_least {σ : a_A} {kinds bb : Int32} {i p : Nat} (h : σ (57 + 7 * i + 4) = 0 ∧ (kinds >>> (σ (57 + 7 * i) &&& 31)) &&& nI 1 = nI 1) (hp : p ≤ 99) (ep : σ (57 + 7 * i + 2) = nI p) : a_next1 σ kinds i bb = if σ (57 + 7 * i + 2) < a_least σ bb then nI i else bb := by
  unfold a_next1 a_least
  by_cases h6 : bb = -6
  · rw [if_pos ⟨h, Or.inl h6⟩, if_pos h6, ep, if_pos (q_lt (by omega) (by decide))]
  · rw [if_neg h6]
    by_cases h7 : σ (57 + 7 * i + 2) < σ (57 + 7 * a_n bb + 2)
    · rw [if_pos ⟨h, Or.inr h7⟩, if_pos h7]
    · rw [if_neg (fun q => q.2.elim h6 h7), if_neg h7]
theorem a_least_i {σ : a_A} {i : Nat} (hi : i < 30) : a_least σ (nI i) = σ (57 + 7 * i + 2) := by
  unfold a_least a_n
  rw [if_neg (a_nI_ne6 (by omega)), nI_clamp (by omega)]
theorem a_pat_lt {a c : Nat} (ha : a ≤ 99) (hc : c ≤ 99) : (0 < nI a - nI c ↔ c < a) ∧ (nI a - nI c = 0 ↔ a = c) := by
  have e : (nI a - nI c).toInt = (a : Int) - c := by
    have key : ∀ a, a ≤ 99 → ∀ c, c ≤ 99 → (nI a - nI c).toInt = (a : Int) - c := by decide +kernel
    exact key a ha c hc
  have z : (0 : Int32).toInt = 0 := by decide
  constructor
  · rw [Int32.lt_iff_toInt_lt, e, z]; omega
  · rw [← Int32.toInt_inj, e, z]; omega
theorem a_how01 {x : Int32} {h : Nat} (hh : h ≤ 4) (e : x = nI h) : (x = 0 ∨ x = nI 1) ↔ x < nI 2 := by
  subst e
  have key : ∀ h, h ≤ 4 → ((nI h = 0 ∨ nI h = nI 1) ↔ nI h < nI 2) := by decide +kernel
  exact key h hh
theorem a_pf3 : ∀ k, k < 6 → q_fold (fun j (s : Int32) => s ||| (nI 1 <<< (((nI k + nI j) - (nI k + nI j) / nI 8 * nI 8) &&& 31))) 3 0 = nI (a_pm k) := by decide +kernel
def a_hereN (σ : a_A) : Nat → Nat → Bool
  | 0, _ => false
  | n + 1, i => if σ (57 + 7 * i + 4) < nI 2 then true else a_hereN σ n (i + 1)
def a_here (σ : a_A) : Bool := a_hereN σ (a_T σ) 0
theorem s_isHere {Sh : q_Sh} {I : q_Mem} {l : Nat} (hl : q_is Sh l 5) : q_Rt mX5_isHere 0 [.ref l] Sh I (some (.int (if I l 4 = 0 ∨ I l 4 = nI 1 then 1 else 0))) I := by
  have h := s_X5_isHere (I := I) (ob := I l) hl
  rwa [q_setA_self] at h
theorem s_isHereR {Sh : q_Sh} {I : q_Mem} {σ : a_A} {b T F : Nat} (hc : cOk Sh b) (hR : Rc T F b I σ) {i : Nat} (hi : i < T) : q_Rt mX5_isHere 0 [.ref (b + 4 + i)] Sh I (some (.int (if σ (57 + 7 * i + 4) < nI 2 then 1 else 0))) I := by
  have hT2 := hR.1.1.1
  have h := s_isHere (I := I) (cT hc (show i < 30 by omega))
  have e : I (b + 4 + i) 4 = σ (57 + 7 * i + 4) := (hR.1.2.2.1 i hi).1 4 (by decide)
  obtain ⟨x, hx, ex⟩ := hR.2.2.2.2.2.2.1 i hi
  rw [e] at h
  refine q_rt_mono h ?_ rfl
  by_cases q : σ (57 + 7 * i + 4) < nI 2
  · rw [if_pos q, if_pos ((a_how01 hx ex).mpr q)]
  · rw [if_neg q, if_neg (fun z => q ((a_how01 hx ex).mp z))]
set_option maxRecDepth 100000 in
set_option maxHeartbeats 4000000 in
theorem s_X6_partsOf {Sh : q_Sh} {I : q_Mem} {k : Nat} (hk : k < 6) : q_Rt mX6_partsOf 0 [.int (nI k)] Sh (I) (some (.int (nI (a_pm k)))) (I) := by
  refine q_rt_of (by decide) (Nat.le_of_ble_eq_true rfl) fun Γ BM => ?_
  have B := BM.1
  show q_W Γ mX6_partsOf 0 0 Sh (I) 0 [(0, .int (nI k))] []
  refine q_iconst (v := 0) B dX6_partsOf_0 rfl ?_
  refine q_istore_n B dX6_partsOf_1 rfl (Nat.le_of_ble_eq_true rfl) rfl ?_
  refine q_iconst (v := nI 0) B dX6_partsOf_2 rfl ?_
  refine q_istore_n B dX6_partsOf_3 rfl (Nat.le_of_ble_eq_true rfl) rfl ?_
  have hl_4 : ∀ (n i : Nat) (s : Int32), i + n = 3 → q_fold (fun j (s : Int32) => s ||| (nI 1 <<< (((nI k + nI j) - (nI k + nI j) / nI 8 * nI 8) &&& 31))) i 0 = s → q_W Γ mX6_partsOf 0 0 Sh I 4 [(0, .int (nI k)), (1, .int s), (2, .int (nI i))] [] := by
    intro n
    induction n with
    | zero =>
      intro i s hin hinv
      have hi : i = 3 := by omega
      subst hi
      refine q_iload_n B dX6_partsOf_4 rfl rfl ?_
      refine q_iconst (v := nI 3) B dX6_partsOf_5 rfl ?_
      refine q_icmp_ge (tgt := 26) B dX6_partsOf_6 (by decide) (fun _ => ?_) (fun h => absurd (q_le (Nat.le_refl 3) (by decide)) h)
      refine q_iload_n B dX6_partsOf_26 rfl rfl ?_
      exact q_iret BM rfl dX6_partsOf_27 ⟨by rw [← hinv, a_pf3 k hk], rfl, rfl⟩
    | succ n ih =>
      intro i s hin hinv
      have hiN : i < 3 := by omega
      refine q_iload_n B dX6_partsOf_4 rfl rfl ?_
      refine q_iconst (v := nI 3) B dX6_partsOf_5 rfl ?_
      refine q_icmp_ge (tgt := 26) B dX6_partsOf_6 (by decide) (fun h => absurd h (q_nle hiN (by decide))) (fun _ => ?_)
      refine q_iload_n B dX6_partsOf_9 rfl rfl ?_
      refine q_iconst (v := nI 1) B dX6_partsOf_10 rfl ?_
      refine q_iload_n B dX6_partsOf_11 rfl rfl ?_
      refine q_iload_n B dX6_partsOf_12 rfl rfl ?_
      refine q_iadd B dX6_partsOf_13 ?_
      refine q_bipush (v := nI 8) B dX6_partsOf_14 rfl ?_
      refine q_irem B dX6_partsOf_16 (by decide +kernel) ?_
      refine q_ishl B dX6_partsOf_17 ?_
      refine q_ior B dX6_partsOf_18 ?_
      refine q_istore_n B dX6_partsOf_19 rfl (Nat.le_of_ble_eq_true rfl) rfl ?_
      refine q_iinc2 (y := nI (i + 1)) B dX6_partsOf_20 rfl (q_inc1 _) (Nat.le_of_ble_eq_true rfl) rfl ?_
      refine q_goto (tgt := 4) B dX6_partsOf_23 (by decide) ?_
      exact q_tk (ih (i + 1) _ (by omega) (by rw [← hinv]; rfl)) rfl (q_ac rfl (q_ac rfl (q_ac rfl q_an)))
  exact q_tk (hl_4 3 0 0 (by omega) rfl) rfl (q_ac rfl (q_ac rfl (q_ac rfl q_an)))
set_option maxRecDepth 100000 in
set_option maxHeartbeats 4000000 in
theorem s_X6_isFixer {Sh : q_Sh} {I : q_Mem} {k c : Int32} : q_Rt mX6_isFixer 0 [.int k, .int c] Sh (I) (some (.int (if (nI 1 ≤ k ∧ k ≤ nI 63) ∧ (nI 0 ≤ c ∧ c ≤ nI 9) then 1 else 0))) (I) := by
  refine q_rt_of (by decide) (Nat.le_of_ble_eq_true rfl) fun Γ BM => ?_
  have B := BM.1
  show q_W Γ mX6_isFixer 0 0 Sh (I) 0 [(0, .int k), (1, .int c)] []
  refine q_iload_n B dX6_isFixer_0 rfl rfl ?_
  refine q_iconst (v := nI 1) B dX6_isFixer_1 rfl ?_
  refine q_icmp_lt (tgt := 25) B dX6_isFixer_2 (by decide) (fun c_2 => ?_) (fun c_2 => ?_)
  · skip
    refine q_iconst (v := 0) B dX6_isFixer_25 rfl ?_
    exact q_zret BM rfl (by first | exact Or.inl rfl | exact Or.inr rfl) dX6_isFixer_26 ⟨by first | (rw [if_neg (fun h => absurd h.1.1 (Int32.not_le.mpr c_2))]; done) | (rw [if_neg (fun h => absurd h.1.2 (Int32.not_le.mpr c_8))]; done) | (rw [if_neg (fun h => absurd (nI_0 ▸ h.2.1) (Int32.not_le.mpr c_12))]; done) | (rw [if_neg (fun h => absurd h.2.2 (Int32.not_le.mpr c_18))]; done) | (rw [if_pos ⟨⟨Int32.not_lt.mp c_2, Int32.not_lt.mp c_8⟩, nI_0 ▸ Int32.not_lt.mp c_12, Int32.not_lt.mp c_18⟩]; done), rfl, rfl⟩
  · skip
    refine q_iload_n B dX6_isFixer_5 rfl rfl ?_
    refine q_bipush (v := nI 63) B dX6_isFixer_6 rfl ?_
    refine q_icmp_gt (tgt := 25) B dX6_isFixer_8 (by decide) (fun c_8 => ?_) (fun c_8 => ?_)
    · skip
      refine q_iconst (v := 0) B dX6_isFixer_25 rfl ?_
      exact q_zret BM rfl (by first | exact Or.inl rfl | exact Or.inr rfl) dX6_isFixer_26 ⟨by first | (rw [if_neg (fun h => absurd h.1.1 (Int32.not_le.mpr c_2))]; done) | (rw [if_neg (fun h => absurd h.1.2 (Int32.not_le.mpr c_8))]; done) | (rw [if_neg (fun h => absurd (nI_0 ▸ h.2.1) (Int32.not_le.mpr c_12))]; done) | (rw [if_neg (fun h => absurd h.2.2 (Int32.not_le.mpr c_18))]; done) | (rw [if_pos ⟨⟨Int32.not_lt.mp c_2, Int32.not_lt.mp c_8⟩, nI_0 ▸ Int32.not_lt.mp c_12, Int32.not_lt.mp c_18⟩]; done), rfl, rfl⟩
    · skip
      refine q_iload_n B dX6_isFixer_11 rfl rfl ?_
      refine q_if_lt (tgt := 25) B dX6_isFixer_12 (by decide) (fun c_12 => ?_) (fun c_12 => ?_)
      · skip
        refine q_iconst (v := 0) B dX6_isFixer_25 rfl ?_
        exact q_zret BM rfl (by first | exact Or.inl rfl | exact Or.inr rfl) dX6_isFixer_26 ⟨by first | (rw [if_neg (fun h => absurd h.1.1 (Int32.not_le.mpr c_2))]; done) | (rw [if_neg (fun h => absurd h.1.2 (Int32.not_le.mpr c_8))]; done) | (rw [if_neg (fun h => absurd (nI_0 ▸ h.2.1) (Int32.not_le.mpr c_12))]; done) | (rw [if_neg (fun h => absurd h.2.2 (Int32.not_le.mpr c_18))]; done) | (rw [if_pos ⟨⟨Int32.not_lt.mp c_2, Int32.not_lt.mp c_8⟩, nI_0 ▸ Int32.not_lt.mp c_12, Int32.not_lt.mp c_18⟩]; done), rfl, rfl⟩
      · skip
        refine q_iload_n B dX6_isFixer_15 rfl rfl ?_
        refine q_bipush (v := nI 9) B dX6_isFixer_16 rfl ?_
        refine q_icmp_gt (tgt := 25) B dX6_isFixer_18 (by decide) (fun c_18 => ?_) (fun c_18 => ?_)
        · skip
          refine q_iconst (v := 0) B dX6_isFixer_25 rfl ?_
          exact q_zret BM rfl (by first | exact Or.inl rfl | exact Or.inr rfl) dX6_isFixer_26 ⟨by first | (rw [if_neg (fun h => absurd h.1.1 (Int32.not_le.mpr c_2))]; done) | (rw [if_neg (fun h => absurd h.1.2 (Int32.not_le.mpr c_8))]; done) | (rw [if_neg (fun h => absurd (nI_0 ▸ h.2.1) (Int32.not_le.mpr c_12))]; done) | (rw [if_neg (fun h => absurd h.2.2 (Int32.not_le.mpr c_18))]; done) | (rw [if_pos ⟨⟨Int32.not_lt.mp c_2, Int32.not_lt.mp c_8⟩, nI_0 ▸ Int32.not_lt.mp c_12, Int32.not_lt.mp c_18⟩]; done), rfl, rfl⟩
        · skip
          refine q_iconst (v := 1) B dX6_isFixer_21 rfl ?_
          refine q_goto (tgt := 26) B dX6_isFixer_22 (by decide) ?_
          exact q_zret BM rfl (by first | exact Or.inl rfl | exact Or.inr rfl) dX6_isFixer_26 ⟨by first | (rw [if_neg (fun h => absurd h.1.1 (Int32.not_le.mpr c_2))]; done) | (rw [if_neg (fun h => absurd h.1.2 (Int32.not_le.mpr c_8))]; done) | (rw [if_neg (fun h => absurd (nI_0 ▸ h.2.1) (Int32.not_le.mpr c_12))]; done) | (rw [if_neg (fun h => absurd h.2.2 (Int32.not_le.mpr c_18))]; done) | (rw [if_pos ⟨⟨Int32.not_lt.mp c_2, Int32.not_lt.mp c_8⟩, nI_0 ▸ Int32.not_lt.mp c_12, Int32.not_lt.mp c_18⟩]; done), rfl, rfl⟩
set_option maxRecDepth 100000 in
set_option maxHeartbeats 4000000 in
theorem s_X6_isWhatIf {Sh : q_Sh} {I : q_Mem} {m : Int32} : q_Rt mX6_isWhatIf 0 [.int m] Sh (I) (some (.int (if nI 1 ≤ m ∧ m ≤ nI 300 then 1 else 0))) (I) := by
  refine q_rt_of (by decide) (Nat.le_of_ble_eq_true rfl) fun Γ BM => ?_
  have B := BM.1
  show q_W Γ mX6_isWhatIf 0 0 Sh (I) 0 [(0, .int m)] []
  refine q_iload_n B dX6_isWhatIf_0 rfl rfl ?_
  refine q_iconst (v := nI 1) B dX6_isWhatIf_1 rfl ?_
  refine q_icmp_lt (tgt := 16) B dX6_isWhatIf_2 (by decide) (fun c_2 => ?_) (fun c_2 => ?_)
  · skip
    refine q_iconst (v := 0) B dX6_isWhatIf_16 rfl ?_
    exact q_zret BM rfl (by first | exact Or.inl rfl | exact Or.inr rfl) dX6_isWhatIf_17 ⟨by first | (rw [if_neg (fun h => absurd h.1 (Int32.not_le.mpr c_2))]; done) | (rw [if_neg (fun h => absurd h.2 (Int32.not_le.mpr c_9))]; done) | (rw [if_pos ⟨Int32.not_lt.mp c_2, Int32.not_lt.mp c_9⟩]; done), rfl, rfl⟩
  · skip
    refine q_iload_n B dX6_isWhatIf_5 rfl rfl ?_
    refine q_sipush (v := nI 300) B dX6_isWhatIf_6 rfl ?_
    refine q_icmp_gt (tgt := 16) B dX6_isWhatIf_9 (by decide) (fun c_9 => ?_) (fun c_9 => ?_)
    · skip
      refine q_iconst (v := 0) B dX6_isWhatIf_16 rfl ?_
      exact q_zret BM rfl (by first | exact Or.inl rfl | exact Or.inr rfl) dX6_isWhatIf_17 ⟨by first | (rw [if_neg (fun h => absurd h.1 (Int32.not_le.mpr c_2))]; done) | (rw [if_neg (fun h => absurd h.2 (Int32.not_le.mpr c_9))]; done) | (rw [if_pos ⟨Int32.not_lt.mp c_2, Int32.not_lt.mp c_9⟩]; done), rfl, rfl⟩
    · skip
      refine q_iconst (v := 1) B dX6_isWhatIf_12 rfl ?_
      refine q_goto (tgt := 17) B dX6_isWhatIf_13 (by decide) ?_
      exact q_zret BM rfl (by first | exact Or.inl rfl | exact Or.inr rfl) dX6_isWhatIf_17 ⟨by first | (rw [if_neg (fun h => absurd h.1 (Int32.not_le.mpr c_2))]; done) | (rw [if_neg (fun h => absurd h.2 (Int32.not_le.mpr c_9))]; done) | (rw [if_pos ⟨Int32.not_lt.mp c_2, Int32.not_lt.mp c_9⟩]; done), rfl, rfl⟩
set_option maxRecDepth 100000 in
set_option maxHeartbeats 4000000 in
theorem s_X0_nextOf {Sh : q_Sh} {I : q_Mem} {σ : a_A} {b T F : Nat} (hc : cOk Sh b) (hR : Rc T F b I σ) {kinds : Int32} : q_Rt mX0_nextOf 1 [.ref b, .int kinds] Sh (I) (some (.int (a_next σ kinds))) (I) := by
  refine q_rt_of (by decide) (Nat.le_of_ble_eq_true rfl) fun Γ BM => ?_
  have B := BM.1
  have hT := hR.1.2.1.2.1
  have hT2 := hR.1.1.1
  have hF := hR.1.2.1.2.2
  have hF2 := hR.1.1.2
  have haT := a_W_T hR.2.2
  have haF := a_W_F hR.2.2
  show q_W Γ mX0_nextOf 0 0 Sh (I) 0 [(0, .ref b), (1, .int kinds)] []
  refine q_bipush (v := -6) B dX0_nextOf_0 rfl ?_
  refine q_istore_n B dX0_nextOf_2 rfl (Nat.le_of_ble_eq_true rfl) rfl ?_
  refine q_bipush (v := a_least σ (-6)) B dX0_nextOf_3 (by rw [a_least, if_pos rfl]; rfl) ?_
  refine q_istore_n B dX0_nextOf_5 rfl (Nat.le_of_ble_eq_true rfl) rfl ?_
  refine q_iconst (v := nI 0) B dX0_nextOf_6 rfl ?_
  refine q_istore B dX0_nextOf_7 (Nat.le_of_ble_eq_true rfl) rfl ?_
  have hl_9 : ∀ (n i : Nat) (bb : Int32), i + n = T → q_fold (a_next1 σ kinds) i (-6) = bb → q_W Γ mX0_nextOf 0 0 Sh I 9 [(0, .ref b), (1, .int kinds), (2, .int bb), (3, .int (a_least σ bb)), (4, .int (nI i))] [] := by
    intro n
    induction n with
    | zero =>
      intro i bb hin hinv
      have hi : i = T := by omega
      subst hi
      refine q_iload B dX0_nextOf_9 rfl ?_
      refine q_aload_n B dX0_nextOf_11 rfl rfl ?_
      refine q_getI2 B kC_X0 (k := 1) (by decide) rfl kf_X0_15 hc.1 hT dX0_nextOf_12 ?_
      refine q_icmp_ge (tgt := 75) B dX0_nextOf_15 (by decide) (fun _ => ?_) (fun h => absurd (q_le (Nat.le_refl _) (by omega)) h)
      refine q_iload_n B dX0_nextOf_75 rfl rfl ?_
      exact q_iret BM rfl dX0_nextOf_76 ⟨by rw [a_next, haT, hinv], rfl, rfl⟩
    | succ n ih =>
      intro i bb hin hinv
      have hiN : i < T := by omega
      refine q_iload B dX0_nextOf_9 rfl ?_
      refine q_aload_n B dX0_nextOf_11 rfl rfl ?_
      refine q_getI2 B kC_X0 (k := 1) (by decide) rfl kf_X0_15 hc.1 hT dX0_nextOf_12 ?_
      refine q_icmp_ge (tgt := 75) B dX0_nextOf_15 (by decide) (fun h => absurd h (q_nle hiN (by omega))) (fun _ => ?_)
      refine q_aload_n B dX0_nextOf_18 rfl rfl ?_
      refine q_iload B dX0_nextOf_19 rfl ?_
      refine q_rtV B (s_X0_thingAt hc hT hT2 hiN) kv_yX0_thingAt ki_yX0_thingAt ks_yX0_thingAt km_X0_42 rfl (ci := 0) rfl rfl hc.1 (by decide) rfl (Nat.le_of_ble_eq_true rfl) dX0_nextOf_21 ?_
      refine q_astore B dX0_nextOf_24 (Nat.le_of_ble_eq_true rfl) rfl ?_
      refine q_aload B dX0_nextOf_26 rfl ?_
      refine q_ifnull B dX0_nextOf_28 ?_
      refine q_aload B dX0_nextOf_31 rfl ?_
      refine q_getI2 B kC_X5 (k := 4) (by decide) rfl kf_X0_82 (cT hc (i := i) (by omega)) ((hR.1.2.2.1 i hiN).1 4 (by decide)) dX0_nextOf_33 ?_
      refine q_if_ne (tgt := 69) B dX0_nextOf_36 (by decide) (fun c_36 => ?_) (fun c_36 => ?_)
      · skip
        have hno : ¬ (σ (57 + 7 * i + 4) = 0 ∧ (kinds >>> (σ (57 + 7 * i) &&& 31)) &&& nI 1 = nI 1) := fun q => c_36 q.1
        refine q_iinc2 (y := nI (i + 1)) B dX0_nextOf_69 rfl (q_inc1 _) (Nat.le_of_ble_eq_true rfl) rfl ?_
        refine q_goto (tgt := 9) B dX0_nextOf_72 (by decide) ?_
        exact q_tk (ih (i + 1) _ (by omega) (by show a_next1 σ kinds i (q_fold _ i _) = _; rw [hinv]; first | exact a_next1_no hno | (rw [a_next1_least hyes hp2 ep, if_neg (Int32.not_lt.mpr c_57)]; done) | (rw [a_next1_least hyes hp2 ep, if_pos (Int32.not_le.mp c_57)]; done))) rfl (q_ac rfl (q_ac rfl (q_ac rfl (q_ac rfl (q_ac rfl q_an)))))
      · skip
        refine q_iload_n B dX0_nextOf_39 rfl rfl ?_
        refine q_aload B dX0_nextOf_40 rfl ?_
        refine q_getI2 B kC_X5 (k := 0) (by decide) rfl kf_X0_159 (cT hc (i := i) (by omega)) ((hR.1.2.2.1 i hiN).1 0 (by decide)) dX0_nextOf_42 ?_
        refine q_rtSN B s_X6_isIn kv_yX6_isIn kt_yX6_isIn kn_X0_150 rfl (by decide) rfl (Nat.le_of_ble_eq_true rfl) dX0_nextOf_45 ?_
        refine q_if_eq (tgt := 69) B dX0_nextOf_48 (by decide) (fun c_48 => ?_) (fun c_48 => ?_)
        · skip
          have hno : ¬ (σ (57 + 7 * i + 4) = 0 ∧ (kinds >>> (σ (57 + 7 * i) &&& 31)) &&& nI 1 = nI 1) := fun q => a_b0 c_48 q.2
          refine q_iinc2 (y := nI (i + 1)) B dX0_nextOf_69 rfl (q_inc1 _) (Nat.le_of_ble_eq_true rfl) rfl ?_
          refine q_goto (tgt := 9) B dX0_nextOf_72 (by decide) ?_
          exact q_tk (ih (i + 1) _ (by omega) (by show a_next1 σ kinds i (q_fold _ i _) = _; rw [hinv]; first | exact a_next1_no hno | (rw [a_next1_least hyes hp2 ep, if_neg (Int32.not_lt.mpr c_57)]; done) | (rw [a_next1_least hyes hp2 ep, if_pos (Int32.not_le.mp c_57)]; done))) rfl (q_ac rfl (q_ac rfl (q_ac rfl (q_ac rfl (q_ac rfl q_an)))))
        · skip
          have hyes : σ (57 + 7 * i + 4) = 0 ∧ (kinds >>> (σ (57 + 7 * i) &&& 31)) &&& nI 1 = nI 1 := ⟨c_36, a_b1 c_48⟩
          obtain ⟨p, -, hp2, ep⟩ := hR.2.2.2.2.2.2.2.1 i hiN c_36
          refine q_aload B dX0_nextOf_51 rfl ?_
          refine q_getI2 B kC_X5 (k := 2) (by decide) rfl kf_X0_165 (cT hc (i := i) (by omega)) ((hR.1.2.2.1 i hiN).1 2 (by decide)) dX0_nextOf_53 ?_
          refine q_iload_n B dX0_nextOf_56 rfl rfl ?_
          refine q_icmp_ge (tgt := 69) B dX0_nextOf_57 (by decide) (fun c_57 => ?_) (fun c_57 => ?_)
          · skip
            refine q_iinc2 (y := nI (i + 1)) B dX0_nextOf_69 rfl (q_inc1 _) (Nat.le_of_ble_eq_true rfl) rfl ?_
            refine q_goto (tgt := 9) B dX0_nextOf_72 (by decide) ?_
            exact q_tk (ih (i + 1) _ (by omega) (by show a_next1 σ kinds i (q_fold _ i _) = _; rw [hinv]; first | exact a_next1_no hno | (rw [a_next1_least hyes hp2 ep, if_neg (Int32.not_lt.mpr c_57)]; done) | (rw [a_next1_least hyes hp2 ep, if_pos (Int32.not_le.mp c_57)]; done))) rfl (q_ac rfl (q_ac rfl (q_ac rfl (q_ac rfl (q_ac rfl q_an)))))
          · skip
            refine q_aload B dX0_nextOf_60 rfl ?_
            refine q_getI2 B kC_X5 (k := 2) (by decide) rfl kf_X0_165 (cT hc (i := i) (by omega)) ((hR.1.2.2.1 i hiN).1 2 (by decide)) dX0_nextOf_62 ?_
            refine q_top (a_least_i (σ := σ) (i := i) (by omega)).symm ?_
            refine q_istore_n B dX0_nextOf_65 rfl (Nat.le_of_ble_eq_true rfl) rfl ?_
            refine q_iload B dX0_nextOf_66 rfl ?_
            refine q_istore_n B dX0_nextOf_68 rfl (Nat.le_of_ble_eq_true rfl) rfl ?_
            refine q_iinc2 (y := nI (i + 1)) B dX0_nextOf_69 rfl (q_inc1 _) (Nat.le_of_ble_eq_true rfl) rfl ?_
            refine q_goto (tgt := 9) B dX0_nextOf_72 (by decide) ?_
            exact q_tk (ih (i + 1) _ (by omega) (by show a_next1 σ kinds i (q_fold _ i _) = _; rw [hinv]; first | exact a_next1_no hno | (rw [a_next1_least hyes hp2 ep, if_neg (Int32.not_lt.mpr c_57)]; done) | (rw [a_next1_least hyes hp2 ep, if_pos (Int32.not_le.mp c_57)]; done))) rfl (q_ac rfl (q_ac rfl (q_ac rfl (q_ac rfl (q_ac rfl q_an)))))
  exact q_tk (hl_9 T 0 (-6) (by omega) rfl) rfl (q_ac rfl (q_ac rfl (q_ac rfl (q_ac rfl (q_ac rfl q_an)))))
set_option maxRecDepth 100000 in
set_option maxHeartbeats 4000000 in
theorem s_X0_placeOf {Sh : q_Sh} {I : q_Mem} {σ : a_A} {b T F : Nat} (hc : cOk Sh b) (hR : Rc T F b I σ) {t : Nat} (ht : t < T) : q_Rt mX0_placeOf 1 [.ref b, .int (nI t)] Sh (I) (some (.int (a_place σ t))) (I) := by
  refine q_rt_of (by decide) (Nat.le_of_ble_eq_true rfl) fun Γ BM => ?_
  have B := BM.1
  have hT := hR.1.2.1.2.1
  have hT2 := hR.1.1.1
  have hF := hR.1.2.1.2.2
  have hF2 := hR.1.1.2
  have haT := a_W_T hR.2.2
  have haF := a_W_F hR.2.2
  show q_W Γ mX0_placeOf 0 0 Sh (I) 0 [(0, .ref b), (1, .int (nI t))] []
  refine q_aload_n B dX0_placeOf_0 rfl rfl ?_
  refine q_iload_n B dX0_placeOf_1 rfl rfl ?_
  refine q_rtV B (s_X0_thingAt hc hT hT2 ht) kv_yX0_thingAt ki_yX0_thingAt ks_yX0_thingAt km_X0_42 rfl (ci := 0) rfl rfl hc.1 (by decide) rfl (Nat.le_of_ble_eq_true rfl) dX0_placeOf_2 ?_
  refine q_astore_n B dX0_placeOf_5 rfl (Nat.le_of_ble_eq_true rfl) rfl ?_
  refine q_aload_n B dX0_placeOf_6 rfl rfl ?_
  refine q_ifnull B dX0_placeOf_7 ?_
  refine q_aload_n B dX0_placeOf_10 rfl rfl ?_
  refine q_getI2 B kC_X5 (k := 4) (by decide) rfl kf_X0_82 (cT hc (i := t) (by omega)) ((hR.1.2.2.1 t ht).1 4 (by decide)) dX0_placeOf_11 ?_
  refine q_if_eq (tgt := 20) B dX0_placeOf_14 (by decide) (fun c_14 => ?_) (fun c_14 => ?_)
  · skip
    obtain ⟨pt, -, hpt, ept⟩ := hR.2.2.2.2.2.2.2.1 t ht c_14
    refine q_iconst (v := 0) B dX0_placeOf_20 rfl ?_
    refine q_istore_n B dX0_placeOf_21 rfl (Nat.le_of_ble_eq_true rfl) rfl ?_
    refine q_iconst (v := nI 0) B dX0_placeOf_22 rfl ?_
    refine q_istore B dX0_placeOf_23 (Nat.le_of_ble_eq_true rfl) rfl ?_
    have hl_25 : ∀ (n i : Nat) (c : Int32), i + n = T → q_fold (fun i (n : Int32) => n + (if σ (57 + 7 * i + 4) = 0 ∧ (0 < σ (57 + 7 * t + 2) - σ (57 + 7 * i + 2) ∨ (σ (57 + 7 * t + 2) - σ (57 + 7 * i + 2) = 0 ∧ i < t)) then 1 else 0)) i 0 = c → q_W Γ mX0_placeOf 0 0 Sh I 25 [(0, .ref b), (1, .int (nI t)), (2, .ref (b + 4 + t)), (3, .int c), (4, .int (nI i))] [] := by
      intro n
      induction n with
      | zero =>
        intro i c hin hinv
        have hi : i = T := by omega
        subst hi
        refine q_iload B dX0_placeOf_25 rfl ?_
        refine q_aload_n B dX0_placeOf_27 rfl rfl ?_
        refine q_getI2 B kC_X0 (k := 1) (by decide) rfl kf_X0_15 hc.1 hT dX0_placeOf_28 ?_
        refine q_icmp_ge (tgt := 97) B dX0_placeOf_31 (by decide) (fun _ => ?_) (fun h => absurd (q_le (Nat.le_refl _) (by omega)) h)
        refine q_iload_n B dX0_placeOf_97 rfl rfl ?_
        exact q_iret BM rfl dX0_placeOf_98 ⟨by rw [a_place, if_pos c_14, haT, hinv], rfl, rfl⟩
      | succ n ih =>
        intro i c hin hinv
        have hiN : i < T := by omega
        refine q_iload B dX0_placeOf_25 rfl ?_
        refine q_aload_n B dX0_placeOf_27 rfl rfl ?_
        refine q_getI2 B kC_X0 (k := 1) (by decide) rfl kf_X0_15 hc.1 hT dX0_placeOf_28 ?_
        refine q_icmp_ge (tgt := 97) B dX0_placeOf_31 (by decide) (fun h => absurd h (q_nle hiN (by omega))) (fun _ => ?_)
        refine q_aload_n B dX0_placeOf_34 rfl rfl ?_
        refine q_iload B dX0_placeOf_35 rfl ?_
        refine q_rtV B (s_X0_thingAt hc hT hT2 hiN) kv_yX0_thingAt ki_yX0_thingAt ks_yX0_thingAt km_X0_42 rfl (ci := 0) rfl rfl hc.1 (by decide) rfl (Nat.le_of_ble_eq_true rfl) dX0_placeOf_37 ?_
        refine q_astore B dX0_placeOf_40 (Nat.le_of_ble_eq_true rfl) rfl ?_
        refine q_aload B dX0_placeOf_42 rfl ?_
        refine q_ifnull B dX0_placeOf_44 ?_
        refine q_aload B dX0_placeOf_47 rfl ?_
        refine q_getI2 B kC_X5 (k := 4) (by decide) rfl kf_X0_82 (cT hc (i := i) (by omega)) ((hR.1.2.2.1 i hiN).1 4 (by decide)) dX0_placeOf_49 ?_
        refine q_if_eq (tgt := 58) B dX0_placeOf_52 (by decide) (fun c_52 => ?_) (fun c_52 => ?_)
        · skip
          obtain ⟨pi, -, hpi, epi⟩ := hR.2.2.2.2.2.2.2.1 i hiN c_52
          refine q_aload B dX0_placeOf_58 rfl ?_
          refine q_getI2 B kC_X5 (k := 2) (by decide) rfl kf_X0_165 (cT hc (i := i) (by omega)) ((hR.1.2.2.1 i hiN).1 2 (by decide)) dX0_placeOf_60 ?_
          refine q_aload_n B dX0_placeOf_63 rfl rfl ?_
          refine q_getI2 B kC_X5 (k := 2) (by decide) rfl kf_X0_165 (cT hc (i := t) (by omega)) ((hR.1.2.2.1 t ht).1 2 (by decide)) dX0_placeOf_64 ?_
          refine q_icmp_lt (tgt := 88) B dX0_placeOf_67 (by decide) (fun c_67 => ?_) (fun c_67 => ?_)
          · skip
            have hp : σ (57 + 7 * i + 4) = 0 ∧ (0 < σ (57 + 7 * t + 2) - σ (57 + 7 * i + 2) ∨ (σ (57 + 7 * t + 2) - σ (57 + 7 * i + 2) = 0 ∧ i < t)) := ⟨c_52, Or.inl (by rw [ept, epi]; exact (a_pat_lt hpt hpi).1.mpr ((nI_ltI (by omega) (by omega)).mp (by rw [epi, ept] at c_67; exact c_67)))⟩
            refine q_iinc B dX0_placeOf_88 rfl (Nat.le_of_ble_eq_true rfl) rfl ?_
            refine q_iinc2 (y := nI (i + 1)) B dX0_placeOf_91 rfl (q_inc1 _) (Nat.le_of_ble_eq_true rfl) rfl ?_
            refine q_goto (tgt := 25) B dX0_placeOf_94 (by decide) ?_
            exact q_tk (ih (i + 1) _ (by omega) (by show (q_fold _ i _) + _ = _; rw [hinv]; first | (rw [if_neg hn]; exact Int32.add_zero _) | (rw [if_pos hp]; rfl))) rfl (q_ac rfl (q_ac rfl (q_ac rfl (q_ac rfl (q_ac rfl q_an)))))
          · skip
            have h67 : ¬ 0 < σ (57 + 7 * t + 2) - σ (57 + 7 * i + 2) := fun q => c_67 (by rw [ept, epi] at q; rw [ept, epi]; exact (nI_ltI (by omega) (by omega)).mpr ((a_pat_lt hpt hpi).1.mp q))
            refine q_aload B dX0_placeOf_70 rfl ?_
            refine q_getI2 B kC_X5 (k := 2) (by decide) rfl kf_X0_165 (cT hc (i := i) (by omega)) ((hR.1.2.2.1 i hiN).1 2 (by decide)) dX0_placeOf_72 ?_
            refine q_aload_n B dX0_placeOf_75 rfl rfl ?_
            refine q_getI2 B kC_X5 (k := 2) (by decide) rfl kf_X0_165 (cT hc (i := t) (by omega)) ((hR.1.2.2.1 t ht).1 2 (by decide)) dX0_placeOf_76 ?_
            refine q_icmp_ne (tgt := 91) B dX0_placeOf_79 (by decide) (fun c_79 => ?_) (fun c_79 => ?_)
            · skip
              have hn : ¬ (σ (57 + 7 * i + 4) = 0 ∧ (0 < σ (57 + 7 * t + 2) - σ (57 + 7 * i + 2) ∨ (σ (57 + 7 * t + 2) - σ (57 + 7 * i + 2) = 0 ∧ i < t))) := fun q => q.2.elim h67 (fun z => c_79 (by have z := z.1; rw [ept, epi] at z; rw [ept, epi, (a_pat_lt hpt hpi).2.mp z]))
              refine q_iinc2 (y := nI (i + 1)) B dX0_placeOf_91 rfl (q_inc1 _) (Nat.le_of_ble_eq_true rfl) rfl ?_
              refine q_goto (tgt := 25) B dX0_placeOf_94 (by decide) ?_
              exact q_tk (ih (i + 1) _ (by omega) (by show (q_fold _ i _) + _ = _; rw [hinv]; first | (rw [if_neg hn]; exact Int32.add_zero _) | (rw [if_pos hp]; rfl))) rfl (q_ac rfl (q_ac rfl (q_ac rfl (q_ac rfl (q_ac rfl q_an)))))
            · skip
              have h79 : σ (57 + 7 * t + 2) - σ (57 + 7 * i + 2) = 0 := by rw [c_79]; exact Int32.sub_self _
              refine q_iload B dX0_placeOf_82 rfl ?_
              refine q_iload_n B dX0_placeOf_84 rfl rfl ?_
              refine q_icmp_ge (tgt := 91) B dX0_placeOf_85 (by decide) (fun c_85 => ?_) (fun c_85 => ?_)
              · skip
                have hn : ¬ (σ (57 + 7 * i + 4) = 0 ∧ (0 < σ (57 + 7 * t + 2) - σ (57 + 7 * i + 2) ∨ (σ (57 + 7 * t + 2) - σ (57 + 7 * i + 2) = 0 ∧ i < t))) := fun q => q.2.elim h67 (fun z => absurd c_85 (q_nle z.2 (by omega)))
                refine q_iinc2 (y := nI (i + 1)) B dX0_placeOf_91 rfl (q_inc1 _) (Nat.le_of_ble_eq_true rfl) rfl ?_
                refine q_goto (tgt := 25) B dX0_placeOf_94 (by decide) ?_
                exact q_tk (ih (i + 1) _ (by omega) (by show (q_fold _ i _) + _ = _; rw [hinv]; first | (rw [if_neg hn]; exact Int32.add_zero _) | (rw [if_pos hp]; rfl))) rfl (q_ac rfl (q_ac rfl (q_ac rfl (q_ac rfl (q_ac rfl q_an)))))
              · skip
                have hp : σ (57 + 7 * i + 4) = 0 ∧ (0 < σ (57 + 7 * t + 2) - σ (57 + 7 * i + 2) ∨ (σ (57 + 7 * t + 2) - σ (57 + 7 * i + 2) = 0 ∧ i < t)) := ⟨c_52, Or.inr ⟨h79, by
                  rcases Nat.lt_or_ge i t with q | q
                  · exact q
                  · exact absurd (q_le q (by omega)) c_85⟩⟩
                refine q_iinc B dX0_placeOf_88 rfl (Nat.le_of_ble_eq_true rfl) rfl ?_
                refine q_iinc2 (y := nI (i + 1)) B dX0_placeOf_91 rfl (q_inc1 _) (Nat.le_of_ble_eq_true rfl) rfl ?_
                refine q_goto (tgt := 25) B dX0_placeOf_94 (by decide) ?_
                exact q_tk (ih (i + 1) _ (by omega) (by show (q_fold _ i _) + _ = _; rw [hinv]; first | (rw [if_neg hn]; exact Int32.add_zero _) | (rw [if_pos hp]; rfl))) rfl (q_ac rfl (q_ac rfl (q_ac rfl (q_ac rfl (q_ac rfl q_an)))))
        · skip
          have hn : ¬ (σ (57 + 7 * i + 4) = 0 ∧ (0 < σ (57 + 7 * t + 2) - σ (57 + 7 * i + 2) ∨ (σ (57 + 7 * t + 2) - σ (57 + 7 * i + 2) = 0 ∧ i < t))) := fun q => c_52 q.1
          refine q_goto (tgt := 91) B dX0_placeOf_55 (by decide) ?_
          refine q_iinc2 (y := nI (i + 1)) B dX0_placeOf_91 rfl (q_inc1 _) (Nat.le_of_ble_eq_true rfl) rfl ?_
          refine q_goto (tgt := 25) B dX0_placeOf_94 (by decide) ?_
          exact q_tk (ih (i + 1) _ (by omega) (by show (q_fold _ i _) + _ = _; rw [hinv]; first | (rw [if_neg hn]; exact Int32.add_zero _) | (rw [if_pos hp]; rfl))) rfl (q_ac rfl (q_ac rfl (q_ac rfl (q_ac rfl (q_ac rfl q_an)))))
    exact q_tk (hl_25 T 0 0 (by omega) rfl) rfl (q_ac rfl (q_ac rfl (q_ac rfl (q_ac rfl (q_ac rfl q_an)))))
  · skip
    refine q_bipush (v := -6) B dX0_placeOf_17 rfl ?_
    exact q_iret BM rfl dX0_placeOf_19 ⟨by rw [a_place, if_neg c_14], rfl, rfl⟩
set_option maxRecDepth 100000 in
set_option maxHeartbeats 4000000 in
theorem s_X0_thingsThatAre {Sh : q_Sh} {I : q_Mem} {σ : a_A} {b T F : Nat} (hc : cOk Sh b) (hR : Rc T F b I σ) {h : Int32} : q_Rt mX0_thingsThatAre 1 [.ref b, .int h] Sh (I) (some (.int (a_how σ h))) (I) := by
  refine q_rt_of (by decide) (Nat.le_of_ble_eq_true rfl) fun Γ BM => ?_
  have B := BM.1
  have hT := hR.1.2.1.2.1
  have hT2 := hR.1.1.1
  have hF := hR.1.2.1.2.2
  have hF2 := hR.1.1.2
  have haT := a_W_T hR.2.2
  have haF := a_W_F hR.2.2
  show q_W Γ mX0_thingsThatAre 0 0 Sh (I) 0 [(0, .ref b), (1, .int h)] []
  refine q_iconst (v := 0) B dX0_thingsThatAre_0 rfl ?_
  refine q_istore_n B dX0_thingsThatAre_1 rfl (Nat.le_of_ble_eq_true rfl) rfl ?_
  refine q_iconst (v := nI 0) B dX0_thingsThatAre_2 rfl ?_
  refine q_istore_n B dX0_thingsThatAre_3 rfl (Nat.le_of_ble_eq_true rfl) rfl ?_
  have hl_4 : ∀ (n i : Nat) (c : Int32), i + n = T → q_fold (fun i (n : Int32) => n + (if σ (57 + 7 * i + 4) = h then 1 else 0)) i 0 = c → q_W Γ mX0_thingsThatAre 0 0 Sh I 4 [(0, .ref b), (1, .int h), (2, .int c), (3, .int (nI i))] [] := by
    intro n
    induction n with
    | zero =>
      intro i c hin hinv
      have hi : i = T := by omega
      subst hi
      refine q_iload_n B dX0_thingsThatAre_4 rfl rfl ?_
      refine q_aload_n B dX0_thingsThatAre_5 rfl rfl ?_
      refine q_getI2 B kC_X0 (k := 1) (by decide) rfl kf_X0_15 hc.1 hT dX0_thingsThatAre_6 ?_
      refine q_icmp_ge (tgt := 42) B dX0_thingsThatAre_9 (by decide) (fun _ => ?_) (fun h => absurd (q_le (Nat.le_refl _) (by omega)) h)
      refine q_iload_n B dX0_thingsThatAre_42 rfl rfl ?_
      exact q_iret BM rfl dX0_thingsThatAre_43 ⟨by rw [a_how, haT, hinv], rfl, rfl⟩
    | succ n ih =>
      intro i c hin hinv
      have hiN : i < T := by omega
      refine q_iload_n B dX0_thingsThatAre_4 rfl rfl ?_
      refine q_aload_n B dX0_thingsThatAre_5 rfl rfl ?_
      refine q_getI2 B kC_X0 (k := 1) (by decide) rfl kf_X0_15 hc.1 hT dX0_thingsThatAre_6 ?_
      refine q_icmp_ge (tgt := 42) B dX0_thingsThatAre_9 (by decide) (fun h => absurd h (q_nle hiN (by omega))) (fun _ => ?_)
      refine q_aload_n B dX0_thingsThatAre_12 rfl rfl ?_
      refine q_iload_n B dX0_thingsThatAre_13 rfl rfl ?_
      refine q_rtV B (s_X0_thingAt hc hT hT2 hiN) kv_yX0_thingAt ki_yX0_thingAt ks_yX0_thingAt km_X0_42 rfl (ci := 0) rfl rfl hc.1 (by decide) rfl (Nat.le_of_ble_eq_true rfl) dX0_thingsThatAre_14 ?_
      refine q_astore B dX0_thingsThatAre_17 (Nat.le_of_ble_eq_true rfl) rfl ?_
      refine q_aload B dX0_thingsThatAre_19 rfl ?_
      refine q_ifnull B dX0_thingsThatAre_21 ?_
      refine q_aload B dX0_thingsThatAre_24 rfl ?_
      refine q_getI2 B kC_X5 (k := 4) (by decide) rfl kf_X0_82 (cT hc (i := i) (by omega)) ((hR.1.2.2.1 i hiN).1 4 (by decide)) dX0_thingsThatAre_26 ?_
      refine q_iload_n B dX0_thingsThatAre_29 rfl rfl ?_
      refine q_icmp_ne (tgt := 36) B dX0_thingsThatAre_30 (by decide) (fun c_30 => ?_) (fun c_30 => ?_)
      · skip
        refine q_iinc2 (y := nI (i + 1)) B dX0_thingsThatAre_36 rfl (q_inc1 _) (Nat.le_of_ble_eq_true rfl) rfl ?_
        refine q_goto (tgt := 4) B dX0_thingsThatAre_39 (by decide) ?_
        exact q_tk (ih (i + 1) _ (by omega) (by show (q_fold _ i _) + _ = _; rw [hinv]; first | (rw [if_neg c_30]; exact Int32.add_zero _) | (rw [if_pos c_30]; rfl))) rfl (q_ac rfl (q_ac rfl (q_ac rfl (q_ac rfl q_an))))
      · skip
        refine q_iinc B dX0_thingsThatAre_33 rfl (Nat.le_of_ble_eq_true rfl) rfl ?_
        refine q_iinc2 (y := nI (i + 1)) B dX0_thingsThatAre_36 rfl (q_inc1 _) (Nat.le_of_ble_eq_true rfl) rfl ?_
        refine q_goto (tgt := 4) B dX0_thingsThatAre_39 (by decide) ?_
        exact q_tk (ih (i + 1) _ (by omega) (by show (q_fold _ i _) + _ = _; rw [hinv]; first | (rw [if_neg c_30]; exact Int32.add_zero _) | (rw [if_pos c_30]; rfl))) rfl (q_ac rfl (q_ac rfl (q_ac rfl (q_ac rfl q_an))))
  exact q_tk (hl_4 T 0 0 (by omega) rfl) rfl (q_ac rfl (q_ac rfl (q_ac rfl (q_ac rfl q_an))))
set_option maxRecDepth 100000 in
set_option maxHeartbeats 4000000 in
theorem s_X0_brokenOnes {Sh : q_Sh} {I : q_Mem} {σ : a_A} {b T F : Nat} (hc : cOk Sh b) (hR : Rc T F b I σ) {p : Int32} : q_Rt mX0_brokenOnes 1 [.ref b, .int p] Sh (I) (some (.int (a_broken σ p))) (I) := by
  refine q_rt_of (by decide) (Nat.le_of_ble_eq_true rfl) fun Γ BM => ?_
  have B := BM.1
  have hT := hR.1.2.1.2.1
  have hT2 := hR.1.1.1
  have hF := hR.1.2.1.2.2
  have hF2 := hR.1.1.2
  have haT := a_W_T hR.2.2
  have haF := a_W_F hR.2.2
  show q_W Γ mX0_brokenOnes 0 0 Sh (I) 0 [(0, .ref b), (1, .int p)] []
  refine q_iconst (v := 0) B dX0_brokenOnes_0 rfl ?_
  refine q_istore_n B dX0_brokenOnes_1 rfl (Nat.le_of_ble_eq_true rfl) rfl ?_
  refine q_iconst (v := nI 0) B dX0_brokenOnes_2 rfl ?_
  refine q_istore_n B dX0_brokenOnes_3 rfl (Nat.le_of_ble_eq_true rfl) rfl ?_
  have hl_4 : ∀ (n i : Nat) (c : Int32), i + n = T → q_fold (fun i (n : Int32) => n + (if σ (57 + 7 * i + 4) < nI 2 then (σ (57 + 7 * i + 1) >>> (p &&& 31)) &&& nI 1 else 0)) i 0 = c → q_W Γ mX0_brokenOnes 0 0 Sh I 4 [(0, .ref b), (1, .int p), (2, .int c), (3, .int (nI i))] [] := by
    intro n
    induction n with
    | zero =>
      intro i c hin hinv
      have hi : i = T := by omega
      subst hi
      refine q_iload_n B dX0_brokenOnes_4 rfl rfl ?_
      refine q_aload_n B dX0_brokenOnes_5 rfl rfl ?_
      refine q_getI2 B kC_X0 (k := 1) (by decide) rfl kf_X0_15 hc.1 hT dX0_brokenOnes_6 ?_
      refine q_icmp_ge (tgt := 53) B dX0_brokenOnes_9 (by decide) (fun _ => ?_) (fun h => absurd (q_le (Nat.le_refl _) (by omega)) h)
      refine q_iload_n B dX0_brokenOnes_53 rfl rfl ?_
      exact q_iret BM rfl dX0_brokenOnes_54 ⟨by rw [a_broken, haT, hinv], rfl, rfl⟩
    | succ n ih =>
      intro i c hin hinv
      have hiN : i < T := by omega
      refine q_iload_n B dX0_brokenOnes_4 rfl rfl ?_
      refine q_aload_n B dX0_brokenOnes_5 rfl rfl ?_
      refine q_getI2 B kC_X0 (k := 1) (by decide) rfl kf_X0_15 hc.1 hT dX0_brokenOnes_6 ?_
      refine q_icmp_ge (tgt := 53) B dX0_brokenOnes_9 (by decide) (fun h => absurd h (q_nle hiN (by omega))) (fun _ => ?_)
      refine q_aload_n B dX0_brokenOnes_12 rfl rfl ?_
      refine q_iload_n B dX0_brokenOnes_13 rfl rfl ?_
      refine q_rtV B (s_X0_thingAt hc hT hT2 hiN) kv_yX0_thingAt ki_yX0_thingAt ks_yX0_thingAt km_X0_42 rfl (ci := 0) rfl rfl hc.1 (by decide) rfl (Nat.le_of_ble_eq_true rfl) dX0_brokenOnes_14 ?_
      refine q_astore B dX0_brokenOnes_17 (Nat.le_of_ble_eq_true rfl) rfl ?_
      refine q_aload B dX0_brokenOnes_19 rfl ?_
      refine q_ifnull B dX0_brokenOnes_21 ?_
      refine q_aload B dX0_brokenOnes_24 rfl ?_
      refine q_rtV B (s_isHereR hc hR hiN) kv_yX5_isHere ki_yX5_isHere ks_yX5_isHere km_X0_168 rfl (ci := 5) rfl rfl (cT hc (i := i) (by omega)) (by decide) rfl (Nat.le_of_ble_eq_true rfl) dX0_brokenOnes_26 ?_
      refine q_if_eq (tgt := 47) B dX0_brokenOnes_29 (by decide) (fun c_29 => ?_) (fun c_29 => ?_)
      · skip
        refine q_iinc2 (y := nI (i + 1)) B dX0_brokenOnes_47 rfl (q_inc1 _) (Nat.le_of_ble_eq_true rfl) rfl ?_
        refine q_goto (tgt := 4) B dX0_brokenOnes_50 (by decide) ?_
        exact q_tk (ih (i + 1) _ (by omega) (by show (q_fold _ i _) + _ = _; rw [hinv]; first | (rw [if_neg (a_b0 c_29)]; exact Int32.add_zero _) | (rw [if_pos (a_b1 c_29), (a_bit1 0 0 _).resolve_right (a_b0 c_41)]; exact Int32.add_zero _) | (rw [if_pos (a_b1 c_29), a_b1 c_41]; rfl))) rfl (q_ac rfl (q_ac rfl (q_ac rfl (q_ac rfl q_an))))
      · skip
        refine q_aload B dX0_brokenOnes_32 rfl ?_
        refine q_getI2 B kC_X5 (k := 1) (by decide) rfl kf_X0_125 (cT hc (i := i) (by omega)) ((hR.1.2.2.1 i hiN).1 1 (by decide)) dX0_brokenOnes_34 ?_
        refine q_iload_n B dX0_brokenOnes_37 rfl rfl ?_
        refine q_rtSN B s_X6_isIn kv_yX6_isIn kt_yX6_isIn kn_X0_150 rfl (by decide) rfl (Nat.le_of_ble_eq_true rfl) dX0_brokenOnes_38 ?_
        refine q_if_eq (tgt := 47) B dX0_brokenOnes_41 (by decide) (fun c_41 => ?_) (fun c_41 => ?_)
        · skip
          refine q_iinc2 (y := nI (i + 1)) B dX0_brokenOnes_47 rfl (q_inc1 _) (Nat.le_of_ble_eq_true rfl) rfl ?_
          refine q_goto (tgt := 4) B dX0_brokenOnes_50 (by decide) ?_
          exact q_tk (ih (i + 1) _ (by omega) (by show (q_fold _ i _) + _ = _; rw [hinv]; first | (rw [if_neg (a_b0 c_29)]; exact Int32.add_zero _) | (rw [if_pos (a_b1 c_29), (a_bit1 0 0 _).resolve_right (a_b0 c_41)]; exact Int32.add_zero _) | (rw [if_pos (a_b1 c_29), a_b1 c_41]; rfl))) rfl (q_ac rfl (q_ac rfl (q_ac rfl (q_ac rfl q_an))))
        · skip
          refine q_iinc B dX0_brokenOnes_44 rfl (Nat.le_of_ble_eq_true rfl) rfl ?_
          refine q_iinc2 (y := nI (i + 1)) B dX0_brokenOnes_47 rfl (q_inc1 _) (Nat.le_of_ble_eq_true rfl) rfl ?_
          refine q_goto (tgt := 4) B dX0_brokenOnes_50 (by decide) ?_
          exact q_tk (ih (i + 1) _ (by omega) (by show (q_fold _ i _) + _ = _; rw [hinv]; first | (rw [if_neg (a_b0 c_29)]; exact Int32.add_zero _) | (rw [if_pos (a_b1 c_29), (a_bit1 0 0 _).resolve_right (a_b0 c_41)]; exact Int32.add_zero _) | (rw [if_pos (a_b1 c_29), a_b1 c_41]; rfl))) rfl (q_ac rfl (q_ac rfl (q_ac rfl (q_ac rfl q_an))))
  exact q_tk (hl_4 T 0 0 (by omega) rfl) rfl (q_ac rfl (q_ac rfl (q_ac rfl (q_ac rfl q_an))))
set_option maxRecDepth 100000 in
set_option maxHeartbeats 4000000 in
theorem s_X0_hasThingHere {Sh : q_Sh} {I : q_Mem} {σ : a_A} {b T F : Nat} (hc : cOk Sh b) (hR : Rc T F b I σ) : q_Rt mX0_hasThingHere 1 [.ref b] Sh (I) (some (.int (if a_here σ = true then 1 else 0))) (I) := by
  refine q_rt_of (by decide) (Nat.le_of_ble_eq_true rfl) fun Γ BM => ?_
  have B := BM.1
  have hT := hR.1.2.1.2.1
  have hT2 := hR.1.1.1
  have hF := hR.1.2.1.2.2
  have hF2 := hR.1.1.2
  have haT := a_W_T hR.2.2
  have haF := a_W_F hR.2.2
  show q_W Γ mX0_hasThingHere 0 0 Sh (I) 0 [(0, .ref b)] []
  refine q_iconst (v := nI 0) B dX0_hasThingHere_0 rfl ?_
  refine q_istore_n B dX0_hasThingHere_1 rfl (Nat.le_of_ble_eq_true rfl) rfl ?_
  have hl_2 : ∀ (n i : Nat) , i + n = T → a_hereN σ n i = a_here σ → q_W Γ mX0_hasThingHere 0 0 Sh I 2 [(0, .ref b), (1, .int (nI i))] [] := by
    intro n
    induction n with
    | zero =>
      intro i  hin hinv
      have hi : i = T := by omega
      subst hi
      refine q_iload_n B dX0_hasThingHere_2 rfl rfl ?_
      refine q_aload_n B dX0_hasThingHere_3 rfl rfl ?_
      refine q_getI2 B kC_X0 (k := 1) (by decide) rfl kf_X0_15 hc.1 hT dX0_hasThingHere_4 ?_
      refine q_icmp_ge (tgt := 35) B dX0_hasThingHere_7 (by decide) (fun _ => ?_) (fun h => absurd (q_le (Nat.le_refl _) (by omega)) h)
      refine q_iconst (v := 0) B dX0_hasThingHere_35 rfl ?_
      exact q_zret BM rfl (Or.inl rfl) dX0_hasThingHere_36 ⟨by rw [← hinv]; rfl, rfl, rfl⟩
    | succ n ih =>
      intro i  hin hinv
      have hiN : i < T := by omega
      refine q_iload_n B dX0_hasThingHere_2 rfl rfl ?_
      refine q_aload_n B dX0_hasThingHere_3 rfl rfl ?_
      refine q_getI2 B kC_X0 (k := 1) (by decide) rfl kf_X0_15 hc.1 hT dX0_hasThingHere_4 ?_
      refine q_icmp_ge (tgt := 35) B dX0_hasThingHere_7 (by decide) (fun h => absurd h (q_nle hiN (by omega))) (fun _ => ?_)
      refine q_aload_n B dX0_hasThingHere_10 rfl rfl ?_
      refine q_iload_n B dX0_hasThingHere_11 rfl rfl ?_
      refine q_rtV B (s_X0_thingAt hc hT hT2 hiN) kv_yX0_thingAt ki_yX0_thingAt ks_yX0_thingAt km_X0_42 rfl (ci := 0) rfl rfl hc.1 (by decide) rfl (Nat.le_of_ble_eq_true rfl) dX0_hasThingHere_12 ?_
      refine q_astore_n B dX0_hasThingHere_15 rfl (Nat.le_of_ble_eq_true rfl) rfl ?_
      refine q_aload_n B dX0_hasThingHere_16 rfl rfl ?_
      refine q_ifnull B dX0_hasThingHere_17 ?_
      refine q_aload_n B dX0_hasThingHere_20 rfl rfl ?_
      refine q_rtV B (s_isHereR hc hR hiN) kv_yX5_isHere ki_yX5_isHere ks_yX5_isHere km_X0_168 rfl (ci := 5) rfl rfl (cT hc (i := i) (by omega)) (by decide) rfl (Nat.le_of_ble_eq_true rfl) dX0_hasThingHere_21 ?_
      refine q_if_eq (tgt := 29) B dX0_hasThingHere_24 (by decide) (fun c_24 => ?_) (fun c_24 => ?_)
      · skip
        refine q_iinc2 (y := nI (i + 1)) B dX0_hasThingHere_29 rfl (q_inc1 _) (Nat.le_of_ble_eq_true rfl) rfl ?_
        refine q_goto (tgt := 2) B dX0_hasThingHere_32 (by decide) ?_
        exact q_tk (ih (i + 1) (by omega) (by rw [← hinv]; exact (if_neg (a_b0 c_24)).symm)) rfl (q_ac rfl (q_ac rfl q_an))
      · skip
        refine q_iconst (v := 1) B dX0_hasThingHere_27 rfl ?_
        exact q_zret BM rfl (Or.inr rfl) dX0_hasThingHere_28 ⟨by rw [← hinv]; unfold a_hereN; rw [if_pos (a_b1 c_24)]; rfl, rfl, rfl⟩
  exact q_tk (hl_2 T 0  (by omega) (by rw [a_here, haT])) rfl (q_ac rfl (q_ac rfl q_an))
set_option maxRecDepth 100000 in
set_option maxHeartbeats 4000000 in
theorem s_X0_missingOnes {Sh : q_Sh} {I : q_Mem} {σ : a_A} {b T F : Nat} (hc : cOk Sh b) (hR : Rc T F b I σ) {p : Nat} (hp : p < 8) : q_Rt mX0_missingOnes 2 [.ref b, .int (nI p)] Sh (I) (some (.int (a_broken σ (nI p) - σ (3 + p)))) (I) := by
  refine q_rt_of (by decide) (Nat.le_of_ble_eq_true rfl) fun Γ BM => ?_
  have B := BM.1
  have hT := hR.1.2.1.2.1
  have hT2 := hR.1.1.1
  have hF := hR.1.2.1.2.2
  have hF2 := hR.1.1.2
  have haT := a_W_T hR.2.2
  have haF := a_W_F hR.2.2
  show q_W Γ mX0_missingOnes 0 0 Sh (I) 0 [(0, .ref b), (1, .int (nI p))] []
  refine q_aload_n B dX0_missingOnes_0 rfl rfl ?_
  refine q_iload_n B dX0_missingOnes_1 rfl rfl ?_
  refine q_rtV B (s_X0_partAt hc hp) kv_yX0_partAt ki_yX0_partAt ks_yX0_partAt km_X0_57 rfl (ci := 0) rfl rfl hc.1 (by decide) rfl (Nat.le_of_ble_eq_true rfl) dX0_missingOnes_2 ?_
  refine q_astore_n B dX0_missingOnes_5 rfl (Nat.le_of_ble_eq_true rfl) rfl ?_
  refine q_aload_n B dX0_missingOnes_6 rfl rfl ?_
  refine q_ifnonnull (tgt := 14) B dX0_missingOnes_7 (by decide) ?_
  refine q_aload_n B dX0_missingOnes_14 rfl rfl ?_
  refine q_iload_n B dX0_missingOnes_15 rfl rfl ?_
  refine q_rtV B (s_X0_brokenOnes hc hR) kv_yX0_brokenOnes ki_yX0_brokenOnes ks_yX0_brokenOnes km_X0_171 rfl (ci := 0) rfl rfl hc.1 (by decide) rfl (Nat.le_of_ble_eq_true rfl) dX0_missingOnes_16 ?_
  refine q_aload_n B dX0_missingOnes_19 rfl rfl ?_
  refine q_getI2 B kC_X3 (k := 0) (by decide) rfl kf_X0_79 (cP hc (i := p) hp) (hR.1.2.2.2.2 p hp).1 dX0_missingOnes_20 ?_
  refine q_isub B dX0_missingOnes_23 ?_
  exact q_iret BM rfl dX0_missingOnes_24 ⟨rfl, rfl, rfl⟩
