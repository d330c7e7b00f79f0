/-! what comes -/
theorem a_ltS {x : Int32} {n : Nat} (hn : n + 1 < 2 ^ 31) : x < nI (n + 1) ↔ x ≤ nI n := by
  rw [Int32.lt_iff_toInt_lt, Int32.le_iff_toInt_le, nI_toInt hn, nI_toInt (by omega)]
  omega
def Rs (b : Nat) (I : q_Mem) (σ : a_A) : Prop := Rc (a_T σ) (a_F σ) b I σ
theorem Rc.s {T F b : Nat} {I : q_Mem} {σ : a_A} (h : Rc T F b I σ) : Rs b I σ := by
  unfold Rs
  rw [a_W_T h.2.2, a_W_F h.2.2]
  exact h
/-- a change, refused or done -/
def Cg (b : Nat) (I : q_Mem) (ref yes : Int32) (σ' : a_A) (w : Option Value) (I2 : q_Mem) : Prop := ∃ v, w = some (.int v) ∧ ((ref ≠ 0 ∧ v = ref ∧ I2 = I) ∨ (ref = 0 ∧ v = yes ∧ Rs b I2 σ' ∧ Fr b I I2))
theorem a_comes_at {T F j : Nat} {σ : a_A} {k m p t : Int32} (hW : a_W T F σ) (h1 : j ≠ 1) (h2 : ¬ (57 + 7 * T ≤ j ∧ j < 57 + 7 * T + 7)) : a_comes σ k m p t j = σ j := by
  unfold a_comes
  rw [a_W_T hW]
  try dsimp only
  simp (disch := omega) only [q_upd_ne]
theorem a_first_snoc {P : Nat → Bool} : ∀ n i, P (i + n) = false → a_first P (n + 1) i = a_first P n i := by
  intro n
  induction n with
  | zero => intro i h; show (if P i = true then nI i else -6) = -6; rw [Nat.add_zero] at h; rw [h]; rfl
  | succ n ih =>
    intro i h
    show (if P i = true then nI i else a_first P (n + 1) (i + 1)) = if P i = true then nI i else a_first P n (i + 1)
    rw [ih (i + 1) (by rw [show i + 1 + n = i + (n + 1) by omega]; exact h)]
theorem Rc_come {T F b k m p : Nat} {t : Int32} {I : q_Mem} {σ : a_A} (h : Rc T F b I σ) (hT : T < 30) (hk : k < 6) (hm : m < 256) (hp1 : 1 ≤ p) (hp2 : p ≤ 99) :
    Rc (T + 1) F b (q_setA (q_setA I b (upd (I b) 1 (nI (T + 1)))) (b + 4 + T) (upd (upd (upd (upd (upd (upd (upd (upd (q_setA I b (upd (I b) 1 (nI (T + 1))) (b + 4 + T)) 0 (nI k)) 1 (nI m)) 2 (nI p)) 3 t) 4 0) 5 (-6)) 6 0) 7 0)) (a_comes σ (nI k) (nI m) (nI p) t) := by
  have hW2 := a_comes_W (t := t) h.2.2 hT hk hm hp1 hp2
  obtain ⟨hR, hw, hW⟩ := h
  obtain ⟨⟨hT0, hF⟩, ⟨h1, h2, h3⟩, h4, h5, h6⟩ := hR
  refine ⟨⟨⟨by omega, hF⟩, ⟨?_, ?_, ?_⟩, fun i hi => ?_, fun f hf => ?_, fun q hq => ?_⟩, fun i hi => ?_, hW2⟩
  · rw [q_setA_ne (by omega), q_setA_at, q_upd_ne (by omega), a_comes_at hW (by omega) (by omega)]; exact h1
  · rw [q_setA_ne (by omega), q_setA_at, q_upd_at]
  · rw [q_setA_ne (by omega), q_setA_at, q_upd_ne (by omega)]; exact h3
  · by_cases e : i = T
    · subst e
      rw [q_setA_at]
      have ec : a_comes σ (nI k) (nI m) (nI p) t = upd (upd (upd (upd (upd (upd (upd (upd σ 1 (σ 1 + 1)) (57 + 7 * i) (nI k)) (57 + 7 * i + 1) (nI m)) (57 + 7 * i + 2) (nI p)) (57 + 7 * i + 3) t) (57 + 7 * i + 4) 0) (57 + 7 * i + 5) 0) (57 + 7 * i + 6) 0 := by
        unfold a_comes
        rw [a_W_T hW]
      rw [ec]
      refine ⟨fun k hk => ?_, ?_, ?_⟩
      · rcases (by omega : k = 0 ∨ k = 1 ∨ k = 2 ∨ k = 3 ∨ k = 4) with rfl | rfl | rfl | rfl | rfl <;> simp [upd]
      · simp [upd]
      · simp [upd]
    · rw [q_setA_ne (by omega), q_setA_ne (by omega)]
      obtain ⟨a1, a2, a3⟩ := h4 i (by omega)
      exact ⟨fun k hk => by rw [a_comes_at hW (by omega) (by omega)]; exact a1 k hk, by rw [a_comes_at hW (by omega) (by omega)]; exact a2, by rw [a_comes_at hW (by omega) (by omega)]; exact a3⟩
  · rw [q_setA_ne (by omega), q_setA_ne (by omega)]
    simp (disch := omega) only [a_comes_at hW]
    exact h5 f hf
  · rw [q_setA_ne (by omega), q_setA_ne (by omega)]
    simp (disch := omega) only [a_comes_at hW]
    exact h6 q hq
  · by_cases e : i = T
    · subst e
      rw [q_setA_at, q_upd_ne (by decide), q_upd_ne (by decide), q_upd_at]
      refine (a_fo_none hW2 fun g hg q => ?_).symm
      rw [a_comes_at hW (by omega) (by omega)] at q
      obtain ⟨y, a, c, -⟩ := hW.2.2.2.2.2.2.1 g hg
      exact absurd ((nI_eq (by omega) (by omega)).mp (c.symm.trans q)) (by omega)
    · rw [q_setA_ne (by omega), q_setA_ne (by omega), hw i (by omega)]
      unfold a_fixerOf
      rw [a_W_F hW, a_W_F hW2]
      exact a_first_congr F 0 fun j _ hj => by rw [a_comes_at hW (by omega) (by omega)]
theorem a_comesF_at {T F j : Nat} {σ : a_A} {k c : Int32} (hW : a_W T F σ) (h1 : j ≠ 2) (h2 : ¬ (27 + 6 * F ≤ j ∧ j < 27 + 6 * F + 6)) : a_comesF σ k c j = σ j := by
  unfold a_comesF
  rw [a_W_F hW]
  try dsimp only
  rw [q_upd_ne h1, q_upd_ne (by omega), q_upd_ne (by omega), a_fold6 (by omega)]
theorem Rc_comeF {T F b : Nat} {k c : Int32} {I : q_Mem} {σ : a_A} (h : Rc T F b I σ) (hF5 : F < 5) :
    Rc T (F + 1) b (q_setA (q_setA I b (upd (I b) 2 (nI (F + 1)))) (b + 34 + F) (upd (upd (upd (upd (upd (upd (q_setA I b (upd (I b) 2 (nI (F + 1))) (b + 34 + F)) 0 k) 1 c) 2 (-6)) 3 0) 4 0) 5 0)) (a_comesF σ k c) := by
  have hW2 := a_comesF_W (k := k) (c := c) h.2.2 hF5
  obtain ⟨hR, hw, hW⟩ := h
  obtain ⟨⟨hT0, hF⟩, ⟨h1, h2, h3⟩, h4, h5, h6⟩ := hR
  have ev : ∀ j, j < 6 → a_comesF σ k c (27 + 6 * F + j) = if j = 0 then k else if j = 1 then c else 0 := by
    intro j hj
    unfold a_comesF
    rw [a_W_F hW]
    try dsimp only
    rcases (by omega : j = 0 ∨ j = 1 ∨ j = 2 ∨ j = 3 ∨ j = 4 ∨ j = 5) with rfl | rfl | rfl | rfl | rfl | rfl <;> simp [upd, q_fold] <;> omega
  refine ⟨⟨⟨hT0, by omega⟩, ⟨?_, ?_, ?_⟩, fun i hi => ?_, fun f hf => ?_, fun q hq => ?_⟩, fun i hi => ?_, hW2⟩
  · rw [q_setA_ne (by omega), q_setA_at, q_upd_ne (by omega), a_comesF_at hW (by omega) (by omega)]; exact h1
  · rw [q_setA_ne (by omega), q_setA_at, q_upd_ne (by omega)]; exact h2
  · rw [q_setA_ne (by omega), q_setA_at, q_upd_at]
  · rw [q_setA_ne (by omega), q_setA_ne (by omega)]
    obtain ⟨a1, a2, a3⟩ := h4 i (by omega)
    exact ⟨fun k hk => by rw [a_comesF_at hW (by omega) (by omega)]; exact a1 k hk, by rw [a_comesF_at hW (by omega) (by omega)]; exact a2, by rw [a_comesF_at hW (by omega) (by omega)]; exact a3⟩
  · by_cases e : f = F
    · subst e
      rw [q_setA_at]
      have v0 := ev 0 (by decide)
      have v1 := ev 1 (by decide)
      have v2 := ev 2 (by decide)
      have v3 := ev 3 (by decide)
      have v4 := ev 4 (by decide)
      have v5 := ev 5 (by decide)
      simp only [Nat.add_zero] at v0
      rw [v0, v1, v2, v3, v4, v5]
      simp [upd, tk]
    · rw [q_setA_ne (by omega), q_setA_ne (by omega)]
      simp (disch := omega) only [a_comesF_at hW]
      exact h5 f (by omega)
  · rw [q_setA_ne (by omega), q_setA_ne (by omega)]
    simp (disch := omega) only [a_comesF_at hW]
    exact h6 q hq
  · rw [q_setA_ne (by omega), q_setA_ne (by omega), hw i hi]
    unfold a_fixerOf
    rw [a_W_F hW, a_W_F hW2, a_inc, a_first_snoc F 0 (by
      rw [Nat.zero_add, ev 2 (by decide)]
      exact decide_eq_false (fun q => nI_ne0 (n := i + 1) (by omega) (by omega) q.symm))]
    exact (a_first_congr F 0 fun j _ hj => by rw [a_comesF_at hW (by omega) (by omega)]).symm
theorem s_come5 {Sh : q_Sh} {I : q_Mem} {l : Nat} (hl : q_is Sh l 5) {k m p t : Int32} : q_Rt mX5_come 0 [.ref l, .int k, .int m, .int p, .int t] Sh I none (q_setA I l (upd (upd (upd (upd (upd (upd (upd (upd (I l) 0 k) 1 m) 2 p) 3 t) 4 0) 5 (-6)) 6 0) 7 0)) := s_atM (s_X5_come hl)
theorem s_come1 {Sh : q_Sh} {I : q_Mem} {l : Nat} (hl : q_is Sh l 1) {k c : Int32} : q_Rt mX1_come 0 [.ref l, .int k, .int c] Sh I none (q_setA I l (upd (upd (upd (upd (upd (upd (I l) 0 k) 1 c) 2 (-6)) 3 0) 4 0) 5 0)) := s_atM (s_X1_come hl)
theorem a_mask_in {m : Int32} {k : Nat} (_ : k < 6) (h : m &&& (nI (a_pm k) ^^^ (-1)) = 0) : ∃ j, j < 256 ∧ m = nI j := a_mask_of (a_pm_lt k) h
set_option maxRecDepth 100000 in
set_option maxHeartbeats 4000000 in
theorem s_X0_addThing {Sh : q_Sh} {I : q_Mem} {σ : a_A} {b T F : Nat} (hc : cOk Sh b) (hR : Rc T F b I σ) {k m p t : Int32} : q_Rp mX0_addThing 1 [.ref b, .int k, .int m, .int p, .int t] Sh (I) (fun w I2 => Cg b I (a_refT σ k m p t) (nI T) (a_comes σ k m p t) w I2) := by
  refine q_rp_of (by decide) (Nat.le_of_ble_eq_true rfl) fun Γ BM => ?_
  have B := BM.1
  have hT := hR.1.2.1.2.1
  have hT2 := hR.1.1.1
  have hF := hR.1.2.1.2.2
  have hF2 := hR.1.1.2
  have haT := a_W_T hR.2.2
  have haF := a_W_F hR.2.2
  show q_W Γ mX0_addThing 0 0 Sh (I) 0 [(0, .ref b), (1, .int k), (2, .int m), (3, .int p), (4, .int t)] []
  refine q_iload_n B dX0_addThing_0 rfl rfl ?_
  refine q_if_lt (tgt := 10) B dX0_addThing_1 (by decide) (fun c_1 => ?_) (fun c_1 => ?_)
  · skip
    have hrf : a_refT σ k m p t = -1 := if_pos (fun q => absurd c_1 (Int32.not_lt.mpr q.1))
    refine q_iconst (v := -1) B dX0_addThing_10 rfl ?_
    exact q_iret BM rfl dX0_addThing_11 ⟨rfl, _, rfl, Or.inl ⟨by rw [hrf]; decide, hrf.symm, rfl⟩⟩
  · skip
    refine q_iload_n B dX0_addThing_4 rfl rfl ?_
    refine q_bipush (v := nI 6) B dX0_addThing_5 rfl ?_
    refine q_icmp_lt (tgt := 12) B dX0_addThing_7 (by decide) (fun c_7 => ?_) (fun c_7 => ?_)
    · skip
      have hkk : nI 0 ≤ k ∧ k ≤ nI 5 := ⟨Int32.not_lt.mp c_1, (a_ltS (n := 5) (by decide)).mp c_7⟩
      obtain ⟨kk, hk, rfl⟩ := a_in06 (a := nI 0) (b := nI 5) rfl rfl (by decide) hkk
      have hkn : a_n (nI kk) = kk := nI_clamp (by omega)
      have hk1 : kk < 6 := by omega
      refine q_iload_n B dX0_addThing_12 rfl rfl ?_
      refine q_iload_n B dX0_addThing_13 rfl rfl ?_
      refine q_rtSN B (s_X6_partsOf (k := kk) (by omega)) kv_yX6_partsOf kt_yX6_partsOf kn_X0_64 rfl (by decide) rfl (Nat.le_of_ble_eq_true rfl) dX0_addThing_14 ?_
      refine q_iconst (v := -1) B dX0_addThing_17 rfl ?_
      refine q_ixor B dX0_addThing_18 ?_
      refine q_iand B dX0_addThing_19 ?_
      refine q_if_ne (tgt := 34) B dX0_addThing_20 (by decide) (fun c_20 => ?_) (fun c_20 => ?_)
      · skip
        have hrf : a_refT σ (nI kk) m p t = -2 := by unfold a_refT; rw [if_neg (fun q => q hkk), hkn, if_pos (Or.inl (Or.inl c_20))]
        refine q_bipush (v := -2) B dX0_addThing_34 rfl ?_
        exact q_iret BM rfl dX0_addThing_36 ⟨rfl, _, rfl, Or.inl ⟨by rw [hrf]; decide, hrf.symm, rfl⟩⟩
      · skip
        have hb0 : m &&& (nI (a_pm kk) ^^^ (-1)) = 0 := c_20
        refine q_iload_n B dX0_addThing_23 rfl rfl ?_
        refine q_iconst (v := nI 1) B dX0_addThing_24 rfl ?_
        refine q_icmp_lt (tgt := 34) B dX0_addThing_25 (by decide) (fun c_25 => ?_) (fun c_25 => ?_)
        · skip
          have hrf : a_refT σ (nI kk) m p t = -2 := by unfold a_refT; rw [if_neg (fun q => q hkk), hkn, if_pos (Or.inl (Or.inr (fun q => absurd c_25 (Int32.not_lt.mpr q.1))))]
          refine q_bipush (v := -2) B dX0_addThing_34 rfl ?_
          exact q_iret BM rfl dX0_addThing_36 ⟨rfl, _, rfl, Or.inl ⟨by rw [hrf]; decide, hrf.symm, rfl⟩⟩
        · skip
          refine q_iload_n B dX0_addThing_28 rfl rfl ?_
          refine q_bipush (v := nI 99) B dX0_addThing_29 rfl ?_
          refine q_icmp_le (tgt := 37) B dX0_addThing_31 (by decide) (fun c_31 => ?_) (fun c_31 => ?_)
          · skip
            have hp : nI 1 ≤ p ∧ p ≤ nI 99 := ⟨Int32.not_lt.mp c_25, c_31⟩
            refine q_iload B dX0_addThing_37 rfl ?_
            refine q_if_lt (tgt := 49) B dX0_addThing_39 (by decide) (fun c_39 => ?_) (fun c_39 => ?_)
            · skip
              have hrf : a_refT σ (nI kk) m p t = -2 := by unfold a_refT; rw [if_neg (fun q => q hkk), hkn, if_pos (Or.inr (fun q => absurd c_39 (Int32.not_lt.mpr q.1)))]
              refine q_bipush (v := -2) B dX0_addThing_49 rfl ?_
              exact q_iret BM rfl dX0_addThing_51 ⟨rfl, _, rfl, Or.inl ⟨by rw [hrf]; decide, hrf.symm, rfl⟩⟩
            · skip
              refine q_iload B dX0_addThing_42 rfl ?_
              refine q_bipush (v := nI 7) B dX0_addThing_44 rfl ?_
              refine q_icmp_le (tgt := 52) B dX0_addThing_46 (by decide) (fun c_46 => ?_) (fun c_46 => ?_)
              · skip
                have ht : nI 0 ≤ t ∧ t ≤ nI 7 := ⟨Int32.not_lt.mp c_39, c_46⟩
                have hno : ¬ ((m &&& (nI (a_pm kk) ^^^ (-1)) ≠ 0 ∨ ¬ (nI 1 ≤ p ∧ p ≤ nI 99)) ∨ ¬ (nI 0 ≤ t ∧ t ≤ nI 7)) := fun q => q.elim (fun q => q.elim (fun z => z hb0) (fun z => z hp)) (fun z => z ht)
                refine q_aload_n B dX0_addThing_52 rfl rfl ?_
                refine q_getI2 B kC_X0 (k := 1) (by decide) rfl kf_X0_15 hc.1 hT dX0_addThing_53 ?_
                refine q_bipush (v := nI 30) B dX0_addThing_56 rfl ?_
                refine q_icmp_lt (tgt := 64) B dX0_addThing_58 (by decide) (fun c_58 => ?_) (fun c_58 => ?_)
                · skip
                  have hTl : T < 30 := (nI_ltI (by omega) (by decide)).mp c_58
                  have hrf : a_refT σ (nI kk) m p t = 0 := by unfold a_refT; rw [if_neg (fun q => q hkk), hkn, if_neg hno, if_neg (by rw [hR.2.2.1.1]; exact fun q => absurd ((nI_eq (by omega) (by decide)).mp q) (by omega))]
                  obtain ⟨mm, hmm, rfl⟩ := a_mask_in hk1 hb0
                  obtain ⟨pp, hpp, rfl⟩ := a_in06 (k := p) (a := nI 0) (b := nI 99) rfl rfl (by decide) ⟨Int32.le_trans (by decide) hp.1, hp.2⟩
                  have hpp1 : 1 ≤ pp := by
                    rcases Nat.eq_zero_or_pos pp with z | z
                    · subst z; exact absurd hp.1 (by decide)
                    · exact z
                  refine q_aload_n B dX0_addThing_64 rfl rfl ?_
                  refine q_getI2 B kC_X0 (k := 1) (by decide) rfl kf_X0_15 hc.1 hT dX0_addThing_65 ?_
                  refine q_istore B dX0_addThing_68 (Nat.le_of_ble_eq_true rfl) rfl ?_
                  refine q_aload_n B dX0_addThing_70 rfl rfl ?_
                  refine q_dup B dX0_addThing_71 rfl ?_
                  refine q_getI2 B kC_X0 (k := 1) (by decide) rfl kf_X0_15 hc.1 hT dX0_addThing_72 ?_
                  refine q_iconst (v := 1) B dX0_addThing_75 rfl ?_
                  refine q_iadd B dX0_addThing_76 ?_
                  refine q_top (a_inc T) ?_
                  refine q_putI2 B kC_X0 (k := 1) (by decide) rfl kf_X0_15 rfl rfl rfl hc.1 dX0_addThing_77 ?_
                  refine q_aload_n B dX0_addThing_80 rfl rfl ?_
                  refine q_iload B dX0_addThing_81 rfl ?_
                  refine q_rtV B (s_X0_thingAt (T := T + 1) hc (by rw [q_setA_at, q_upd_at]) (by omega) (Nat.lt_succ_self T)) kv_yX0_thingAt ki_yX0_thingAt ks_yX0_thingAt km_X0_42 rfl (ci := 0) rfl rfl hc.1 (by decide) rfl (Nat.le_of_ble_eq_true rfl) dX0_addThing_83 ?_
                  refine q_astore B dX0_addThing_86 (Nat.le_of_ble_eq_true rfl) rfl ?_
                  refine q_aload B dX0_addThing_88 rfl ?_
                  refine q_ifnull B dX0_addThing_90 ?_
                  refine q_aload B dX0_addThing_93 rfl ?_
                  refine q_iload_n B dX0_addThing_95 rfl rfl ?_
                  refine q_iload_n B dX0_addThing_96 rfl rfl ?_
                  refine q_iload_n B dX0_addThing_97 rfl rfl ?_
                  refine q_iload B dX0_addThing_98 rfl ?_
                  refine q_rtV B (s_come5 (cT hc (i := T) (by omega))) kv_yX5_come ki_yX5_come ks_yX5_come km_X0_68 rfl (ci := 5) rfl rfl (cT hc (i := T) (by omega)) (by decide) rfl (Nat.le_of_ble_eq_true rfl) dX0_addThing_100 ?_
                  refine q_iload B dX0_addThing_103 rfl ?_
                  exact q_iret BM rfl dX0_addThing_105 ⟨rfl, _, rfl, Or.inr ⟨hrf, rfl, (Rc_come hR hTl hk1 hmm hpp1 hpp).s, (Fr.set (Nat.le_refl _) (by omega)).tr (Fr.set (by omega) (by omega))⟩⟩
                · skip
                  have hT30 : T = 30 := by
                    have : ¬ T < 30 := fun z => c_58 ((nI_ltI (by omega) (by decide)).mpr z)
                    omega
                  have hrf : a_refT σ (nI kk) m p t = -4 := by unfold a_refT; rw [if_neg (fun q => q hkk), hkn, if_neg hno, if_pos (by rw [hR.2.2.1.1, hT30])]
                  refine q_bipush (v := -4) B dX0_addThing_61 rfl ?_
                  exact q_iret BM rfl dX0_addThing_63 ⟨rfl, _, rfl, Or.inl ⟨by rw [hrf]; decide, hrf.symm, rfl⟩⟩
              · skip
                have hrf : a_refT σ (nI kk) m p t = -2 := by unfold a_refT; rw [if_neg (fun q => q hkk), hkn, if_pos (Or.inr (fun q => c_46 q.2))]
                refine q_bipush (v := -2) B dX0_addThing_49 rfl ?_
                exact q_iret BM rfl dX0_addThing_51 ⟨rfl, _, rfl, Or.inl ⟨by rw [hrf]; decide, hrf.symm, rfl⟩⟩
          · skip
            have hrf : a_refT σ (nI kk) m p t = -2 := by unfold a_refT; rw [if_neg (fun q => q hkk), hkn, if_pos (Or.inl (Or.inr (fun q => c_31 q.2)))]
            refine q_bipush (v := -2) B dX0_addThing_34 rfl ?_
            exact q_iret BM rfl dX0_addThing_36 ⟨rfl, _, rfl, Or.inl ⟨by rw [hrf]; decide, hrf.symm, rfl⟩⟩
    · skip
      have hrf : a_refT σ k m p t = -1 := if_pos (fun q => c_7 ((a_ltS (n := 5) (by decide)).mpr q.2))
      refine q_iconst (v := -1) B dX0_addThing_10 rfl ?_
      exact q_iret BM rfl dX0_addThing_11 ⟨rfl, _, rfl, Or.inl ⟨by rw [hrf]; decide, hrf.symm, rfl⟩⟩
