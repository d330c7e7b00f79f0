/-! a Cafe's changes -/
theorem s_atM {Y : q_Mth} {d : Nat} {args : List Value} {Sh : q_Sh} {I I' : q_Mem} {l : Nat} {v : Option Value} (h : q_Rt Y d args Sh (q_setA I l (I l)) v I') : q_Rt Y d args Sh I v I' := by rwa [q_setA_self] at h
theorem s_end {Sh : q_Sh} {I : q_Mem} {l : Nat} (hl : q_is Sh l 5) {h : Int32} : q_Rt mX5_end 0 [.ref l, .int h] Sh I none (q_setA I l (upd (upd (I l) 4 h) 5 (-6))) := s_atM (s_X5_end hl)
theorem s_takeIn {Sh : q_Sh} {I : q_Mem} {l : Nat} (hl : q_is Sh l 3) : q_Rt mX3_takeIn 0 [.ref l] Sh I (some (.int (if I l 0 < nI 99 then 1 else 0))) (q_setA I l (upd (upd (I l) 2 (I l 2 + 1)) 0 (I l 0 + (if I l 0 < nI 99 then 1 else 0)))) := s_atM (s_X3_takeIn hl)
theorem s_ho0 {Sh : q_Sh} {I : q_Mem} {l : Nat} (hl : q_is Sh l 3) (h0 : ¬ 0 < I l 0) : q_Rt mX3_handOut 0 [.ref l] Sh I (some (.int 0)) I := by
  have h := s_X3_handOut0 (I := I) (ob := I l) hl h0
  rwa [q_setA_self] at h
theorem s_ho1 {Sh : q_Sh} {I : q_Mem} {l : Nat} (hl : q_is Sh l 3) (h0 : 0 < I l 0) : q_Rt mX3_handOut 0 [.ref l] Sh I (some (.int 1)) (q_setA I l (upd (upd (I l) 0 (I l 0 - 1)) 1 (I l 1 + 1))) := s_atM (s_X3_handOut1 hl h0)
theorem Rd_P2 {T F b q : Nat} {I : q_Mem} {σ : a_A} {v x : Int32} (h : Rd T F b I σ) (hq : q < 8) : Rd T F b (q_setA I (b + 39 + q) (upd (upd (I (b + 39 + q)) 2 v) 0 x)) (upd (upd σ (19 + q) v) (3 + q) x) := by
  have h2 := Rd_P (k := 0) (v := x) (Rd_P (k := 2) (v := v) h hq (by decide)) hq (by decide)
  rw [q_setA_setA, q_setA_at] at h2
  exact h2
theorem Rd_P3 {T F b q : Nat} {I : q_Mem} {σ : a_A} {v x : Int32} (h : Rd T F b I σ) (hq : q < 8) : Rd T F b (q_setA I (b + 39 + q) (upd (upd (I (b + 39 + q)) 0 v) 1 x)) (upd (upd σ (3 + q) v) (11 + q) x) := by
  have h2 := Rd_P (k := 1) (v := x) (Rd_P (k := 0) (v := v) h hq (by decide)) hq (by decide)
  rw [q_setA_setA, q_setA_at] at h2
  exact h2
theorem Rd_end {T F b t : Nat} {I : q_Mem} {σ : a_A} {v : Int32} (h : Rd T F b I σ) (ht : t < 30) : Rd T F b (q_setA I (b + 4 + t) (upd (upd (I (b + 4 + t)) 4 v) 5 (-6))) (upd σ (57 + 7 * t + 4) v) := by
  have h2 := Rd_wk (v := -6) (Rd_T (k := 4) (v := v) h ht (by decide)) ht
  rw [q_setA_setA, q_setA_at] at h2
  exact h2
/-- the workers stay -/
def Kw (b : Nat) (I I' : q_Mem) : Prop := ∀ i, i < 30 → I' (b + 4 + i) 5 = I (b + 4 + i) 5
/-- .. all but one, who is gone -/
def Kx (b t : Nat) (I I' : q_Mem) : Prop := ∀ i, i < 30 → I' (b + 4 + i) 5 = if i = t then -6 else I (b + 4 + i) 5
theorem Kw.rf {b : Nat} {I : q_Mem} : Kw b I I := fun _ _ => rfl
theorem Kw.tr {b : Nat} {I I1 I2 : q_Mem} (h : Kw b I I1) (k : Kw b I1 I2) : Kw b I I2 := fun i hi => (k i hi).trans (h i hi)
theorem Kw.P {b q : Nat} {I : q_Mem} {f : a_A} (hq : b + 34 ≤ q) : Kw b I (q_setA I q f) := fun i hi => by rw [q_setA_ne (by omega)]
theorem Kw.T {b t k : Nat} {I : q_Mem} {v : Int32} (hk : k ≠ 5) : Kw b I (q_setA I (b + 4 + t) (upd (I (b + 4 + t)) k v)) := fun i hi => by
  by_cases e : i = t
  · subst e; rw [q_setA_at, q_upd_ne (Ne.symm hk)]
  · rw [q_setA_ne (by omega)]
theorem Kw.b0 {b : Nat} {I : q_Mem} {f : a_A} : Kw b I (q_setA I b f) := fun i hi => by rw [q_setA_ne (by omega)]
theorem Kx.end {b t : Nat} {I : q_Mem} {v : Int32} : Kx b t I (q_setA I (b + 4 + t) (upd (upd (I (b + 4 + t)) 4 v) 5 (-6))) := fun i hi => by
  by_cases e : i = t
  · subst e; rw [q_setA_at, q_upd_at, if_pos rfl]
  · rw [q_setA_ne (by omega), if_neg e]
theorem Kw.x {b t : Nat} {I I1 I2 : q_Mem} (h : Kw b I I1) (k : Kx b t I1 I2) : Kx b t I I2 := fun i hi => by
  rw [k i hi]
  by_cases e : i = t
  · rw [if_pos e, if_pos e]
  · rw [if_neg e, if_neg e]; exact h i hi
theorem Kx.w {b t : Nat} {I I1 I2 : q_Mem} (h : Kx b t I I1) (k : Kw b I1 I2) : Kx b t I I2 := fun i hi => (k i hi).trans (h i hi)
set_option maxRecDepth 100000 in
set_option maxHeartbeats 4000000 in
theorem s_X0_strip {Sh : q_Sh} {I : q_Mem} {σ : a_A} {b T F : Nat} (hc : cOk Sh b) (hR : Rd T F b I σ) (hW : a_W T F σ) {t : Nat} (ht : t < T) : q_Rp mX0_strip 1 [.ref b, .ref (b + 4 + t)] Sh (I) (fun w I2 => w = some (.int (a_strips σ t).2) ∧ Rd T F b I2 (a_strips σ t).1 ∧ Kx b t I I2 ∧ Fr b I I2) := by
  refine q_rp_of (by decide) (Nat.le_of_ble_eq_true rfl) fun Γ BM => ?_
  have B := BM.1
  have hT2 := hR.1.1
  obtain ⟨k, hk, ek⟩ := hW.2.2.1 t ht
  obtain ⟨m, hm, em⟩ := hW.2.2.2.1 t ht
  show q_W Γ mX0_strip 0 0 Sh (I) 0 [(0, .ref b), (1, .ref (b + 4 + t))] []
  refine q_iconst (v := 0) B dX0_strip_0 rfl ?_
  refine q_istore_n B dX0_strip_1 rfl (Nat.le_of_ble_eq_true rfl) rfl ?_
  refine q_aload_n B dX0_strip_2 rfl rfl ?_
  refine q_getI2 B kC_X5 (k := 0) (by decide) rfl kf_X0_159 (cT hc (i := t) (by omega)) (((hR.2.2.1 t ht).1 0 (by decide)).trans ek) dX0_strip_3 ?_
  refine q_rtSN B (s_X6_partsOf hk) kv_yX6_partsOf kt_yX6_partsOf kn_X0_64 rfl (by decide) rfl (Nat.le_of_ble_eq_true rfl) dX0_strip_6 ?_
  refine q_aload_n B dX0_strip_9 rfl rfl ?_
  refine q_getI2 B kC_X5 (k := 1) (by decide) rfl kf_X0_125 (cT hc (i := t) (by omega)) ((hR.2.2.1 t ht).1 1 (by decide)) dX0_strip_10 ?_
  refine q_iconst (v := -1) B dX0_strip_13 rfl ?_
  refine q_ixor B dX0_strip_14 ?_
  refine q_iand B dX0_strip_15 ?_
  refine q_top (y := a_good σ t) (by unfold a_good a_n; rw [ek, nI_clamp (by omega), Int32.and_comm]) ?_
  refine q_istore_n B dX0_strip_16 rfl (Nat.le_of_ble_eq_true rfl) rfl ?_
  refine q_iconst (v := nI 0) B dX0_strip_17 rfl ?_
  refine q_istore B dX0_strip_18 (Nat.le_of_ble_eq_true rfl) rfl ?_
  have hl_20 : ∀ (n i : Nat) (s : a_A) (c : Int32) (J : q_Mem), i + n = 8 → (q_fold (a_strip1 (a_good σ t)) i (σ, 0) = (s, c)) ∧ (Rd T F b J s ∧ a_W T F s) ∧ Kw b I J ∧ Fr b I J → q_W Γ mX0_strip 0 0 Sh J 20 [(0, .ref b), (1, .ref (b + 4 + t)), (2, .int c), (3, .int (a_good σ t)), (4, .int (nI i))] [] := by
    intro n
    induction n with
    | zero =>
      intro i s c J hin hinv
      have hi : i = 8 := by omega
      subst hi
      obtain ⟨e1, ⟨hR1, hW1⟩, hK1, hF1⟩ := hinv
      refine q_iload B dX0_strip_20 rfl ?_
      refine q_bipush (v := nI 8) B dX0_strip_22 rfl ?_
      refine q_icmp_ge (tgt := 66) B dX0_strip_24 (by decide) (fun _ => ?_) (fun h => absurd (q_le (Nat.le_refl 8) (by decide)) h)
      refine q_aload_n B dX0_strip_66 rfl rfl ?_
      refine q_iconst (v := nI 3) B dX0_strip_67 rfl ?_
      refine q_rtV B (s_end (cT hc (i := t) (by omega))) kv_yX5_end ki_yX5_end ks_yX5_end km_X0_144 rfl (ci := 5) rfl rfl (cT hc (i := t) (by omega)) (by decide) rfl (Nat.le_of_ble_eq_true rfl) dX0_strip_68 ?_
      refine q_iload_n B dX0_strip_71 rfl rfl ?_
      exact q_iret BM rfl dX0_strip_72 ⟨rfl, by unfold a_strips; dsimp only; rw [e1], by unfold a_strips; dsimp only; rw [e1]; exact Rd_end hR1 (by omega), Kw.x hK1 Kx.end, hF1.tr (Fr.set (by omega) (by omega))⟩
    | succ n ih =>
      intro i s c J hin hinv
      have hiN : i < 8 := by omega
      obtain ⟨e1, ⟨hR1, hW1⟩, hK1, hF1⟩ := hinv
      obtain ⟨hp0, hp1, hp2⟩ := hR1.2.2.2.2 i hiN
      have eg : (if J (b + 39 + i) 0 < nI 99 then 1 else 0 : Int32) = a_goes s i := by unfold a_goes; rw [hp0]
      have estep : q_fold (a_strip1 (a_good σ t)) (i + 1) (σ, 0) = a_strip1 (a_good σ t) i (s, c) := by rw [← e1]; rfl
      have hW3 : a_W T F (a_strip1 (a_good σ t) i (s, c)).1 := a_strip1_W hiN hW1
      have hR3 : Rd T F b (q_setA J (b + 39 + i) (upd (upd (J (b + 39 + i)) 2 (J (b + 39 + i) 2 + 1)) 0 (J (b + 39 + i) 0 + (if J (b + 39 + i) 0 < nI 99 then 1 else 0)))) (upd (upd s (19 + i) (s (19 + i) + 1)) (3 + i) (s (3 + i) + a_goes s i)) := by have := Rd_P2 (v := J (b + 39 + i) 2 + 1) (x := J (b + 39 + i) 0 + (if J (b + 39 + i) 0 < nI 99 then 1 else 0)) hR1 hiN; rw [eg, hp2, hp0] at this; rw [eg, hp2, hp0]; exact this
      refine q_iload B dX0_strip_20 rfl ?_
      refine q_bipush (v := nI 8) B dX0_strip_22 rfl ?_
      refine q_icmp_ge (tgt := 66) B dX0_strip_24 (by decide) (fun h => absurd h (q_nle hiN (by decide))) (fun _ => ?_)
      refine q_aload_n B dX0_strip_27 rfl rfl ?_
      refine q_iload B dX0_strip_28 rfl ?_
      refine q_rtV B (s_X0_partAt hc hiN) kv_yX0_partAt ki_yX0_partAt ks_yX0_partAt km_X0_57 rfl (ci := 0) rfl rfl hc.1 (by decide) rfl (Nat.le_of_ble_eq_true rfl) dX0_strip_30 ?_
      refine q_astore B dX0_strip_33 (Nat.le_of_ble_eq_true rfl) rfl ?_
      refine q_aload B dX0_strip_35 rfl ?_
      refine q_ifnull B dX0_strip_37 ?_
      refine q_iload_n B dX0_strip_40 rfl rfl ?_
      refine q_iload B dX0_strip_41 rfl ?_
      refine q_rtSN B s_X6_isIn kv_yX6_isIn kt_yX6_isIn kn_X0_150 rfl (by decide) rfl (Nat.le_of_ble_eq_true rfl) dX0_strip_43 ?_
      refine q_if_eq (tgt := 60) B dX0_strip_46 (by decide) (fun c_46 => ?_) (fun c_46 => ?_)
      · skip
        have ea : a_strip1 (a_good σ t) i (s, c) = (s, c) := by unfold a_strip1; rw [if_neg (a_b0 c_46)]
        refine q_iinc2 (y := nI (i + 1)) B dX0_strip_60 rfl (q_inc1 _) (Nat.le_of_ble_eq_true rfl) rfl ?_
        refine q_goto (tgt := 20) B dX0_strip_63 (by decide) ?_
        first
          | exact q_tk (ih (i + 1) (s) (c) (J) (by omega) ⟨by rw [estep]; exact ea, ⟨hR1, hW1⟩, hK1, hF1⟩) rfl (q_ac rfl (q_ac rfl (q_ac rfl (q_ac rfl (q_ac rfl q_an)))))
          | exact q_tk (ih (i + 1) (upd (upd s (19 + i) (s (19 + i) + 1)) (3 + i) (s (3 + i) + a_goes s i)) (c) (q_setA J (b + 39 + i) (upd (upd (J (b + 39 + i)) 2 (J (b + 39 + i) 2 + 1)) 0 (J (b + 39 + i) 0 + (if J (b + 39 + i) 0 < nI 99 then 1 else 0)))) (by omega) ⟨by rw [estep, ea, ez]; exact congrArg _ (Int32.add_zero _), ⟨hR3, by rw [ea] at hW3; exact hW3⟩, hK1.tr (Kw.P (by omega)), hF1.tr (Fr.set (by omega) (by omega))⟩) rfl (q_ac rfl (q_ac rfl (q_ac rfl (q_ac rfl (q_ac rfl q_an)))))
          | exact q_tk (ih (i + 1) (upd (upd s (19 + i) (s (19 + i) + 1)) (3 + i) (s (3 + i) + a_goes s i)) (c + 1) (q_setA J (b + 39 + i) (upd (upd (J (b + 39 + i)) 2 (J (b + 39 + i) 2 + 1)) 0 (J (b + 39 + i) 0 + (if J (b + 39 + i) 0 < nI 99 then 1 else 0)))) (by omega) ⟨by rw [estep, ea, ez], ⟨hR3, by rw [ea] at hW3; exact hW3⟩, hK1.tr (Kw.P (by omega)), hF1.tr (Fr.set (by omega) (by omega))⟩) rfl (q_ac rfl (q_ac rfl (q_ac rfl (q_ac rfl (q_ac rfl q_an)))))
      · skip
        have ea : a_strip1 (a_good σ t) i (s, c) = (upd (upd s (19 + i) (s (19 + i) + 1)) (3 + i) (s (3 + i) + a_goes s i), c + a_goes s i) := by unfold a_strip1; rw [if_pos (a_b1 c_46)]
        refine q_aload B dX0_strip_49 rfl ?_
        refine q_rtV B (s_takeIn (cP hc (i := i) hiN)) kv_yX3_takeIn ki_yX3_takeIn ks_yX3_takeIn km_X0_162 rfl (ci := 3) rfl rfl (cP hc (i := i) hiN) (by decide) rfl (Nat.le_of_ble_eq_true rfl) dX0_strip_51 ?_
        refine q_top eg ?_
        refine q_if_eq (tgt := 60) B dX0_strip_54 (by decide) (fun c_54 => ?_) (fun c_54 => ?_)
        · skip
          have ez : a_goes s i = 0 := c_54
          refine q_iinc2 (y := nI (i + 1)) B dX0_strip_60 rfl (q_inc1 _) (Nat.le_of_ble_eq_true rfl) rfl ?_
          refine q_goto (tgt := 20) B dX0_strip_63 (by decide) ?_
          first
            | exact q_tk (ih (i + 1) (s) (c) (J) (by omega) ⟨by rw [estep]; exact ea, ⟨hR1, hW1⟩, hK1, hF1⟩) rfl (q_ac rfl (q_ac rfl (q_ac rfl (q_ac rfl (q_ac rfl q_an)))))
            | exact q_tk (ih (i + 1) (upd (upd s (19 + i) (s (19 + i) + 1)) (3 + i) (s (3 + i) + a_goes s i)) (c) (q_setA J (b + 39 + i) (upd (upd (J (b + 39 + i)) 2 (J (b + 39 + i) 2 + 1)) 0 (J (b + 39 + i) 0 + (if J (b + 39 + i) 0 < nI 99 then 1 else 0)))) (by omega) ⟨by rw [estep, ea, ez]; exact congrArg _ (Int32.add_zero _), ⟨hR3, by rw [ea] at hW3; exact hW3⟩, hK1.tr (Kw.P (by omega)), hF1.tr (Fr.set (by omega) (by omega))⟩) rfl (q_ac rfl (q_ac rfl (q_ac rfl (q_ac rfl (q_ac rfl q_an)))))
            | exact q_tk (ih (i + 1) (upd (upd s (19 + i) (s (19 + i) + 1)) (3 + i) (s (3 + i) + a_goes s i)) (c + 1) (q_setA J (b + 39 + i) (upd (upd (J (b + 39 + i)) 2 (J (b + 39 + i) 2 + 1)) 0 (J (b + 39 + i) 0 + (if J (b + 39 + i) 0 < nI 99 then 1 else 0)))) (by omega) ⟨by rw [estep, ea, ez], ⟨hR3, by rw [ea] at hW3; exact hW3⟩, hK1.tr (Kw.P (by omega)), hF1.tr (Fr.set (by omega) (by omega))⟩) rfl (q_ac rfl (q_ac rfl (q_ac rfl (q_ac rfl (q_ac rfl q_an)))))
        · skip
          have ez : a_goes s i = 1 := (a_goes_v s i).elim (fun q => q.1) (fun q => absurd q.1 c_54)
          refine q_iinc2 (y := c + 1) B dX0_strip_57 rfl rfl (Nat.le_of_ble_eq_true rfl) rfl ?_
          refine q_iinc2 (y := nI (i + 1)) B dX0_strip_60 rfl (q_inc1 _) (Nat.le_of_ble_eq_true rfl) rfl ?_
          refine q_goto (tgt := 20) B dX0_strip_63 (by decide) ?_
          first
            | exact q_tk (ih (i + 1) (s) (c) (J) (by omega) ⟨by rw [estep]; exact ea, ⟨hR1, hW1⟩, hK1, hF1⟩) rfl (q_ac rfl (q_ac rfl (q_ac rfl (q_ac rfl (q_ac rfl q_an)))))
            | exact q_tk (ih (i + 1) (upd (upd s (19 + i) (s (19 + i) + 1)) (3 + i) (s (3 + i) + a_goes s i)) (c) (q_setA J (b + 39 + i) (upd (upd (J (b + 39 + i)) 2 (J (b + 39 + i) 2 + 1)) 0 (J (b + 39 + i) 0 + (if J (b + 39 + i) 0 < nI 99 then 1 else 0)))) (by omega) ⟨by rw [estep, ea, ez]; exact congrArg _ (Int32.add_zero _), ⟨hR3, by rw [ea] at hW3; exact hW3⟩, hK1.tr (Kw.P (by omega)), hF1.tr (Fr.set (by omega) (by omega))⟩) rfl (q_ac rfl (q_ac rfl (q_ac rfl (q_ac rfl (q_ac rfl q_an)))))
            | exact q_tk (ih (i + 1) (upd (upd s (19 + i) (s (19 + i) + 1)) (3 + i) (s (3 + i) + a_goes s i)) (c + 1) (q_setA J (b + 39 + i) (upd (upd (J (b + 39 + i)) 2 (J (b + 39 + i) 2 + 1)) 0 (J (b + 39 + i) 0 + (if J (b + 39 + i) 0 < nI 99 then 1 else 0)))) (by omega) ⟨by rw [estep, ea, ez], ⟨hR3, by rw [ea] at hW3; exact hW3⟩, hK1.tr (Kw.P (by omega)), hF1.tr (Fr.set (by omega) (by omega))⟩) rfl (q_ac rfl (q_ac rfl (q_ac rfl (q_ac rfl (q_ac rfl q_an)))))
  exact q_tk (hl_20 8 0 σ 0 I (by omega) ⟨rfl, ⟨hR, hW⟩, Kw.rf, Fr.rf⟩) rfl (q_ac rfl (q_ac rfl (q_ac rfl (q_ac rfl (q_ac rfl q_an)))))
theorem a_low_is {m i : Nat} (hm : m < 256) (hi : i < 8) (h1 : a_bit m i = 1) (h0 : ∀ j, j < i → a_bit m j = 0) : a_low m = i := by
  have hmz : m ≠ 0 := fun q => by subst q; unfold a_bit at h1; rw [Nat.zero_div] at h1; exact absurd h1 (by decide)
  obtain ⟨a1, a2, a3⟩ := a_low_ok m hm hmz
  rcases Nat.lt_trichotomy (a_low m) i with h | h | h
  · rw [h0 _ h] at a2; exact absurd a2 (by decide)
  · exact h
  · rw [a3 _ h] at h1; exact absurd h1 (by decide)
theorem a_bit01 (m i : Nat) : a_bit m i = 0 ∨ a_bit m i = 1 := by unfold a_bit; omega
set_option maxRecDepth 100000 in
set_option maxHeartbeats 4000000 in
theorem s_X0_exchangeLowest {Sh : q_Sh} {I : q_Mem} {σ : a_A} {b T F : Nat} (hc : cOk Sh b) (hR : Rd T F b I σ) (hW : a_W T F σ) {t : Nat} (ht : t < T) (hb : ¬ σ (57 + 7 * t + 1) = 0) : q_Rp mX0_exchangeLowest 1 [.ref b, .ref (b + 4 + t)] Sh (I) (fun w I2 => w = some (.int (a_exch σ t).2) ∧ Rd T F b I2 (a_exch σ t).1 ∧ Kw b I I2 ∧ Fr b I I2) := by
  refine q_rp_of (by decide) (Nat.le_of_ble_eq_true rfl) fun Γ BM => ?_
  have B := BM.1
  have hT2 := hR.1.1
  obtain ⟨m, hm, em⟩ := hW.2.2.2.1 t ht
  have hmz : m ≠ 0 := fun q => hb (by rw [em, q]; rfl)
  obtain ⟨l1, l2, l3⟩ := a_low_ok m hm hmz
  show q_W Γ mX0_exchangeLowest 0 0 Sh (I) 0 [(0, .ref b), (1, .ref (b + 4 + t))] []
  refine q_iconst (v := 0) B dX0_exchangeLowest_0 rfl ?_
  refine q_istore_n B dX0_exchangeLowest_1 rfl (Nat.le_of_ble_eq_true rfl) rfl ?_
  have hl_2 : ∀ (n i : Nat) , i + n = 8 → (∀ j, j < i → a_bit m j = 0) → q_W Γ mX0_exchangeLowest 0 0 Sh I 2 [(0, .ref b), (1, .ref (b + 4 + t)), (2, .int (nI i))] [] := by
    intro n
    induction n with
    | zero =>
      intro i  hin hinv
      have hi : i = 8 := by omega
      subst hi
      exact absurd (hinv _ l1) (by rw [l2]; decide)
      skip
    | succ n ih =>
      intro i  hin hinv
      have hiN : i < 8 := by omega
      obtain ⟨hp0, hp1, hp2⟩ := hR.2.2.2.2 i hiN
      obtain ⟨q, hq, eq⟩ := hW.2.2.2.2.2.2.2.2 i hiN
      refine q_iload_n B dX0_exchangeLowest_2 rfl rfl ?_
      refine q_bipush (v := nI 8) B dX0_exchangeLowest_3 rfl ?_
      refine q_icmp_ge (tgt := 70) B dX0_exchangeLowest_5 (by decide) (fun h => absurd h (q_nle hiN (by decide))) (fun _ => ?_)
      refine q_aload_n B dX0_exchangeLowest_8 rfl rfl ?_
      refine q_getI2 B kC_X5 (k := 1) (by decide) rfl kf_X0_125 (cT hc (i := t) (by omega)) (((hR.2.2.1 t ht).1 1 (by decide)).trans em) dX0_exchangeLowest_9 ?_
      refine q_iload_n B dX0_exchangeLowest_12 rfl rfl ?_
      refine q_rtSN B s_X6_isIn kv_yX6_isIn kt_yX6_isIn kn_X0_150 rfl (by decide) rfl (Nat.le_of_ble_eq_true rfl) dX0_exchangeLowest_13 ?_
      refine q_top (y := nI (a_bit m i)) (by rw [a_bit_i m hm i hiN]; rcases a_bit01 m i with z | z <;> rw [z] <;> rfl) ?_
      refine q_if_eq (tgt := 64) B dX0_exchangeLowest_16 (by decide) (fun c_16 => ?_) (fun c_16 => ?_)
      · skip
        have hn : a_bit m i = 0 := (a_bit01 m i).resolve_right (fun z => absurd c_16 (by rw [z]; decide))
        refine q_iinc2 (y := nI (i + 1)) B dX0_exchangeLowest_64 rfl (q_inc1 _) (Nat.le_of_ble_eq_true rfl) rfl ?_
        refine q_goto (tgt := 2) B dX0_exchangeLowest_67 (by decide) ?_
        exact q_tk (ih (i + 1) (by omega) (fun j hj => by
          rcases Nat.lt_or_ge j i with z | z
          · exact hinv j z
          · rw [show j = i by omega]; exact hn)) rfl (q_ac rfl (q_ac rfl (q_ac rfl q_an)))
      · skip
        have hbi : a_bit m i = 1 := (a_bit01 m i).resolve_left (fun z => c_16 (by rw [z]; rfl))
        have hl : a_low m = i := a_low_is hm hiN hbi hinv
        have hl2 : a_low (a_n (σ (57 + 7 * t + 1))) = i := by rw [em]; unfold a_n; rw [nI_clamp (by omega)]; exact hl
        refine q_aload_n B dX0_exchangeLowest_19 rfl rfl ?_
        refine q_iload_n B dX0_exchangeLowest_20 rfl rfl ?_
        refine q_rtV B (s_X0_partAt hc hiN) kv_yX0_partAt ki_yX0_partAt ks_yX0_partAt km_X0_57 rfl (ci := 0) rfl rfl hc.1 (by decide) rfl (Nat.le_of_ble_eq_true rfl) dX0_exchangeLowest_21 ?_
        by_cases hz : σ (3 + i) = 0
        · have hex : a_exch σ t = (σ, 0) := by unfold a_exch; dsimp only; rw [hl2, if_pos hz]
          refine q_astore_n B dX0_exchangeLowest_24 rfl (Nat.le_of_ble_eq_true rfl) rfl ?_
          refine q_aload_n B dX0_exchangeLowest_25 rfl rfl ?_
          refine q_ifnull B dX0_exchangeLowest_26 ?_
          refine q_aload_n B dX0_exchangeLowest_29 rfl rfl ?_
          refine q_rtV B (s_ho0 (cP hc (i := i) hiN) (by rw [hp0, hz]; decide)) kv_yX3_handOut ki_yX3_handOut ks_yX3_handOut km_X0_153 rfl (ci := 3) rfl rfl (cP hc (i := i) hiN) (by decide) rfl (Nat.le_of_ble_eq_true rfl) dX0_exchangeLowest_30 ?_
          refine q_if_ne (tgt := 38) B dX0_exchangeLowest_33 (by decide) (fun h => absurd rfl h) (fun _ => ?_)
          refine q_iconst (v := 0) B dX0_exchangeLowest_36 rfl ?_
          exact q_zret BM rfl (by decide) dX0_exchangeLowest_37 ⟨rfl, by rw [hex], by rw [hex]; exact hR, Kw.rf, Fr.rf⟩
        · skip
          have hex : a_exch σ t = (upd (upd (upd (upd σ (3 + i) (σ (3 + i) - 1)) (11 + i) (σ (11 + i) + 1)) (57 + 7 * t + 1) (σ (57 + 7 * t + 1) &&& ((nI 1 <<< (nI i &&& 31)) ^^^ (-1)))) (57 + 7 * t + 6) (σ (57 + 7 * t + 6) + 1), 1) := by unfold a_exch; dsimp only; rw [hl2, if_neg hz]
          have hR1 := Rd_P3 (v := I (b + 39 + i) 0 - 1) (x := I (b + 39 + i) 1 + 1) hR hiN
          rw [hp0, hp1] at hR1
          have hR2 := Rd_T (k := 1) (v := (σ (57 + 7 * t + 1) &&& ((nI 1 <<< (nI i &&& 31)) ^^^ (-1)))) hR1 (show t < 30 by omega) (by decide)
          have hR3 := Rd_T6 (k := 6) (v := (σ (57 + 7 * t + 6) + 1)) hR2 (show t < 30 by omega) (Or.inr rfl)
          refine q_astore_n B dX0_exchangeLowest_24 rfl (Nat.le_of_ble_eq_true rfl) rfl ?_
          refine q_aload_n B dX0_exchangeLowest_25 rfl rfl ?_
          refine q_ifnull B dX0_exchangeLowest_26 ?_
          refine q_aload_n B dX0_exchangeLowest_29 rfl rfl ?_
          refine q_rtV B (s_ho1 (cP hc (i := i) hiN) (by rw [hp0, eq]; exact (nI_ltI (a := 0) (by decide) (by omega)).mpr (by have : q ≠ 0 := fun z => hz (by rw [eq, z]; rfl); omega))) kv_yX3_handOut ki_yX3_handOut ks_yX3_handOut km_X0_153 rfl (ci := 3) rfl rfl (cP hc (i := i) hiN) (by decide) rfl (Nat.le_of_ble_eq_true rfl) dX0_exchangeLowest_30 ?_
          simp only [hp0, hp1]
          refine q_if_ne (tgt := 38) B dX0_exchangeLowest_33 (by decide) (fun _ => ?_) (fun h => absurd h ((by decide)))
          refine q_aload_n B dX0_exchangeLowest_38 rfl rfl ?_
          refine q_dup B dX0_exchangeLowest_39 rfl ?_
          refine q_getI2 B kC_X5 (k := 1) (by decide) rfl kf_X0_125 (cT hc (i := t) (by omega)) ((congrFun (q_setA_ne (by omega)) 1).trans ((hR.2.2.1 t ht).1 1 (by decide))) dX0_exchangeLowest_40 ?_
          refine q_iconst (v := nI 1) B dX0_exchangeLowest_43 rfl ?_
          refine q_iload_n B dX0_exchangeLowest_44 rfl rfl ?_
          refine q_ishl B dX0_exchangeLowest_45 ?_
          refine q_iconst (v := -1) B dX0_exchangeLowest_46 rfl ?_
          refine q_ixor B dX0_exchangeLowest_47 ?_
          refine q_iand B dX0_exchangeLowest_48 ?_
          refine q_putI2 B kC_X5 (k := 1) (by decide) rfl kf_X0_125 rfl rfl rfl (cT hc (i := t) (by omega)) dX0_exchangeLowest_49 ?_
          refine q_aload_n B dX0_exchangeLowest_52 rfl rfl ?_
          refine q_dup B dX0_exchangeLowest_53 rfl ?_
          refine q_getI2 B kC_X5 (k := 7) (by decide) rfl kf_X0_156 (cT hc (i := t) (by omega)) ((congrFun (q_setA_at _ _ _) 7).trans ((q_upd_ne (by decide)).trans ((congrFun (q_setA_ne (by omega)) 7).trans (hR.2.2.1 t ht).2.2))) dX0_exchangeLowest_54 ?_
          refine q_iconst (v := 1) B dX0_exchangeLowest_57 rfl ?_
          refine q_iadd B dX0_exchangeLowest_58 ?_
          refine q_putI2 B kC_X5 (k := 7) (by decide) rfl kf_X0_156 rfl rfl rfl (cT hc (i := t) (by omega)) dX0_exchangeLowest_59 ?_
          refine q_iconst (v := 1) B dX0_exchangeLowest_62 rfl ?_
          exact q_zret BM rfl (by decide) dX0_exchangeLowest_63 ⟨rfl, by rw [hex], by rw [hex]; exact hR3, ((Kw.P (by omega)).tr (Kw.T (by decide))).tr (Kw.T (by decide)), ((Fr.set (by omega) (by omega)).tr (Fr.set (by omega) (by omega))).tr (Fr.set (by omega) (by omega))⟩
  exact q_tk (hl_2 8 0  (by omega) (fun j hj => absurd hj (Nat.not_lt_zero j))) rfl (q_ac rfl (q_ac rfl (q_ac rfl q_an)))
