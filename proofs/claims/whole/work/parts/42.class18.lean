theorem pN_t (a : Nat) : pN true a = a + 1 := rfl
theorem pN_f (a : Nat) : pN false a = a := rfl
theorem p_T_f {P : a_A} {len a : Nat} {c : Int32} : p_T P len c a false = false := rfl
theorem p_dg_f {P : a_A} {len a : Nat} {k : Bool} : p_dg P len a k false = (0, a, k) := rfl
theorem p_tl_f {P : a_A} {len a : Nat} {u : Bool} : p_tl P len a u false = (0, a, u) := rfl
theorem p_num_f {P : a_A} {len a : Nat} : p_num P len a false = (p_dv P len a, a, false) := rfl
theorem p_num_2 {P : a_A} {len a : Nat} : (p_num P len a true).2.2 = p_ok P len 9 a true := by
  unfold p_num
  by_cases h : p_ok P len 9 a true = true
  · rw [if_pos h, h]; split <;> rfl
  · rw [if_neg h, Bool.eq_false_iff.mpr h]
theorem p_num_no {P : a_A} {len a : Nat} (h : p_ok P len 9 a true = false) : p_num P len a true = (p_dv P len a, a, false) := by
  unfold p_num
  rw [if_neg (by rw [h]; exact Bool.false_ne_true)]
/-- what the class holds after a thing's order was read -/
def Ro (q : Nat) (I : q_Mem) (P : a_A) (len n : Nat) (L : Int32) (F : a_A × Nat × Bool) (w : Option Value) (J : q_Mem) : Prop :=
  w = some (.int (b2 F.2.2)) ∧ (∃ D S N X, Pd q J P len F.2.1 L D S N X ∧ (F.2.2 = true → F.1 (5 * n + 1) = D ∧ F.1 (5 * n + 2) = S ∧ F.1 (5 * n + 3) = N ∧ F.1 (5 * n + 4) = X)) ∧ FrP q I J
theorem Ro.no {q len n a : Nat} {I J : q_Mem} {P : a_A} {L D S N X : Int32} {F : a_A × Nat × Bool} (e : F.2 = (a, false)) (h : Pd q J P len a L D S N X) (k : FrP q I J) : Ro q I P len n L F (some (.int 0)) J := by
  unfold Ro
  rw [e]
  exact ⟨rfl, ⟨D, S, N, X, h, fun z => absurd z Bool.false_ne_true⟩, k⟩
theorem Ro.yes {q len n a : Nat} {I J : q_Mem} {P O : a_A} {L D S N X : Int32} {F : a_A × Nat × Bool} (e : F = (upd (upd (upd (upd O (5 * n + 1) D) (5 * n + 2) S) (5 * n + 3) N) (5 * n + 4) X, a, true)) (h : Pd q J P len a L D S N X) (k : FrP q I J) : Ro q I P len n L F (some (.int 1)) J := by
  subst e
  exact ⟨rfl, ⟨D, S, N, X, h, fun _ => ⟨by simp [upd], by simp [upd], by simp [upd], by simp [upd]⟩⟩, k⟩
set_option maxRecDepth 100000 in
set_option maxHeartbeats 4000000 in
theorem s_X2_readThing {Sh : q_Sh} {I : q_Mem} {q len a n : Nat} {P O : a_A} {L D N : Int32} (hc : gOk Sh q) (hG : Pd q I P len a L D 0 N 0) : q_Rp mX2_readThing 3 [.ref q] Sh (I) (fun w J => Ro q I P len n L (p_plus P len n O a true) w J) := by
  refine q_rp_of (by decide) (Nat.le_of_ble_eq_true rfl) fun Γ BM => ?_
  have B := BM.1
  show q_W Γ mX2_readThing 0 0 Sh (I) 0 [(0, .ref q)] []
  refine q_aload_n B dX2_readThing_0 rfl rfl ?_
  refine q_iconst (v := nI 5) B dX2_readThing_1 rfl ?_
  refine q_rpV B (s_X2_readDigit hc hG (m := 5) (by decide)) kv_yX2_readDigit ki_yX2_readDigit ks_yX2_readDigit km_X2_55 rfl (ci := 2) rfl rfl hc.1 (by decide) rfl (Nat.le_of_ble_eq_true rfl) dX2_readThing_2 (fun w0 J hx => ?_)
  obtain ⟨rfl, h1, h2⟩ := hx
  refine q_if_ne (tgt := 10) B dX2_readThing_5 (by decide) (fun c_5 => ?_) (fun c_5 => ?_)
  · skip
    have e2 := b2_1 c_5
    rw [e2] at h1
    have h1 : Pd q J P len (a + 1) L (p_dv P len a) 0 N 0 := h1
    have j_30 : ∀ (J : q_Mem) (c : Nat) (S1 : Int32), p_dg P len (pN (p_T P len (nI 58) (a + 1) true) (a + 1)) true (p_T P len (nI 58) (a + 1) true) = (S1, c, true) ∧ Pd q J P len c L (p_dv P len a) S1 N 0 ∧ FrP q I J → q_W Γ mX2_readThing 0 0 Sh J 30 [(0, .ref q)] [] := by
      intro J c S1 hr
      obtain ⟨hd, hG1, hF1⟩ := hr
      refine q_aload_n B dX2_readThing_30 rfl rfl ?_
      refine q_bipush (v := nI 33) B dX2_readThing_31 rfl ?_
      refine q_rpV B (s_X2_readSign hc hG1 (c := 33) (by decide) (by decide)) kv_yX2_readSign ki_yX2_readSign ks_yX2_readSign km_X2_41 rfl (ci := 2) rfl rfl hc.1 (by decide) rfl (Nat.le_of_ble_eq_true rfl) dX2_readThing_33 (fun w3 J3 hx => ?_)
      obtain ⟨rfl, h7, h8⟩ := hx
      refine q_if_eq (tgt := 46) B dX2_readThing_36 (by decide) (fun c_36 => ?_) (fun c_36 => ?_)
      · skip
        have e5 := b2_0 c_36
        rw [e5] at h7
        have hE : (p_plus P len n O a true).2 = (c, false) := by simp only [p_plus, e2, pN_t, pN_f, p_T_f, p_num_f, p_tl_f, hd, e5]
        have hZ := h7
        have hZF := hF1.tr h8
        refine q_iconst (v := 0) B dX2_readThing_46 rfl ?_
        exact q_zret BM rfl (Or.inl rfl) dX2_readThing_47 ⟨rfl, Ro.no hE hZ hZF⟩
      · skip
        have e5 := b2_1 c_36
        rw [e5] at h7
        have h7 : Pd q J3 P len (c + 1) L (p_dv P len a) S1 N 0 := h7
        refine q_aload_n B dX2_readThing_39 rfl rfl ?_
        refine q_rpV B (s_X2_readNumber hc h7) kv_yX2_readNumber ki_yX2_readNumber ks_yX2_readNumber km_X2_58 rfl (ci := 2) rfl rfl hc.1 (by decide) rfl (Nat.le_of_ble_eq_true rfl) dX2_readThing_40 (fun w4 J4 hx => ?_)
        obtain ⟨rfl, h9, h10⟩ := hx
        refine q_if_ne (tgt := 48) B dX2_readThing_43 (by decide) (fun c_43 => ?_) (fun c_43 => ?_)
        · skip
          have e6 := b2_1 c_43
          rw [e6, if_pos rfl] at h9
          have e6n : (p_num P len (c + 1) true).2.2 = true := p_num_2.trans e6
          refine q_aload_n B dX2_readThing_48 rfl rfl ?_
          refine q_bipush (v := nI 63) B dX2_readThing_49 rfl ?_
          refine q_rpV B (s_X2_readSign hc h9 (c := 63) (by decide) (by decide)) kv_yX2_readSign ki_yX2_readSign ks_yX2_readSign km_X2_41 rfl (ci := 2) rfl rfl hc.1 (by decide) rfl (Nat.le_of_ble_eq_true rfl) dX2_readThing_51 (fun w5 J5 hx => ?_)
          obtain ⟨rfl, h11, h12⟩ := hx
          refine q_if_eq (tgt := 66) B dX2_readThing_54 (by decide) (fun c_54 => ?_) (fun c_54 => ?_)
          · skip
            have e7 := b2_0 c_54
            rw [e7] at h11
            have hE : p_plus P len n O a true = (upd (upd (upd (upd O (5 * n + 1) (p_dv P len a)) (5 * n + 2) S1) (5 * n + 3) (p_num P len (c + 1) true).1) (5 * n + 4) 0, (p_num P len (c + 1) true).2.1, true) := by simp only [p_plus, e2, pN_t, pN_f, p_T_f, p_num_f, p_tl_f, hd, e5, e6n, e7]
            have hY := Ro.yes hE h11 (((hF1.tr h8).tr h10).tr h12)
            refine q_iconst (v := 1) B dX2_readThing_66 rfl ?_
            refine q_goto (tgt := 71) B dX2_readThing_67 (by decide) ?_
            exact q_zret BM rfl (by first | exact Or.inl rfl | exact Or.inr rfl) dX2_readThing_71 ⟨rfl, by first | exact hY | exact Ro.no hE h13 ((((hF1.tr h8).tr h10).tr h12).tr h14)⟩
          · skip
            have e7 := b2_1 c_54
            rw [e7] at h11
            refine q_aload_n B dX2_readThing_57 rfl rfl ?_
            refine q_bipush (v := nI 7) B dX2_readThing_58 rfl ?_
            refine q_rpV B (s_X2_readLast hc h11 (m := 7) (by decide)) kv_yX2_readLast ki_yX2_readLast ks_yX2_readLast km_X2_52 rfl (ci := 2) rfl rfl hc.1 (by decide) rfl (Nat.le_of_ble_eq_true rfl) dX2_readThing_60 (fun w6 J6 hx => ?_)
            obtain ⟨rfl, h13, h14⟩ := hx
            refine q_if_eq (tgt := 70) B dX2_readThing_63 (by decide) (fun c_63 => ?_) (fun c_63 => ?_)
            · skip
              have e8 := b2_0 c_63
              rw [e8] at h13
              have e8t : p_tl P len ((p_num P len (c + 1) true).2.1 + 1) true true = (p_dv P len ((p_num P len (c + 1) true).2.1 + 1), (p_num P len (c + 1) true).2.1 + 1, false) := by show (_, pN (p_ok P len 7 _ true) _, p_ok P len 7 _ true) = _; rw [show p_ok P len 7 ((p_num P len (c + 1) true).2.1 + 1) true = false from e8]; rfl
              have hE : (p_plus P len n O a true).2 = ((p_num P len (c + 1) true).2.1 + 1, false) := by simp only [p_plus, e2, pN_t, pN_f, p_T_f, p_num_f, p_tl_f, hd, e5, e6n, e7, e8t]
              refine q_iconst (v := 0) B dX2_readThing_70 rfl ?_
              exact q_zret BM rfl (by first | exact Or.inl rfl | exact Or.inr rfl) dX2_readThing_71 ⟨rfl, by first | exact hY | exact Ro.no hE h13 ((((hF1.tr h8).tr h10).tr h12).tr h14)⟩
            · skip
              have e8 := b2_1 c_63
              rw [e8] at h13
              have e8t : p_tl P len ((p_num P len (c + 1) true).2.1 + 1) true true = (p_dv P len ((p_num P len (c + 1) true).2.1 + 1), (p_num P len (c + 1) true).2.1 + 1 + 1, true) := by show (_, pN (p_ok P len 7 _ true) _, p_ok P len 7 _ true) = _; rw [show p_ok P len 7 ((p_num P len (c + 1) true).2.1 + 1) true = true from e8]; rfl
              have hE : p_plus P len n O a true = (upd (upd (upd (upd O (5 * n + 1) (p_dv P len a)) (5 * n + 2) S1) (5 * n + 3) (p_num P len (c + 1) true).1) (5 * n + 4) (p_dv P len ((p_num P len (c + 1) true).2.1 + 1)), (p_num P len (c + 1) true).2.1 + 1 + 1, true) := by simp only [p_plus, e2, pN_t, pN_f, p_T_f, p_num_f, p_tl_f, hd, e5, e6n, e7, e8t]
              have hY := Ro.yes hE h13 ((((hF1.tr h8).tr h10).tr h12).tr h14)
              refine q_iconst (v := 1) B dX2_readThing_66 rfl ?_
              refine q_goto (tgt := 71) B dX2_readThing_67 (by decide) ?_
              exact q_zret BM rfl (by first | exact Or.inl rfl | exact Or.inr rfl) dX2_readThing_71 ⟨rfl, by first | exact hY | exact Ro.no hE h13 ((((hF1.tr h8).tr h10).tr h12).tr h14)⟩
        · skip
          have e6 := b2_0 c_43
          have e6n := p_num_no e6
          rw [e6n, e6] at h9
          have hE : (p_plus P len n O a true).2 = (c + 1, false) := by simp only [p_plus, e2, pN_t, pN_f, p_T_f, p_num_f, p_tl_f, hd, e5, e6n]
          have hZ := h9
          have hZF := (hF1.tr h8).tr h10
          refine q_iconst (v := 0) B dX2_readThing_46 rfl ?_
          exact q_zret BM rfl (Or.inl rfl) dX2_readThing_47 ⟨rfl, Ro.no hE hZ hZF⟩
    refine q_aload_n B dX2_readThing_10 rfl rfl ?_
    refine q_bipush (v := nI 58) B dX2_readThing_11 rfl ?_
    refine q_rpV B (s_X2_readSign hc h1 (c := 58) (by decide) (by decide)) kv_yX2_readSign ki_yX2_readSign ks_yX2_readSign km_X2_41 rfl (ci := 2) rfl rfl hc.1 (by decide) rfl (Nat.le_of_ble_eq_true rfl) dX2_readThing_13 (fun w1 J1 hx => ?_)
    obtain ⟨rfl, h3, h4⟩ := hx
    refine q_if_eq (tgt := 30) B dX2_readThing_16 (by decide) (fun c_16 => ?_) (fun c_16 => ?_)
    · skip
      have e3 := b2_0 c_16
      rw [e3] at h3
      have hd : p_dg P len (pN (p_T P len (nI 58) (a + 1) true) (a + 1)) true (p_T P len (nI 58) (a + 1) true) = (0, a + 1, true) ∧ Pd q J1 P len (a + 1) L (p_dv P len a) 0 N 0 ∧ FrP q I J1 := ⟨by rw [e3]; rfl, h3, h2.tr h4⟩
      exact q_tk (j_30 _ _ _ hd) rfl (q_ac rfl q_an)
    · skip
      have e3 := b2_1 c_16
      rw [e3] at h3
      have h3 : Pd q J1 P len (a + 2) L (p_dv P len a) 0 N 0 := h3
      refine q_aload_n B dX2_readThing_19 rfl rfl ?_
      refine q_bipush (v := nI 7) B dX2_readThing_20 rfl ?_
      refine q_rpV B (s_X2_readSet hc h3 (m := 7) (by decide)) kv_yX2_readSet ki_yX2_readSet ks_yX2_readSet km_X2_49 rfl (ci := 2) rfl rfl hc.1 (by decide) rfl (Nat.le_of_ble_eq_true rfl) dX2_readThing_22 (fun w2 J2 hx => ?_)
      obtain ⟨rfl, h5, h6⟩ := hx
      refine q_if_ne (tgt := 30) B dX2_readThing_25 (by decide) (fun c_25 => ?_) (fun c_25 => ?_)
      · skip
        have e4 := b2_1 c_25
        rw [e4, if_pos rfl, if_pos rfl] at h5
        have hd := (show p_dg P len (pN (p_T P len (nI 58) (a + 1) true) (a + 1)) true (p_T P len (nI 58) (a + 1) true) = ((p_dl P len 7 80 (a + 2 + 1) (p_d0 P len (a + 2))).2, (p_dl P len 7 80 (a + 2 + 1) (p_d0 P len (a + 2))).1, true) ∧ Pd q J2 P len (p_dl P len 7 80 (a + 2 + 1) (p_d0 P len (a + 2))).1 L (p_dv P len a) (p_dl P len 7 80 (a + 2 + 1) (p_d0 P len (a + 2))).2 N 0 ∧ FrP q I J2 from ⟨by rw [e3]; show p_digs P len 7 (a + 2) true = _; unfold p_digs; rw [e4]; rfl, h5, (h2.tr h4).tr h6⟩)
        exact q_tk (j_30 _ _ _ hd) rfl (q_ac rfl q_an)
      · skip
        have e4 := b2_0 c_25
        rw [e4, if_neg Bool.false_ne_true, if_neg Bool.false_ne_true] at h5
        have e4d : p_dg P len (a + 1 + 1) true true = (p_d0 P len (a + 1 + 1), a + 1 + 1, false) := by show p_digs P len 7 (a + 2) true = _; unfold p_digs; rw [e4]; rfl
        have hE : (p_plus P len n O a true).2 = (a + 2, false) := by simp only [p_plus, e2, pN_t, pN_f, p_T_f, p_num_f, p_tl_f, e3, e4d]
        refine q_iconst (v := 0) B dX2_readThing_28 rfl ?_
        exact q_zret BM rfl (Or.inl rfl) dX2_readThing_29 ⟨rfl, Ro.no hE h5 ((h2.tr h4).tr h6)⟩
  · skip
    have e2 := b2_0 c_5
    rw [e2] at h1
    have hE : (p_plus P len n O a true).2 = (a, false) := by simp only [p_plus, e2, pN_t, pN_f, p_T_f, p_num_f, p_tl_f, p_dg_f]
    refine q_iconst (v := 0) B dX2_readThing_8 rfl ?_
    exact q_zret BM rfl (Or.inl rfl) dX2_readThing_9 ⟨rfl, Ro.no hE h1 h2⟩
