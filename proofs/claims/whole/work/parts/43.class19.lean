/-- what the class holds after an order was read, by its letter -/
def Rq (q : Nat) (I : q_Mem) (P : a_A) (len n : Nat) (L : Int32) (F : a_A × Nat × Bool) (w : Option Value) (J : q_Mem) : Prop :=
  w = some (.int (b2 F.2.2)) ∧ (∃ D S N X, Pd q J P len F.2.1 L D S N X ∧ (F.2.2 = true → (L = nI 43 ∧ F.1 (5 * n + 1) = D ∧ F.1 (5 * n + 2) = S ∧ F.1 (5 * n + 3) = N ∧ F.1 (5 * n + 4) = X) ∨ (L = nI 102 ∧ F.1 (5 * n + 1) = S ∧ F.1 (5 * n + 2) = X) ∨ (L = nI 100 ∧ F.1 (5 * n + 1) = D ∧ F.1 (5 * n + 2) = N) ∨ (L = nI 116 ∧ F.1 (5 * n + 1) = N))) ∧ FrP q I J
theorem Rq.no {q len n a : Nat} {I J : q_Mem} {P : a_A} {L L' D S N X : Int32} {F : a_A × Nat × Bool} (e : F.2 = (a, false)) (h : Pd q J P len a L' D S N X) (el : L' = L) (k : FrP q I J) : Rq q I P len n L F (some (.int 0)) J := by
  subst el
  unfold Rq
  rw [e]
  exact ⟨rfl, ⟨D, S, N, X, h, fun z => absurd z Bool.false_ne_true⟩, k⟩
theorem Rq.plus {q len n : Nat} {I J0 J : q_Mem} {P : a_A} {L : Int32} {F : a_A × Nat × Bool} {w : Option Value} (el : L = nI 43) (k : FrP q I J0) (h : Ro q J0 P len n L F w J) : Rq q I P len n L F w J := by
  obtain ⟨h1, ⟨D, S, N, X, h2, h3⟩, h4⟩ := h
  exact ⟨h1, ⟨D, S, N, X, h2, fun z => Or.inl ⟨el, h3 z⟩⟩, k.tr h4⟩
theorem p_T_eq {P : a_A} {len a : Nat} {c : Int32} (h : p_s P len a = c) : p_T P len c a true = true := by
  unfold p_T
  rw [Bool.true_and]
  exact decide_eq_true h
theorem p_digs_no {P : a_A} {len m a : Nat} (h : p_ok P len m a true = false) : p_digs P len m a true = (p_d0 P len a, a, false) := by
  unfold p_digs
  rw [h]
  rfl
theorem p_digs_yes {P : a_A} {len m a : Nat} (h : p_ok P len m a true = true) : p_digs P len m a true = ((p_dl P len m 80 (a + 1) (p_d0 P len a)).2, (p_dl P len m 80 (a + 1) (p_d0 P len a)).1, true) := by
  unfold p_digs
  rw [h]
  rfl
theorem p_ok_f {P : a_A} {len m a : Nat} : p_ok P len m a false = false := rfl
theorem p_fin_43 {P O : a_A} {len n a : Nat} (h : p_s P len a = nI 43) : p_fin P len n O a true = p_plus P len n (upd O (5 * n) (nI 43)) (a + 1) true := by
  unfold p_fin
  rw [h]
  rfl
theorem p_fin_102 {P O : a_A} {len n a : Nat} (h : p_s P len a = nI 102) : p_fin P len n O a true = p_fix P len n (upd O (5 * n) (nI 102)) (a + 1) true := by
  unfold p_fin
  rw [h]
  rfl
theorem p_fin_100 {P O : a_A} {len n a : Nat} (h : p_s P len a = nI 100) : p_fin P len n O a true = p_drw P len n (upd O (5 * n) (nI 100)) (a + 1) true := by
  unfold p_fin
  rw [h]
  rfl
theorem p_fin_116 {P O : a_A} {len n a : Nat} (h : p_s P len a = nI 116) : p_fin P len n O a true = p_tim P len n (upd O (5 * n) (nI 116)) (a + 1) true := by
  unfold p_fin
  rw [h]
  rfl
theorem p_fin_no {P O : a_A} {len n a : Nat} (h1 : ¬ p_s P len a = nI 43) (h2 : ¬ p_s P len a = nI 102) (h3 : ¬ p_s P len a = nI 100) (h4 : ¬ p_s P len a = nI 116) : (p_fin P len n O a true).2 = (a, false) := by
  have e : p_let (p_s P len a) = false := decide_eq_false (fun z => z.elim (fun z => z.elim (fun z => z.elim h1 h2) h3) h4)
  unfold p_fin
  dsimp only
  rw [if_neg h1, if_neg h2, if_neg h3, e]
  rfl
set_option maxRecDepth 100000 in
set_option maxHeartbeats 4000000 in
theorem s_X2_readOrder {Sh : q_Sh} {I : q_Mem} {q len a n : Nat} {P O : a_A} {L D S N X : Int32} (hc : gOk Sh q) (hG : Pd q I P len a L D S N X) : q_Rp mX2_readOrder 4 [.ref q] Sh (I) (fun w J => Rq q I P len n (p_s P len a) (p_fin P len n O a true) w J) := by
  refine q_rp_of (by decide) (Nat.le_of_ble_eq_true rfl) fun Γ BM => ?_
  have B := BM.1
  show q_W Γ mX2_readOrder 0 0 Sh (I) 0 [(0, .ref q)] []
  have j_28 : ∀ (J0 : q_Mem), Pd q J0 P len a (p_s P len a) 0 0 0 0 ∧ FrP q I J0 → q_W Γ mX2_readOrder 0 0 Sh J0 28 [(0, .ref q)] [] := by
    intro J0 hr
    obtain ⟨hG0, hF0⟩ := hr
    refine q_aload_n B dX2_readOrder_28 rfl rfl ?_
    refine q_getI2 B kC_X2 (k := 2) (by decide) rfl kf_X2_18 hc.1 hG0.2.2.1 dX2_readOrder_29 ?_
    
    by_cases h43 : p_s P len a = nI 43
    · refine q_top h43 ?_
      have eT := p_T_eq h43
      have hfin := p_fin_43 (n := n) (O := O) h43
      refine q_lookup (off := 44) (tgt := 76) B dX2_readOrder_32 (by decide) (by decide) (by decide) ?_
      refine q_aload_n B dX2_readOrder_76 rfl rfl ?_
      refine q_bipush (v := nI 43) B dX2_readOrder_77 rfl ?_
      refine q_rpV B (s_X2_readSign hc hG0 (c := 43) (by decide) (by decide)) kv_yX2_readSign ki_yX2_readSign ks_yX2_readSign km_X2_41 rfl (ci := 2) rfl rfl hc.1 (by decide) rfl (Nat.le_of_ble_eq_true rfl) dX2_readOrder_79 (fun w0 J1 hx => ?_)
      obtain ⟨rfl, h1, h2⟩ := hx
      rw [eT] at h1 ⊢
      have h1 : Pd q J1 P len (a + 1) (p_s P len a) 0 0 0 0 := h1
      have hF1 := hF0.tr h2
      refine q_if_eq (tgt := 96) B dX2_readOrder_82 (by decide) (fun h => absurd h ((by decide))) (fun _ => ?_)
      refine q_aload_n B dX2_readOrder_85 rfl rfl ?_
      refine q_rpV B (s_X2_readThing (n := n) (O := upd O (5 * n) (nI 43)) hc h1) kv_yX2_readThing ki_yX2_readThing ks_yX2_readThing km_X2_45 rfl (ci := 2) rfl rfl hc.1 (by decide) rfl (Nat.le_of_ble_eq_true rfl) dX2_readOrder_86 (fun w1 J2 hx => ?_)
      rw [← hfin] at hx
      have hQ := Rq.plus h43 hF1 hx
      obtain ⟨rfl, -, -⟩ := hx
      refine q_if_eq (tgt := 96) B dX2_readOrder_89 (by decide) (fun c_89 => ?_) (fun c_89 => ?_)
      · skip
        rw [b2_0 c_89] at hQ
        refine q_iconst (v := 0) B dX2_readOrder_96 rfl ?_
        exact q_zret BM rfl (by first | exact Or.inl rfl | exact Or.inr rfl) dX2_readOrder_97 ⟨rfl, hQ⟩
      · skip
        rw [b2_1 c_89] at hQ
        refine q_iconst (v := 1) B dX2_readOrder_92 rfl ?_
        refine q_goto (tgt := 97) B dX2_readOrder_93 (by decide) ?_
        exact q_zret BM rfl (by first | exact Or.inl rfl | exact Or.inr rfl) dX2_readOrder_97 ⟨rfl, hQ⟩
    by_cases h100 : p_s P len a = nI 100
    · refine q_top h100 ?_
      have eT := p_T_eq h100
      have hfin := p_fin_100 (n := n) (O := O) h100
      refine q_lookup (off := 107) (tgt := 139) B dX2_readOrder_32 (by decide) (by decide) (by decide) ?_
      refine q_aload_n B dX2_readOrder_139 rfl rfl ?_
      refine q_bipush (v := nI 100) B dX2_readOrder_140 rfl ?_
      refine q_rpV B (s_X2_readSign hc hG0 (c := 100) (by decide) (by decide)) kv_yX2_readSign ki_yX2_readSign ks_yX2_readSign km_X2_41 rfl (ci := 2) rfl rfl hc.1 (by decide) rfl (Nat.le_of_ble_eq_true rfl) dX2_readOrder_142 (fun w0 J1 hx => ?_)
      obtain ⟨rfl, h1, h2⟩ := hx
      rw [eT] at h1 ⊢
      have h1 : Pd q J1 P len (a + 1) (p_s P len a) 0 0 0 0 := h1
      have hF1 := hF0.tr h2
      refine q_if_eq (tgt := 177) B dX2_readOrder_145 (by decide) (fun h => absurd h ((by decide))) (fun _ => ?_)
      refine q_aload_n B dX2_readOrder_148 rfl rfl ?_
      refine q_bipush (v := nI 7) B dX2_readOrder_149 rfl ?_
      refine q_rpV B (s_X2_readDigit hc h1 (m := 7) (by decide)) kv_yX2_readDigit ki_yX2_readDigit ks_yX2_readDigit km_X2_55 rfl (ci := 2) rfl rfl hc.1 (by decide) rfl (Nat.le_of_ble_eq_true rfl) dX2_readOrder_151 (fun w1 J2 hx => ?_)
      obtain ⟨rfl, h3, h4⟩ := hx
      have hF2 := hF1.tr h4
      refine q_if_eq (tgt := 177) B dX2_readOrder_154 (by decide) (fun c_154 => ?_) (fun c_154 => ?_)
      · skip
        have e3 := b2_0 c_154
        rw [e3] at h3
        have hE : (p_fin P len n O a true).2 = (a + 1, false) := by rw [hfin]; simp only [p_drw, pN_t, pN_f, p_T_f, p_num_f, e3]
        have hZ := h3
        have hZF := hF2
        refine q_iconst (v := 0) B dX2_readOrder_177 rfl ?_
        exact q_zret BM rfl (by first | exact Or.inl rfl | exact Or.inr rfl) dX2_readOrder_178 (by first | exact ⟨rfl, hQ⟩ | exact ⟨rfl, Rq.no hE hZ rfl hZF⟩)
      · skip
        have e3 := b2_1 c_154
        rw [e3, if_pos rfl] at h3
        have h3 : Pd q J2 P len (a + 1 + 1) (p_s P len a) (p_dv P len (a + 1)) 0 0 0 := h3
        refine q_aload_n B dX2_readOrder_157 rfl rfl ?_
        refine q_bipush (v := nI 61) B dX2_readOrder_158 rfl ?_
        refine q_rpV B (s_X2_readSign hc h3 (c := 61) (by decide) (by decide)) kv_yX2_readSign ki_yX2_readSign ks_yX2_readSign km_X2_41 rfl (ci := 2) rfl rfl hc.1 (by decide) rfl (Nat.le_of_ble_eq_true rfl) dX2_readOrder_160 (fun w2 J3 hx => ?_)
        obtain ⟨rfl, h5, h6⟩ := hx
        have hF3 := hF2.tr h6
        refine q_if_eq (tgt := 177) B dX2_readOrder_163 (by decide) (fun c_163 => ?_) (fun c_163 => ?_)
        · skip
          have e4 := b2_0 c_163
          rw [e4] at h5
          have hE : (p_fin P len n O a true).2 = (a + 1 + 1, false) := by rw [hfin]; simp only [p_drw, pN_t, pN_f, p_T_f, p_num_f, e3, e4]
          have hZ := h5
          have hZF := hF3
          refine q_iconst (v := 0) B dX2_readOrder_177 rfl ?_
          exact q_zret BM rfl (by first | exact Or.inl rfl | exact Or.inr rfl) dX2_readOrder_178 (by first | exact ⟨rfl, hQ⟩ | exact ⟨rfl, Rq.no hE hZ rfl hZF⟩)
        · skip
          have e4 := b2_1 c_163
          rw [e4] at h5
          have h5 : Pd q J3 P len (a + 1 + 1 + 1) (p_s P len a) (p_dv P len (a + 1)) 0 0 0 := h5
          refine q_aload_n B dX2_readOrder_166 rfl rfl ?_
          refine q_rpV B (s_X2_readNumber hc h5) kv_yX2_readNumber ki_yX2_readNumber ks_yX2_readNumber km_X2_58 rfl (ci := 2) rfl rfl hc.1 (by decide) rfl (Nat.le_of_ble_eq_true rfl) dX2_readOrder_167 (fun w3 J4 hx => ?_)
          obtain ⟨rfl, h7, h8⟩ := hx
          have hF4 := hF3.tr h8
          refine q_if_eq (tgt := 177) B dX2_readOrder_170 (by decide) (fun c_170 => ?_) (fun c_170 => ?_)
          · skip
            have e5 := b2_0 c_170
            rw [p_num_no e5] at h7
            have hE : (p_fin P len n O a true).2 = (a + 1 + 1 + 1, false) := by rw [hfin]; simp only [p_drw, pN_t, pN_f, p_T_f, p_num_f, e3, e4, p_num_no e5]
            have hZ := h7
            have hZF := hF4
            refine q_iconst (v := 0) B dX2_readOrder_177 rfl ?_
            exact q_zret BM rfl (by first | exact Or.inl rfl | exact Or.inr rfl) dX2_readOrder_178 (by first | exact ⟨rfl, hQ⟩ | exact ⟨rfl, Rq.no hE hZ rfl hZF⟩)
          · skip
            have e5 := b2_1 c_170
            rw [e5, if_pos rfl] at h7
            have e6 := p_num_2.trans e5
            have hQ : Rq q I P len n (p_s P len a) (p_fin P len n O a true) (some (.int 1)) J4 := by
              rw [hfin]
              simp only [p_drw, pN_t, pN_f, p_T_f, p_num_f, e3, e4]
              exact ⟨by rw [e6]; rfl, ⟨_, _, _, _, h7, fun _ => Or.inr (Or.inr (Or.inl ⟨h100, by simp [upd], by simp [upd]⟩))⟩, hF4⟩
            refine q_iconst (v := 1) B dX2_readOrder_173 rfl ?_
            refine q_goto (tgt := 178) B dX2_readOrder_174 (by decide) ?_
            exact q_zret BM rfl (by first | exact Or.inl rfl | exact Or.inr rfl) dX2_readOrder_178 (by first | exact ⟨rfl, hQ⟩ | exact ⟨rfl, Rq.no hE hZ rfl hZF⟩)
    by_cases h102 : p_s P len a = nI 102
    · refine q_top h102 ?_
      have eT := p_T_eq h102
      have hfin := p_fin_102 (n := n) (O := O) h102
      refine q_lookup (off := 66) (tgt := 98) B dX2_readOrder_32 (by decide) (by decide) (by decide) ?_
      refine q_aload_n B dX2_readOrder_98 rfl rfl ?_
      refine q_bipush (v := nI 102) B dX2_readOrder_99 rfl ?_
      refine q_rpV B (s_X2_readSign hc hG0 (c := 102) (by decide) (by decide)) kv_yX2_readSign ki_yX2_readSign ks_yX2_readSign km_X2_41 rfl (ci := 2) rfl rfl hc.1 (by decide) rfl (Nat.le_of_ble_eq_true rfl) dX2_readOrder_101 (fun w0 J1 hx => ?_)
      obtain ⟨rfl, h1, h2⟩ := hx
      rw [eT] at h1 ⊢
      have h1 : Pd q J1 P len (a + 1) (p_s P len a) 0 0 0 0 := h1
      have hF1 := hF0.tr h2
      refine q_if_eq (tgt := 137) B dX2_readOrder_104 (by decide) (fun h => absurd h ((by decide))) (fun _ => ?_)
      refine q_aload_n B dX2_readOrder_107 rfl rfl ?_
      refine q_iconst (v := nI 5) B dX2_readOrder_108 rfl ?_
      refine q_rpV B (s_X2_readSet hc h1 (m := 5) (by decide)) kv_yX2_readSet ki_yX2_readSet ks_yX2_readSet km_X2_49 rfl (ci := 2) rfl rfl hc.1 (by decide) rfl (Nat.le_of_ble_eq_true rfl) dX2_readOrder_109 (fun w1 J2 hx => ?_)
      obtain ⟨rfl, h3, h4⟩ := hx
      have hF2 := hF1.tr h4
      refine q_if_eq (tgt := 137) B dX2_readOrder_112 (by decide) (fun c_112 => ?_) (fun c_112 => ?_)
      · skip
        have e3 := b2_0 c_112
        rw [e3, if_neg Bool.false_ne_true, if_neg Bool.false_ne_true] at h3
        have hE : (p_fin P len n O a true).2 = (a + 1, false) := by rw [hfin]; simp only [p_fix, pN_t, pN_f, p_T_f, p_ok_f, p_digs_no e3]
        have hZ := h3
        have hZF := hF2
        refine q_iconst (v := 0) B dX2_readOrder_137 rfl ?_
        exact q_zret BM rfl (by first | exact Or.inl rfl | exact Or.inr rfl) dX2_readOrder_138 (by first | exact ⟨rfl, hQ⟩ | exact ⟨rfl, Rq.no hE hZ rfl hZF⟩)
      · skip
        have e3 := b2_1 c_112
        rw [e3, if_pos rfl, if_pos rfl] at h3
        refine q_aload_n B dX2_readOrder_115 rfl rfl ?_
        refine q_bipush (v := nI 94) B dX2_readOrder_116 rfl ?_
        refine q_rpV B (s_X2_readSign hc h3 (c := 94) (by decide) (by decide)) kv_yX2_readSign ki_yX2_readSign ks_yX2_readSign km_X2_41 rfl (ci := 2) rfl rfl hc.1 (by decide) rfl (Nat.le_of_ble_eq_true rfl) dX2_readOrder_118 (fun w2 J3 hx => ?_)
        obtain ⟨rfl, h5, h6⟩ := hx
        have hF3 := hF2.tr h6
        refine q_if_eq (tgt := 137) B dX2_readOrder_121 (by decide) (fun c_121 => ?_) (fun c_121 => ?_)
        · skip
          have e4 := b2_0 c_121
          rw [e4] at h5
          have hE : (p_fin P len n O a true).2 = ((p_dl P len 5 80 (a + 1 + 1) (p_d0 P len (a + 1))).1, false) := by rw [hfin]; simp only [p_fix, pN_t, pN_f, p_T_f, p_ok_f, p_digs_yes e3, e4]
          have hZ := h5
          have hZF := hF3
          refine q_iconst (v := 0) B dX2_readOrder_137 rfl ?_
          exact q_zret BM rfl (by first | exact Or.inl rfl | exact Or.inr rfl) dX2_readOrder_138 (by first | exact ⟨rfl, hQ⟩ | exact ⟨rfl, Rq.no hE hZ rfl hZF⟩)
        · skip
          have e4 := b2_1 c_121
          rw [e4] at h5
          refine q_aload_n B dX2_readOrder_124 rfl rfl ?_
          refine q_bipush (v := nI 9) B dX2_readOrder_125 rfl ?_
          refine q_rpV B (s_X2_readLast hc h5 (m := 9) (by decide)) kv_yX2_readLast ki_yX2_readLast ks_yX2_readLast km_X2_52 rfl (ci := 2) rfl rfl hc.1 (by decide) rfl (Nat.le_of_ble_eq_true rfl) dX2_readOrder_127 (fun w3 J4 hx => ?_)
          obtain ⟨rfl, h7, h8⟩ := hx
          have hF4 := hF3.tr h8
          rw [pN_t] at h7 ⊢
          refine q_if_eq (tgt := 137) B dX2_readOrder_130 (by decide) (fun c_130 => ?_) (fun c_130 => ?_)
          · skip
            have e5 := b2_0 c_130
            rw [e5] at h7
            have hE : (p_fin P len n O a true).2 = ((p_dl P len 5 80 (a + 1 + 1) (p_d0 P len (a + 1))).1 + 1, false) := by rw [hfin]; simp only [p_fix, pN_t, pN_f, p_T_f, p_ok_f, p_digs_yes e3, e4, e5]
            have hZ := h7
            have hZF := hF4
            refine q_iconst (v := 0) B dX2_readOrder_137 rfl ?_
            exact q_zret BM rfl (by first | exact Or.inl rfl | exact Or.inr rfl) dX2_readOrder_138 (by first | exact ⟨rfl, hQ⟩ | exact ⟨rfl, Rq.no hE hZ rfl hZF⟩)
          · skip
            have e5 := b2_1 c_130
            rw [e5] at h7
            have hQ : Rq q I P len n (p_s P len a) (p_fin P len n O a true) (some (.int 1)) J4 := by
              rw [hfin]
              simp only [p_fix, pN_t, pN_f, p_T_f, p_ok_f, p_digs_yes e3, e4, e5]
              exact ⟨rfl, ⟨_, _, _, _, h7, fun _ => Or.inr (Or.inl ⟨h102, by simp [upd], by simp [upd]⟩)⟩, hF4⟩
            refine q_iconst (v := 1) B dX2_readOrder_133 rfl ?_
            refine q_goto (tgt := 138) B dX2_readOrder_134 (by decide) ?_
            exact q_zret BM rfl (by first | exact Or.inl rfl | exact Or.inr rfl) dX2_readOrder_138 (by first | exact ⟨rfl, hQ⟩ | exact ⟨rfl, Rq.no hE hZ rfl hZF⟩)
    by_cases h116 : p_s P len a = nI 116
    · refine q_top h116 ?_
      have eT := p_T_eq h116
      have hfin := p_fin_116 (n := n) (O := O) h116
      refine q_lookup (off := 147) (tgt := 179) B dX2_readOrder_32 (by decide) (by decide) (by decide) ?_
      refine q_aload_n B dX2_readOrder_179 rfl rfl ?_
      refine q_bipush (v := nI 116) B dX2_readOrder_180 rfl ?_
      refine q_rpV B (s_X2_readSign hc hG0 (c := 116) (by decide) (by decide)) kv_yX2_readSign ki_yX2_readSign ks_yX2_readSign km_X2_41 rfl (ci := 2) rfl rfl hc.1 (by decide) rfl (Nat.le_of_ble_eq_true rfl) dX2_readOrder_182 (fun w0 J1 hx => ?_)
      obtain ⟨rfl, h1, h2⟩ := hx
      rw [eT] at h1 ⊢
      have h1 : Pd q J1 P len (a + 1) (p_s P len a) 0 0 0 0 := h1
      have hF1 := hF0.tr h2
      refine q_if_eq (tgt := 199) B dX2_readOrder_185 (by decide) (fun h => absurd h ((by decide))) (fun _ => ?_)
      refine q_aload_n B dX2_readOrder_188 rfl rfl ?_
      refine q_rpV B (s_X2_readNumber hc h1) kv_yX2_readNumber ki_yX2_readNumber ks_yX2_readNumber km_X2_58 rfl (ci := 2) rfl rfl hc.1 (by decide) rfl (Nat.le_of_ble_eq_true rfl) dX2_readOrder_189 (fun w3 J4 hx => ?_)
      obtain ⟨rfl, h7, h8⟩ := hx
      have hF4 := hF1.tr h8
      refine q_if_eq (tgt := 199) B dX2_readOrder_192 (by decide) (fun c_192 => ?_) (fun c_192 => ?_)
      · skip
        have e5 := b2_0 c_192
        rw [p_num_no e5] at h7
        have hE : (p_fin P len n O a true).2 = (a + 1, false) := by rw [hfin]; simp only [p_tim, p_num_no e5]
        have hZ := h7
        have hZF := hF4
        refine q_iconst (v := 0) B dX2_readOrder_199 rfl ?_
        exact q_zret BM rfl (by first | exact Or.inl rfl | exact Or.inr rfl) dX2_readOrder_200 (by first | exact ⟨rfl, hQ⟩ | exact ⟨rfl, Rq.no hE hZ rfl hZF⟩)
      · skip
        have e5 := b2_1 c_192
        rw [e5, if_pos rfl] at h7
        have e6 := p_num_2.trans e5
        have hQ : Rq q I P len n (p_s P len a) (p_fin P len n O a true) (some (.int 1)) J4 := by
          rw [hfin]
          simp only [p_tim]
          exact ⟨by rw [e6]; rfl, ⟨_, _, _, _, h7, fun _ => Or.inr (Or.inr (Or.inr ⟨h116, by simp [upd]⟩))⟩, hF4⟩
        refine q_iconst (v := 1) B dX2_readOrder_195 rfl ?_
        refine q_goto (tgt := 200) B dX2_readOrder_196 (by decide) ?_
        exact q_zret BM rfl (by first | exact Or.inl rfl | exact Or.inr rfl) dX2_readOrder_200 (by first | exact ⟨rfl, hQ⟩ | exact ⟨rfl, Rq.no hE hZ rfl hZF⟩)
    have g43 := a_toInt_ne (j := 43) (by decide) h43
    have g100 := a_toInt_ne (j := 100) (by decide) h100
    have g102 := a_toInt_ne (j := 102) (by decide) h102
    have g116 := a_toInt_ne (j := 116) (by decide) h116
    refine q_lookup (off := 169) (tgt := 201) B dX2_readOrder_32 (by decide) (by simp [Op.lookupswitch.offset]; omega) (by decide) ?_
    refine q_iconst (v := 0) B dX2_readOrder_201 rfl ?_
    exact q_zret BM rfl (Or.inl rfl) dX2_readOrder_202 ⟨rfl, Rq.no (p_fin_no h43 h102 h100 h116) hG0 rfl hF0⟩
  refine q_aload_n B dX2_readOrder_0 rfl rfl ?_
  refine q_aload_n B dX2_readOrder_1 rfl rfl ?_
  refine q_rtV B (s_X2_sign hc hG) kv_yX2_sign ki_yX2_sign ks_yX2_sign km_X2_37 rfl (ci := 2) rfl rfl hc.1 (by decide) rfl (Nat.le_of_ble_eq_true rfl) dX2_readOrder_2 ?_
  refine q_putI2 B kC_X2 (k := 2) (by decide) rfl kf_X2_18 rfl rfl rfl hc.1 dX2_readOrder_5 ?_
  refine q_aload_n B dX2_readOrder_8 rfl rfl ?_
  refine q_iconst (v := 0) B dX2_readOrder_9 rfl ?_
  refine q_putI2 B kC_X2 (k := 3) (by decide) rfl kf_X2_21 rfl rfl rfl hc.1 dX2_readOrder_10 ?_
  refine q_aload_n B dX2_readOrder_13 rfl rfl ?_
  refine q_iconst (v := 0) B dX2_readOrder_14 rfl ?_
  refine q_putI2 B kC_X2 (k := 4) (by decide) rfl kf_X2_24 rfl rfl rfl hc.1 dX2_readOrder_15 ?_
  refine q_aload_n B dX2_readOrder_18 rfl rfl ?_
  refine q_iconst (v := 0) B dX2_readOrder_19 rfl ?_
  refine q_putI2 B kC_X2 (k := 5) (by decide) rfl kf_X2_27 rfl rfl rfl hc.1 dX2_readOrder_20 ?_
  refine q_aload_n B dX2_readOrder_23 rfl rfl ?_
  refine q_iconst (v := 0) B dX2_readOrder_24 rfl ?_
  refine q_putI2 B kC_X2 (k := 6) (by decide) rfl kf_X2_30 rfl rfl rfl hc.1 dX2_readOrder_25 ?_
  exact q_tk (j_28 _ ⟨hG.f2.f3.f4.f5.f6, (((FrP.set.tr FrP.set).tr FrP.set).tr FrP.set).tr FrP.set⟩) rfl (q_ac rfl q_an)
