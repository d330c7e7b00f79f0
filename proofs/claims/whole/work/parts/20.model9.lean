section QROWS9
variable {K0 : Option Value → q_Sh → q_Mem → Prop} {Γ : q_Cx} {Y : q_Mth} {d rc rs : Nat} {Sh : q_Sh} {I : q_Mem} {pc : Nat} {lv : List (Nat × Value)} {st : List Value}
theorem q_getIo (B : q_Ok Γ Y d) {C : String} {T : u_T} {N ci i k l : Nat} {v : Int32} {ob : Nat → Int32} (hC : q_Cl ci C T N) (hk : k < N) (hr : q_isR (q_ty ci k) = false) (hw : Cond.fieldLink Y.1.cls i (T k).1 (T k).2.1 (T k).2.2.1 ∈ q_WS) (hl : q_is Sh l ci) (e : ob k = v) (hd : decode Y.2.1 pc = .ok (.getfield i, 3))
    (kk : q_W Γ Y rc rs Sh (q_setA I l ob) (pc + 3) lv (.int v :: st)) : q_W Γ Y rc rs Sh (q_setA I l ob) pc lv (.ref l :: st) :=
  q_getI2 B hC hk hr hw hl (by rw [q_setA_at]; exact e) hd kk
theorem q_putIo (B : q_Ok Γ Y d) {C : String} {T : u_T} {N ci i k l : Nat} {v : Int32} {ob ob2 : Nat → Int32} (hC : q_Cl ci C T N) (hk : k < N) (hr : q_isR (q_ty ci k) = false) (hw : Cond.fieldLink Y.1.cls i (T k).1 (T k).2.1 (T k).2.2.1 ∈ q_WS) (hfin : (T k).2.2.2 = false) (hnar : narrow (q_ty ci k) (.int v) = .int v) (hfit : fits (q_ty ci k) (.int v) = true) (hl : q_is Sh l ci) (e : upd ob k v = ob2) (hd : decode Y.2.1 pc = .ok (.putfield i, 3))
    (kk : q_W Γ Y rc rs Sh (q_setA I l ob2) (pc + 3) lv st) : q_W Γ Y rc rs Sh (q_setA I l ob) pc lv (.int v :: .ref l :: st) := by
  subst e
  exact q_putI2 B hC hk hr hw hfin hnar hfit hl hd (by rw [q_setA_at, q_setA_setA]; exact kk)
theorem q_iastOO (B : q_Ok Γ Y d) {m n N ls : Nat} {i v : Int32} {O ob : Nat → Int32} (hne : m ≠ ls) (hl : q_ar Sh m 0 N) (e : i = nI n) (hlt : n < N) (hN : N < 2 ^ 31) (hd : decode Y.2.1 pc = .ok (.iastore, 1)) (kk : q_W Γ Y rc rs Sh (q_setA (q_setA I m (upd O n v)) ls ob) (pc + 1) lv st) : q_W Γ Y rc rs Sh (q_setA (q_setA I m O) ls ob) pc lv (.int v :: .int i :: .ref m :: st) :=
  q_iastO B hne hl e hlt hN hd (by rw [q_setA_at, q_setA_setA]; exact kk)
end QROWS9
/-! the text: where it stands, and what comes there -/
def b2 (b : Bool) : Int32 := if b = true then 1 else 0
theorem b2_0 {b : Bool} (h : b2 b = 0) : b = false := by
  cases b with
  | false => rfl
  | true => exact absurd h (by decide)
theorem b2_1 {b : Bool} (h : ¬ b2 b = 0) : b = true := by
  cases b with
  | true => rfl
  | false => exact absurd rfl h
theorem b2_z (b : Bool) : b2 b = 0 ∨ b2 b = 1 := by cases b <;> simp [b2]
theorem b2_nar (b : Bool) : narrow (q_ty 7 10) (.int (b2 b)) = .int (b2 b) := by cases b <;> rfl
theorem b2_fit (b : Bool) : fits (q_ty 7 10) (.int (b2 b)) = true := by cases b <;> rfl
def p_s (P : a_A) (len a : Nat) : Int32 := if a < len then P a else 0
def p_in (x : Int32) (m : Nat) : Bool := decide (nI 48 ≤ x ∧ x ≤ nI 48 + nI m)
def p_ok (P : a_A) (len m a : Nat) (u : Bool) : Bool := u && p_in (p_s P len a) m
def p_T (P : a_A) (len : Nat) (c : Int32) (a : Nat) (u : Bool) : Bool := u && decide (p_s P len a = c)
def p_dv (P : a_A) (len a : Nat) : Int32 := p_s P len a - nI 48
def pN (b : Bool) (a : Nat) : Nat := if b = true then a + 1 else a
theorem pN_i (b : Bool) (a : Nat) : nI a + b2 b = nI (pN b a) := by
  cases b with
  | true => exact nI_1 a
  | false => exact Int32.add_zero _
theorem pN_le (b : Bool) (a : Nat) : pN b a ≤ a + 1 := by unfold pN; split <;> omega
/-- at a, well or not -/
def mp (ob : a_A) (a : Nat) (u : Bool) : a_A := upd (upd ob 9 (nI a)) 10 (b2 u)
theorem mp_9 (ob : a_A) (a : Nat) (u : Bool) : mp ob a u 9 = nI a := by simp [mp, upd]
theorem mp_10 (ob : a_A) (a : Nat) (u : Bool) : mp ob a u 10 = b2 u := by simp [mp, upd]
theorem mp_o {ob : a_A} {a : Nat} {u : Bool} {k : Nat} (h : k ≠ 9) (h2 : k ≠ 10) : mp ob a u k = ob k := by simp [mp, upd, h, h2]
theorem mp_p9 (ob : a_A) (a b : Nat) (u : Bool) : upd (mp ob a u) 9 (nI b) = mp ob b u := by
  funext k
  by_cases h : k = 9
  · subst h; simp [mp, upd]
  · by_cases h2 : k = 10 <;> simp [mp, upd, h, h2]
theorem mp_p10 (ob : a_A) (a : Nat) (u w : Bool) : upd (mp ob a u) 10 (b2 w) = mp ob a w := by
  funext k
  by_cases h : k = 9
  · subst h; simp [mp, upd]
  · by_cases h2 : k = 10 <;> simp [mp, upd, h, h2]
def p_dl (P : a_A) (len m : Nat) : Nat → Nat → Int32 → Nat × Int32
  | 0, a, s => (a, s)
  | k + 1, a, s => if p_in (p_s P len a) m = true then p_dl P len m k (a + 1) (s ||| (nI 1 <<< (p_dv P len a &&& 31))) else (a, s)
def p_d0 (P : a_A) (len a : Nat) : Int32 := nI 1 <<< ((p_dv P len a &&& nI 7) &&& 31)
def p_digs (P : a_A) (len m a : Nat) (u : Bool) : Int32 × Nat × Bool :=
  if p_ok P len m a u = true then ((p_dl P len m 80 (a + 1) (p_d0 P len a)).2, (p_dl P len m 80 (a + 1) (p_d0 P len a)).1, true) else (p_d0 P len a, a, false)
def p_num (P : a_A) (len a : Nat) (u : Bool) : Int32 × Nat × Bool :=
  if p_ok P len 9 a u = true then (if 0 < p_dv P len a ∧ p_in (p_s P len (a + 1)) 9 = true then ((nI 10 * p_dv P len a + p_s P len (a + 1)) - nI 48, a + 2, true) else (p_dv P len a, a + 1, true)) else (p_dv P len a, a, false)
def p_let (x : Int32) : Bool := decide (((x = nI 43 ∨ x = nI 102) ∨ x = nI 100) ∨ x = nI 116)
theorem p_in_0 (m : Nat) (hm : m ≤ 9) : p_in 0 m = false := by
  have : ∀ m, m ≤ 9 → p_in 0 m = false := by decide +kernel
  exact this m hm
theorem p_dl_le (P : a_A) (len m : Nat) (hm : m ≤ 9) : ∀ k a s, a ≤ len → (p_dl P len m k a s).1 ≤ len := by
  intro k
  induction k with
  | zero => intro a s h; exact h
  | succ k ih =>
    intro a s h
    unfold p_dl
    split
    · rename_i hi
      refine ih _ _ ?_
      rcases Nat.lt_or_ge a len with q | q
      · exact q
      · have : p_s P len a = 0 := if_neg (by omega)
        rw [this, p_in_0 m hm] at hi
        cases hi
    · exact h
set_option maxRecDepth 100000 in
set_option maxHeartbeats 4000000 in
theorem s_sign {Sh : q_Sh} {I : q_Mem} {o : Nat} (hm : mOk Sh o) {P ob : a_A} {len a : Nat} {u : Bool} (hP : I (o + 6) = P) (hlen : len ≤ 80) (hl8 : ob 8 = nI len) (ha : a ≤ len) : q_Rt mX7_sign 0 [.ref o] Sh (q_setA I o (mp ob a u)) (some (.int (p_s P len a))) (q_setA I o (mp ob a u)) := by
  refine q_rt_of (by decide) (Nat.le_of_ble_eq_true rfl) fun Γ BM => ?_
  have B := BM.1
  show q_W Γ mX7_sign 0 0 Sh (q_setA I o (mp ob a u)) 0 [(0, .ref o)] []
  refine q_aload_n B dX7_sign_0 rfl rfl ?_
  refine q_getIo B kC_X7 (k := 9) (by decide) rfl kf_X7_150 hm.1 (mp_9 _ _ _) dX7_sign_1 ?_
  refine q_aload_n B dX7_sign_4 rfl rfl ?_
  refine q_getIo B kC_X7 (k := 8) (by decide) rfl kf_X7_135 hm.1 ((mp_o (by decide) (by decide)).trans hl8) dX7_sign_5 ?_
  refine q_icmp_ge (tgt := 23) B dX7_sign_8 (by decide) (fun c_8 => ?_) (fun c_8 => ?_)
  · skip
    refine q_iconst (v := 0) B dX7_sign_23 rfl ?_
    exact q_iret BM rfl dX7_sign_24 ⟨by first | (rw [p_s, if_pos hlt]; done) | (rw [p_s, if_neg (by have := (nI_leI (by omega) (by omega)).mp c_8; omega)]; done), rfl, rfl⟩
  · skip
    have hlt : a < len := by
      rcases Nat.lt_or_ge a len with q | q
      · exact q
      · exact absurd (q_le q (by omega)) c_8
    refine q_aload_n B dX7_sign_11 rfl rfl ?_
    refine q_getR B kC_X7 (k := 7) (by decide) rfl kf_X7_26 hm.1 (mR_pad hm) dX7_sign_12 ?_
    refine q_aload_n B dX7_sign_15 rfl rfl ?_
    refine q_getIo B kC_X7 (k := 9) (by decide) rfl kf_X7_150 hm.1 (mp_9 _ _ _) dX7_sign_16 ?_
    refine q_ialdO (n := a) B (by omega) (mA_pad hm) rfl (by omega) (by decide) dX7_sign_19 ?_
    refine q_top (congrFun hP a) ?_
    refine q_goto (tgt := 24) B dX7_sign_20 (by decide) ?_
    exact q_iret BM rfl dX7_sign_24 ⟨by first | (rw [p_s, if_pos hlt]; done) | (rw [p_s, if_neg (by have := (nI_leI (by omega) (by omega)).mp c_8; omega)]; done), rfl, rfl⟩
set_option maxRecDepth 100000 in
set_option maxHeartbeats 4000000 in
theorem s_takesSign {Sh : q_Sh} {I : q_Mem} {o : Nat} (hm : mOk Sh o) {P ob : a_A} {len a : Nat} {u : Bool} (hP : I (o + 6) = P) (hlen : len ≤ 80) (hl8 : ob 8 = nI len) (ha : a ≤ len) {c : Int32} : q_Rt mX7_takesSign 1 [.ref o, .int c] Sh (q_setA I o (mp ob a u)) (some (.int (b2 (p_T P len c a u)))) (q_setA I o (mp ob (pN (p_T P len c a u) a) u)) := by
  refine q_rt_of (by decide) (Nat.le_of_ble_eq_true rfl) fun Γ BM => ?_
  have B := BM.1
  show q_W Γ mX7_takesSign 0 0 Sh (q_setA I o (mp ob a u)) 0 [(0, .ref o), (1, .int c)] []
  refine q_join 20 (b2 (p_T P len c a u)) ?_ (fun j_0 => ?_)
  · skip
    refine q_istore_n B dX7_takesSign_20 rfl (Nat.le_of_ble_eq_true rfl) rfl ?_
    refine q_aload_n B dX7_takesSign_21 rfl rfl ?_
    refine q_dup B dX7_takesSign_22 rfl ?_
    refine q_getIo B kC_X7 (k := 9) (by decide) rfl kf_X7_150 hm.1 (mp_9 _ _ _) dX7_takesSign_23 ?_
    refine q_join 35 (b2 (p_T P len c a u)) ?_ (fun j_26 => ?_)
    · skip
      refine q_iadd B dX7_takesSign_35 ?_
      refine q_putIo B kC_X7 (k := 9) (by decide) rfl kf_X7_150 rfl rfl rfl hm.1 (Eq.trans (congrArg (upd _ 9) (pN_i _ _)) (mp_p9 _ _ _ _)) dX7_takesSign_36 ?_
      refine q_iload_n B dX7_takesSign_39 rfl rfl ?_
      exact q_zret BM rfl (b2_z _) dX7_takesSign_40 ⟨rfl, rfl, rfl⟩
    · skip
      refine q_iload_n B dX7_takesSign_26 rfl rfl ?_
      refine q_if_eq (tgt := 34) B dX7_takesSign_27 (by decide) (fun c_27 => ?_) (fun c_27 => ?_)
      · skip
        refine q_iconst (v := 0) B dX7_takesSign_34 rfl ?_
        exact q_top (by first | (exact c_27.symm; done) | (rw [b2_1 c_27]; rfl; done)) j_26
      · skip
        refine q_iconst (v := 1) B dX7_takesSign_30 rfl ?_
        refine q_goto (tgt := 35) B dX7_takesSign_31 (by decide) ?_
        exact q_top (by first | (exact c_27.symm; done) | (rw [b2_1 c_27]; rfl; done)) j_26
  · skip
    refine q_aload_n B dX7_takesSign_0 rfl rfl ?_
    refine q_getIo B kC_X7 (k := 10) (by decide) rfl kf_X7_153 hm.1 (mp_10 _ _ _) dX7_takesSign_1 ?_
    refine q_if_eq (tgt := 19) B dX7_takesSign_4 (by decide) (fun c_4 => ?_) (fun c_4 => ?_)
    · skip
      have hw4 := b2_0 c_4
      refine q_iconst (v := 0) B dX7_takesSign_19 rfl ?_
      exact q_top (by first | (simp [p_T, hw4, c_12, b2]; done; done) | (simp [p_T, hw4, b2]; done; done)) j_0
    · skip
      have hw4 := b2_1 c_4
      refine q_aload_n B dX7_takesSign_7 rfl rfl ?_
      refine q_rtV B (s_sign hm hP hlen hl8 ha) kv_yX7_sign ki_yX7_sign ks_yX7_sign km_X7_157 rfl (ci := 7) rfl rfl hm.1 (by decide) rfl (Nat.le_of_ble_eq_true rfl) dX7_takesSign_8 ?_
      refine q_iload_n B dX7_takesSign_11 rfl rfl ?_
      refine q_icmp_ne (tgt := 19) B dX7_takesSign_12 (by decide) (fun c_12 => ?_) (fun c_12 => ?_)
      · skip
        refine q_iconst (v := 0) B dX7_takesSign_19 rfl ?_
        exact q_top (by first | (simp [p_T, hw4, c_12, b2]; done; done) | (simp [p_T, hw4, b2]; done; done)) j_0
      · skip
        refine q_iconst (v := 1) B dX7_takesSign_15 rfl ?_
        refine q_goto (tgt := 20) B dX7_takesSign_16 (by decide) ?_
        exact q_top (by first | (simp [p_T, hw4, c_12, b2]; done; done) | (simp [p_T, hw4, b2]; done; done)) j_0
set_option maxRecDepth 100000 in
set_option maxHeartbeats 4000000 in
theorem s_digit {Sh : q_Sh} {I : q_Mem} {o : Nat} (hm : mOk Sh o) {P ob : a_A} {len a : Nat} {u : Bool} (hP : I (o + 6) = P) (hlen : len ≤ 80) (hl8 : ob 8 = nI len) (ha : a ≤ len) {m : Nat} : q_Rt mX7_digit 1 [.ref o, .int (nI m)] Sh (q_setA I o (mp ob a u)) (some (.int (p_dv P len a))) (q_setA I o (mp ob (pN (p_ok P len m a u) a) (p_ok P len m a u))) := by
  refine q_rt_of (by decide) (Nat.le_of_ble_eq_true rfl) fun Γ BM => ?_
  have B := BM.1
  show q_W Γ mX7_digit 0 0 Sh (q_setA I o (mp ob a u)) 0 [(0, .ref o), (1, .int (nI m))] []
  refine q_aload_n B dX7_digit_0 rfl rfl ?_
  refine q_join 29 (b2 (p_ok P len m a u)) ?_ (fun j_1 => ?_)
  · skip
    refine q_putIo B kC_X7 (k := 10) (by decide) rfl kf_X7_153 rfl (b2_nar _) (b2_fit _) hm.1 (mp_p10 _ _ _ _) dX7_digit_29 ?_
    refine q_aload_n B dX7_digit_32 rfl rfl ?_
    refine q_rtV B (s_sign hm hP hlen hl8 ha) kv_yX7_sign ki_yX7_sign ks_yX7_sign km_X7_157 rfl (ci := 7) rfl rfl hm.1 (by decide) rfl (Nat.le_of_ble_eq_true rfl) dX7_digit_33 ?_
    refine q_bipush (v := nI 48) B dX7_digit_36 rfl ?_
    refine q_isub B dX7_digit_38 ?_
    refine q_istore_n B dX7_digit_39 rfl (Nat.le_of_ble_eq_true rfl) rfl ?_
    refine q_aload_n B dX7_digit_40 rfl rfl ?_
    refine q_dup B dX7_digit_41 rfl ?_
    refine q_getIo B kC_X7 (k := 9) (by decide) rfl kf_X7_150 hm.1 (mp_9 _ _ _) dX7_digit_42 ?_
    refine q_join 57 (b2 (p_ok P len m a u)) ?_ (fun j_45 => ?_)
    · skip
      refine q_iadd B dX7_digit_57 ?_
      refine q_putIo B kC_X7 (k := 9) (by decide) rfl kf_X7_150 rfl rfl rfl hm.1 (Eq.trans (congrArg (upd _ 9) (pN_i _ _)) (mp_p9 _ _ _ _)) dX7_digit_58 ?_
      refine q_iload_n B dX7_digit_61 rfl rfl ?_
      exact q_iret BM rfl dX7_digit_62 ⟨rfl, rfl, rfl⟩
    · skip
      refine q_aload_n B dX7_digit_45 rfl rfl ?_
      refine q_getIo B kC_X7 (k := 10) (by decide) rfl kf_X7_153 hm.1 (mp_10 _ _ _) dX7_digit_46 ?_
      refine q_if_eq (tgt := 56) B dX7_digit_49 (by decide) (fun c_49 => ?_) (fun c_49 => ?_)
      · skip
        refine q_iconst (v := 0) B dX7_digit_56 rfl ?_
        exact q_top (by first | (exact c_49.symm; done) | (rw [b2_1 c_49]; rfl; done)) j_45
      · skip
        refine q_iconst (v := 1) B dX7_digit_52 rfl ?_
        refine q_goto (tgt := 57) B dX7_digit_53 (by decide) ?_
        exact q_top (by first | (exact c_49.symm; done) | (rw [b2_1 c_49]; rfl; done)) j_45
  · skip
    refine q_aload_n B dX7_digit_1 rfl rfl ?_
    refine q_getIo B kC_X7 (k := 10) (by decide) rfl kf_X7_153 hm.1 (mp_10 _ _ _) dX7_digit_2 ?_
    refine q_if_eq (tgt := 28) B dX7_digit_5 (by decide) (fun c_5 => ?_) (fun c_5 => ?_)
    · skip
      have hw5 := b2_0 c_5
      refine q_iconst (v := 0) B dX7_digit_28 rfl ?_
      exact q_top (by first | (simp [p_ok, hw5, b2]; done; done) | (simp only [p_ok, hw5, b2, p_in, Bool.true_and, decide_eq_true_eq]; rw [if_neg h21]; done; done) | (simp only [p_ok, hw5, b2, p_in, Bool.true_and, decide_eq_true_eq]; rw [if_pos h21]; done; done)) j_1
    · skip
      have hw5 := b2_1 c_5
      refine q_aload_n B dX7_digit_8 rfl rfl ?_
      refine q_rtV B (s_sign hm hP hlen hl8 ha) kv_yX7_sign ki_yX7_sign ks_yX7_sign km_X7_157 rfl (ci := 7) rfl rfl hm.1 (by decide) rfl (Nat.le_of_ble_eq_true rfl) dX7_digit_9 ?_
      refine q_bipush (v := nI 48) B dX7_digit_12 rfl ?_
      refine q_bipush (v := nI 48) B dX7_digit_14 rfl ?_
      refine q_iload_n B dX7_digit_16 rfl rfl ?_
      refine q_iadd B dX7_digit_17 ?_
      refine q_rtS B s_in kv_yX7_in kt_yX7_in km_X7_94 rfl (by decide) rfl (Nat.le_of_ble_eq_true rfl) dX7_digit_18 ?_
      refine q_if_eq (tgt := 28) B dX7_digit_21 (by decide) (fun c_21 => ?_) (fun c_21 => ?_)
      · skip
        have h21 := a_b0 c_21
        refine q_iconst (v := 0) B dX7_digit_28 rfl ?_
        exact q_top (by first | (simp [p_ok, hw5, b2]; done; done) | (simp only [p_ok, hw5, b2, p_in, Bool.true_and, decide_eq_true_eq]; rw [if_neg h21]; done; done) | (simp only [p_ok, hw5, b2, p_in, Bool.true_and, decide_eq_true_eq]; rw [if_pos h21]; done; done)) j_1
      · skip
        have h21 := a_b1 c_21
        refine q_iconst (v := 1) B dX7_digit_24 rfl ?_
        refine q_goto (tgt := 29) B dX7_digit_25 (by decide) ?_
        exact q_top (by first | (simp [p_ok, hw5, b2]; done; done) | (simp only [p_ok, hw5, b2, p_in, Bool.true_and, decide_eq_true_eq]; rw [if_neg h21]; done; done) | (simp only [p_ok, hw5, b2, p_in, Bool.true_and, decide_eq_true_eq]; rw [if_pos h21]; done; done)) j_1
set_option maxRecDepth 100000 in
set_option maxHeartbeats 4000000 in
theorem s_digits_bad {Sh : q_Sh} {I : q_Mem} {o : Nat} (hm : mOk Sh o) {P ob : a_A} {len a : Nat} {u : Bool} (hP : I (o + 6) = P) (hlen : len ≤ 80) (hl8 : ob 8 = nI len) (ha : a ≤ len) {m : Nat} (hok : p_ok P len m a u = false) : q_Rt mX7_digits 2 [.ref o, .int (nI m)] Sh (q_setA I o (mp ob a u)) (some (.int (p_d0 P len a))) (q_setA I o (mp ob a false)) := by
  refine q_rt_of (by decide) (Nat.le_of_ble_eq_true rfl) fun Γ BM => ?_
  have B := BM.1
  show q_W Γ mX7_digits 0 0 Sh (q_setA I o (mp ob a u)) 0 [(0, .ref o), (1, .int (nI m))] []
  refine q_iconst (v := nI 1) B dX7_digits_0 rfl ?_
  refine q_aload_n B dX7_digits_1 rfl rfl ?_
  refine q_iload_n B dX7_digits_2 rfl rfl ?_
  refine q_rtV B (s_digit hm hP hlen hl8 ha) kv_yX7_digit ki_yX7_digit ks_yX7_digit km_X7_161 rfl (ci := 7) rfl rfl hm.1 (by decide) rfl (Nat.le_of_ble_eq_true rfl) dX7_digits_3 ?_
  try rw [hok]
  refine q_bipush (v := nI 7) B dX7_digits_6 rfl ?_
  refine q_iand B dX7_digits_8 ?_
  refine q_ishl B dX7_digits_9 ?_
  refine q_istore_n B dX7_digits_10 rfl (Nat.le_of_ble_eq_true rfl) rfl ?_
  refine q_aload_n B dX7_digits_11 rfl rfl ?_
  refine q_getIo B kC_X7 (k := 10) (by decide) rfl kf_X7_153 hm.1 (mp_10 _ _ _) dX7_digits_12 ?_
  refine q_if_eq (tgt := 47) B dX7_digits_15 (by decide) (fun _ => ?_) (fun h => absurd rfl h)
  refine q_iload_n B dX7_digits_47 rfl rfl ?_
  exact q_iret BM rfl dX7_digits_48 ⟨rfl, rfl, rfl⟩
set_option maxRecDepth 100000 in
set_option maxHeartbeats 4000000 in
theorem s_digits_ok {Sh : q_Sh} {I : q_Mem} {o : Nat} (hm : mOk Sh o) {P ob : a_A} {len a : Nat} {u : Bool} (hP : I (o + 6) = P) (hlen : len ≤ 80) (hl8 : ob 8 = nI len) (ha : a ≤ len) {m : Nat} (hm9 : m ≤ 9) (hok : p_ok P len m a u = true) : q_Rt mX7_digits 2 [.ref o, .int (nI m)] Sh (q_setA I o (mp ob a u)) (some (.int (p_dl P len m 80 (a + 1) (p_d0 P len a)).2)) (q_setA I o (mp ob (p_dl P len m 80 (a + 1) (p_d0 P len a)).1 true)) := by
  refine q_rt_of (by decide) (Nat.le_of_ble_eq_true rfl) fun Γ BM => ?_
  have B := BM.1
  have hal : a < len := by
    rcases Nat.lt_or_ge a len with q | q
    · exact q
    · have : p_s P len a = 0 := if_neg (by omega)
      rw [p_ok, this, p_in_0 m hm9, Bool.and_false] at hok
      cases hok
  show q_W Γ mX7_digits 0 0 Sh (q_setA I o (mp ob a u)) 0 [(0, .ref o), (1, .int (nI m))] []
  refine q_iconst (v := nI 1) B dX7_digits_0 rfl ?_
  refine q_aload_n B dX7_digits_1 rfl rfl ?_
  refine q_iload_n B dX7_digits_2 rfl rfl ?_
  refine q_rtV B (s_digit hm hP hlen hl8 ha) kv_yX7_digit ki_yX7_digit ks_yX7_digit km_X7_161 rfl (ci := 7) rfl rfl hm.1 (by decide) rfl (Nat.le_of_ble_eq_true rfl) dX7_digits_3 ?_
  try rw [hok]
  refine q_bipush (v := nI 7) B dX7_digits_6 rfl ?_
  refine q_iand B dX7_digits_8 ?_
  refine q_ishl B dX7_digits_9 ?_
  refine q_istore_n B dX7_digits_10 rfl (Nat.le_of_ble_eq_true rfl) rfl ?_
  have hl_11 : ∀ (n i : Nat) (x : Nat) (s : Int32), i + n = 80 → (p_dl P len m n x s = p_dl P len m 80 (a + 1) (p_d0 P len a) ∧ x ≤ len ∧ x = a + 1 + i) → q_W Γ mX7_digits 0 0 Sh (q_setA I o (mp ob x true)) 11 [(0, .ref o), (1, .int (nI m)), (2, .int s)] [] := by
    intro n
    induction n with
    | zero =>
      intro i x s hin hinv
      obtain ⟨g1, g2, g3⟩ := hinv
      have hz : p_s P len x = 0 := if_neg (by omega)
      refine q_aload_n B dX7_digits_11 rfl rfl ?_
      refine q_getIo B kC_X7 (k := 10) (by decide) rfl kf_X7_153 hm.1 (mp_10 _ _ _) dX7_digits_12 ?_
      refine q_if_eq (tgt := 47) B dX7_digits_15 (by decide) (fun h => absurd h ((by decide))) (fun _ => ?_)
      refine q_aload_n B dX7_digits_18 rfl rfl ?_
      refine q_rtV B (s_sign hm hP hlen hl8 g2) kv_yX7_sign ki_yX7_sign ks_yX7_sign km_X7_157 rfl (ci := 7) rfl rfl hm.1 (by decide) rfl (Nat.le_of_ble_eq_true rfl) dX7_digits_19 ?_
      refine q_bipush (v := nI 48) B dX7_digits_22 rfl ?_
      refine q_bipush (v := nI 48) B dX7_digits_24 rfl ?_
      refine q_iload_n B dX7_digits_26 rfl rfl ?_
      refine q_iadd B dX7_digits_27 ?_
      refine q_rtS B s_in kv_yX7_in kt_yX7_in km_X7_94 rfl (by decide) rfl (Nat.le_of_ble_eq_true rfl) dX7_digits_28 ?_
      refine q_if_eq (tgt := 47) B dX7_digits_31 (by decide) (fun _ => ?_) (fun h => absurd ((if_neg (fun h => by have := p_in_0 m hm9; rw [p_in, decide_eq_false_iff_not] at this; rw [hz] at h; exact this h))) h)
      refine q_iload_n B dX7_digits_47 rfl rfl ?_
      exact q_iret BM rfl dX7_digits_48 ⟨by rw [← g1]; rfl, rfl, by rw [← g1]; rfl⟩
    | succ n ih =>
      intro i x s hin hinv
      have hiN : i < 80 := by omega
      obtain ⟨g1, g2, g3⟩ := hinv
      refine q_aload_n B dX7_digits_11 rfl rfl ?_
      refine q_getIo B kC_X7 (k := 10) (by decide) rfl kf_X7_153 hm.1 (mp_10 _ _ _) dX7_digits_12 ?_
      refine q_if_eq (tgt := 47) B dX7_digits_15 (by decide) (fun h => absurd h ((by decide))) (fun _ => ?_)
      refine q_aload_n B dX7_digits_18 rfl rfl ?_
      refine q_rtV B (s_sign hm hP hlen hl8 g2) kv_yX7_sign ki_yX7_sign ks_yX7_sign km_X7_157 rfl (ci := 7) rfl rfl hm.1 (by decide) rfl (Nat.le_of_ble_eq_true rfl) dX7_digits_19 ?_
      refine q_bipush (v := nI 48) B dX7_digits_22 rfl ?_
      refine q_bipush (v := nI 48) B dX7_digits_24 rfl ?_
      refine q_iload_n B dX7_digits_26 rfl rfl ?_
      refine q_iadd B dX7_digits_27 ?_
      refine q_rtS B s_in kv_yX7_in kt_yX7_in km_X7_94 rfl (by decide) rfl (Nat.le_of_ble_eq_true rfl) dX7_digits_28 ?_
      refine q_if_eq (tgt := 47) B dX7_digits_31 (by decide) (fun c_31 => ?_) (fun c_31 => ?_)
      · skip
        have h31 : p_in (p_s P len x) m = false := decide_eq_false (a_b0 c_31)
        have g4 : p_dl P len m 80 (a + 1) (p_d0 P len a) = (x, s) := by rw [← g1]; unfold p_dl; rw [if_neg (by rw [h31]; decide)]
        refine q_iload_n B dX7_digits_47 rfl rfl ?_
        exact q_iret BM rfl dX7_digits_48 ⟨by rw [g4], rfl, by rw [g4]⟩
      · skip
        have h31 : p_in (p_s P len x) m = true := decide_eq_true (a_b1 c_31)
        have hxl : x < len := by
          rcases Nat.lt_or_ge x len with q | q
          · exact q
          · have hz : p_s P len x = 0 := if_neg (by omega)
            rw [hz, p_in_0 m hm9] at h31
            cases h31
        have g5 : p_ok P len m x true = true := by rw [p_ok, h31]; rfl
        refine q_iload_n B dX7_digits_34 rfl rfl ?_
        refine q_iconst (v := nI 1) B dX7_digits_35 rfl ?_
        refine q_aload_n B dX7_digits_36 rfl rfl ?_
        refine q_iload_n B dX7_digits_37 rfl rfl ?_
        refine q_rtV B (s_digit hm hP hlen hl8 g2) kv_yX7_digit ki_yX7_digit ks_yX7_digit km_X7_161 rfl (ci := 7) rfl rfl hm.1 (by decide) rfl (Nat.le_of_ble_eq_true rfl) dX7_digits_38 ?_
        rw [g5]
        refine q_ishl B dX7_digits_41 ?_
        refine q_ior B dX7_digits_42 ?_
        refine q_istore_n B dX7_digits_43 rfl (Nat.le_of_ble_eq_true rfl) rfl ?_
        refine q_goto (tgt := 11) B dX7_digits_44 (by decide) ?_
        exact q_tk (ih (i + 1) (x + 1) _ (by omega) ⟨by rw [← g1]; exact (if_pos h31).symm, by omega, by omega⟩) rfl (q_ac rfl (q_ac rfl (q_ac rfl q_an)))
  exact q_tk (hl_11 80 0 (a + 1) (p_d0 P len a) (by omega) ⟨rfl, by omega, by omega⟩) rfl (q_ac rfl (q_ac rfl (q_ac rfl q_an)))
theorem s_digits {Sh : q_Sh} {I : q_Mem} {o : Nat} (hm : mOk Sh o) {P ob : a_A} {len a : Nat} {u : Bool} (hP : I (o + 6) = P) (hlen : len ≤ 80) (hl8 : ob 8 = nI len) (ha : a ≤ len) {m : Nat} (hm9 : m ≤ 9) : q_Rt mX7_digits 2 [.ref o, .int (nI m)] Sh (q_setA I o (mp ob a u)) (some (.int (p_digs P len m a u).1)) (q_setA I o (mp ob (p_digs P len m a u).2.1 (p_digs P len m a u).2.2)) := by
  unfold p_digs
  cases hok : p_ok P len m a u with
  | true => exact s_digits_ok hm hP hlen hl8 ha hm9 hok
  | false => exact s_digits_bad hm hP hlen hl8 ha hok
set_option maxRecDepth 100000 in
set_option maxHeartbeats 4000000 in
theorem s_number {Sh : q_Sh} {I : q_Mem} {o : Nat} (hm : mOk Sh o) {P ob : a_A} {len a : Nat} {u : Bool} (hP : I (o + 6) = P) (hlen : len ≤ 80) (hl8 : ob 8 = nI len) (ha : a ≤ len) : q_Rt mX7_number 2 [.ref o] Sh (q_setA I o (mp ob a u)) (some (.int (p_num P len a u).1)) (q_setA I o (mp ob (p_num P len a u).2.1 (p_num P len a u).2.2)) := by
  refine q_rt_of (by decide) (Nat.le_of_ble_eq_true rfl) fun Γ BM => ?_
  have B := BM.1
  generalize hok : p_ok P len 9 a u = ok
  show q_W Γ mX7_number 0 0 Sh (q_setA I o (mp ob a u)) 0 [(0, .ref o)] []
  refine q_aload_n B dX7_number_0 rfl rfl ?_
  refine q_bipush (v := nI 9) B dX7_number_1 rfl ?_
  refine q_rtV B (s_digit (m := 9) hm hP hlen hl8 ha) kv_yX7_digit ki_yX7_digit ks_yX7_digit km_X7_161 rfl (ci := 7) rfl rfl hm.1 (by decide) rfl (Nat.le_of_ble_eq_true rfl) dX7_number_3 ?_
  rw [hok]
  refine q_istore_n B dX7_number_6 rfl (Nat.le_of_ble_eq_true rfl) rfl ?_
  refine q_aload_n B dX7_number_7 rfl rfl ?_
  refine q_getIo B kC_X7 (k := 10) (by decide) rfl kf_X7_153 hm.1 (mp_10 _ _ _) dX7_number_8 ?_
  refine q_if_eq (tgt := 55) B dX7_number_11 (by decide) (fun c_11 => ?_) (fun c_11 => ?_)
  · skip
    have hk := b2_0 c_11
    subst hk
    refine q_iload_n B dX7_number_55 rfl rfl ?_
    exact q_iret BM rfl dX7_number_56 ⟨by first | (simp [p_num, hok]; done) | (rw [p_num, hok, if_pos rfl, if_neg (fun h => absurd h.1 (Int32.not_lt.mpr c_15))]; done) | (rw [p_num, hok, if_pos rfl, if_neg (fun h => by rw [h29] at h; exact absurd h.2 (by decide))]; done) | (rw [p_num, hok, if_pos rfl, if_pos ⟨Int32.not_le.mp c_15, h29⟩]; done), rfl, by first | (simp [p_num, hok, pN]; done) | (rw [p_num, hok, if_pos rfl, if_neg (fun h => absurd h.1 (Int32.not_lt.mpr c_15))]; first | done | rfl) | (rw [p_num, hok, if_pos rfl, if_neg (fun h => by rw [h29] at h; exact absurd h.2 (by decide))]; first | done | rfl) | (rw [p_num, hok, if_pos rfl, if_pos ⟨Int32.not_le.mp c_15, h29⟩]; done)⟩
  · skip
    have hk := b2_1 c_11
    subst hk
    have hal : a < len := by
      rcases Nat.lt_or_ge a len with q | q
      · exact q
      · have : p_s P len a = 0 := if_neg (by omega)
        rw [p_ok, this, p_in_0 9 (by decide), Bool.and_false] at hok
        cases hok
    refine q_iload_n B dX7_number_14 rfl rfl ?_
    refine q_if_le (tgt := 55) B dX7_number_15 (by decide) (fun c_15 => ?_) (fun c_15 => ?_)
    · skip
      refine q_iload_n B dX7_number_55 rfl rfl ?_
      exact q_iret BM rfl dX7_number_56 ⟨by first | (simp [p_num, hok]; done) | (rw [p_num, hok, if_pos rfl, if_neg (fun h => absurd h.1 (Int32.not_lt.mpr c_15))]; done) | (rw [p_num, hok, if_pos rfl, if_neg (fun h => by rw [h29] at h; exact absurd h.2 (by decide))]; done) | (rw [p_num, hok, if_pos rfl, if_pos ⟨Int32.not_le.mp c_15, h29⟩]; done), rfl, by first | (simp [p_num, hok, pN]; done) | (rw [p_num, hok, if_pos rfl, if_neg (fun h => absurd h.1 (Int32.not_lt.mpr c_15))]; first | done | rfl) | (rw [p_num, hok, if_pos rfl, if_neg (fun h => by rw [h29] at h; exact absurd h.2 (by decide))]; first | done | rfl) | (rw [p_num, hok, if_pos rfl, if_pos ⟨Int32.not_le.mp c_15, h29⟩]; done)⟩
    · skip
      refine q_aload_n B dX7_number_18 rfl rfl ?_
      refine q_rtV B (s_sign (a := a + 1) hm hP hlen hl8 hal) kv_yX7_sign ki_yX7_sign ks_yX7_sign km_X7_157 rfl (ci := 7) rfl rfl hm.1 (by decide) rfl (Nat.le_of_ble_eq_true rfl) dX7_number_19 ?_
      refine q_bipush (v := nI 48) B dX7_number_22 rfl ?_
      refine q_bipush (v := nI 57) B dX7_number_24 rfl ?_
      refine q_rtS B s_in kv_yX7_in kt_yX7_in km_X7_94 rfl (by decide) rfl (Nat.le_of_ble_eq_true rfl) dX7_number_26 ?_
      refine q_if_eq (tgt := 55) B dX7_number_29 (by decide) (fun c_29 => ?_) (fun c_29 => ?_)
      · skip
        have h29 : p_in (p_s P len (a + 1)) 9 = false := decide_eq_false (a_b0 c_29)
        refine q_iload_n B dX7_number_55 rfl rfl ?_
        exact q_iret BM rfl dX7_number_56 ⟨by first | (simp [p_num, hok]; done) | (rw [p_num, hok, if_pos rfl, if_neg (fun h => absurd h.1 (Int32.not_lt.mpr c_15))]; done) | (rw [p_num, hok, if_pos rfl, if_neg (fun h => by rw [h29] at h; exact absurd h.2 (by decide))]; done) | (rw [p_num, hok, if_pos rfl, if_pos ⟨Int32.not_le.mp c_15, h29⟩]; done), rfl, by first | (simp [p_num, hok, pN]; done) | (rw [p_num, hok, if_pos rfl, if_neg (fun h => absurd h.1 (Int32.not_lt.mpr c_15))]; first | done | rfl) | (rw [p_num, hok, if_pos rfl, if_neg (fun h => by rw [h29] at h; exact absurd h.2 (by decide))]; first | done | rfl) | (rw [p_num, hok, if_pos rfl, if_pos ⟨Int32.not_le.mp c_15, h29⟩]; done)⟩
      · skip
        have h29 : p_in (p_s P len (a + 1)) 9 = true := decide_eq_true (a_b1 c_29)
        refine q_bipush (v := nI 10) B dX7_number_32 rfl ?_
        refine q_iload_n B dX7_number_34 rfl rfl ?_
        refine q_imul B dX7_number_35 ?_
        refine q_aload_n B dX7_number_36 rfl rfl ?_
        refine q_rtV B (s_sign (a := a + 1) hm hP hlen hl8 hal) kv_yX7_sign ki_yX7_sign ks_yX7_sign km_X7_157 rfl (ci := 7) rfl rfl hm.1 (by decide) rfl (Nat.le_of_ble_eq_true rfl) dX7_number_37 ?_
        refine q_iadd B dX7_number_40 ?_
        refine q_bipush (v := nI 48) B dX7_number_41 rfl ?_
        refine q_isub B dX7_number_43 ?_
        refine q_istore_n B dX7_number_44 rfl (Nat.le_of_ble_eq_true rfl) rfl ?_
        refine q_aload_n B dX7_number_45 rfl rfl ?_
        refine q_dup B dX7_number_46 rfl ?_
        refine q_getIo B kC_X7 (k := 9) (by decide) rfl kf_X7_150 hm.1 (mp_9 _ _ _) dX7_number_47 ?_
        refine q_iconst (v := nI 1) B dX7_number_50 rfl ?_
        refine q_iadd B dX7_number_51 ?_
        refine q_putIo B kC_X7 (k := 9) (by decide) rfl kf_X7_150 rfl rfl rfl hm.1 ((congrArg (upd _ 9) (nI_add (a + 1) 1)).trans (mp_p9 _ _ _ _)) dX7_number_52 ?_
        refine q_iload_n B dX7_number_55 rfl rfl ?_
        exact q_iret BM rfl dX7_number_56 ⟨by first | (simp [p_num, hok]; done) | (rw [p_num, hok, if_pos rfl, if_neg (fun h => absurd h.1 (Int32.not_lt.mpr c_15))]; done) | (rw [p_num, hok, if_pos rfl, if_neg (fun h => by rw [h29] at h; exact absurd h.2 (by decide))]; done) | (rw [p_num, hok, if_pos rfl, if_pos ⟨Int32.not_le.mp c_15, h29⟩]; done), rfl, by first | (simp [p_num, hok, pN]; done) | (rw [p_num, hok, if_pos rfl, if_neg (fun h => absurd h.1 (Int32.not_lt.mpr c_15))]; first | done | rfl) | (rw [p_num, hok, if_pos rfl, if_neg (fun h => by rw [h29] at h; exact absurd h.2 (by decide))]; first | done | rfl) | (rw [p_num, hok, if_pos rfl, if_pos ⟨Int32.not_le.mp c_15, h29⟩]; done)⟩
