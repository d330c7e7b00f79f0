/-! making: places in the order of making -/
section MAKING
variable {K0 : Option Value → q_Sh → q_Mem → Prop} {Γ : q_Cx} {Y : q_Mth} {d rc rs rc' rs' : Nat} {Sh : q_Sh} {I : q_Mem} {pc : Nat} {lv : List (Nat × Value)} {st : List Value}
theorem q_less (h1 : rc' ≤ rc) (h2 : rs' ≤ rs) (k : q_W Γ Y rc' rs' Sh I pc lv st) : q_W Γ Y rc rs Sh I pc lv st := by
  intro ad H locs cells slots ls g1 g2 hP hD hS hn hl
  exact k ad H locs cells slots ls (by omega) (by omega) hP hD hS hn hl
end MAKING
def q_ov (n : Nat) : Value → Prop
  | .ref x => @LT.lt Nat _ x n
  | _ => True
def q_ovl (n : Nat) : List Value → Prop
  | [] => True
  | v :: t => q_ov n v ∧ q_ovl n t
theorem q_ovl_old {n : Nat} {l : List Value} (h : q_ovl n l) : ∀ v ∈ l, q_old n v := by
  induction l with
  | nil => intro v hv; cases hv
  | cons a t ih =>
    intro v hv
    rcases List.mem_cons.mp hv with rfl | hv
    · intro x e
      subst e
      exact h.1
    · exact ih h.2 v hv
theorem q_ovl_lv {n : Nat} {lv : List (Nat × Value)} (h : q_ovl n (lv.map (fun q => q.2))) : ∀ q ∈ lv, q_old n q.2 := fun q hq => q_ovl_old h q.2 (List.mem_map.mpr ⟨q, hq, rfl⟩)
/-- every reference is to a place that is made -/
def q_cl (Sh : q_Sh) : Prop := ∀ l j x, l < Sh.1 → Sh.2.2 l j = some x → x < Sh.1
theorem q_cl_f {Sh : q_Sh} (h : q_cl Sh) : ∀ l j, l < Sh.1 → Sh.2.2 l j ≠ some Sh.1 := fun l j hl e => absurd (h l j _ hl e) (Nat.lt_irrefl _)
/-- the first n places are as they were -/
def q_gr (n : Nat) (Sh S : q_Sh) : Prop := (n ≤ Sh.1 ∧ n ≤ S.1) ∧ ∀ l, l < n → S.2.1 l = Sh.2.1 l ∧ ∀ k, S.2.2 l k = Sh.2.2 l k
theorem q_gr.rf {n : Nat} {Sh : q_Sh} (h : n ≤ Sh.1) : q_gr n Sh Sh := ⟨⟨h, h⟩, fun _ _ => ⟨rfl, fun _ => rfl⟩⟩
theorem q_gr.tr {n m : Nat} {S0 S1 S2 : q_Sh} (h : q_gr n S0 S1) (k : q_gr m S1 S2) (hm : n ≤ m) : q_gr n S0 S2 :=
  ⟨⟨h.1.1, Nat.le_trans hm k.1.2⟩, fun l hl => ⟨(k.2 l (by omega)).1.trans (h.2 l hl).1, fun j => ((k.2 l (by omega)).2 j).trans ((h.2 l hl).2 j)⟩⟩
theorem q_gr.is {n l ci : Nat} {Sh S : q_Sh} (h : q_gr n Sh S) (hl : l < n) (k : q_is Sh l ci) : q_is S l ci := ⟨by have := h.1.2; omega, (h.2 l hl).1.trans k.2⟩
theorem q_gr.ar {n l t m : Nat} {Sh S : q_Sh} (h : q_gr n Sh S) (hl : l < n) (k : q_ar Sh l t m) : q_ar S l t m := ⟨by have := h.1.2; omega, (h.2 l hl).1.trans k.2⟩
theorem q_gr.rf2 {n l j : Nat} {x : Option Nat} {Sh S : q_Sh} (h : q_gr n Sh S) (hl : l < n) (k : Sh.2.2 l j = x) : S.2.2 l j = x := ((h.2 l hl).2 j).trans k
/-- a place more, and its reference put at (l0, k0) -/
def m_S2 (S : q_Sh) (kd : q_Kd) (l0 k0 : Nat) : q_Sh := ((q_nS S kd).1, (q_nS S kd).2.1, q_upR (q_nS S kd).2.2 l0 k0 (some S.1))
theorem m_S2_kd {S : q_Sh} {kd : q_Kd} {l0 k0 l : Nat} (hl : l < S.1) : (m_S2 S kd l0 k0).2.1 l = S.2.1 l := if_neg (by omega)
theorem m_S2_new {S : q_Sh} {kd : q_Kd} {l0 k0 : Nat} : (m_S2 S kd l0 k0).2.1 S.1 = kd := if_pos rfl
theorem m_S2_rf {S : q_Sh} {kd : q_Kd} {l0 k0 l k : Nat} (hl : l < S.1) (h : ¬ (l = l0 ∧ k = k0)) : (m_S2 S kd l0 k0).2.2 l k = S.2.2 l k := (if_neg h).trans (if_neg (by omega))
theorem m_S2_at {S : q_Sh} {kd : q_Kd} {l0 k0 : Nat} : (m_S2 S kd l0 k0).2.2 l0 k0 = some S.1 := if_pos ⟨rfl, rfl⟩
theorem m_S2_no {S : q_Sh} {kd : q_Kd} {l0 k0 k : Nat} (h : l0 < S.1) : (m_S2 S kd l0 k0).2.2 S.1 k = none := (if_neg (by omega)).trans (if_pos rfl)
theorem m_S2_cl {S : q_Sh} {kd : q_Kd} {l0 k0 : Nat} (h : q_cl S) (h0 : l0 < S.1) : q_cl (m_S2 S kd l0 k0) := by
  intro l j x hl e
  have hl : l < S.1 + 1 := hl
  show x < S.1 + 1
  by_cases q : l = S.1
  · subst q
    rw [m_S2_no h0] at e
    cases e
  · by_cases q2 : l = l0 ∧ j = k0
    · obtain ⟨rfl, rfl⟩ := q2
      rw [m_S2_at] at e
      cases e
      omega
    · rw [m_S2_rf (by omega) q2] at e
      have := h l j x (by omega) e
      omega
theorem m_S2_gr {S : q_Sh} {kd : q_Kd} {l0 k0 n : Nat} (hn : n ≤ l0) (h0 : l0 < S.1) : q_gr n S (m_S2 S kd l0 k0) :=
  ⟨⟨by omega, by show n ≤ S.1 + 1; omega⟩, fun l hl => ⟨m_S2_kd (by omega), fun k => m_S2_rf (by omega) (by omega)⟩⟩
theorem q_nS_gr {S : q_Sh} {kd : q_Kd} : q_gr S.1 S (q_nS S kd) := ⟨⟨Nat.le_refl _, Nat.le_succ _⟩, fun l hl => ⟨if_neg (by omega), fun k => if_neg (by omega)⟩⟩
theorem q_nS_cl {S : q_Sh} {kd : q_Kd} (h : q_cl S) : q_cl (q_nS S kd) := by
  intro l j x hl e
  have hl : l < S.1 + 1 := hl
  show x < S.1 + 1
  by_cases q : l = S.1
  · have e2 : (q_nS S kd).2.2 l j = none := if_pos q
    rw [e2] at e
    cases e
  · have e2 : (q_nS S kd).2.2 l j = S.2.2 l j := if_neg q
    rw [e2] at e
    have := h l j x (by omega) e
    omega
theorem q_nS_is {S : q_Sh} {ci : Nat} : q_is (q_nS S (.inl ci)) S.1 ci := ⟨Nat.lt_succ_self _, if_pos rfl⟩
theorem q_nS_ar {S : q_Sh} {t n : Nat} : q_ar (q_nS S (.inr (t, n))) S.1 t n := ⟨Nat.lt_succ_self _, if_pos rfl⟩
/-! a Cafe, place by place -/
def m_kd (j : Nat) : q_Kd := if j = 0 then .inl 0 else if j = 1 then .inr (3, 30) else if j = 2 then .inr (4, 5) else if j = 3 then .inr (5, 8) else if j < 34 then .inl 5 else if j < 39 then .inl 1 else .inl 3
def m_rm (j k : Nat) : Nat := if j = 0 then (if 3 ≤ k ∧ k ≤ 5 then k - 2 else 100) else if j = 1 then (if k < 30 then k + 4 else 100) else if j = 2 then (if k < 5 then k + 34 else 100) else if j = 3 then (if k < 8 then k + 39 else 100) else 100
def m_Cf (b n : Nat) (S : q_Sh) : Prop := S.1 = b + n ∧ q_cl S ∧ (∀ j, j < n → S.2.1 (b + j) = m_kd j) ∧ ∀ j k, j < n → m_rm j k < n → S.2.2 (b + j) k = some (b + m_rm j k)
theorem m_Cf.s {b n j0 k0 : Nat} {S : q_Sh} (h : m_Cf b n S) (h0 : j0 < n) (hr : m_rm j0 k0 = n) (hn : n < 47) (inj : ∀ j k, m_rm j k = n → j = j0 ∧ k = k0) : m_Cf b (n + 1) (m_S2 S (m_kd n) (b + j0) k0) := by
  obtain ⟨h1, h2, h3, h4⟩ := h
  refine ⟨?_, m_S2_cl h2 (by omega), fun j hj => ?_, fun j k hj hk => ?_⟩
  · show S.1 + 1 = _
    omega
  · by_cases q : j = n
    · subst q
      rw [← h1]
      exact m_S2_new
    · rw [m_S2_kd (by omega)]
      exact h3 j (by omega)
  · by_cases q : m_rm j k = n
    · obtain ⟨rfl, rfl⟩ := inj j k q
      rw [m_S2_at, h1, q]
    · have hjk : ¬ (b + j = b + j0 ∧ k = k0) := fun z => q (by rw [show j = j0 by omega, z.2]; exact hr)
      have hjn : j ≠ n := by
        intro z
        subst z
        revert hk
        unfold m_rm
        (repeat' split) <;> omega
      rw [m_S2_rf (by omega) hjk]
      exact h4 j k (by omega) (by omega)
theorem m_inj {j k n : Nat} (h : m_rm j k = n) (hn : n < 47) : (n = 1 ∧ j = 0 ∧ k = 3) ∨ (n = 2 ∧ j = 0 ∧ k = 4) ∨ (n = 3 ∧ j = 0 ∧ k = 5) ∨ (4 ≤ n ∧ n < 34 ∧ j = 1 ∧ k + 4 = n) ∨ (34 ≤ n ∧ n < 39 ∧ j = 2 ∧ k + 34 = n) ∨ (39 ≤ n ∧ j = 3 ∧ k + 39 = n) := by
  subst h
  revert hn
  unfold m_rm
  (repeat' split) <;> omega
theorem m_Cf.t {b i : Nat} {S : q_Sh} (h : m_Cf b (4 + i) S) (hi : i < 30) : m_Cf b (4 + (i + 1)) (m_S2 S (.inl 5) (b + 1) i) := by
  have e : m_kd (4 + i) = .inl 5 := by unfold m_kd; rw [if_neg (by omega), if_neg (by omega), if_neg (by omega), if_neg (by omega), if_pos (by omega)]
  rw [← e]
  exact h.s (by omega) (by unfold m_rm; rw [if_neg (by omega), if_pos rfl, if_pos hi, Nat.add_comm]) (by omega) fun j k q => by have := m_inj q (by omega); omega
theorem m_Cf.f {b i : Nat} {S : q_Sh} (h : m_Cf b (34 + i) S) (hi : i < 5) : m_Cf b (34 + (i + 1)) (m_S2 S (.inl 1) (b + 2) i) := by
  have e : m_kd (34 + i) = .inl 1 := by unfold m_kd; rw [if_neg (by omega), if_neg (by omega), if_neg (by omega), if_neg (by omega), if_neg (by omega), if_pos (by omega)]
  rw [← e]
  exact h.s (by omega) (by unfold m_rm; rw [if_neg (by omega), if_neg (by omega), if_pos rfl, if_pos hi, Nat.add_comm]) (by omega) fun j k q => by have := m_inj q (by omega); omega
theorem m_Cf.p {b i : Nat} {S : q_Sh} (h : m_Cf b (39 + i) S) (hi : i < 8) : m_Cf b (39 + (i + 1)) (m_S2 S (.inl 3) (b + 3) i) := by
  have e : m_kd (39 + i) = .inl 3 := by unfold m_kd; rw [if_neg (by omega), if_neg (by omega), if_neg (by omega), if_neg (by omega), if_neg (by omega), if_neg (by omega)]
  rw [← e]
  exact h.s (by omega) (by unfold m_rm; rw [if_neg (by omega), if_neg (by omega), if_neg (by omega), if_pos rfl, if_pos hi, Nat.add_comm]) (by omega) fun j k q => by have := m_inj q (by omega); omega
theorem m_Cf.is {b n j ci : Nat} {S : q_Sh} (h : m_Cf b n S) (hj : j < n) (e : m_kd j = .inl ci) : q_is S (b + j) ci := ⟨by rw [h.1]; omega, (h.2.2.1 j hj).trans e⟩
theorem m_Cf.ar {b n j t m : Nat} {S : q_Sh} (h : m_Cf b n S) (hj : j < n) (e : m_kd j = .inr (t, m)) : q_ar S (b + j) t m := ⟨by rw [h.1]; omega, (h.2.2.1 j hj).trans e⟩
theorem m_Cf.rf {b n j k m : Nat} {S : q_Sh} (h : m_Cf b n S) (hj : j < n) (hm : m < n) (e : m_rm j k = m) : S.2.2 (b + j) k = some (b + m) := by
  subst e
  exact h.2.2.2 j k hj hm
theorem m_Cf.ok {b : Nat} {S : q_Sh} (h : m_Cf b 47 S) : cOk S b := by
  refine ⟨h.is (j := 0) (by decide) rfl, ⟨h.rf (j := 0) (by decide) (by decide) rfl, h.ar (by decide) rfl⟩, ⟨h.rf (j := 0) (by decide) (by decide) rfl, h.ar (by decide) rfl⟩, ⟨h.rf (j := 0) (by decide) (by decide) rfl, h.ar (by decide) rfl⟩, fun i hi => ⟨?_, ?_⟩, fun i hi => ⟨?_, ?_⟩, fun i hi => ⟨?_, ?_⟩⟩
  · rw [h.rf (j := 1) (m := 4 + i) (by decide) (by omega) (by unfold m_rm; rw [if_neg (by omega), if_pos rfl, if_pos hi, Nat.add_comm]), Nat.add_assoc]
  · rw [Nat.add_assoc]; exact h.is (by omega) (by unfold m_kd; rw [if_neg (by omega), if_neg (by omega), if_neg (by omega), if_neg (by omega), if_pos (by omega)])
  · rw [h.rf (j := 2) (m := 34 + i) (by decide) (by omega) (by unfold m_rm; rw [if_neg (by omega), if_neg (by omega), if_pos rfl, if_pos hi, Nat.add_comm]), Nat.add_assoc]
  · rw [Nat.add_assoc]; exact h.is (by omega) (by unfold m_kd; rw [if_neg (by omega), if_neg (by omega), if_neg (by omega), if_neg (by omega), if_neg (by omega), if_pos (by omega)])
  · rw [h.rf (j := 3) (m := 39 + i) (by decide) (by omega) (by unfold m_rm; rw [if_neg (by omega), if_neg (by omega), if_neg (by omega), if_pos rfl, if_pos hi, Nat.add_comm]), Nat.add_assoc]
  · rw [Nat.add_assoc]; exact h.is (by omega) (by unfold m_kd; rw [if_neg (by omega), if_neg (by omega), if_neg (by omega), if_neg (by omega), if_neg (by omega), if_neg (by omega)])
/-- what the memory of a new Cafe holds, so far -/
def m_Mv (b n : Nat) (I J : q_Mem) : Prop := (J b 0 = 0 ∧ J b 1 = 0 ∧ J b 2 = 0) ∧ (∀ p, 39 + p < n → J (b + 39 + p) 0 = 1 ∧ J (b + 39 + p) 1 = 0 ∧ J (b + 39 + p) 2 = 0) ∧ ∀ l, l < b → J l = I l
theorem m_Mv.s {b n : Nat} {I J J2 : q_Mem} (h : m_Mv b n I J) (h0 : 0 < n) (k : ∀ l, l ≠ b + n → J2 l = J l) (hp : 39 ≤ n → J2 (b + n) 0 = 1 ∧ J2 (b + n) 1 = 0 ∧ J2 (b + n) 2 = 0) : m_Mv b (n + 1) I J2 := by
  obtain ⟨⟨h1, h2, h3⟩, h4, h5⟩ := h
  have eb := k b (by omega)
  refine ⟨⟨by rw [eb]; exact h1, by rw [eb]; exact h2, by rw [eb]; exact h3⟩, fun p hq => ?_, fun l hl => by rw [k l (by omega)]; exact h5 l hl⟩
  by_cases q : 39 + p = n
  · rw [show b + 39 + p = b + n by omega]
    exact hp (by omega)
  · rw [k (b + 39 + p) (by omega)]
    exact h4 p (by omega)
theorem q_nI_ne {I : q_Mem} {n l : Nat} (h : l ≠ n) : q_nI I n l = I l := by funext k; simp [q_nI, h]
/-- the state of a new cafe -/
def a_new : a_A := fun k => if 3 ≤ k ∧ k < 11 then 1 else 0
theorem m_Mv.rs {b : Nat} {I J : q_Mem} (h : m_Mv b 47 I J) : Rs b J a_new := by
  obtain ⟨⟨h1, h2, h3⟩, h4, h5⟩ := h
  have hT : a_T a_new = 0 := by decide
  have hF : a_F a_new = 0 := by decide
  unfold Rs
  rw [hT, hF]
  refine ⟨⟨⟨by decide, by decide⟩, ⟨h1, h2, h3⟩, fun i hi => absurd hi (Nat.not_lt_zero i), fun i hi => absurd hi (Nat.not_lt_zero i), fun p hp => ?_⟩, fun i hi => absurd hi (Nat.not_lt_zero i), ⟨⟨rfl, by decide⟩, ⟨rfl, by decide⟩, fun i hi => absurd hi (Nat.not_lt_zero i), fun i hi => absurd hi (Nat.not_lt_zero i), fun i hi => absurd hi (Nat.not_lt_zero i), fun i hi => absurd hi (Nat.not_lt_zero i), fun i hi => absurd hi (Nat.not_lt_zero i), fun i j hi => absurd hi (Nat.not_lt_zero i), fun p hp => ⟨1, by decide, if_pos (by omega)⟩⟩⟩
  obtain ⟨g1, g2, g3⟩ := h4 p (by omega)
  exact ⟨g1.trans (if_pos (by omega)).symm, g2.trans (if_neg (by omega)).symm, g3.trans (if_neg (by omega)).symm⟩
set_option maxRecDepth 100000 in
set_option maxHeartbeats 4000000 in
theorem s_X5_init {Sh : q_Sh} {I : q_Mem} {l : Nat} {ob : a_A} (hl : q_is Sh l 5) : q_Rt mX5_init 1 [.ref l] Sh (q_setA I l ob) (none) (q_setA I l (upd (upd (upd (upd (upd (upd (upd (upd ob 0 (0)) 1 (0)) 2 (0)) 3 (0)) 4 (0)) 5 (-6)) 6 (0)) 7 (0))) := by
  refine q_rt_of (by decide) (Nat.le_of_ble_eq_true rfl) fun Γ BM => ?_
  have B := BM.1
  show q_W Γ mX5_init 0 0 Sh (q_setA I l ob) 0 [(0, .ref l)] []
  refine q_aload_n B dX5_init_0 rfl rfl ?_
  refine q_objInit B km_X5_3 ki_objectInit kc_objectInit (by decide) (Nat.le_of_ble_eq_true rfl) dX5_init_1 ?_
  refine q_aload_n B dX5_init_4 rfl rfl ?_
  refine q_iconst (v := 0) B dX5_init_5 rfl ?_
  refine q_putIo B kC_X5 (k := 0) (by decide) rfl kf_X5_9 rfl rfl rfl hl rfl dX5_init_6 ?_
  refine q_aload_n B dX5_init_9 rfl rfl ?_
  refine q_iconst (v := 0) B dX5_init_10 rfl ?_
  refine q_putIo B kC_X5 (k := 1) (by decide) rfl kf_X5_15 rfl rfl rfl hl rfl dX5_init_11 ?_
  refine q_aload_n B dX5_init_14 rfl rfl ?_
  refine q_iconst (v := 0) B dX5_init_15 rfl ?_
  refine q_putIo B kC_X5 (k := 2) (by decide) rfl kf_X5_18 rfl rfl rfl hl rfl dX5_init_16 ?_
  refine q_aload_n B dX5_init_19 rfl rfl ?_
  refine q_iconst (v := 0) B dX5_init_20 rfl ?_
  refine q_putIo B kC_X5 (k := 3) (by decide) rfl kf_X5_21 rfl rfl rfl hl rfl dX5_init_21 ?_
  refine q_aload_n B dX5_init_24 rfl rfl ?_
  refine q_iconst (v := 0) B dX5_init_25 rfl ?_
  refine q_putIo B kC_X5 (k := 4) (by decide) rfl kf_X5_24 rfl rfl rfl hl rfl dX5_init_26 ?_
  refine q_aload_n B dX5_init_29 rfl rfl ?_
  refine q_bipush (v := -6) B dX5_init_30 rfl ?_
  refine q_putIo B kC_X5 (k := 5) (by decide) rfl kf_X5_27 rfl rfl rfl hl rfl dX5_init_32 ?_
  refine q_aload_n B dX5_init_35 rfl rfl ?_
  refine q_iconst (v := 0) B dX5_init_36 rfl ?_
  refine q_putIo B kC_X5 (k := 6) (by decide) rfl kf_X5_30 rfl rfl rfl hl rfl dX5_init_37 ?_
  refine q_aload_n B dX5_init_40 rfl rfl ?_
  refine q_iconst (v := 0) B dX5_init_41 rfl ?_
  refine q_putIo B kC_X5 (k := 7) (by decide) rfl kf_X5_33 rfl rfl rfl hl rfl dX5_init_42 ?_
  exact q_vret BM rfl dX5_init_45 ⟨rfl, rfl, rfl⟩
set_option maxRecDepth 100000 in
set_option maxHeartbeats 4000000 in
theorem s_X1_init {Sh : q_Sh} {I : q_Mem} {l : Nat} {ob : a_A} (hl : q_is Sh l 1) : q_Rt mX1_init 1 [.ref l] Sh (q_setA I l ob) (none) (q_setA I l (upd (upd (upd (upd (upd (upd ob 0 (0)) 1 (0)) 2 (-6)) 3 (0)) 4 (0)) 5 (0))) := by
  refine q_rt_of (by decide) (Nat.le_of_ble_eq_true rfl) fun Γ BM => ?_
  have B := BM.1
  show q_W Γ mX1_init 0 0 Sh (q_setA I l ob) 0 [(0, .ref l)] []
  refine q_aload_n B dX1_init_0 rfl rfl ?_
  refine q_objInit B km_X1_3 ki_objectInit kc_objectInit (by decide) (Nat.le_of_ble_eq_true rfl) dX1_init_1 ?_
  refine q_aload_n B dX1_init_4 rfl rfl ?_
  refine q_iconst (v := 0) B dX1_init_5 rfl ?_
  refine q_putIo B kC_X1 (k := 0) (by decide) rfl kf_X1_9 rfl rfl rfl hl rfl dX1_init_6 ?_
  refine q_aload_n B dX1_init_9 rfl rfl ?_
  refine q_iconst (v := 0) B dX1_init_10 rfl ?_
  refine q_putIo B kC_X1 (k := 1) (by decide) rfl kf_X1_15 rfl rfl rfl hl rfl dX1_init_11 ?_
  refine q_aload_n B dX1_init_14 rfl rfl ?_
  refine q_bipush (v := -6) B dX1_init_15 rfl ?_
  refine q_putIo B kC_X1 (k := 2) (by decide) rfl kf_X1_18 rfl rfl rfl hl rfl dX1_init_17 ?_
  refine q_aload_n B dX1_init_20 rfl rfl ?_
  refine q_iconst (v := 0) B dX1_init_21 rfl ?_
  refine q_putIo B kC_X1 (k := 3) (by decide) rfl kf_X1_21 rfl rfl rfl hl rfl dX1_init_22 ?_
  refine q_aload_n B dX1_init_25 rfl rfl ?_
  refine q_iconst (v := 0) B dX1_init_26 rfl ?_
  refine q_putIo B kC_X1 (k := 4) (by decide) rfl kf_X1_24 rfl rfl rfl hl rfl dX1_init_27 ?_
  refine q_aload_n B dX1_init_30 rfl rfl ?_
  refine q_iconst (v := 0) B dX1_init_31 rfl ?_
  refine q_putIo B kC_X1 (k := 5) (by decide) rfl kf_X1_27 rfl rfl rfl hl rfl dX1_init_32 ?_
  exact q_vret BM rfl dX1_init_35 ⟨rfl, rfl, rfl⟩
set_option maxRecDepth 100000 in
set_option maxHeartbeats 4000000 in
theorem s_X3_init {Sh : q_Sh} {I : q_Mem} {l : Nat} {ob : a_A} (hl : q_is Sh l 3) : q_Rt mX3_init 1 [.ref l] Sh (q_setA I l ob) (none) (q_setA I l (upd (upd (upd ob 0 (1)) 1 (0)) 2 (0))) := by
  refine q_rt_of (by decide) (Nat.le_of_ble_eq_true rfl) fun Γ BM => ?_
  have B := BM.1
  show q_W Γ mX3_init 0 0 Sh (q_setA I l ob) 0 [(0, .ref l)] []
  refine q_aload_n B dX3_init_0 rfl rfl ?_
  refine q_objInit B km_X3_3 ki_objectInit kc_objectInit (by decide) (Nat.le_of_ble_eq_true rfl) dX3_init_1 ?_
  refine q_aload_n B dX3_init_4 rfl rfl ?_
  refine q_iconst (v := 1) B dX3_init_5 rfl ?_
  refine q_putIo B kC_X3 (k := 0) (by decide) rfl kf_X3_9 rfl rfl rfl hl rfl dX3_init_6 ?_
  refine q_aload_n B dX3_init_9 rfl rfl ?_
  refine q_iconst (v := 0) B dX3_init_10 rfl ?_
  refine q_putIo B kC_X3 (k := 1) (by decide) rfl kf_X3_15 rfl rfl rfl hl rfl dX3_init_11 ?_
  refine q_aload_n B dX3_init_14 rfl rfl ?_
  refine q_iconst (v := 0) B dX3_init_15 rfl ?_
  refine q_putIo B kC_X3 (k := 2) (by decide) rfl kf_X3_18 rfl rfl rfl hl rfl dX3_init_16 ?_
  exact q_vret BM rfl dX3_init_19 ⟨rfl, rfl, rfl⟩
