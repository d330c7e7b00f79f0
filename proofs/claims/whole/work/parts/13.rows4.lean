/-! beside one array that is looked at as a whole (ls), other cells of the memory; what lies behind an array's end is nothing -/
theorem q_setA_comm {I : q_Mem} {l m : Nat} {f g : Nat → Int32} (h : l ≠ m) : q_setA (q_setA I l f) m g = q_setA (q_setA I m g) l f := by
  funext a
  by_cases h1 : a = l <;> by_cases h2 : a = m <;> simp_all [q_setA]
theorem q_arrV_congr {cA : ClassId} {n : Nat} {f g : Nat → Value} (h : ∀ j, j < n → f j = g j) : arrV cA n f = arrV cA n g := by
  unfold arrV
  congr 1
  apply Array.ext
  · simp
  · intro i h1 h2
    simp at h1 ⊢
    first | exact h i h1 | simp [h i h1]
section QROWS4
variable {K0 : Option Value → q_Sh → q_Mem → Prop} {Γ : q_Cx} {Y : q_Mth} {d rc rs : Nat} {Sh : q_Sh} {I : q_Mem} {pc : Nat} {lv : List (Nat × Value)} {st : List Value}
theorem q_norm {l n t : Nat} {f g : Nat → Int32} (hl : q_ar Sh l t n) (ht : t < 3) (h : ∀ j, j < n → f j = g j) (k : q_W Γ Y rc rs Sh (q_setA I l g) pc lv st) : q_W Γ Y rc rs Sh (q_setA I l f) pc lv st := by
  intro ad H locs cells slots ls h1 h2 hP hD hS hn hls
  refine k ad H locs cells slots ls h1 h2 (fun i q hq => ?_) ⟨fun i j p q hp hq e => ?_, fun i q hq => ?_⟩ hS hn hls
  · by_cases hi : i < Sh.1
    · rw [q_ws_at hi] at hq
      cases hq
      have h0 := hP i _ (q_ws_at hi)
      by_cases e : i = l
      · subst e
        rw [q_E_arr hl.2, if_pos ht] at h0 ⊢
        show H[_]? = some (vp_cell _ _)
        have h3 : H[ad i]? = some (vp_cell (q_cA Γ t) (n, .inl (q_setA I i f i))) := h0
        rw [h3]
        rw [vp_cell_i, vp_cell_i, q_setA_at, q_setA_at]
        exact congrArg some (q_arrV_congr (fun j hj => by rw [h j hj]))
      · have e2 : q_E (q_cA Γ) ad Sh.2.1 Sh.2.2 (q_setA I l g) i = q_E (q_cA Γ) ad Sh.2.1 Sh.2.2 (q_setA I l f) i := by
          unfold q_E q_fv
          simp only [q_setA_ne e]
        rw [e2]
        exact h0
    · have : (q_ws (q_cA Γ) ad Sh (q_setA I l g))[i]? = none := by simp [q_ws]; omega
      rw [this] at hq
      cases hq
  · have g1 : i < Sh.1 := by
      have := (List.getElem?_eq_some_iff.mp hp).1
      simpa [q_ws] using this
    have g2 : j < Sh.1 := by
      have := (List.getElem?_eq_some_iff.mp hq).1
      simpa [q_ws] using this
    rw [q_ws_at g1] at hp
    rw [q_ws_at g2] at hq
    cases hp
    cases hq
    exact hD.1 i j _ _ (q_ws_at g1) (q_ws_at g2) e
  · have g1 : i < Sh.1 := by
      have := (List.getElem?_eq_some_iff.mp hq).1
      simpa [q_ws] using this
    rw [q_ws_at g1] at hq
    cases hq
    have h5 := hD.2 i _ (q_ws_at (I := q_setA I l f) g1)
    exact h5
theorem q_getIS (B : q_Ok Γ Y d) {C : String} {T : u_T} {N ci i k l ls : Nat} {σ : Nat → Int32} (hne : l ≠ ls) (hC : q_Cl ci C T N) (hk : k < N) (hr : q_isR (q_ty ci k) = false) (hw : Cond.fieldLink Y.1.cls i (T k).1 (T k).2.1 (T k).2.2.1 ∈ q_WS) (hl : q_is Sh l ci) (hd : decode Y.2.1 pc = .ok (.getfield i, 3))
    (kk : q_W Γ Y rc rs Sh (q_setA I ls σ) (pc + 3) lv (.int (I l k) :: st)) : q_W Γ Y rc rs Sh (q_setA I ls σ) pc lv (.ref l :: st) :=
  q_getI2 B hC hk hr hw hl (by rw [q_setA_ne hne]) hd kk
theorem q_putIS (B : q_Ok Γ Y d) {C : String} {T : u_T} {N ci i k l ls : Nat} {v : Int32} {σ : Nat → Int32} (hne : l ≠ ls) (hC : q_Cl ci C T N) (hk : k < N) (hr : q_isR (q_ty ci k) = false) (hw : Cond.fieldLink Y.1.cls i (T k).1 (T k).2.1 (T k).2.2.1 ∈ q_WS) (hfin : (T k).2.2.2 = false) (hnar : narrow (q_ty ci k) (.int v) = .int v) (hfit : fits (q_ty ci k) (.int v) = true) (hl : q_is Sh l ci) (hd : decode Y.2.1 pc = .ok (.putfield i, 3))
    (kk : q_W Γ Y rc rs Sh (q_setA (q_setA I l (upd (I l) k v)) ls σ) (pc + 3) lv st) : q_W Γ Y rc rs Sh (q_setA I ls σ) pc lv (.int v :: .ref l :: st) :=
  q_putI2 B hC hk hr hw hfin hnar hfit hl hd (by rw [q_setA_ne hne, q_setA_comm (Ne.symm hne)]; exact kk)
/-- the same value again -/
theorem q_putSame (B : q_Ok Γ Y d) {C : String} {T : u_T} {N ci i k l : Nat} {v : Int32} (hC : q_Cl ci C T N) (hk : k < N) (hr : q_isR (q_ty ci k) = false) (hw : Cond.fieldLink Y.1.cls i (T k).1 (T k).2.1 (T k).2.2.1 ∈ q_WS) (hfin : (T k).2.2.2 = false) (hnar : narrow (q_ty ci k) (.int v) = .int v) (hfit : fits (q_ty ci k) (.int v) = true) (hl : q_is Sh l ci) (e : I l k = v) (hd : decode Y.2.1 pc = .ok (.putfield i, 3))
    (kk : q_W Γ Y rc rs Sh I (pc + 3) lv st) : q_W Γ Y rc rs Sh I pc lv (.int v :: .ref l :: st) := by
  refine q_putI2 B hC hk hr hw hfin hnar hfit hl hd ?_
  have e2 : upd (I l) k v = I l := by
    funext a
    by_cases h : a = k
    · subst h; simp [upd, e]
    · simp [upd, h]
  rw [e2, q_setA_self]
  exact kk
theorem q_ialdO (B : q_Ok Γ Y d) {l n N ls : Nat} {i : Int32} {σ : Nat → Int32} (hne : l ≠ ls) (hl : q_ar Sh l 0 N) (e : i = nI n) (hlt : n < N) (hN : N < 2 ^ 31) (hd : decode Y.2.1 pc = .ok (.iaload, 1)) (kk : q_W Γ Y rc rs Sh (q_setA I ls σ) (pc + 1) lv (.int (I l n) :: st)) : q_W Γ Y rc rs Sh (q_setA I ls σ) pc lv (.int i :: .ref l :: st) :=
  q_iald2 B hl e hlt hN (by rw [q_setA_ne hne]) hd kk
theorem q_zaldO (B : q_Ok Γ Y d) {l n N ls : Nat} {i : Int32} {σ : Nat → Int32} (hne : l ≠ ls) (hl : q_ar Sh l 1 N) (e : i = nI n) (hlt : n < N) (hN : N < 2 ^ 31) (hd : decode Y.2.1 pc = .ok (.baload, 1)) (kk : q_W Γ Y rc rs Sh (q_setA I ls σ) (pc + 1) lv (.int (I l n) :: st)) : q_W Γ Y rc rs Sh (q_setA I ls σ) pc lv (.int i :: .ref l :: st) :=
  q_zald B hl e hlt hN hd (by rw [q_setA_ne hne]; exact kk)
theorem q_iastO (B : q_Ok Γ Y d) {l n N ls : Nat} {i v : Int32} {σ : Nat → Int32} (hne : l ≠ ls) (hl : q_ar Sh l 0 N) (e : i = nI n) (hlt : n < N) (hN : N < 2 ^ 31) (hd : decode Y.2.1 pc = .ok (.iastore, 1)) (kk : q_W Γ Y rc rs Sh (q_setA (q_setA I l (upd (I l) n v)) ls σ) (pc + 1) lv st) : q_W Γ Y rc rs Sh (q_setA I ls σ) pc lv (.int v :: .int i :: .ref l :: st) :=
  q_iast B hl e hlt hN hd (by rw [q_setA_ne hne, q_setA_comm (Ne.symm hne)]; exact kk)
theorem q_zastO (B : q_Ok Γ Y d) {l n N ls : Nat} {i v : Int32} {σ : Nat → Int32} (hne : l ≠ ls) (hl : q_ar Sh l 1 N) (e : i = nI n) (hlt : n < N) (hN : N < 2 ^ 31) (hv : vp_nar .boolean v = v) (hd : decode Y.2.1 pc = .ok (.bastore, 1)) (kk : q_W Γ Y rc rs Sh (q_setA (q_setA I l (upd (I l) n v)) ls σ) (pc + 1) lv st) : q_W Γ Y rc rs Sh (q_setA I ls σ) pc lv (.int v :: .int i :: .ref l :: st) :=
  q_zast B hl e hlt hN hv hd (by rw [q_setA_ne hne, q_setA_comm (Ne.symm hne)]; exact kk)
end QROWS4
def a_cp (n : Nat) (f g : Nat → Int32) : Nat → Int32 := fun k => if k < n then f k else g k
theorem a_cp_0 (f g : Nat → Int32) : a_cp 0 f g = g := by funext k; simp [a_cp]
theorem a_cp_s (n : Nat) (f g : Nat → Int32) : upd (a_cp n f g) n (f n) = a_cp (n + 1) f g := by
  funext k
  by_cases h : k = n
  · subst h; simp [upd, a_cp]
  · by_cases h2 : k < n
    · simp [upd, a_cp, h, h2, Nat.lt_succ_of_lt h2]
    · have : ¬ k < n + 1 := by omega
      simp [upd, a_cp, h, h2, this]
theorem a_cp_at {n k : Nat} {f g : Nat → Int32} (h : k < n) : a_cp n f g k = f k := by simp [a_cp, h]
