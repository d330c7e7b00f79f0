/-! rows as the walker lays them -/
def q_all (lv : List (Nat × Value)) : List (Nat × Value) → Prop
  | [] => True
  | (i, v) :: t => q_lk lv i = some v ∧ q_all lv t
theorem q_all_mem {lv l : List (Nat × Value)} (h : q_all lv l) : ∀ q ∈ l, q_lk lv q.1 = some q.2 := by
  induction l with
  | nil => intro q hq; cases hq
  | cons a t ih =>
    obtain ⟨i, v⟩ := a
    intro q hq
    rcases List.mem_cons.mp hq with rfl | hq
    · exact h.1
    · exact ih h.2 q hq
theorem q_ac {lv t : List (Nat × Value)} {i : Nat} {v : Value} (h : q_lk lv i = some v) (k : q_all lv t) : q_all lv ((i, v) :: t) := ⟨h, k⟩
theorem q_an {lv : List (Nat × Value)} : q_all lv [] := trivial
theorem q_inc1 (i : Nat) : nI i + Int32.ofInt 1 = nI (i + 1) := nI_1 i
section QROWS3
variable {K0 : Option Value → q_Sh → q_Mem → Prop} {Γ : q_Cx} {Y : q_Mth} {d rc rs : Nat} {Sh : q_Sh} {I : q_Mem} {pc : Nat} {lv : List (Nat × Value)} {st : List Value}
theorem q_tol {lv2 : List (Nat × Value)} {st2 : List Value} (he : q_all lv lv2) (hs : st = st2) (k : q_W Γ Y rc rs Sh I pc lv2 st2) : q_W Γ Y rc rs Sh I pc lv st := q_to (q_all_mem he) hs k
theorem q_tk {lv2 : List (Nat × Value)} {st2 : List Value} (k : q_W Γ Y rc rs Sh I pc lv2 st2) (hs : st = st2) (he : q_all lv lv2) : q_W Γ Y rc rs Sh I pc lv st := q_to (q_all_mem he) hs k
theorem q_tkm {lv2 : List (Nat × Value)} {st2 : List Value} {I2 : q_Mem} (k : q_W Γ Y rc rs Sh I2 pc lv2 st2) (hI : I = I2) (hs : st = st2) (he : q_all lv lv2) : q_W Γ Y rc rs Sh I pc lv st := by
  subst hI
  exact q_tk k hs he
theorem q_tom {lv2 : List (Nat × Value)} {st2 : List Value} {I2 : q_Mem} (he : q_all lv lv2) (hs : st = st2) (hI : I = I2) (k : q_W Γ Y rc rs Sh I2 pc lv2 st2) : q_W Γ Y rc rs Sh I pc lv st := by
  subst hI
  exact q_tol he hs k
theorem q_join (jp : Nat) (E : Int32) {pc : Nat} (k : q_W Γ Y rc rs Sh I jp lv (.int E :: st)) (f : q_W Γ Y rc rs Sh I jp lv (.int E :: st) → q_W Γ Y rc rs Sh I pc lv st) : q_W Γ Y rc rs Sh I pc lv st := f k
theorem q_top {x y : Int32} (e : x = y) (k : q_W Γ Y rc rs Sh I pc lv (.int y :: st)) : q_W Γ Y rc rs Sh I pc lv (.int x :: st) := by rw [e]; exact k
theorem q_iinc2 (B : q_Ok Γ Y d) {i : Nat} {n : Int} {x y : Int32} (hd : decode Y.2.1 pc = .ok (.iinc i n, 3)) (hx : q_lk lv i = some (.int x)) (e : x + Int32.ofInt n = y) (hn : i < Y.2.2.1) (hf : q_fr lv i = true) (k : q_W Γ Y rc rs Sh I (pc + 3) (q_set lv i (.int y)) st) : q_W Γ Y rc rs Sh I pc lv st := by
  subst e
  exact q_iinc B hd hx hn hf k
theorem q_getI2 (B : q_Ok Γ Y d) {C : String} {T : u_T} {N ci i k l : Nat} {v : Int32} (hC : q_Cl ci C T N) (hk : k < N) (hr : q_isR (q_ty ci k) = false) (hw : Cond.fieldLink Y.1.cls i (T k).1 (T k).2.1 (T k).2.2.1 ∈ q_WS) (hl : q_is Sh l ci) (e : I l k = v) (hd : decode Y.2.1 pc = .ok (.getfield i, 3))
    (kk : q_W Γ Y rc rs Sh I (pc + 3) lv (.int v :: st)) : q_W Γ Y rc rs Sh I pc lv (.ref l :: st) := by
  subst e
  exact q_getI B hC hk hr hw hl hd kk
theorem q_clamp {i : Int32} {n N : Nat} (e : i = nI n) (hlt : n < N) (hN : N < 2 ^ 31) : vp_in i N ∧ i.toNatClampNeg = n := by
  subst e
  exact ⟨vp_in_nI hlt hN, nI_clamp (by omega)⟩
theorem q_iald (B : q_Ok Γ Y d) {l n N : Nat} {i : Int32} (hl : q_ar Sh l 0 N) (e : i = nI n) (hlt : n < N) (hN : N < 2 ^ 31) (hd : decode Y.2.1 pc = .ok (.iaload, 1)) (kk : q_W Γ Y rc rs Sh I (pc + 1) lv (.int (I l n) :: st)) : q_W Γ Y rc rs Sh I pc lv (.int i :: .ref l :: st) := by
  obtain ⟨h1, h2⟩ := q_clamp e hlt hN
  exact q_ialoadI B hl h1 hd (by rw [h2]; exact kk)
theorem q_iald2 (B : q_Ok Γ Y d) {l n N : Nat} {i v : Int32} (hl : q_ar Sh l 0 N) (e : i = nI n) (hlt : n < N) (hN : N < 2 ^ 31) (ev : I l n = v) (hd : decode Y.2.1 pc = .ok (.iaload, 1)) (kk : q_W Γ Y rc rs Sh I (pc + 1) lv (.int v :: st)) : q_W Γ Y rc rs Sh I pc lv (.int i :: .ref l :: st) := by
  subst ev
  exact q_iald B hl e hlt hN hd kk
theorem q_zald (B : q_Ok Γ Y d) {l n N : Nat} {i : Int32} (hl : q_ar Sh l 1 N) (e : i = nI n) (hlt : n < N) (hN : N < 2 ^ 31) (hd : decode Y.2.1 pc = .ok (.baload, 1)) (kk : q_W Γ Y rc rs Sh I (pc + 1) lv (.int (I l n) :: st)) : q_W Γ Y rc rs Sh I pc lv (.int i :: .ref l :: st) := by
  obtain ⟨h1, h2⟩ := q_clamp e hlt hN
  exact q_zaload B hl h1 hd (by rw [h2]; exact kk)
theorem q_cald (B : q_Ok Γ Y d) {l n N : Nat} {i : Int32} (hl : q_ar Sh l 2 N) (e : i = nI n) (hlt : n < N) (hN : N < 2 ^ 31) (hd : decode Y.2.1 pc = .ok (.caload, 1)) (kk : q_W Γ Y rc rs Sh I (pc + 1) lv (.int (I l n) :: st)) : q_W Γ Y rc rs Sh I pc lv (.int i :: .ref l :: st) := by
  obtain ⟨h1, h2⟩ := q_clamp e hlt hN
  exact q_caload B hl h1 hd (by rw [h2]; exact kk)
theorem q_iast (B : q_Ok Γ Y d) {l n N : Nat} {i v : Int32} (hl : q_ar Sh l 0 N) (e : i = nI n) (hlt : n < N) (hN : N < 2 ^ 31) (hd : decode Y.2.1 pc = .ok (.iastore, 1)) (kk : q_W Γ Y rc rs Sh (q_setA I l (upd (I l) n v)) (pc + 1) lv st) : q_W Γ Y rc rs Sh I pc lv (.int v :: .int i :: .ref l :: st) := by
  obtain ⟨h1, h2⟩ := q_clamp e hlt hN
  exact q_iastore B hl h1 hd (by rw [h2, q_upI_setA]; exact kk)
theorem q_zast (B : q_Ok Γ Y d) {l n N : Nat} {i v : Int32} (hl : q_ar Sh l 1 N) (e : i = nI n) (hlt : n < N) (hN : N < 2 ^ 31) (hv : vp_nar .boolean v = v) (hd : decode Y.2.1 pc = .ok (.bastore, 1)) (kk : q_W Γ Y rc rs Sh (q_setA I l (upd (I l) n v)) (pc + 1) lv st) : q_W Γ Y rc rs Sh I pc lv (.int v :: .int i :: .ref l :: st) := by
  obtain ⟨h1, h2⟩ := q_clamp e hlt hN
  exact q_zastore B hl h1 hd (by rw [h2, hv, q_upI_setA]; exact kk)
theorem q_cast (B : q_Ok Γ Y d) {l n N : Nat} {i v : Int32} (hl : q_ar Sh l 2 N) (e : i = nI n) (hlt : n < N) (hN : N < 2 ^ 31) (hv : vp_nar .char v = v) (hd : decode Y.2.1 pc = .ok (.castore, 1)) (kk : q_W Γ Y rc rs Sh (q_setA I l (upd (I l) n v)) (pc + 1) lv st) : q_W Γ Y rc rs Sh I pc lv (.int v :: .int i :: .ref l :: st) := by
  obtain ⟨h1, h2⟩ := q_clamp e hlt hN
  exact q_castore B hl h1 hd (by rw [h2, hv, q_upI_setA]; exact kk)
theorem q_putI2 (B : q_Ok Γ Y d) {C : String} {T : u_T} {N ci i k l : Nat} {v : Int32} (hC : q_Cl ci C T N) (hk : k < N) (hr : q_isR (q_ty ci k) = false) (hw : Cond.fieldLink Y.1.cls i (T k).1 (T k).2.1 (T k).2.2.1 ∈ q_WS) (hfin : (T k).2.2.2 = false) (hnar : narrow (q_ty ci k) (.int v) = .int v) (hfit : fits (q_ty ci k) (.int v) = true) (hl : q_is Sh l ci) (hd : decode Y.2.1 pc = .ok (.putfield i, 3))
    (kk : q_W Γ Y rc rs Sh (q_setA I l (upd (I l) k v)) (pc + 3) lv st) : q_W Γ Y rc rs Sh I pc lv (.int v :: .ref l :: st) := q_putI B hC hk hr hw hfin hnar hfit hl hd (by rw [q_upI_setA]; exact kk)
theorem q_ialdS (B : q_Ok Γ Y d) {l n N : Nat} {i : Int32} {σ : Nat → Int32} (hl : q_ar Sh l 0 N) (e : i = nI n) (hlt : n < N) (hN : N < 2 ^ 31) (hd : decode Y.2.1 pc = .ok (.iaload, 1)) (kk : q_W Γ Y rc rs Sh (q_setA I l σ) (pc + 1) lv (.int (σ n) :: st)) : q_W Γ Y rc rs Sh (q_setA I l σ) pc lv (.int i :: .ref l :: st) :=
  q_iald2 B hl e hlt hN (by rw [q_setA_at]) hd kk
theorem q_ialdS2 (B : q_Ok Γ Y d) {l n N : Nat} {i v : Int32} {σ : Nat → Int32} (hl : q_ar Sh l 0 N) (e : i = nI n) (hlt : n < N) (hN : N < 2 ^ 31) (ev : σ n = v) (hd : decode Y.2.1 pc = .ok (.iaload, 1)) (kk : q_W Γ Y rc rs Sh (q_setA I l σ) (pc + 1) lv (.int v :: st)) : q_W Γ Y rc rs Sh (q_setA I l σ) pc lv (.int i :: .ref l :: st) :=
  q_iald2 B hl e hlt hN (by rw [q_setA_at]; exact ev) hd kk
theorem q_iastS (B : q_Ok Γ Y d) {l n N : Nat} {i v : Int32} {σ : Nat → Int32} (hl : q_ar Sh l 0 N) (e : i = nI n) (hlt : n < N) (hN : N < 2 ^ 31) (hd : decode Y.2.1 pc = .ok (.iastore, 1)) (kk : q_W Γ Y rc rs Sh (q_setA I l (upd σ n v)) (pc + 1) lv st) : q_W Γ Y rc rs Sh (q_setA I l σ) pc lv (.int v :: .int i :: .ref l :: st) :=
  q_iast B hl e hlt hN hd (by rw [q_setA_at, q_setA_setA]; exact kk)
end QROWS3
/-! comparing numbers below 2^31 -/
theorem q_le {a b : Nat} (h : a ≤ b) (hb : b < 2 ^ 31) : nI a ≤ nI b := nI_le h hb
theorem q_nle {a b : Nat} (h : b < a) (ha : a < 2 ^ 31) : ¬ nI a ≤ nI b := nI_ge h ha
theorem q_lt {a b : Nat} (h : a < b) (hb : b < 2 ^ 31) : nI a < nI b := nI_lt h hb
theorem q_nlt {a b : Nat} (h : b ≤ a) (ha : a < 2 ^ 31) : ¬ nI a < nI b := nI_nlt h ha
