/-! one flat memory: a place is a number (in the order of making), a field or an element a second one; ints and references apart. A world of the kit is read off it. -/
abbrev q_Mth : Type := MethodName × ByteArray × Nat × Option FieldType
abbrev q_Kd : Type := Nat ⊕ (Nat × Nat)
abbrev q_Mem : Type := Nat → Nat → Int32
abbrev q_Sh : Type := Nat × (Nat → q_Kd) × (Nat → Nat → Option Nat)
def q_cv (ad : Nat → Nat) : Value → Value
  | .ref a => .ref (ad a)
  | .int x => .int x
  | .long x => .long x
  | .null => .null
  | v => v
def q_ty : Nat → Nat → FieldType
  | 0 => tyX0
  | 1 => tyX1
  | 2 => tyX2
  | 3 => tyX3
  | 4 => tyX4
  | 5 => tyX5
  | 6 => tyX6
  | _ => tyX7
def q_N : Nat → Nat
  | 0 => 6
  | 1 => 6
  | 2 => 8
  | 3 => 3
  | 4 => 3
  | 5 => 8
  | 6 => 5
  | _ => 13
def q_tys (cA : Nat → ClassId) : List (ClassId × FieldType) := [(cA 0, .int), (cA 1, .boolean), (cA 2, .char), (cA 3, .object RX5), (cA 4, .object RX1), (cA 5, .object RX3), (cA 6, .object RX0)]
def q_isR : FieldType → Bool
  | .object _ => true
  | .array _ => true
  | _ => false
def q_fv (ad : Nat → Nat) (I : q_Mem) (R : Nat → Nat → Option Nat) (l ci k : Nat) : Value := if q_isR (q_ty ci k) = true then va_rf ((R l k).map ad) else .int (I l k)
def q_E (cA : Nat → ClassId) (ad : Nat → Nat) (K : Nat → q_Kd) (R : Nat → Nat → Option Nat) (I : q_Mem) (l : Nat) : va_E := match K l with
  | .inl ci => .inr (ci, (List.range (q_N ci)).map (fun k => q_fv ad I R l ci k))
  | .inr (t, n) => .inl (cA t, n, if t < 3 then .inl (I l) else .inr (.inr (.inr (.inr (fun j => (R l j).map ad)))))
def q_ws (cA : Nat → ClassId) (ad : Nat → Nat) (Sh : q_Sh) (I : q_Mem) : va_W := (List.range Sh.1).map (fun l => (ad l, q_E cA ad Sh.2.1 Sh.2.2 I l))
def q_is (Sh : q_Sh) (l ci : Nat) : Prop := l < Sh.1 ∧ Sh.2.1 l = .inl ci
def q_ar (Sh : q_Sh) (l t n : Nat) : Prop := l < Sh.1 ∧ Sh.2.1 l = .inr (t, n)
def q_upI (I : q_Mem) (l k : Nat) (v : Int32) : q_Mem := fun a b => if a = l ∧ b = k then v else I a b
def q_upR (R : Nat → Nat → Option Nat) (l k : Nat) (v : Option Nat) : Nat → Nat → Option Nat := fun a b => if a = l ∧ b = k then v else R a b
/-- the words that every method's contract asks for -/
def q_WS : List Cond := lw_tbl.filter goodWord
theorem q_mem {w : Cond} (i : Nat) (h : lw_tbl[i]? = some w) (hg : goodWord w = true) : w ∈ q_WS := List.mem_filter.mpr ⟨List.mem_of_getElem? h, hg⟩
def q_ws1 (Y : q_Mth) : List Cond := .code Y.1 Y.2.1 Y.2.2.1 Y.2.2.2 :: q_WS
theorem q_good {Ts : List Cond} (h : ∀ w ∈ q_WS, w ∈ Ts) : GoodIn Ts q_WS := fun w hw => ⟨h w hw, good_of_word (List.mem_filter.mp hw).2⟩
/-- words that warming keeps by laws of their own -/
def q_nl : List Cond := [.methodLinkNest RX0 39 yX5_init RX6, .methodLinkNest RX0 40 yX1_init RX6, .methodLinkNest RX0 41 yX3_init RX6, .methodLinkNest RX6 32 yX2_init RX6, .methodLinkNest RX0 64 yX6_partsOf RX6, .methodLinkNest RX0 72 yX6_isFixer RX6, .methodLinkNest RX0 150 yX6_isIn RX6]
def q_al : List String := [RX0, RX1, RX3, RX5]
def q_ext (U : State) : Prop := (∀ w ∈ q_nl, va_Nw w U) ∧ (∀ C ∈ q_al, va_AO C U)
theorem q_ext_moved {s U : State} (hW : s.WarmedH U.vm) (h : q_ext s) : q_ext U := by
  refine ⟨fun w hw => ?_, fun C hC => (h.2 C hC).moved hW.alike⟩
  have h1 := h.1 w hw
  simp only [q_nl, List.mem_cons, List.not_mem_nil, or_false] at hw
  rcases hw with rfl | rfl | rfl | rfl | rfl | rfl | rfl <;> exact va_Nw.warmM hW h1
theorem q_ext_calling {U : State} (g : JFrame) (mk : MethodId) (a : Array Value) (h : q_ext U) : q_ext (U.calling g mk a) := by
  refine ⟨fun w hw => ?_, fun C hC => (h.2 C hC).moved (Vm.Alike.refl U.vm)⟩
  have h1 := h.1 w hw
  simp only [q_nl, List.mem_cons, List.not_mem_nil, or_false] at hw
  rcases hw with rfl | rfl | rfl | rfl | rfl | rfl | rfl <;> exact va_Nw.same rfl rfl h1
/-! reading and setting a world at a place -/
theorem q_ws_at {cA : Nat → ClassId} {ad : Nat → Nat} {Sh : q_Sh} {I : q_Mem} {l : Nat} (h : l < Sh.1) : (q_ws cA ad Sh I)[l]? = some (ad l, q_E cA ad Sh.2.1 Sh.2.2 I l) := by
  simp [q_ws, h]
theorem q_E_obj {cA : Nat → ClassId} {ad : Nat → Nat} {K : Nat → q_Kd} {R : Nat → Nat → Option Nat} {I : q_Mem} {l ci : Nat} (h : K l = .inl ci) : q_E cA ad K R I l = .inr (ci, (List.range (q_N ci)).map (fun k => q_fv ad I R l ci k)) := by
  unfold q_E; rw [h]
theorem q_E_arr {cA : Nat → ClassId} {ad : Nat → Nat} {K : Nat → q_Kd} {R : Nat → Nat → Option Nat} {I : q_Mem} {l t n : Nat} (h : K l = .inr (t, n)) : q_E cA ad K R I l = .inl (cA t, n, if t < 3 then .inl (I l) else .inr (.inr (.inr (.inr (fun j => (R l j).map ad))))) := by
  unfold q_E; rw [h]
theorem q_fs_at {ad : Nat → Nat} {I : q_Mem} {R : Nat → Nat → Option Nat} {l ci k : Nat} (h : k < q_N ci) : ((List.range (q_N ci)).map (fun k => q_fv ad I R l ci k))[k]? = some (q_fv ad I R l ci k) := by
  simp [h]
theorem q_map_set {α : Type} {n i : Nat} {f g : Nat → α} {x : α} (hx : g i = x) (ho : ∀ j, j ≠ i → g j = f j) : ((List.range n).map f).set i x = (List.range n).map g := by
  apply List.ext_getElem?
  intro j
  rw [List.getElem?_set]
  by_cases hj : i = j
  · subst hj
    by_cases hi : i < n
    · simp [hi, hx]
    · simp [hi]
  · simp [hj]
    by_cases hi : j < n
    · simp [hi, ho j (Ne.symm hj)]
    · simp [hi]
theorem q_E_other {cA : Nat → ClassId} {ad : Nat → Nat} {K : Nat → q_Kd} {R : Nat → Nat → Option Nat} {I : q_Mem} {l k j : Nat} {v : Int32} (h : j ≠ l) : q_E cA ad K R (q_upI I l k v) j = q_E cA ad K R I j := by
  have e : q_upI I l k v j = I j := by funext b; simp [q_upI, h]
  unfold q_E q_fv
  simp only [e]
theorem q_E_otherR {cA : Nat → ClassId} {ad : Nat → Nat} {K : Nat → q_Kd} {R : Nat → Nat → Option Nat} {I : q_Mem} {l k j : Nat} {v : Option Nat} (h : j ≠ l) : q_E cA ad K (q_upR R l k v) I j = q_E cA ad K R I j := by
  have e : q_upR R l k v j = R j := by funext b; simp [q_upR, h]
  unfold q_E q_fv
  simp only [e]
theorem q_ws_put {cA : Nat → ClassId} {ad : Nat → Nat} {Sh : q_Sh} {I : q_Mem} {l ci k : Nat} {v : Int32} (hK : Sh.2.1 l = .inl ci) (hr : q_isR (q_ty ci k) = false) :
    (q_ws cA ad Sh I).set l (ad l, .inr (ci, ((List.range (q_N ci)).map (fun k => q_fv ad I Sh.2.2 l ci k)).set k (.int v))) = q_ws cA ad Sh (q_upI I l k v) := by
  refine q_map_set ?_ (fun j hj => by rw [q_E_other hj])
  rw [q_E_obj hK]
  congr 3
  symm
  refine q_map_set ?_ (fun j hj => ?_)
  · simp [q_fv, hr, q_upI]
  · simp [q_fv, q_upI, hj]
theorem q_ws_putR {cA : Nat → ClassId} {ad : Nat → Nat} {Sh : q_Sh} {I : q_Mem} {l ci k : Nat} {v : Option Nat} (hK : Sh.2.1 l = .inl ci) (hr : q_isR (q_ty ci k) = true) :
    (q_ws cA ad Sh I).set l (ad l, .inr (ci, ((List.range (q_N ci)).map (fun k => q_fv ad I Sh.2.2 l ci k)).set k (va_rf (v.map ad)))) = q_ws cA ad (Sh.1, Sh.2.1, q_upR Sh.2.2 l k v) I := by
  refine q_map_set ?_ (fun j hj => by rw [q_E_otherR hj])
  rw [q_E_obj hK]
  congr 3
  symm
  refine q_map_set ?_ (fun j hj => ?_)
  · simp [q_fv, hr, q_upR]
  · simp [q_fv, q_upR, hj]
theorem q_ws_ast {cA : Nat → ClassId} {ad : Nat → Nat} {Sh : q_Sh} {I : q_Mem} {l t n k : Nat} {v : Int32} (hK : Sh.2.1 l = .inr (t, n)) (ht : t < 3) :
    (q_ws cA ad Sh I).set l (ad l, .inl (cA t, n, .inl (upd (I l) k v))) = q_ws cA ad Sh (q_upI I l k v) := by
  refine q_map_set ?_ (fun j hj => by rw [q_E_other hj])
  have e : upd (I l) k v = q_upI I l k v l := funext fun b => by simp [upd, q_upI]
  rw [q_E_arr hK, if_pos ht, e]
theorem q_ws_astq {cA : Nat → ClassId} {ad : Nat → Nat} {Sh : q_Sh} {I : q_Mem} {l t n k : Nat} {v : Nat} (hK : Sh.2.1 l = .inr (t, n)) (ht : ¬ t < 3) :
    (q_ws cA ad Sh I).set l (ad l, .inl (cA t, n, .inr (.inr (.inr (.inr (va_up (fun j => (Sh.2.2 l j).map ad) k (some (ad v)))))))) = q_ws cA ad (Sh.1, Sh.2.1, q_upR Sh.2.2 l k (some v)) I := by
  refine q_map_set ?_ (fun j hj => by rw [q_E_otherR hj])
  have e : va_up (fun j => (Sh.2.2 l j).map ad) k (some (ad v)) = fun j => (q_upR Sh.2.2 l k (some v) l j).map ad := funext fun b => by
    by_cases hb : b = k
    · simp [va_up, q_upR, hb]
    · simp [va_up, q_upR, hb]
  rw [q_E_arr hK, if_neg ht, e]
/-! where a walk stands -/
abbrev q_Cx : Type := Program × Launch × Env × Room × State × MethodId × Array Value × List Frame × Method × Code × va_G × (Nat → ClassId) × (Nat → Prop) × (State → Prop) × (Nat × Nat) × Nat × (Nat → Nat)
abbrev q_p (Γ : q_Cx) := Γ.1
abbrev q_l (Γ : q_Cx) := Γ.2.1
abbrev q_e (Γ : q_Cx) := Γ.2.2.1
abbrev q_R (Γ : q_Cx) := Γ.2.2.2.1
abbrev q_s (Γ : q_Cx) := Γ.2.2.2.2.1
abbrev q_m (Γ : q_Cx) := Γ.2.2.2.2.2.1
abbrev q_args (Γ : q_Cx) := Γ.2.2.2.2.2.2.1
abbrev q_below (Γ : q_Cx) := Γ.2.2.2.2.2.2.2.1
abbrev q_meth (Γ : q_Cx) := Γ.2.2.2.2.2.2.2.2.1
abbrev q_c (Γ : q_Cx) := Γ.2.2.2.2.2.2.2.2.2.1
abbrev q_D (Γ : q_Cx) := Γ.2.2.2.2.2.2.2.2.2.2.1
abbrev q_cA (Γ : q_Cx) := Γ.2.2.2.2.2.2.2.2.2.2.2.1
abbrev q_A (Γ : q_Cx) := Γ.2.2.2.2.2.2.2.2.2.2.2.2.1
abbrev q_Q (Γ : q_Cx) := Γ.2.2.2.2.2.2.2.2.2.2.2.2.2.1
abbrev q_bud (Γ : q_Cx) := Γ.2.2.2.2.2.2.2.2.2.2.2.2.2.2.1
abbrev q_n0 (Γ : q_Cx) := Γ.2.2.2.2.2.2.2.2.2.2.2.2.2.2.2.1
abbrev q_ad0 (Γ : q_Cx) := Γ.2.2.2.2.2.2.2.2.2.2.2.2.2.2.2.2
/-- the addresses of what was there at the start stay; nothing made: all stay -/
def q_grow (n0 : Nat) (ad0 : Nat → Nat) (n : Nat) (ad : Nat → Nat) : Prop := n0 ≤ n ∧ (∀ l, l < n0 → ad l = ad0 l) ∧ (n = n0 → ad = ad0)
theorem q_grow_rf {n : Nat} {ad : Nat → Nat} : q_grow n ad n ad := ⟨Nat.le_refl _, fun _ _ => rfl, fun _ => rfl⟩
theorem q_grow_tr {n0 n1 n2 : Nat} {a0 a1 a2 : Nat → Nat} (h : q_grow n0 a0 n1 a1) (k : q_grow n1 a1 n2 a2) : q_grow n0 a0 n2 a2 :=
  ⟨Nat.le_trans h.1 k.1, fun l hl => (k.2.1 l (Nat.lt_of_lt_of_le hl h.1)).trans (h.2.1 l hl), fun e => by
    have e1 : n1 = n0 := Nat.le_antisymm (e ▸ k.1) h.1
    exact (k.2.2 (e.trans e1.symm)).trans (h.2.2 e1)⟩
def q_lvm (ad : Nat → Nat) (lv : List (Nat × Value)) : List (Nat × Value) := lv.map (fun q => (q.1, q_cv ad q.2))
def q_W (Γ : q_Cx) (Y : q_Mth) (rc rs : Nat) (Sh : q_Sh) (I : q_Mem) (pc : Nat) (lv : List (Nat × Value)) (st : List Value) : Prop :=
  ∀ (ad : Nat → Nat) (H : Heap) (locs : List Loc) (cells slots : Nat) (ls : Array Slot),
    cells + rc ≤ (q_bud Γ).1 → slots + rs ≤ (q_bud Γ).2 →
    va_P (q_D Γ) vwCl (q_ws (q_cA Γ) ad Sh I) H → va_D (q_A Γ) (q_ws (q_cA Γ) ad Sh I) → va_S (q_A Γ) (q_s Γ).heap H locs →
    q_grow (q_n0 Γ) (q_ad0 Γ) Sh.1 ad → lv_has ls Y.2.2.1 (q_lvm ad lv) →
    W (q_p Γ) (q_l Γ) (q_e Γ) (q_R Γ) (q_s Γ) (q_m Γ) (q_args Γ) (q_below Γ) (q_meth Γ) (q_c Γ) H locs cells slots (q_Q Γ) (F0 (q_m Γ) pc ls (st.map (q_cv ad)))
def q_Ok (Γ : q_Cx) (Y : q_Mth) (d : Nat) : Prop :=
  (q_p Γ).tables.exec = Jvm.exec ∧ (q_c Γ).code = Y.2.1 ∧ (q_c Γ).maxLocals = Y.2.2.1 ∧ (q_s Γ).vm.findClass Y.1.cls = some (q_m Γ).cls ∧ (∀ w ∈ q_WS, w.before (q_args Γ) (q_s Γ) = true) ∧
  (q_meth Γ).locks = false ∧ va_K (q_D Γ) vwCl (q_tys (q_cA Γ)) (q_s Γ) ∧ (∀ q : Nat, (q_s Γ).heap.size ≤ q → q_A Γ q) ∧ q_ext (q_s Γ) ∧ ((q_bud Γ).1 ≤ (q_R Γ).cells ∧ (q_bud Γ).2 ≤ (q_R Γ).slots) ∧
  (q_meth Γ).name = Y.1.name ∧ d ≤ (q_R Γ).frames ∧ 30 * d ≤ (q_R Γ).locals
/-- a method's end -/
def q_Qc (D : va_G) (cA : Nat → ClassId) (n0 : Nat) (ad0 : Nat → Nat) (K : Option Value → q_Sh → q_Mem → Prop) (A : Nat → Prop) : Array Value → State → Outcome → State → Prop := fun _ st oc t =>
  (∃ (v : Option Value) (Sh : q_Sh) (I : q_Mem) (ad : Nat → Nat), oc = .returned (v.map (q_cv ad)) ∧ K v Sh I ∧ q_grow n0 ad0 Sh.1 ad ∧ va_P D vwCl (q_ws cA ad Sh I) t.heap ∧ va_D A (q_ws cA ad Sh I)) ∧ va_F A st t
def q_rm (d mc ms : Nat) : Room := { frames := d, cells := mc, slots := ms, locals := 30 * d }
def q_Pc (D : va_G) (cA : Nat → ClassId) (ad : Nat → Nat) (sz : Nat) (args : List Value) (Sh : q_Sh) (I : q_Mem) : Array Value → State → Prop :=
  va_Pc (args.map (q_cv ad)) (fun U => U.heap.size = sz ∧ va_P D vwCl (q_ws cA ad Sh I) U.heap ∧ va_K D vwCl (q_tys cA) U ∧ va_D (fun _ => True) (q_ws cA ad Sh I) ∧ q_ext U)
/-- method Y, called with args in the memory (Sh, I), returns, and K holds of its answer and the memory then; at most d frames, mc cells, ms slots -/
def q_Call (Y : q_Mth) (d mc ms : Nat) (args : List Value) (Sh : q_Sh) (I : q_Mem) (K : Option Value → q_Sh → q_Mem → Prop) : Prop :=
  ∀ (l : Launch) (D : va_G) (cA : Nat → ClassId) (ad : Nat → Nat) (sz : Nat),
    Met l Y.1 (q_ws1 Y) (q_rm d mc ms) (q_Pc D cA ad sz args Sh I) (q_Qc D cA Sh.1 ad K (va_A (q_ws cA ad Sh I) sz)) mc ms (va_A (q_ws cA ad Sh I) sz)
def q_OkM (Γ : q_Cx) (Y : q_Mth) (d : Nat) (K : Option Value → q_Sh → q_Mem → Prop) : Prop :=
  q_Ok Γ Y d ∧ (q_meth Γ).sig.returnType = Y.2.2.2 ∧ q_Q Γ = MQ (q_below Γ) (q_Qc (q_D Γ) (q_cA Γ) (q_n0 Γ) (q_ad0 Γ) K (q_A Γ)) (q_args Γ) (q_s Γ) (q_bud Γ).1 (q_bud Γ).2 (q_A Γ)
theorem q_sl_len (ad : Nat → Nat) (vs : List Value) : (lg_sl (vs.map (q_cv ad))).length = (lg_sl vs).length := by
  induction vs with
  | nil => rfl
  | cons v t ih =>
    have hc : (q_cv ad v).category = v.category := by cases v <;> rfl
    simp only [lg_sl, List.map_cons, List.flatMap_cons, List.length_append] at ih ⊢
    rw [ih, hc]
    by_cases h : v.category = 2 <;> simp [h]
theorem q_cat (ad : Nat → Nat) (v : Value) : (q_cv ad v).category = v.category := by cases v <;> rfl
theorem q_args_map (ad : Nat → Nat) (vs : List Value) : ∀ i, lv_args i (vs.map (q_cv ad)) = q_lvm ad (lv_args i vs) := by
  induction vs with
  | nil => intro i; rfl
  | cons v t ih =>
    intro i
    simp only [List.map_cons, lv_args, q_lvm, q_cat] at ih ⊢
    rw [ih]
/-- a method's contract out of its walk -/
theorem q_call_of {Y : q_Mth} {d mc ms : Nat} {args : List Value} {Sh : q_Sh} {I : q_Mem} {K : Option Value → q_Sh → q_Mem → Prop} (hy : plainName Y.1.cls = true) (hn : (lg_sl args).length ≤ Y.2.2.1)
    (body : ∀ Γ : q_Cx, q_OkM Γ Y d K → q_W Γ Y mc ms Sh I 0 (lv_args 0 args) []) : q_Call Y d mc ms args Sh I K := by
  intro l D cA ad sz
  refine Met.ofW (cc := Y.2.1) (maxL := Y.2.2.1) (ret := Y.2.2.2) hy rfl ?_
  intro p e s m as below meth c s₁ B hml hv
  obtain ⟨rfl, hsz, hP, hK, hD0, hE⟩ := hv
  have hts0 := atoms_spec (ws := q_ws1 Y) B.pre
  have hown : s.vm.findClass Y.1.cls = some m.cls := findClass_of_methodNamed B.named
  have hin : meth.name = Y.1.name := (name_of_methodNamed B.named B.method).1
  subst hsz
  have hD := hD0.self (sz := s.heap.size)
  have h := body (p, l, e, q_rm d mc ms, s, m, (args.map (q_cv ad)).toArray, below, meth, c, D, cA, va_A (q_ws cA ad Sh I) s.heap.size, MQ below (q_Qc D cA Sh.1 ad K (va_A (q_ws cA ad Sh I) s.heap.size)) (args.map (q_cv ad)).toArray s mc ms (va_A (q_ws cA ad Sh I) s.heap.size), (mc, ms), Sh.1, ad)
    ⟨⟨B.exec, B.bytes, hml, hown, fun w hw => hts0 w (List.mem_cons_of_mem _ hw), B.notSynchronized, hK, fun q hq => Or.inr hq, hE, ⟨Nat.le_refl _, Nat.le_refl _⟩, hin, Nat.le_refl _, Nat.le_refl _⟩, B.returns, rfl⟩
  have hl := lv_entry (args.map (q_cv ad)) (n := Y.2.2.1) (by rw [q_sl_len]; exact hn)
  rw [lg_entry_eq]
  rw [q_args_map] at hl
  exact h ad s.heap [] 0 0 _ (by simp) (by simp) hP hD va_S.rf q_grow_rf hl
theorem q_call_mono {Y : q_Mth} {d mc ms : Nat} {args : List Value} {Sh : q_Sh} {I : q_Mem} {K K' : Option Value → q_Sh → q_Mem → Prop} (h : q_Call Y d mc ms args Sh I K) (hk : ∀ v Sh' I', K v Sh' I' → K' v Sh' I') : q_Call Y d mc ms args Sh I K' := by
  intro l D cA ad sz p e ha hc hk2 s m as below hf happ hp ht
  obtain ⟨k, o, h1, h2, h3, h4⟩ := h l D cA ad sz p e ha hc hk2 s m as below hf happ hp ht
  refine ⟨k, o, h1, h2, h3, ?_⟩
  obtain ⟨⟨⟨v, Sh', I', ad', g1, g2, g3⟩, g4⟩, g5⟩ := h4
  exact ⟨⟨⟨v, Sh', I', ad', g1, hk _ _ _ g2, g3⟩, g4⟩, g5⟩

section QROWS
variable {K0 : Option Value → q_Sh → q_Mem → Prop} {Γ : q_Cx} {Y : q_Mth} {d rc rs : Nat} {Sh : q_Sh} {I : q_Mem} {pc : Nat} {lv : List (Nat × Value)} {st : List Value}
/-! locals: looked up and set by computing -/
def q_lk : List (Nat × Value) → Nat → Option Value
  | [], _ => none
  | (j, v) :: t, i => bif Nat.beq j i then some v else q_lk t i
def q_rm1 : List (Nat × Value) → Nat → List (Nat × Value)
  | [], _ => []
  | (j, v) :: t, i => bif Nat.beq j i then q_rm1 t i else (j, v) :: q_rm1 t i
def q_set (lv : List (Nat × Value)) (i : Nat) (v : Value) : List (Nat × Value) := (i, v) :: q_rm1 lv i
theorem q_lk_mem {lv : List (Nat × Value)} {i : Nat} {v : Value} (h : q_lk lv i = some v) : (i, v) ∈ lv := by
  induction lv with
  | nil => cases h
  | cons a t ih =>
    obtain ⟨j, w⟩ := a
    unfold q_lk at h
    cases hb : Nat.beq j i with
    | true =>
      rw [hb] at h
      have e : j = i := Nat.eq_of_beq_eq_true hb
      subst e
      cases h
      exact List.mem_cons_self
    | false =>
      rw [hb] at h
      exact List.mem_cons_of_mem _ (ih h)
theorem q_lk_at {ad : Nat → Nat} {ls : Array Slot} {nL : Nat} {lv : List (Nat × Value)} {i : Nat} {v : Value} (hl : lv_has ls nL (q_lvm ad lv)) (h : q_lk lv i = some v) : ls[i]? = some (.val (q_cv ad v)) :=
  hl.2.2 (i, q_cv ad v) (List.mem_map.mpr ⟨(i, v), q_lk_mem h, rfl⟩)
theorem q_rm1_mem {lv : List (Nat × Value)} {i : Nat} {q : Nat × Value} (h : q ∈ q_rm1 lv i) : q ∈ lv ∧ q.1 ≠ i := by
  induction lv with
  | nil => cases h
  | cons a t ih =>
    obtain ⟨j, w⟩ := a
    unfold q_rm1 at h
    cases hb : Nat.beq j i with
    | true =>
      rw [hb] at h
      exact ⟨List.mem_cons_of_mem _ (ih h).1, (ih h).2⟩
    | false =>
      rw [hb] at h
      rcases List.mem_cons.mp h with e | h
      · subst e
        exact ⟨List.mem_cons_self, fun e => by simp at e; subst e; simp at hb⟩
      · exact ⟨List.mem_cons_of_mem _ (ih h).1, (ih h).2⟩
/-- no long stands at the place in front -/
def q_fr (lv : List (Nat × Value)) (i : Nat) : Bool := lv.all (fun q => !(Nat.beq (q.1 + 1) i && Nat.beq q.2.category 2))
theorem q_has_set {ad : Nat → Nat} {ls : Array Slot} {nL : Nat} {lv : List (Nat × Value)} {i : Nat} {v : Value} (h : lv_has ls nL ((i, q_cv ad v) :: (q_lvm ad lv).filter (fun q => !(q.1 == i) && !(q.1 + 1 == i && q.2.category == 2)))) (hf : q_fr lv i = true) : lv_has ls nL (q_lvm ad (q_set lv i v)) := by
  refine ⟨h.1, h.2.1, fun q hq => h.2.2 q ?_⟩
  obtain ⟨r, hr, rfl⟩ := List.mem_map.mp hq
  rcases List.mem_cons.mp hr with rfl | hr
  · exact List.mem_cons_self
  · obtain ⟨h1, h2⟩ := q_rm1_mem hr
    refine List.mem_cons_of_mem _ (List.mem_filter.mpr ⟨List.mem_map.mpr ⟨r, h1, rfl⟩, ?_⟩)
    have h3 := List.all_eq_true.mp hf r h1
    simp only [q_cat]
    simp only [Bool.not_eq_true', Bool.and_eq_false_iff] at h3
    have e1 : (r.1 == i) = false := by simpa using h2
    rw [e1]
    rcases h3 with h3 | h3
    · have : (r.1 + 1 == i) = false := by
        cases hx : (r.1 + 1 == i) with
        | false => rfl
        | true =>
          have e := eq_of_beq hx
          rw [e] at h3
          simp at h3
      rw [this]; rfl
    · have : (r.2.category == 2) = false := by
        cases hx : (r.2.category == 2) with
        | false => rfl
        | true =>
          have e := eq_of_beq hx
          rw [e] at h3
          simp at h3
      rw [this]; simp
theorem q_lv_exact {ad : Nat → Nat} {ls : Array Slot} {nL : Nat} {lv : List (Nat × Value)} (h : lv_has ls nL (q_lvm ad lv)) : ls.size = nL := h.1
/-! the same place: other locals by computing, other memory by an equality -/
theorem q_lvto {lv' : List (Nat × Value)} (h : lv'.all (fun q => (q_lk lv q.1).isSome) = true) (he : ∀ q ∈ lv', q_lk lv q.1 = some q.2) (k : q_W Γ Y rc rs Sh I pc lv' st) : q_W Γ Y rc rs Sh I pc lv st := by
  intro ad H locs cells slots ls h1 h2 hP hD hS hn hl
  refine k ad H locs cells slots ls h1 h2 hP hD hS hn ⟨hl.1, hl.2.1, fun q hq => ?_⟩
  obtain ⟨r, hr, rfl⟩ := List.mem_map.mp hq
  exact q_lk_at hl (he r hr)

theorem q_iconst (B : q_Ok Γ Y d) {n : Int} {v : Int32} (hd : decode Y.2.1 pc = .ok (.iconst n, 1)) (hv : Int32.ofInt n = v) (k : q_W Γ Y rc rs Sh I (pc + 1) lv (.int v :: st)) : q_W Γ Y rc rs Sh I pc lv (st) := by
  intro ad H locs cells slots ls h1 h2 hP hD hS hn hl
  exact lv_iconst B.1 B.2.1 hd hv (k ad H locs cells slots ls h1 h2 hP hD hS hn hl)
theorem q_bipush (B : q_Ok Γ Y d) {n : Int} {v : Int32} (hd : decode Y.2.1 pc = .ok (.bipush n, 2)) (hv : (Int8.ofInt n).toInt32 = v) (k : q_W Γ Y rc rs Sh I (pc + 2) lv (.int v :: st)) : q_W Γ Y rc rs Sh I pc lv (st) := by
  intro ad H locs cells slots ls h1 h2 hP hD hS hn hl
  exact lv_bipush B.1 B.2.1 hd hv (k ad H locs cells slots ls h1 h2 hP hD hS hn hl)
theorem q_sipush (B : q_Ok Γ Y d) {n : Int} {v : Int32} (hd : decode Y.2.1 pc = .ok (.sipush n, 3)) (hv : (Int16.ofInt n).toInt32 = v) (k : q_W Γ Y rc rs Sh I (pc + 3) lv (.int v :: st)) : q_W Γ Y rc rs Sh I pc lv (st) := by
  intro ad H locs cells slots ls h1 h2 hP hD hS hn hl
  exact lv_sipush B.1 B.2.1 hd hv (k ad H locs cells slots ls h1 h2 hP hD hS hn hl)
theorem q_lconst (B : q_Ok Γ Y d) {n : Fin 2} {v : Int64} (hd : decode Y.2.1 pc = .ok (.lconst n, 1)) (hv : Int64.ofNat (n : Nat) = v) (k : q_W Γ Y rc rs Sh I (pc + 1) lv (.long v :: st)) : q_W Γ Y rc rs Sh I pc lv (st) := by
  intro ad H locs cells slots ls h1 h2 hP hD hS hn hl
  exact lv_lconst B.1 B.2.1 hd hv (k ad H locs cells slots ls h1 h2 hP hD hS hn hl)
theorem q_null (B : q_Ok Γ Y d) (hd : decode Y.2.1 pc = .ok (.aconst_null, 1)) (k : q_W Γ Y rc rs Sh I (pc + 1) lv (.null :: st)) : q_W Γ Y rc rs Sh I pc lv (st) := by
  intro ad H locs cells slots ls h1 h2 hP hD hS hn hl
  exact lv_null B.1 B.2.1 hd (k ad H locs cells slots ls h1 h2 hP hD hS hn hl)
theorem q_iload_n (B : q_Ok Γ Y d) {j : Fin 4} {i : Nat} {x : Int32} (hd : decode Y.2.1 pc = .ok (.iload_n j, 1)) (hi : (j : Nat) = i) (hx : q_lk lv i = some (.int x)) (k : q_W Γ Y rc rs Sh I (pc + 1) lv (.int x :: st)) : q_W Γ Y rc rs Sh I pc lv (st) := by
  intro ad H locs cells slots ls h1 h2 hP hD hS hn hl
  exact lv_iload_n B.1 B.2.1 hd hi (q_lk_at hl hx) (k ad H locs cells slots ls h1 h2 hP hD hS hn hl)
theorem q_iload (B : q_Ok Γ Y d) {i : Nat} {x : Int32} (hd : decode Y.2.1 pc = .ok (.iload i, 2)) (hx : q_lk lv i = some (.int x)) (k : q_W Γ Y rc rs Sh I (pc + 2) lv (.int x :: st)) : q_W Γ Y rc rs Sh I pc lv (st) := by
  intro ad H locs cells slots ls h1 h2 hP hD hS hn hl
  exact lv_iload B.1 B.2.1 hd (q_lk_at hl hx) (k ad H locs cells slots ls h1 h2 hP hD hS hn hl)
theorem q_lload_n (B : q_Ok Γ Y d) {j : Fin 4} {i : Nat} {x : Int64} (hd : decode Y.2.1 pc = .ok (.lload_n j, 1)) (hi : (j : Nat) = i) (hx : q_lk lv i = some (.long x)) (k : q_W Γ Y rc rs Sh I (pc + 1) lv (.long x :: st)) : q_W Γ Y rc rs Sh I pc lv (st) := by
  intro ad H locs cells slots ls h1 h2 hP hD hS hn hl
  exact lv_lload_n B.1 B.2.1 hd hi (q_lk_at hl hx) (k ad H locs cells slots ls h1 h2 hP hD hS hn hl)
theorem q_lload (B : q_Ok Γ Y d) {i : Nat} {x : Int64} (hd : decode Y.2.1 pc = .ok (.lload i, 2)) (hx : q_lk lv i = some (.long x)) (k : q_W Γ Y rc rs Sh I (pc + 2) lv (.long x :: st)) : q_W Γ Y rc rs Sh I pc lv (st) := by
  intro ad H locs cells slots ls h1 h2 hP hD hS hn hl
  exact lv_lload B.1 B.2.1 hd (q_lk_at hl hx) (k ad H locs cells slots ls h1 h2 hP hD hS hn hl)
theorem q_aload_n (B : q_Ok Γ Y d) {j : Fin 4} {i : Nat} {x : Nat} (hd : decode Y.2.1 pc = .ok (.aload_n j, 1)) (hi : (j : Nat) = i) (hx : q_lk lv i = some (.ref x)) (k : q_W Γ Y rc rs Sh I (pc + 1) lv (.ref x :: st)) : q_W Γ Y rc rs Sh I pc lv (st) := by
  intro ad H locs cells slots ls h1 h2 hP hD hS hn hl
  exact lv_aload_n B.1 B.2.1 hd hi (q_lk_at hl hx) (k ad H locs cells slots ls h1 h2 hP hD hS hn hl)
theorem q_aload (B : q_Ok Γ Y d) {i : Nat} {x : Nat} (hd : decode Y.2.1 pc = .ok (.aload i, 2)) (hx : q_lk lv i = some (.ref x)) (k : q_W Γ Y rc rs Sh I (pc + 2) lv (.ref x :: st)) : q_W Γ Y rc rs Sh I pc lv (st) := by
  intro ad H locs cells slots ls h1 h2 hP hD hS hn hl
  exact lv_aload B.1 B.2.1 hd (q_lk_at hl hx) (k ad H locs cells slots ls h1 h2 hP hD hS hn hl)
theorem q_aloadN_n (B : q_Ok Γ Y d) {j : Fin 4} {i : Nat} (hd : decode Y.2.1 pc = .ok (.aload_n j, 1)) (hi : (j : Nat) = i) (hx : q_lk lv i = some .null) (k : q_W Γ Y rc rs Sh I (pc + 1) lv (.null :: st)) : q_W Γ Y rc rs Sh I pc lv st := by
  subst hi
  intro ad H locs cells slots ls h1 h2 hP hD hS hn hl
  have hg := q_lk_at hl hx
  have k2 := (k ad H locs cells slots ls h1 h2 hP hD hS hn hl)
  intro T hT X
  obtain ⟨t, a, b⟩ := k2 T hT X
  refine ⟨t, ?_, b⟩
  have hb := B.2.1
  have hexec := B.1
  simp only [q_cv] at hg
  jvm_step X.here [X.here.top, hexec, hb, hd, hg]
  exact ⟨rfl, a⟩
theorem q_aloadN (B : q_Ok Γ Y d) {i : Nat} (hd : decode Y.2.1 pc = .ok (.aload i, 2)) (hx : q_lk lv i = some .null) (k : q_W Γ Y rc rs Sh I (pc + 2) lv (.null :: st)) : q_W Γ Y rc rs Sh I pc lv st := by
  intro ad H locs cells slots ls h1 h2 hP hD hS hn hl
  have hg := q_lk_at hl hx
  have k2 := (k ad H locs cells slots ls h1 h2 hP hD hS hn hl)
  intro T hT X
  obtain ⟨t, a, b⟩ := k2 T hT X
  refine ⟨t, ?_, b⟩
  have hb := B.2.1
  have hexec := B.1
  simp only [q_cv] at hg
  jvm_step X.here [X.here.top, hexec, hb, hd, hg]
  exact ⟨rfl, a⟩
theorem q_iadd (B : q_Ok Γ Y d) {x y : Int32} (hd : decode Y.2.1 pc = .ok (.iadd, 1)) (k : q_W Γ Y rc rs Sh I (pc + 1) lv (.int (x + y) :: st)) : q_W Γ Y rc rs Sh I pc lv (.int y :: .int x :: st) := by
  intro ad H locs cells slots ls h1 h2 hP hD hS hn hl
  exact lv_iadd B.1 B.2.1 hd (k ad H locs cells slots ls h1 h2 hP hD hS hn hl)
theorem q_isub (B : q_Ok Γ Y d) {x y : Int32} (hd : decode Y.2.1 pc = .ok (.isub, 1)) (k : q_W Γ Y rc rs Sh I (pc + 1) lv (.int (x - y) :: st)) : q_W Γ Y rc rs Sh I pc lv (.int y :: .int x :: st) := by
  intro ad H locs cells slots ls h1 h2 hP hD hS hn hl
  exact lv_isub B.1 B.2.1 hd (k ad H locs cells slots ls h1 h2 hP hD hS hn hl)
theorem q_imul (B : q_Ok Γ Y d) {x y : Int32} (hd : decode Y.2.1 pc = .ok (.imul, 1)) (k : q_W Γ Y rc rs Sh I (pc + 1) lv (.int (x * y) :: st)) : q_W Γ Y rc rs Sh I pc lv (.int y :: .int x :: st) := by
  intro ad H locs cells slots ls h1 h2 hP hD hS hn hl
  exact lv_imul B.1 B.2.1 hd (k ad H locs cells slots ls h1 h2 hP hD hS hn hl)
theorem q_iand (B : q_Ok Γ Y d) {x y : Int32} (hd : decode Y.2.1 pc = .ok (.iand, 1)) (k : q_W Γ Y rc rs Sh I (pc + 1) lv (.int (x &&& y) :: st)) : q_W Γ Y rc rs Sh I pc lv (.int y :: .int x :: st) := by
  intro ad H locs cells slots ls h1 h2 hP hD hS hn hl
  exact lv_iand B.1 B.2.1 hd (k ad H locs cells slots ls h1 h2 hP hD hS hn hl)
theorem q_ior (B : q_Ok Γ Y d) {x y : Int32} (hd : decode Y.2.1 pc = .ok (.ior, 1)) (k : q_W Γ Y rc rs Sh I (pc + 1) lv (.int (x ||| y) :: st)) : q_W Γ Y rc rs Sh I pc lv (.int y :: .int x :: st) := by
  intro ad H locs cells slots ls h1 h2 hP hD hS hn hl
  exact lv_ior B.1 B.2.1 hd (k ad H locs cells slots ls h1 h2 hP hD hS hn hl)
theorem q_ixor (B : q_Ok Γ Y d) {x y : Int32} (hd : decode Y.2.1 pc = .ok (.ixor, 1)) (k : q_W Γ Y rc rs Sh I (pc + 1) lv (.int (x ^^^ y) :: st)) : q_W Γ Y rc rs Sh I pc lv (.int y :: .int x :: st) := by
  intro ad H locs cells slots ls h1 h2 hP hD hS hn hl
  exact lv_ixor B.1 B.2.1 hd (k ad H locs cells slots ls h1 h2 hP hD hS hn hl)
theorem q_land (B : q_Ok Γ Y d) {x y : Int64} (hd : decode Y.2.1 pc = .ok (.land, 1)) (k : q_W Γ Y rc rs Sh I (pc + 1) lv (.long (x &&& y) :: st)) : q_W Γ Y rc rs Sh I pc lv (.long y :: .long x :: st) := by
  intro ad H locs cells slots ls h1 h2 hP hD hS hn hl
  exact lv_land B.1 B.2.1 hd (k ad H locs cells slots ls h1 h2 hP hD hS hn hl)
theorem q_lor (B : q_Ok Γ Y d) {x y : Int64} (hd : decode Y.2.1 pc = .ok (.lor, 1)) (k : q_W Γ Y rc rs Sh I (pc + 1) lv (.long (x ||| y) :: st)) : q_W Γ Y rc rs Sh I pc lv (.long y :: .long x :: st) := by
  intro ad H locs cells slots ls h1 h2 hP hD hS hn hl
  exact lv_lor B.1 B.2.1 hd (k ad H locs cells slots ls h1 h2 hP hD hS hn hl)
theorem q_irem (B : q_Ok Γ Y d) {x y : Int32} (hd : decode Y.2.1 pc = .ok (.irem, 1)) (hne : ¬ y = 0) (k : q_W Γ Y rc rs Sh I (pc + 1) lv (.int (x - x / y * y) :: st)) : q_W Γ Y rc rs Sh I pc lv (.int y :: .int x :: st) := by
  intro ad H locs cells slots ls h1 h2 hP hD hS hn hl
  exact lv_irem B.1 B.2.1 hd hne (k ad H locs cells slots ls h1 h2 hP hD hS hn hl)
theorem q_ishl (B : q_Ok Γ Y d) {x y : Int32} (hd : decode Y.2.1 pc = .ok (.ishl, 1)) (k : q_W Γ Y rc rs Sh I (pc + 1) lv (.int (x <<< (y &&& 31)) :: st)) : q_W Γ Y rc rs Sh I pc lv (.int y :: .int x :: st) := by
  intro ad H locs cells slots ls h1 h2 hP hD hS hn hl
  exact lv_ishl B.1 B.2.1 hd (k ad H locs cells slots ls h1 h2 hP hD hS hn hl)
theorem q_ishr (B : q_Ok Γ Y d) {x y : Int32} (hd : decode Y.2.1 pc = .ok (.ishr, 1)) (k : q_W Γ Y rc rs Sh I (pc + 1) lv (.int (x >>> (y &&& 31)) :: st)) : q_W Γ Y rc rs Sh I pc lv (.int y :: .int x :: st) := by
  intro ad H locs cells slots ls h1 h2 hP hD hS hn hl
  exact lv_ishr B.1 B.2.1 hd (k ad H locs cells slots ls h1 h2 hP hD hS hn hl)
theorem q_lshl (B : q_Ok Γ Y d) {x : Int64} {y : Int32} (hd : decode Y.2.1 pc = .ok (.lshl, 1)) (k : q_W Γ Y rc rs Sh I (pc + 1) lv (.long (x <<< (y.toInt64 &&& 63)) :: st)) : q_W Γ Y rc rs Sh I pc lv (.int y :: .long x :: st) := by
  intro ad H locs cells slots ls h1 h2 hP hD hS hn hl
  exact lv_lshl B.1 B.2.1 hd rfl (k ad H locs cells slots ls h1 h2 hP hD hS hn hl)
theorem q_lushr (B : q_Ok Γ Y d) {x : Int64} {y : Int32} (hd : decode Y.2.1 pc = .ok (.lushr, 1)) (k : q_W Γ Y rc rs Sh I (pc + 1) lv (.long ((x.toUInt64 >>> (y.toInt64.toUInt64 &&& Int64.toUInt64 63)).toInt64) :: st)) : q_W Γ Y rc rs Sh I pc lv (.int y :: .long x :: st) := by
  intro ad H locs cells slots ls h1 h2 hP hD hS hn hl
  exact lv_lushr B.1 B.2.1 hd rfl (k ad H locs cells slots ls h1 h2 hP hD hS hn hl)
theorem q_i2l (B : q_Ok Γ Y d) {x : Int32} (hd : decode Y.2.1 pc = .ok (.i2l, 1)) (k : q_W Γ Y rc rs Sh I (pc + 1) lv (.long x.toInt64 :: st)) : q_W Γ Y rc rs Sh I pc lv (.int x :: st) := by
  intro ad H locs cells slots ls h1 h2 hP hD hS hn hl
  exact lv_i2l B.1 B.2.1 hd rfl (k ad H locs cells slots ls h1 h2 hP hD hS hn hl)
theorem q_l2i (B : q_Ok Γ Y d) {x : Int64} (hd : decode Y.2.1 pc = .ok (.l2i, 1)) (k : q_W Γ Y rc rs Sh I (pc + 1) lv (.int x.toInt32 :: st)) : q_W Γ Y rc rs Sh I pc lv (.long x :: st) := by
  intro ad H locs cells slots ls h1 h2 hP hD hS hn hl
  exact lv_l2i B.1 B.2.1 hd rfl (k ad H locs cells slots ls h1 h2 hP hD hS hn hl)
theorem q_i2c (B : q_Ok Γ Y d) {x : Int32} (hd : decode Y.2.1 pc = .ok (.i2c, 1)) (k : q_W Γ Y rc rs Sh I (pc + 1) lv (.int ((x.toUInt32 % 65536).toInt32) :: st)) : q_W Γ Y rc rs Sh I pc lv (.int x :: st) := by
  intro ad H locs cells slots ls h1 h2 hP hD hS hn hl
  exact lv_i2c B.1 B.2.1 hd rfl (k ad H locs cells slots ls h1 h2 hP hD hS hn hl)
theorem q_lcmp (B : q_Ok Γ Y d) {x y : Int64} (hd : decode Y.2.1 pc = .ok (.lcmp, 1)) (k : q_W Γ Y rc rs Sh I (pc + 1) lv (.int (lg_cmp x y) :: st)) : q_W Γ Y rc rs Sh I pc lv (.long y :: .long x :: st) := by
  intro ad H locs cells slots ls h1 h2 hP hD hS hn hl
  exact W.lcmp B.1 B.2.1 hd (k ad H locs cells slots ls h1 h2 hP hD hS hn hl)
theorem q_dup (B : q_Ok Γ Y d) {va : Value} (hd : decode Y.2.1 pc = .ok (.dup, 1)) (hv : va.category = 1) (k : q_W Γ Y rc rs Sh I (pc + 1) lv (va :: va :: st)) : q_W Γ Y rc rs Sh I pc lv (va :: st) := by
  intro ad H locs cells slots ls h1 h2 hP hD hS hn hl
  exact lv_dup B.1 B.2.1 hd ((q_cat ad va).trans hv) (k ad H locs cells slots ls h1 h2 hP hD hS hn hl)
theorem q_dup2 (B : q_Ok Γ Y d) {va vb : Value} (hd : decode Y.2.1 pc = .ok (.dup2, 1)) (hv : va.category = 1) (hw : vb.category = 1) (k : q_W Γ Y rc rs Sh I (pc + 1) lv (va :: vb :: va :: vb :: st)) : q_W Γ Y rc rs Sh I pc lv (va :: vb :: st) := by
  intro ad H locs cells slots ls h1 h2 hP hD hS hn hl
  exact lv_dup2_11 B.1 B.2.1 hd ((q_cat ad va).trans hv) ((q_cat ad vb).trans hw) (k ad H locs cells slots ls h1 h2 hP hD hS hn hl)
theorem q_pop (B : q_Ok Γ Y d) {va : Value} (hd : decode Y.2.1 pc = .ok (.pop, 1)) (hv : va.category = 1) (k : q_W Γ Y rc rs Sh I (pc + 1) lv (st)) : q_W Γ Y rc rs Sh I pc lv (va :: st) := by
  intro ad H locs cells slots ls h1 h2 hP hD hS hn hl
  exact lv_pop B.1 B.2.1 hd ((q_cat ad va).trans hv) (k ad H locs cells slots ls h1 h2 hP hD hS hn hl)
theorem q_goto (B : q_Ok Γ Y d) {off : Int} {tgt : Nat} (hd : decode Y.2.1 pc = .ok (.goto off, 3)) (ht : (pc : Int) + off = (tgt : Int)) (k : q_W Γ Y rc rs Sh I (tgt) lv (st)) : q_W Γ Y rc rs Sh I pc lv (st) := by
  intro ad H locs cells slots ls h1 h2 hP hD hS hn hl
  exact lv_goto B.1 B.2.1 hd ht (k ad H locs cells slots ls h1 h2 hP hD hS hn hl)
theorem q_lk_ne {lv : List (Nat × Value)} {i : Nat} {v : Value} (h : (i, v) ∈ lv) : ¬ q_lk lv i = none := by
  induction lv with
  | nil => cases h
  | cons a t ih =>
    obtain ⟨j, w⟩ := a
    intro q
    unfold q_lk at q
    cases hb : Nat.beq j i with
    | true => rw [hb] at q; cases q
    | false =>
      rw [hb] at q
      rcases List.mem_cons.mp h with e | h
      · cases e; simp at hb
      · exact ih h q
theorem q_istore_n (B : q_Ok Γ Y d) {j : Fin 4} {i : Nat} {x : Int32} (hd : decode Y.2.1 pc = .ok (.istore_n j, 1)) (hi : (j : Nat) = i) (hn : i < Y.2.2.1) (hf : q_fr lv i = true) (k : q_W Γ Y rc rs Sh I (pc + 1) (q_set lv i (.int x)) st) : q_W Γ Y rc rs Sh I pc lv (.int x :: st) := by
  intro ad H locs cells slots ls h1 h2 hP hD hS hn0 hl
  exact lv_istore_n B.1 B.2.1 hd hi hl hn rfl (fun ls2 hl2 => k ad H locs cells slots ls2 h1 h2 hP hD hS hn0 (q_has_set hl2 hf))
theorem q_istore (B : q_Ok Γ Y d) {i : Nat} {x : Int32} (hd : decode Y.2.1 pc = .ok (.istore i, 2)) (hn : i < Y.2.2.1) (hf : q_fr lv i = true) (k : q_W Γ Y rc rs Sh I (pc + 2) (q_set lv i (.int x)) st) : q_W Γ Y rc rs Sh I pc lv (.int x :: st) := by
  intro ad H locs cells slots ls h1 h2 hP hD hS hn0 hl
  exact lv_istore B.1 B.2.1 hd  hl hn rfl (fun ls2 hl2 => k ad H locs cells slots ls2 h1 h2 hP hD hS hn0 (q_has_set hl2 hf))
theorem q_astore_n (B : q_Ok Γ Y d) {j : Fin 4} {i : Nat} {x : Nat} (hd : decode Y.2.1 pc = .ok (.astore_n j, 1)) (hi : (j : Nat) = i) (hn : i < Y.2.2.1) (hf : q_fr lv i = true) (k : q_W Γ Y rc rs Sh I (pc + 1) (q_set lv i (.ref x)) st) : q_W Γ Y rc rs Sh I pc lv (.ref x :: st) := by
  intro ad H locs cells slots ls h1 h2 hP hD hS hn0 hl
  exact lv_astore_n B.1 B.2.1 hd hi hl hn rfl (fun ls2 hl2 => k ad H locs cells slots ls2 h1 h2 hP hD hS hn0 (q_has_set hl2 hf))
theorem q_astore (B : q_Ok Γ Y d) {i : Nat} {x : Nat} (hd : decode Y.2.1 pc = .ok (.astore i, 2)) (hn : i < Y.2.2.1) (hf : q_fr lv i = true) (k : q_W Γ Y rc rs Sh I (pc + 2) (q_set lv i (.ref x)) st) : q_W Γ Y rc rs Sh I pc lv (.ref x :: st) := by
  intro ad H locs cells slots ls h1 h2 hP hD hS hn0 hl
  exact lv_astore B.1 B.2.1 hd  hl hn rfl (fun ls2 hl2 => k ad H locs cells slots ls2 h1 h2 hP hD hS hn0 (q_has_set hl2 hf))
theorem q_astoreN_n (B : q_Ok Γ Y d) {j : Fin 4} {i : Nat} (hd : decode Y.2.1 pc = .ok (.astore_n j, 1)) (hi : (j : Nat) = i) (hn : i < Y.2.2.1) (hf : q_fr lv i = true) (k : q_W Γ Y rc rs Sh I (pc + 1) (q_set lv i .null) st) : q_W Γ Y rc rs Sh I pc lv (.null :: st) := by
  subst hi
  intro ad H locs cells slots ls h1 h2 hP hD hS hn0 hl
  have hb := B.2.1
  have hexec := B.1
  obtain ⟨ls2, e', h'⟩ := lv_store1 (v := .null) hl hn rfl
  have k2 := k ad H locs cells slots ls2 h1 h2 hP hD hS hn0 (q_has_set h' hf)
  intro T hT X
  obtain ⟨t, a, b⟩ := k2 T hT X
  refine ⟨t, ?_, b⟩
  jvm_step X.here [X.here.top, ↓top_set X.here.top, hexec, hb, hd, e', q_cv]
  exact ⟨rfl, a⟩
theorem q_astoreN (B : q_Ok Γ Y d) {i : Nat} (hd : decode Y.2.1 pc = .ok (.astore i, 2)) (hn : i < Y.2.2.1) (hf : q_fr lv i = true) (k : q_W Γ Y rc rs Sh I (pc + 2) (q_set lv i .null) st) : q_W Γ Y rc rs Sh I pc lv (.null :: st) := by
  intro ad H locs cells slots ls h1 h2 hP hD hS hn0 hl
  have hb := B.2.1
  have hexec := B.1
  obtain ⟨ls2, e', h'⟩ := lv_store1 (v := .null) hl hn rfl
  have k2 := k ad H locs cells slots ls2 h1 h2 hP hD hS hn0 (q_has_set h' hf)
  intro T hT X
  obtain ⟨t, a, b⟩ := k2 T hT X
  refine ⟨t, ?_, b⟩
  jvm_step X.here [X.here.top, ↓top_set X.here.top, hexec, hb, hd, e', q_cv]
  exact ⟨rfl, a⟩
theorem q_lstore_n (B : q_Ok Γ Y d) {j : Fin 4} {i : Nat} {x : Int64} (hd : decode Y.2.1 pc = .ok (.lstore_n j, 1)) (hi : (j : Nat) = i) (hn : i + 1 < Y.2.2.1) (hf : q_fr lv i = true) (hf2 : q_lk lv (i + 1) = none) (k : q_W Γ Y rc rs Sh I (pc + 1) (q_set lv i (.long x)) st) : q_W Γ Y rc rs Sh I pc lv (.long x :: st) := by
  intro ad H locs cells slots ls h1 h2 hP hD hS hn0 hl
  exact lv_lstore_n B.1 B.2.1 hd hi hl hn rfl (fun ls2 hl2 => k ad H locs cells slots ls2 h1 h2 hP hD hS hn0 (q_has_set ⟨hl2.1, hl2.2.1, fun q hq => hl2.2.2 q (by
    rcases List.mem_cons.mp hq with rfl | hq
    · exact List.mem_cons_self
    · obtain ⟨m1, m2⟩ := List.mem_filter.mp hq
      refine List.mem_cons_of_mem _ (List.mem_filter.mpr ⟨m1, ?_⟩)
      obtain ⟨r, hr, rfl⟩ := List.mem_map.mp m1
      have e : (r.1 == i + 1) = false := by
        cases hx : (r.1 == i + 1) with
        | false => rfl
        | true => exact absurd hf2 (q_lk_ne (v := r.2) (by have e := eq_of_beq hx; rw [← e]; exact hr))
      simp only [Bool.and_eq_true] at m2
      simp [e, m2.1, m2.2])⟩ hf))
theorem q_lstore (B : q_Ok Γ Y d) {i : Nat} {x : Int64} (hd : decode Y.2.1 pc = .ok (.lstore i, 2)) (hn : i + 1 < Y.2.2.1) (hf : q_fr lv i = true) (hf2 : q_lk lv (i + 1) = none) (k : q_W Γ Y rc rs Sh I (pc + 2) (q_set lv i (.long x)) st) : q_W Γ Y rc rs Sh I pc lv (.long x :: st) := by
  intro ad H locs cells slots ls h1 h2 hP hD hS hn0 hl
  exact lv_lstore B.1 B.2.1 hd  hl hn rfl (fun ls2 hl2 => k ad H locs cells slots ls2 h1 h2 hP hD hS hn0 (q_has_set ⟨hl2.1, hl2.2.1, fun q hq => hl2.2.2 q (by
    rcases List.mem_cons.mp hq with rfl | hq
    · exact List.mem_cons_self
    · obtain ⟨m1, m2⟩ := List.mem_filter.mp hq
      refine List.mem_cons_of_mem _ (List.mem_filter.mpr ⟨m1, ?_⟩)
      obtain ⟨r, hr, rfl⟩ := List.mem_map.mp m1
      have e : (r.1 == i + 1) = false := by
        cases hx : (r.1 == i + 1) with
        | false => rfl
        | true => exact absurd hf2 (q_lk_ne (v := r.2) (by have e := eq_of_beq hx; rw [← e]; exact hr))
      simp only [Bool.and_eq_true] at m2
      simp [e, m2.1, m2.2])⟩ hf))
theorem q_iinc (B : q_Ok Γ Y d) {i : Nat} {n : Int} {x : Int32} (hd : decode Y.2.1 pc = .ok (.iinc i n, 3)) (hx : q_lk lv i = some (.int x)) (hn : i < Y.2.2.1) (hf : q_fr lv i = true) (k : q_W Γ Y rc rs Sh I (pc + 3) (q_set lv i (.int (x + Int32.ofInt n))) st) : q_W Γ Y rc rs Sh I pc lv st := by
  intro ad H locs cells slots ls h1 h2 hP hD hS hn0 hl
  obtain ⟨m, hm⟩ := List.getElem?_of_mem (List.mem_map.mpr ⟨_, q_lk_mem hx, rfl⟩ : (i, q_cv ad (.int x)) ∈ q_lvm ad lv)
  exact lv_iinc B.1 B.2.1 hd hl hm rfl hn rfl (fun ls2 hl2 => k ad H locs cells slots ls2 h1 h2 hP hD hS hn0 (q_has_set hl2 hf))
theorem q_icmp_eq (B : q_Ok Γ Y d) {x y : Int32} {off : Int} {tgt : Nat} (hd : decode Y.2.1 pc = .ok (.if_icmp .eq off, 3)) (ht : (pc : Int) + off = (tgt : Int)) (kt : x = y → q_W Γ Y rc rs Sh I tgt lv st) (kf : ¬ x = y → q_W Γ Y rc rs Sh I (pc + 3) lv st) : q_W Γ Y rc rs Sh I pc lv (.int y :: .int x :: st) := by
  intro ad H locs cells slots ls h1 h2 hP hD hS hn hl
  exact lv_icmp_eq B.1 B.2.1 hd ht (fun q => kt q ad H locs cells slots ls h1 h2 hP hD hS hn hl) (fun q => kf q ad H locs cells slots ls h1 h2 hP hD hS hn hl)
theorem q_icmp_ne (B : q_Ok Γ Y d) {x y : Int32} {off : Int} {tgt : Nat} (hd : decode Y.2.1 pc = .ok (.if_icmp .ne off, 3)) (ht : (pc : Int) + off = (tgt : Int)) (kt : ¬ x = y → q_W Γ Y rc rs Sh I tgt lv st) (kf : x = y → q_W Γ Y rc rs Sh I (pc + 3) lv st) : q_W Γ Y rc rs Sh I pc lv (.int y :: .int x :: st) := by
  intro ad H locs cells slots ls h1 h2 hP hD hS hn hl
  exact lv_icmp_ne B.1 B.2.1 hd ht (fun q => kt q ad H locs cells slots ls h1 h2 hP hD hS hn hl) (fun q => kf q ad H locs cells slots ls h1 h2 hP hD hS hn hl)
theorem q_icmp_lt (B : q_Ok Γ Y d) {x y : Int32} {off : Int} {tgt : Nat} (hd : decode Y.2.1 pc = .ok (.if_icmp .lt off, 3)) (ht : (pc : Int) + off = (tgt : Int)) (kt : x < y → q_W Γ Y rc rs Sh I tgt lv st) (kf : ¬ x < y → q_W Γ Y rc rs Sh I (pc + 3) lv st) : q_W Γ Y rc rs Sh I pc lv (.int y :: .int x :: st) := by
  intro ad H locs cells slots ls h1 h2 hP hD hS hn hl
  exact lv_icmp_lt B.1 B.2.1 hd ht (fun q => kt q ad H locs cells slots ls h1 h2 hP hD hS hn hl) (fun q => kf q ad H locs cells slots ls h1 h2 hP hD hS hn hl)
theorem q_icmp_ge (B : q_Ok Γ Y d) {x y : Int32} {off : Int} {tgt : Nat} (hd : decode Y.2.1 pc = .ok (.if_icmp .ge off, 3)) (ht : (pc : Int) + off = (tgt : Int)) (kt : y ≤ x → q_W Γ Y rc rs Sh I tgt lv st) (kf : ¬ y ≤ x → q_W Γ Y rc rs Sh I (pc + 3) lv st) : q_W Γ Y rc rs Sh I pc lv (.int y :: .int x :: st) := by
  intro ad H locs cells slots ls h1 h2 hP hD hS hn hl
  exact lv_icmp_ge B.1 B.2.1 hd ht (fun q => kt q ad H locs cells slots ls h1 h2 hP hD hS hn hl) (fun q => kf q ad H locs cells slots ls h1 h2 hP hD hS hn hl)
theorem q_icmp_gt (B : q_Ok Γ Y d) {x y : Int32} {off : Int} {tgt : Nat} (hd : decode Y.2.1 pc = .ok (.if_icmp .gt off, 3)) (ht : (pc : Int) + off = (tgt : Int)) (kt : y < x → q_W Γ Y rc rs Sh I tgt lv st) (kf : ¬ y < x → q_W Γ Y rc rs Sh I (pc + 3) lv st) : q_W Γ Y rc rs Sh I pc lv (.int y :: .int x :: st) := by
  intro ad H locs cells slots ls h1 h2 hP hD hS hn hl
  exact lv_icmp_gt B.1 B.2.1 hd ht (fun q => kt q ad H locs cells slots ls h1 h2 hP hD hS hn hl) (fun q => kf q ad H locs cells slots ls h1 h2 hP hD hS hn hl)
theorem q_icmp_le (B : q_Ok Γ Y d) {x y : Int32} {off : Int} {tgt : Nat} (hd : decode Y.2.1 pc = .ok (.if_icmp .le off, 3)) (ht : (pc : Int) + off = (tgt : Int)) (kt : x ≤ y → q_W Γ Y rc rs Sh I tgt lv st) (kf : ¬ x ≤ y → q_W Γ Y rc rs Sh I (pc + 3) lv st) : q_W Γ Y rc rs Sh I pc lv (.int y :: .int x :: st) := by
  intro ad H locs cells slots ls h1 h2 hP hD hS hn hl
  exact lv_icmp_le B.1 B.2.1 hd ht (fun q => kt q ad H locs cells slots ls h1 h2 hP hD hS hn hl) (fun q => kf q ad H locs cells slots ls h1 h2 hP hD hS hn hl)
theorem q_if_eq (B : q_Ok Γ Y d) {x : Int32} {off : Int} {tgt : Nat} (hd : decode Y.2.1 pc = .ok (.ifCond .eq off, 3)) (ht : (pc : Int) + off = (tgt : Int)) (kt : x = 0 → q_W Γ Y rc rs Sh I tgt lv st) (kf : ¬ x = 0 → q_W Γ Y rc rs Sh I (pc + 3) lv st) : q_W Γ Y rc rs Sh I pc lv (.int x :: st) := by
  intro ad H locs cells slots ls h1 h2 hP hD hS hn hl
  exact lv_if_eq B.1 B.2.1 hd ht (fun q => kt q ad H locs cells slots ls h1 h2 hP hD hS hn hl) (fun q => kf q ad H locs cells slots ls h1 h2 hP hD hS hn hl)
theorem q_if_ne (B : q_Ok Γ Y d) {x : Int32} {off : Int} {tgt : Nat} (hd : decode Y.2.1 pc = .ok (.ifCond .ne off, 3)) (ht : (pc : Int) + off = (tgt : Int)) (kt : ¬ x = 0 → q_W Γ Y rc rs Sh I tgt lv st) (kf : x = 0 → q_W Γ Y rc rs Sh I (pc + 3) lv st) : q_W Γ Y rc rs Sh I pc lv (.int x :: st) := by
  intro ad H locs cells slots ls h1 h2 hP hD hS hn hl
  exact lv_if_ne B.1 B.2.1 hd ht (fun q => kt q ad H locs cells slots ls h1 h2 hP hD hS hn hl) (fun q => kf q ad H locs cells slots ls h1 h2 hP hD hS hn hl)
theorem q_if_lt (B : q_Ok Γ Y d) {x : Int32} {off : Int} {tgt : Nat} (hd : decode Y.2.1 pc = .ok (.ifCond .lt off, 3)) (ht : (pc : Int) + off = (tgt : Int)) (kt : x < 0 → q_W Γ Y rc rs Sh I tgt lv st) (kf : ¬ x < 0 → q_W Γ Y rc rs Sh I (pc + 3) lv st) : q_W Γ Y rc rs Sh I pc lv (.int x :: st) := by
  intro ad H locs cells slots ls h1 h2 hP hD hS hn hl
  exact lv_if_lt B.1 B.2.1 hd ht (fun q => kt q ad H locs cells slots ls h1 h2 hP hD hS hn hl) (fun q => kf q ad H locs cells slots ls h1 h2 hP hD hS hn hl)
theorem q_if_ge (B : q_Ok Γ Y d) {x : Int32} {off : Int} {tgt : Nat} (hd : decode Y.2.1 pc = .ok (.ifCond .ge off, 3)) (ht : (pc : Int) + off = (tgt : Int)) (kt : 0 ≤ x → q_W Γ Y rc rs Sh I tgt lv st) (kf : ¬ 0 ≤ x → q_W Γ Y rc rs Sh I (pc + 3) lv st) : q_W Γ Y rc rs Sh I pc lv (.int x :: st) := by
  intro ad H locs cells slots ls h1 h2 hP hD hS hn hl
  exact lv_if_ge B.1 B.2.1 hd ht (fun q => kt q ad H locs cells slots ls h1 h2 hP hD hS hn hl) (fun q => kf q ad H locs cells slots ls h1 h2 hP hD hS hn hl)
theorem q_if_gt (B : q_Ok Γ Y d) {x : Int32} {off : Int} {tgt : Nat} (hd : decode Y.2.1 pc = .ok (.ifCond .gt off, 3)) (ht : (pc : Int) + off = (tgt : Int)) (kt : 0 < x → q_W Γ Y rc rs Sh I tgt lv st) (kf : ¬ 0 < x → q_W Γ Y rc rs Sh I (pc + 3) lv st) : q_W Γ Y rc rs Sh I pc lv (.int x :: st) := by
  intro ad H locs cells slots ls h1 h2 hP hD hS hn hl
  exact lv_if_gt B.1 B.2.1 hd ht (fun q => kt q ad H locs cells slots ls h1 h2 hP hD hS hn hl) (fun q => kf q ad H locs cells slots ls h1 h2 hP hD hS hn hl)
theorem q_if_le (B : q_Ok Γ Y d) {x : Int32} {off : Int} {tgt : Nat} (hd : decode Y.2.1 pc = .ok (.ifCond .le off, 3)) (ht : (pc : Int) + off = (tgt : Int)) (kt : x ≤ 0 → q_W Γ Y rc rs Sh I tgt lv st) (kf : ¬ x ≤ 0 → q_W Γ Y rc rs Sh I (pc + 3) lv st) : q_W Γ Y rc rs Sh I pc lv (.int x :: st) := by
  intro ad H locs cells slots ls h1 h2 hP hD hS hn hl
  exact lv_if_le B.1 B.2.1 hd ht (fun q => kt q ad H locs cells slots ls h1 h2 hP hD hS hn hl) (fun q => kf q ad H locs cells slots ls h1 h2 hP hD hS hn hl)
theorem q_ifnull (B : q_Ok Γ Y d) {x : Nat} {off : Int} (hd : decode Y.2.1 pc = .ok (.ifnull off, 3)) (k : q_W Γ Y rc rs Sh I (pc + 3) lv st) : q_W Γ Y rc rs Sh I pc lv (.ref x :: st) := by
  intro ad H locs cells slots ls h1 h2 hP hD hS hn hl
  exact lv_ifnull B.1 B.2.1 hd (k ad H locs cells slots ls h1 h2 hP hD hS hn hl)
theorem q_ifnullN (B : q_Ok Γ Y d) {off : Int} {tgt : Nat} (hd : decode Y.2.1 pc = .ok (.ifnull off, 3)) (ht : (pc : Int) + off = (tgt : Int)) (k : q_W Γ Y rc rs Sh I tgt lv st) : q_W Γ Y rc rs Sh I pc lv (.null :: st) := by
  intro ad H locs cells slots ls h1 h2 hP hD hS hn hl
  exact lv_ifnullN B.1 B.2.1 hd ht (k ad H locs cells slots ls h1 h2 hP hD hS hn hl)
theorem q_ifnonnull (B : q_Ok Γ Y d) {x : Nat} {off : Int} {tgt : Nat} (hd : decode Y.2.1 pc = .ok (.ifnonnull off, 3)) (ht : (pc : Int) + off = (tgt : Int)) (k : q_W Γ Y rc rs Sh I tgt lv st) : q_W Γ Y rc rs Sh I pc lv (.ref x :: st) := by
  intro ad H locs cells slots ls h1 h2 hP hD hS hn hl
  exact lv_ifnonnull B.1 B.2.1 hd ht (k ad H locs cells slots ls h1 h2 hP hD hS hn hl)
theorem q_ifnonnullN (B : q_Ok Γ Y d) {off : Int} (hd : decode Y.2.1 pc = .ok (.ifnonnull off, 3)) (k : q_W Γ Y rc rs Sh I (pc + 3) lv st) : q_W Γ Y rc rs Sh I pc lv (.null :: st) := by
  intro ad H locs cells slots ls h1 h2 hP hD hS hn hl
  exact lv_ifnonnullN B.1 B.2.1 hd (k ad H locs cells slots ls h1 h2 hP hD hS hn hl)
theorem q_tableIn (B : q_Ok Γ Y d) {dflt lo hi : Int} {offs : Array Int} {len : Nat} {x : Int32} {off : Int} {tgt : Nat} (hd : decode Y.2.1 pc = .ok (.tableswitch dflt lo hi offs, len)) (g1 : ¬ x.toInt < lo) (g2 : ¬ hi < x.toInt) (ho : offs[(x.toInt - lo).toNat]? = some off) (ht : (pc : Int) + off = (tgt : Int)) (k : q_W Γ Y rc rs Sh I tgt lv st) : q_W Γ Y rc rs Sh I pc lv (.int x :: st) := by
  intro ad H locs cells slots ls h1 h2 hP hD hS hn hl
  exact lv_tableIn B.1 B.2.1 hd g1 g2 ho ht (k ad H locs cells slots ls h1 h2 hP hD hS hn hl)
theorem q_tableOut (B : q_Ok Γ Y d) {dflt lo hi : Int} {offs : Array Int} {len : Nat} {x : Int32} {tgt : Nat} (hd : decode Y.2.1 pc = .ok (.tableswitch dflt lo hi offs, len)) (g : x.toInt < lo ∨ hi < x.toInt) (ht : (pc : Int) + dflt = (tgt : Int)) (k : q_W Γ Y rc rs Sh I tgt lv st) : q_W Γ Y rc rs Sh I pc lv (.int x :: st) := by
  intro ad H locs cells slots ls h1 h2 hP hD hS hn hl
  exact lv_tableOut B.1 B.2.1 hd g ht (k ad H locs cells slots ls h1 h2 hP hD hS hn hl)
theorem q_lookup (B : q_Ok Γ Y d) {dflt : Int} {ps : Array (Int × Int)} {len : Nat} {x : Int32} {off : Int} {tgt : Nat} (hd : decode Y.2.1 pc = .ok (.lookupswitch dflt ps, len)) (hp : (ps.toList.zip (ps.toList.drop 1)).all (fun (a, next) => a.1 < next.1) = true) (ho : Op.lookupswitch.offset ps.toList dflt x.toInt = off) (ht : (pc : Int) + off = (tgt : Int)) (k : q_W Γ Y rc rs Sh I tgt lv st) : q_W Γ Y rc rs Sh I pc lv (.int x :: st) := by
  intro ad H locs cells slots ls h1 h2 hP hD hS hn hl
  exact lv_lookup B.1 B.2.1 hd hp ho ht (k ad H locs cells slots ls h1 h2 hP hD hS hn hl)
def q_Cl (ci : Nat) (C : String) (T : u_T) (N : Nat) : Prop := vwCl[ci]? = some (C, T, N) ∧ (∀ w ∈ u_ws C T N, w ∈ q_WS) ∧ (∀ k, k < N → parseFieldDescriptor (T k).2.2.1 = some (q_ty ci k)) ∧ (∀ a, a < N → ∀ b, b < N → a ≠ b → (T a).2.1 ≠ (T b).2.1) ∧ q_N ci = N
theorem q_getI (B : q_Ok Γ Y d) {C : String} {T : u_T} {N ci i k l : Nat} (hC : q_Cl ci C T N) (hk : k < N) (hr : q_isR (q_ty ci k) = false) (hw : Cond.fieldLink Y.1.cls i (T k).1 (T k).2.1 (T k).2.2.1 ∈ q_WS) (hl : q_is Sh l ci) (hd : decode Y.2.1 pc = .ok (.getfield i, 3))
    (kk : q_W Γ Y rc rs Sh I (pc + 3) lv (.int (I l k) :: st)) : q_W Γ Y rc rs Sh I pc lv (.ref l :: st) := by
  intro ad H locs cells slots ls h1 h2 hP hD hS hn hls
  have he := q_ws_at (cA := q_cA Γ) (ad := ad) (I := I) hl.1
  rw [q_E_obj hl.2] at he
  refine va_get (v := .int (I l k)) B.1 B.2.1 B.2.2.2.2.1 hC.2.1 B.2.2.2.1 B.2.2.2.2.2.2.1 hP l he hC.1 k hk (B.2.2.2.2.1 _ hw) (fun _ h => h) ?_ hd (kk ad H locs cells slots ls h1 h2 hP hD hS hn hls)
  rw [q_fs_at (by rw [hC.2.2.2.2]; exact hk)]
  simp [q_fv, hr]
theorem q_getR (B : q_Ok Γ Y d) {C : String} {T : u_T} {N ci i k l b : Nat} (hC : q_Cl ci C T N) (hk : k < N) (hr : q_isR (q_ty ci k) = true) (hw : Cond.fieldLink Y.1.cls i (T k).1 (T k).2.1 (T k).2.2.1 ∈ q_WS) (hl : q_is Sh l ci) (hb : Sh.2.2 l k = some b) (hd : decode Y.2.1 pc = .ok (.getfield i, 3))
    (kk : q_W Γ Y rc rs Sh I (pc + 3) lv (.ref b :: st)) : q_W Γ Y rc rs Sh I pc lv (.ref l :: st) := by
  intro ad H locs cells slots ls h1 h2 hP hD hS hn hls
  have he := q_ws_at (cA := q_cA Γ) (ad := ad) (I := I) hl.1
  rw [q_E_obj hl.2] at he
  refine va_get (v := .ref (ad b)) B.1 B.2.1 B.2.2.2.2.1 hC.2.1 B.2.2.2.1 B.2.2.2.2.2.2.1 hP l he hC.1 k hk (B.2.2.2.2.1 _ hw) (fun _ h => h) ?_ hd (kk ad H locs cells slots ls h1 h2 hP hD hS hn hls)
  rw [q_fs_at (by rw [hC.2.2.2.2]; exact hk)]
  simp [q_fv, hr, hb, va_rf]
theorem q_putI (B : q_Ok Γ Y d) {C : String} {T : u_T} {N ci i k l : Nat} {v : Int32} (hC : q_Cl ci C T N) (hk : k < N) (hr : q_isR (q_ty ci k) = false) (hw : Cond.fieldLink Y.1.cls i (T k).1 (T k).2.1 (T k).2.2.1 ∈ q_WS) (hfin : (T k).2.2.2 = false) (hnar : narrow (q_ty ci k) (.int v) = .int v) (hfit : fits (q_ty ci k) (.int v) = true) (hl : q_is Sh l ci) (hd : decode Y.2.1 pc = .ok (.putfield i, 3))
    (kk : q_W Γ Y rc rs Sh (q_upI I l k v) (pc + 3) lv st) : q_W Γ Y rc rs Sh I pc lv (.int v :: .ref l :: st) := by
  intro ad H locs cells slots ls h1 h2 hP hD hS hn hls
  have he := q_ws_at (cA := q_cA Γ) (ad := ad) (I := I) hl.1
  rw [q_E_obj hl.2] at he
  refine va_put (v := .int v) B.1 B.2.1 B.2.2.2.2.1 hC.2.1 (q_ty ci) hC.2.2.1 hC.2.2.2.1 B.2.2.2.1 B.2.2.2.2.2.2.1 hP hD hS l he hC.1 k hk (B.2.2.2.2.1 _ hw) (fun _ h => h) hfin (hC.2.2.1 k hk) hnar hfit (by simp [hC.2.2.2.2]; exact hk) hd (fun H1 locs1 hP1 hD1 hS1 => ?_)
  rw [q_ws_put hl.2 hr] at hP1 hD1
  exact kk ad H1 locs1 cells slots ls h1 h2 hP1 hD1 hS1 hn hls
theorem q_putFR (B : q_Ok Γ Y d) {C : String} {T : u_T} {N ci i k l b : Nat} (hC : q_Cl ci C T N) (hk : k < N) (hr : q_isR (q_ty ci k) = true) (hw : Cond.fieldLink Y.1.cls i (T k).1 (T k).2.1 (T k).2.2.1 ∈ q_WS) (hfin : (T k).2.2.2 = true) (hin : Y.1.name = "<init>") (hown : (T k).1 = Y.1.cls) (hl : q_is Sh l ci) (hd : decode Y.2.1 pc = .ok (.putfield i, 3))
    (kk : q_W Γ Y rc rs (Sh.1, Sh.2.1, q_upR Sh.2.2 l k (some b)) I (pc + 3) lv st) : q_W Γ Y rc rs Sh I pc lv (.ref b :: .ref l :: st) := by
  intro ad H locs cells slots ls h1 h2 hP hD hS hn hls
  have he := q_ws_at (cA := q_cA Γ) (ad := ad) (I := I) hl.1
  rw [q_E_obj hl.2] at he
  have hnar : narrow (q_ty ci k) (.ref (ad b)) = .ref (ad b) ∧ fits (q_ty ci k) (.ref (ad b)) = true := by
    cases hq : q_ty ci k <;> rw [hq] at hr <;> first | exact ⟨rfl, rfl⟩ | cases hr
  refine va_putF (v := .ref (ad b)) B.1 B.2.1 B.2.2.2.2.1 hC.2.1 (q_ty ci) hC.2.2.1 hC.2.2.2.1 B.2.2.2.1 B.2.2.2.2.2.2.1 hP hD hS l he hC.1 k hk (B.2.2.2.2.1 _ hw) (fun _ h => h) hfin (B.2.2.2.2.2.2.2.2.2.2.1.trans hin) hown (hC.2.2.1 k hk) hnar.1 hnar.2 (by simp [hC.2.2.2.2]; exact hk) hd (fun H1 locs1 hP1 hD1 hS1 => ?_)
  have e := q_ws_putR (cA := q_cA Γ) (ad := ad) (I := I) (v := some b) hl.2 hr
  simp only [Option.map_some, va_rf] at e
  rw [e] at hP1 hD1
  exact kk ad H1 locs1 cells slots ls h1 h2 hP1 hD1 hS1 hn hls
/-! arrays -/
theorem q_tys_at {cA : Nat → ClassId} : (q_tys cA)[0]? = some (cA 0, .int) ∧ (q_tys cA)[1]? = some (cA 1, .boolean) ∧ (q_tys cA)[2]? = some (cA 2, .char) := ⟨rfl, rfl, rfl⟩
theorem q_ialoadI (B : q_Ok Γ Y d) {l n : Nat} {i : Int32} (hl : q_ar Sh l 0 n) (hi : vp_in i n) (hd : decode Y.2.1 pc = .ok (.iaload, 1)) (kk : q_W Γ Y rc rs Sh I (pc + 1) lv (.int (I l i.toNatClampNeg) :: st)) : q_W Γ Y rc rs Sh I pc lv (.int i :: .ref l :: st) := by
  intro ad H locs cells slots ls h1 h2 hP hD hS hn hls
  have he := q_ws_at (cA := q_cA Γ) (ad := ad) (I := I) hl.1
  rw [q_E_arr hl.2] at he
  exact va_iald B.1 B.2.1 B.2.2.2.2.2.2.1 hP l 0 he rfl hi hd (kk ad H locs cells slots ls h1 h2 hP hD hS hn hls)
theorem q_zaload (B : q_Ok Γ Y d) {l n : Nat} {i : Int32} (hl : q_ar Sh l 1 n) (hi : vp_in i n) (hd : decode Y.2.1 pc = .ok (.baload, 1)) (kk : q_W Γ Y rc rs Sh I (pc + 1) lv (.int (I l i.toNatClampNeg) :: st)) : q_W Γ Y rc rs Sh I pc lv (.int i :: .ref l :: st) := by
  intro ad H locs cells slots ls h1 h2 hP hD hS hn hls
  have he := q_ws_at (cA := q_cA Γ) (ad := ad) (I := I) hl.1
  rw [q_E_arr hl.2] at he
  exact va_zald B.1 B.2.1 B.2.2.2.2.2.2.1 hP l 1 he rfl hi hd (kk ad H locs cells slots ls h1 h2 hP hD hS hn hls)
theorem q_caload (B : q_Ok Γ Y d) {l n : Nat} {i : Int32} (hl : q_ar Sh l 2 n) (hi : vp_in i n) (hd : decode Y.2.1 pc = .ok (.caload, 1)) (kk : q_W Γ Y rc rs Sh I (pc + 1) lv (.int (I l i.toNatClampNeg) :: st)) : q_W Γ Y rc rs Sh I pc lv (.int i :: .ref l :: st) := by
  intro ad H locs cells slots ls h1 h2 hP hD hS hn hls
  have he := q_ws_at (cA := q_cA Γ) (ad := ad) (I := I) hl.1
  rw [q_E_arr hl.2] at he
  exact va_cald B.1 B.2.1 B.2.2.2.2.2.2.1 hP l 2 he rfl hi hd (kk ad H locs cells slots ls h1 h2 hP hD hS hn hls)
theorem q_iastore (B : q_Ok Γ Y d) {l n : Nat} {i v : Int32} (hl : q_ar Sh l 0 n) (hi : vp_in i n) (hd : decode Y.2.1 pc = .ok (.iastore, 1)) (kk : q_W Γ Y rc rs Sh (q_upI I l i.toNatClampNeg v) (pc + 1) lv st) : q_W Γ Y rc rs Sh I pc lv (.int v :: .int i :: .ref l :: st) := by
  intro ad H locs cells slots ls h1 h2 hP hD hS hn hls
  have he := q_ws_at (cA := q_cA Γ) (ad := ad) (I := I) hl.1
  rw [q_E_arr hl.2] at he
  refine va_iast B.1 B.2.1 B.2.2.2.2.2.2.1 hP hD hS l 0 he rfl hi hd (fun H1 locs1 hP1 hD1 hS1 => ?_)
  rw [q_ws_ast hl.2 (by decide)] at hP1 hD1
  exact kk ad H1 locs1 cells slots ls h1 h2 hP1 hD1 hS1 hn hls
theorem q_zastore (B : q_Ok Γ Y d) {l n : Nat} {i v : Int32} (hl : q_ar Sh l 1 n) (hi : vp_in i n) (hd : decode Y.2.1 pc = .ok (.bastore, 1)) (kk : q_W Γ Y rc rs Sh (q_upI I l i.toNatClampNeg (vp_nar .boolean v)) (pc + 1) lv st) : q_W Γ Y rc rs Sh I pc lv (.int v :: .int i :: .ref l :: st) := by
  intro ad H locs cells slots ls h1 h2 hP hD hS hn hls
  have he := q_ws_at (cA := q_cA Γ) (ad := ad) (I := I) hl.1
  rw [q_E_arr hl.2] at he
  refine va_zast B.1 B.2.1 B.2.2.2.2.2.2.1 hP hD hS l 1 he rfl hi hd (fun H1 locs1 hP1 hD1 hS1 => ?_)
  rw [q_ws_ast hl.2 (by decide)] at hP1 hD1
  exact kk ad H1 locs1 cells slots ls h1 h2 hP1 hD1 hS1 hn hls
theorem q_castore (B : q_Ok Γ Y d) {l n : Nat} {i v : Int32} (hl : q_ar Sh l 2 n) (hi : vp_in i n) (hd : decode Y.2.1 pc = .ok (.castore, 1)) (kk : q_W Γ Y rc rs Sh (q_upI I l i.toNatClampNeg (vp_nar .char v)) (pc + 1) lv st) : q_W Γ Y rc rs Sh I pc lv (.int v :: .int i :: .ref l :: st) := by
  intro ad H locs cells slots ls h1 h2 hP hD hS hn hls
  have he := q_ws_at (cA := q_cA Γ) (ad := ad) (I := I) hl.1
  rw [q_E_arr hl.2] at he
  refine va_cast B.1 B.2.1 B.2.2.2.2.2.2.1 hP hD hS l 2 he rfl hi hd (fun H1 locs1 hP1 hD1 hS1 => ?_)
  rw [q_ws_ast hl.2 (by decide)] at hP1 hD1
  exact kk ad H1 locs1 cells slots ls h1 h2 hP1 hD1 hS1 hn hls
theorem q_tyq {cA : Nat → ClassId} {t : Nat} {C : String} (ht : (q_tys cA)[t]? = some (cA t, .object C)) : ¬ t < 3 := by
  intro h
  rcases (by omega : t = 0 ∨ t = 1 ∨ t = 2) with rfl | rfl | rfl <;> cases ht
theorem q_aaload (B : q_Ok Γ Y d) {l t n b : Nat} {i : Int32} {C : String} (hl : q_ar Sh l t n) (ht : (q_tys (q_cA Γ))[t]? = some (q_cA Γ t, .object C)) (hi : vp_in i n) (hb : Sh.2.2 l i.toNatClampNeg = some b) (hd : decode Y.2.1 pc = .ok (.aaload, 1)) (kk : q_W Γ Y rc rs Sh I (pc + 1) lv (.ref b :: st)) : q_W Γ Y rc rs Sh I pc lv (.int i :: .ref l :: st) := by
  intro ad H locs cells slots ls h1 h2 hP hD hS hn hls
  have he := q_ws_at (cA := q_cA Γ) (ad := ad) (I := I) hl.1
  rw [q_E_arr hl.2, if_neg (q_tyq ht)] at he
  refine va_aldq B.1 B.2.1 B.2.2.2.2.2.2.1 hP l t he ht hi hd ?_
  rw [hb]
  exact kk ad H locs cells slots ls h1 h2 hP hD hS hn hls
theorem q_aaloadN (B : q_Ok Γ Y d) {l t n : Nat} {i : Int32} {C : String} (hl : q_ar Sh l t n) (ht : (q_tys (q_cA Γ))[t]? = some (q_cA Γ t, .object C)) (hi : vp_in i n) (hb : Sh.2.2 l i.toNatClampNeg = none) (hd : decode Y.2.1 pc = .ok (.aaload, 1)) (kk : q_W Γ Y rc rs Sh I (pc + 1) lv (.null :: st)) : q_W Γ Y rc rs Sh I pc lv (.int i :: .ref l :: st) := by
  intro ad H locs cells slots ls h1 h2 hP hD hS hn hls
  have he := q_ws_at (cA := q_cA Γ) (ad := ad) (I := I) hl.1
  rw [q_E_arr hl.2, if_neg (q_tyq ht)] at he
  refine va_aldq B.1 B.2.1 B.2.2.2.2.2.2.1 hP l t he ht hi hd ?_
  rw [hb]
  exact kk ad H locs cells slots ls h1 h2 hP hD hS hn hls
theorem q_aastore (B : q_Ok Γ Y d) {l t n b ci : Nat} {i : Int32} {r : vw_C} (hl : q_ar Sh l t n) (ht : (q_tys (q_cA Γ))[t]? = some (q_cA Γ t, .object r.1)) (hc : vwCl[ci]? = some r) (hbo : q_is Sh b ci) (hi : vp_in i n) (hd : decode Y.2.1 pc = .ok (.aastore, 1)) (kk : q_W Γ Y rc rs (Sh.1, Sh.2.1, q_upR Sh.2.2 l i.toNatClampNeg (some b)) I (pc + 1) lv st) : q_W Γ Y rc rs Sh I pc lv (.ref b :: .int i :: .ref l :: st) := by
  intro ad H locs cells slots ls h1 h2 hP hD hS hn hls
  have he := q_ws_at (cA := q_cA Γ) (ad := ad) (I := I) hl.1
  rw [q_E_arr hl.2, if_neg (q_tyq ht)] at he
  have heb := q_ws_at (cA := q_cA Γ) (ad := ad) (I := I) hbo.1
  rw [q_E_obj hbo.2] at heb
  refine va_astq B.1 B.2.1 B.2.2.2.2.2.2.1 hP hD hS l t b ci he ht heb hc hi hd (fun H1 locs1 hP1 hD1 hS1 => ?_)
  rw [q_ws_astq hl.2 (q_tyq ht)] at hP1 hD1
  exact kk ad H1 locs1 cells slots ls h1 h2 hP1 hD1 hS1 hn hls
theorem q_alen (B : q_Ok Γ Y d) {l t n : Nat} {ty : FieldType} (hl : q_ar Sh l t n) (ht : (q_tys (q_cA Γ))[t]? = some (q_cA Γ t, ty)) (hd : decode Y.2.1 pc = .ok (.arraylength, 1)) (kk : q_W Γ Y rc rs Sh I (pc + 1) lv (.int (Int32.ofNat n) :: st)) : q_W Γ Y rc rs Sh I pc lv (.ref l :: st) := by
  intro ad H locs cells slots ls h1 h2 hP hD hS hn hls
  have he := q_ws_at (cA := q_cA Γ) (ad := ad) (I := I) hl.1
  rw [q_E_arr hl.2] at he
  exact va_alen B.1 B.2.1 B.2.2.2.2.2.2.1 hP l t he ht rfl hd (kk ad H locs cells slots ls h1 h2 hP hD hS hn hls)
/-! ends -/
theorem q_end (B : q_OkM Γ Y d K0) {v : Option Value} (kv : K0 v Sh I) {ad : Nat → Nat} {H : Heap} {locs : List Loc} (hP : va_P (q_D Γ) vwCl (q_ws (q_cA Γ) ad Sh I) H) (hD : va_D (q_A Γ) (q_ws (q_cA Γ) ad Sh I)) (hS : va_S (q_A Γ) (q_s Γ).heap H locs) (hn : q_grow (q_n0 Γ) (q_ad0 Γ) Sh.1 ad) :
    ∀ t : State, t.heap = H → (q_s Γ).WarmedH t.vm → q_Qc (q_D Γ) (q_cA Γ) (q_n0 Γ) (q_ad0 Γ) K0 (q_A Γ) (q_args Γ) (q_s Γ) (.returned (v.map (q_cv ad))) t :=
  fun t ht _ => ⟨⟨v, Sh, I, ad, rfl, kv, hn, by rw [ht]; exact hP, hD⟩, hS.F ht⟩
theorem q_iret (B : q_OkM Γ Y d K0) {v : Int32} (hr : Y.2.2.2 = some .int) (hd : decode Y.2.1 pc = .ok (.ireturn, 1)) (kv : K0 (some (.int v)) Sh I) : q_W Γ Y rc rs Sh I pc lv [.int v] := by
  intro ad H locs cells slots ls h1 h2 hP hD hS hn hls
  rw [B.2.2]
  refine W.widen (k := (q_bud Γ).1) (n := (q_bud Γ).2) (by omega) (by omega) ?_
  exact W.iret B.1.1 B.1.2.1 (B.2.1.trans hr) (q_end B kv hP hD hS hn) hS.2.2 hd B.1.2.2.2.2.2.1
theorem q_zret (B : q_OkM Γ Y d K0) {v : Int32} (hr : Y.2.2.2 = some .boolean) (hv : v = 0 ∨ v = 1) (hd : decode Y.2.1 pc = .ok (.ireturn, 1)) (kv : K0 (some (.int v)) Sh I) : q_W Γ Y rc rs Sh I pc lv [.int v] := by
  intro ad H locs cells slots ls h1 h2 hP hD hS hn hls
  rw [B.2.2]
  refine W.widen (k := (q_bud Γ).1) (n := (q_bud Γ).2) (by omega) (by omega) ?_
  exact W.zret B.1.1 B.1.2.1 (B.2.1.trans hr) (by rcases hv with rfl | rfl <;> rfl) (q_end B kv hP hD hS hn) hS.2.2 hd B.1.2.2.2.2.2.1
theorem q_vret (B : q_OkM Γ Y d K0) (hr : Y.2.2.2 = none) (hd : decode Y.2.1 pc = .ok (.return_, 1)) (kv : K0 none Sh I) : q_W Γ Y rc rs Sh I pc lv [] := by
  intro ad H locs cells slots ls h1 h2 hP hD hS hn hls
  rw [B.2.2]
  refine W.widen (k := (q_bud Γ).1) (n := (q_bud Γ).2) (by omega) (by omega) ?_
  exact W.vret B.1.1 B.1.2.1 (B.2.1.trans hr) (q_end B kv hP hD hS hn) hS.2.2 hd B.1.2.2.2.2.2.1
theorem q_aret (B : q_OkM Γ Y d K0) {b : Nat} {C : String} (hr : Y.2.2.2 = some (.object C)) (hd : decode Y.2.1 pc = .ok (.areturn, 1)) (kv : K0 (some (.ref b)) Sh I) : q_W Γ Y rc rs Sh I pc lv [.ref b] := by
  intro ad H locs cells slots ls h1 h2 hP hD hS hn hls
  rw [B.2.2]
  refine W.widen (k := (q_bud Γ).1) (n := (q_bud Γ).2) (by omega) (by omega) ?_
  exact W.aret B.1.1 B.1.2.1 (B.2.1.trans hr) (Or.inl ⟨C, rfl⟩) (Or.inr ⟨ad b, rfl⟩) (q_end B kv hP hD hS hn) hS.2.2 hd B.1.2.2.2.2.2.1
theorem q_aretN (B : q_OkM Γ Y d K0) {C : String} (hr : Y.2.2.2 = some (.object C)) (hd : decode Y.2.1 pc = .ok (.areturn, 1)) (kv : K0 (some .null) Sh I) : q_W Γ Y rc rs Sh I pc lv [.null] := by
  intro ad H locs cells slots ls h1 h2 hP hD hS hn hls
  rw [B.2.2]
  refine W.widen (k := (q_bud Γ).1) (n := (q_bud Γ).2) (by omega) (by omega) ?_
  exact W.aret B.1.1 B.1.2.1 (B.2.1.trans hr) (Or.inl ⟨C, rfl⟩) (Or.inl rfl) (q_end B kv hP hD hS hn) hS.2.2 hd B.1.2.2.2.2.2.1
/-! calls -/
/-- what the tables say of a method -/
def q_Vm (Y : q_Mth) (n : Nat) : Prop := Cond.code Y.1 Y.2.1 Y.2.2.1 Y.2.2.2 ∈ q_WS ∧ Cond.initialized Y.1.cls ∈ q_WS ∧ (Y.1.cls ≠ "java/lang/invoke/MethodHandle" ∧ Y.1.cls ≠ "java/lang/invoke/VarHandle" ∧ (parseMethodDescriptor Y.1.desc).map (fun d => d.parameters.length) = some n) ∧ Y.2.2.1 ≤ 11
theorem q_goodY {Y' : q_Mth} (h : Cond.code Y'.1 Y'.2.1 Y'.2.2.1 Y'.2.2.2 ∈ q_WS) : GoodIn q_WS (q_ws1 Y') := by
  intro w hw
  rcases List.mem_cons.mp hw with rfl | hw
  · exact ⟨h, good_of_word (List.mem_filter.mp h).2⟩
  · exact ⟨hw, good_of_word (List.mem_filter.mp hw).2⟩
theorem q_blind {D : va_G} {cA : Nat → ClassId} {ad : Nat → Nat} {sz : Nat} {args : List Value} {Sh : q_Sh} {I : q_Mem} : FrameBlind (q_Pc D cA ad sz args Sh I) := by
  intro a U g mk q
  obtain ⟨q0, q1, qP, qK, qD, qE⟩ := q
  exact ⟨q0, q1, qP, va_K.moved (u := U) (U := U.calling g mk a) (Vm.Alike.refl U.vm) qK, qD, q_ext_calling g mk a qE⟩
theorem q_pre (B : q_Ok Γ Y d) {ad : Nat → Nat} {H : Heap} {args : List Value} (hP : va_P (q_D Γ) vwCl (q_ws (q_cA Γ) ad Sh I) H) (hD : va_D (q_A Γ) (q_ws (q_cA Γ) ad Sh I)) : ∀ U : State, U.heap = H → (q_s Γ).WarmedH U.vm → q_Pc (q_D Γ) (q_cA Γ) ad H.size args Sh I (args.map (q_cv ad)).toArray U :=
  fun U hU hW => ⟨rfl, by rw [hU], by rw [hU]; exact hP, va_K.moved hW.alike B.2.2.2.2.2.2.1, hD.weaken (fun _ _ _ _ => trivial), q_ext_moved hW B.2.2.2.2.2.2.2.2.1⟩
/-- nothing on the list is the new place -/
def q_old (n : Nat) (v : Value) : Prop := ∀ x, v = .ref x → x < n
theorem q_cv_old {n : Nat} {ad ad' : Nat → Nat} (h : ∀ l, l < n → ad' l = ad l) {v : Value} (hv : q_old n v) : q_cv ad' v = q_cv ad v := by
  cases v with
  | ref x => exact congrArg Value.ref (h x (hv x rfl))
  | _ => rfl
def q_noA (Sh Sh' : q_Sh) (lv : List (Nat × Value)) (st : List Value) : Prop := Sh'.1 = Sh.1 ∨ ((∀ q ∈ lv, q_old Sh.1 q.2) ∧ ∀ v ∈ st, q_old Sh.1 v)
theorem q_after (B : q_Ok Γ Y d) {Sh' : q_Sh} {I' : q_Mem} {ad ad' : Nat → Nat} {v : Option Value} (ho : q_noA Sh Sh' lv st) (hg : q_grow Sh.1 ad Sh'.1 ad') : q_lvm ad lv = q_lvm ad' lv ∧ st.map (q_cv ad) = st.map (q_cv ad') := by
  rcases ho with e | ⟨o1, o2⟩
  · rw [hg.2.2 e]; exact ⟨rfl, rfl⟩
  · refine ⟨List.map_congr_left fun q hq => ?_, List.map_congr_left fun q hq => ?_⟩
    · rw [q_cv_old hg.2.1 (o1 q hq)]
    · rw [q_cv_old hg.2.1 (o2 q hq)]
theorem q_run (B : q_Ok Γ Y d) {ad : Nat → Nat} {H : Heap} {locs : List Loc} {cells slots mc ms : Nat} {ls : Array Slot} {st0 : List Value} {K : Option Value → q_Sh → q_Mem → Prop} {a : Array Value}
    (hr : va_Run (q_p Γ) (q_l Γ) (q_e Γ) (q_R Γ) (q_s Γ) (q_m Γ) (q_args Γ) (q_below Γ) (q_meth Γ) (q_c Γ) H locs cells slots mc ms (F0 (q_m Γ) pc ls st0) (st.map (q_cv ad)) (q_Qc (q_D Γ) (q_cA Γ) Sh.1 ad K (va_A (q_ws (q_cA Γ) ad Sh I) H.size) a) (va_A (q_ws (q_cA Γ) ad Sh I) H.size))
    (h1 : cells + (rc + mc) ≤ (q_bud Γ).1) (h2 : slots + (rs + ms) ≤ (q_bud Γ).2) (hP : va_P (q_D Γ) vwCl (q_ws (q_cA Γ) ad Sh I) H) (hD : va_D (q_A Γ) (q_ws (q_cA Γ) ad Sh I)) (hS : va_S (q_A Γ) (q_s Γ).heap H locs) (hn : q_grow (q_n0 Γ) (q_ad0 Γ) Sh.1 ad) (hls : lv_has ls Y.2.2.1 (q_lvm ad lv))
    (kk : ∀ v Sh' I', K v Sh' I' → q_noA Sh Sh' lv st ∧ q_W Γ Y rc rs Sh' I' (pc + 3) lv (v.toList ++ st)) : W (q_p Γ) (q_l Γ) (q_e Γ) (q_R Γ) (q_s Γ) (q_m Γ) (q_args Γ) (q_below Γ) (q_meth Γ) (q_c Γ) H locs cells slots (q_Q Γ) (F0 (q_m Γ) pc ls st0) := by
  have hF : ∀ q, va_A (q_ws (q_cA Γ) ad Sh I) H.size q → q_A Γ q := by
    intro q hq
    rcases hq with ⟨k, e, h⟩ | h
    · exact hD.2 k _ h
    · exact B.2.2.2.2.2.2.2.1 q (Nat.le_trans hS.1 h)
  intro T hT X
  obtain ⟨v, st₀, t, T', L, h0, X', hL, e1, e2, ⟨⟨v', Sh', I', ad', g1, g2, g3, g4, g5⟩, hz, hk⟩, stp⟩ := hr T hT X
  have ev : v = v'.map (q_cv ad') := by cases g1; rfl
  subst ev
  rw [h0] at hz hk
  obtain ⟨ho, kw⟩ := kk _ _ _ g2
  obtain ⟨m1, m2⟩ := q_after (I' := I') (v := v') B ho g3
  rw [m1] at hls
  have hS1 : va_S (q_A Γ) (q_s Γ).heap T'.heap (locs ++ L) := by
    refine ⟨Nat.le_trans hS.1 (by rw [e1]; exact hz), fun q a1 a2 => ?_, fun q hq => ?_⟩
    · rw [e1, hk q (Nat.lt_of_lt_of_le a1 hS.1) (fun z => a2 (hF q z))]
      exact hS.2.1 q a1 a2
    · rcases List.mem_append.mp hq with h | h
      · exact hS.2.2 q h
      · exact hF _ (hL q h)
  have w := kw ad' T'.heap (locs ++ L) (cells + mc) (slots + ms) ls (by omega) (by omega) (by rw [e1]; exact g4) (g5.weaken (fun k q _ h => hF q.1 h)) hS1 (q_grow_tr hn g3) hls
  obtain ⟨t2, a1, b1⟩ := w T' rfl X'
  refine ⟨t2, stp t2 ?_, b1⟩
  have e3 : (v'.map (q_cv ad')).toList ++ st.map (q_cv ad) = (v'.toList ++ st).map (q_cv ad') := by
    rw [m2, List.map_append]
    cases v' <;> rfl
  show Steps _ _ _ (T'.setTop (F0 (q_m Γ) (pc + 3) ls ((v'.map (q_cv ad')).toList ++ st.map (q_cv ad)))) t2
  rw [e3]
  exact a1
theorem q_wsum (ad : Nat → Nat) (st : List Value) : ((st.map (q_cv ad)).map fun v => v.category).sum = (st.map fun v => v.category).sum := by
  rw [List.map_map]
  congr 1
  exact List.map_congr_left fun v _ => q_cat ad v
theorem q_fit {d d' mc ms : Nat} {Γ : q_Cx} {Y Y' : q_Mth} (B : q_Ok Γ Y d) (hdd : d' + 1 ≤ d) (hm : Y'.2.2.1 ≤ 11) : (q_rm d' mc ms).frames + 1 ≤ (q_R Γ).frames ∧ 8 + (Y'.2.2.1 + 11) + (q_rm d' mc ms).locals ≤ (q_R Γ).locals := by
  obtain ⟨-, -, -, -, -, -, -, -, -, -, -, h1, h2⟩ := B
  refine ⟨Nat.le_trans hdd h1, ?_⟩
  show 8 + (Y'.2.2.1 + 11) + 30 * d' ≤ _
  omega
theorem q_callV (B : q_Ok Γ Y d) {Y' : q_Mth} {d' mc ms n i ci b : Nat} {As : List Value} {q : vw_C} {K : Option Value → q_Sh → q_Mem → Prop} (hM : q_Call Y' d' mc ms (.ref b :: As) Sh I K) (hV : q_Vm Y' n) (hin : Cond.instanceMethod Y'.1 ∈ q_WS) (hse : Cond.selects Y'.1.cls Y'.1 Y'.1 ∈ q_WS) (hl : Cond.methodLink Y.1.cls i Y'.1 ∈ q_WS) (hn : As.length = n) (hc : vwCl[ci]? = some q) (hq : q.1 = Y'.1.cls) (hb : q_is Sh b ci) (hdd : d' + 1 ≤ d)
    (hsum : (st.map fun v => v.category).sum ≤ 8) (hd : decode Y.2.1 pc = .ok (.invokevirtual i, 3)) (kk : ∀ v Sh' I', K v Sh' I' → q_noA Sh Sh' lv st ∧ q_W Γ Y rc rs Sh' I' (pc + 3) lv (v.toList ++ st)) : q_W Γ Y (rc + mc) (rs + ms) Sh I pc lv (As.reverse ++ .ref b :: st) := by
  intro ad H locs cells slots ls h1 h2 hP hD hS hg hls
  have hts := B.2.2.2.2.1
  have he := q_ws_at (cA := q_cA Γ) (ad := ad) (I := I) hb.1
  rw [q_E_obj hb.2] at he
  have hrv := va_recv B.2.2.2.2.2.2.1 hP hc he
  rw [hq] at hrv
  have e : (As.reverse ++ Value.ref b :: st).map (q_cv ad) = (As.map (q_cv ad)).reverse ++ .ref (ad b) :: st.map (q_cv ad) := by
    rw [List.map_append, List.map_reverse]; rfl
  rw [e]
  have hgd := q_goodY hV.1
  refine q_run B (va_runV (As := As.map (q_cv ad)) ⟨B.1, B.2.1, B.2.2.1, B.2.2.2.1, hts⟩ (hM (q_l Γ) (q_D Γ) (q_cA Γ) ad H.size) ⟨callB_of n hts hgd rfl rfl rfl (hts _ hV.2.1) (hts _ hl) hV.2.2.1 (q_fit B hdd hV.2.2.2), hts _ hin, hts _ hse⟩ ⟨q_blind, hrv, q_pre B hP hD⟩ rfl (by rw [List.length_map]; exact hn) hls.1 rfl (lv_room (by rw [q_wsum]; exact hsum)) hd ⟨?_, ?_⟩) h1 h2 hP hD hS hg hls kk
  · have := B.2.2.2.2.2.2.2.2.2.1.1
    omega
  · have := B.2.2.2.2.2.2.2.2.2.1.2
    omega
theorem q_callI (B : q_Ok Γ Y d) {Y' : q_Mth} {d' mc ms n i b : Nat} {As : List Value} {K : Option Value → q_Sh → q_Mem → Prop} (hM : q_Call Y' d' mc ms (.ref b :: As) Sh I K) (hV : q_Vm Y' n) (hin : Cond.instanceMethod Y'.1 ∈ q_WS) (hnm : Y'.1.name = "<init>") (hrt : Y'.2.2.2 = none) (hl : Cond.methodLink Y.1.cls i Y'.1 ∈ q_WS) (hn : As.length = n) (hdd : d' + 1 ≤ d)
    (hsum : (st.map fun v => v.category).sum ≤ 8) (hd : decode Y.2.1 pc = .ok (.invokespecial i, 3)) (kk : ∀ v Sh' I', K v Sh' I' → q_noA Sh Sh' lv st ∧ q_W Γ Y rc rs Sh' I' (pc + 3) lv (v.toList ++ st)) : q_W Γ Y (rc + mc) (rs + ms) Sh I pc lv (As.reverse ++ .ref b :: st) := by
  intro ad H locs cells slots ls h1 h2 hP hD hS hg hls
  have hts := B.2.2.2.2.1
  have e : (As.reverse ++ Value.ref b :: st).map (q_cv ad) = (As.map (q_cv ad)).reverse ++ .ref (ad b) :: st.map (q_cv ad) := by
    rw [List.map_append, List.map_reverse]; rfl
  rw [e]
  have hgd := q_goodY hV.1
  have hcb := callB_of (R := q_R Γ) (s := q_s Γ) (args := q_args Γ) (rm := q_rm d' mc ms) n hts hgd rfl rfl rfl (hts _ hV.2.1) (hts _ hl) hV.2.2.1 (q_fit B hdd hV.2.2.2)
  rw [hrt] at hcb
  refine q_run B (va_runI (As := As.map (q_cv ad)) ⟨B.1, B.2.1, B.2.2.1, B.2.2.2.1, hts⟩ (hM (q_l Γ) (q_D Γ) (q_cA Γ) ad H.size) ⟨hcb, hnm, hts _ hin⟩ ⟨q_blind, q_pre B hP hD⟩ rfl (by rw [List.length_map]; exact hn) hls.1 rfl (lv_room (by rw [q_wsum]; exact hsum)) hd ⟨?_, ?_⟩) h1 h2 hP hD hS hg hls kk
  · have := B.2.2.2.2.2.2.2.2.2.1.1
    omega
  · have := B.2.2.2.2.2.2.2.2.2.1.2
    omega
theorem q_callIN (B : q_Ok Γ Y d) {Y' : q_Mth} {d' mc ms n i b : Nat} {As : List Value} {K : Option Value → q_Sh → q_Mem → Prop} (hM : q_Call Y' d' mc ms (.ref b :: As) Sh I K) (hV : q_Vm Y' n) (hin : Cond.instanceMethod Y'.1 ∈ q_WS) (hnm : Y'.1.name = "<init>") (hrt : Y'.2.2.2 = none) (hl : Cond.methodLinkNest Y.1.cls i Y'.1 RX6 ∈ q_nl) (hn : As.length = n) (hdd : d' + 1 ≤ d)
    (hsum : (st.map fun v => v.category).sum ≤ 8) (hd : decode Y.2.1 pc = .ok (.invokespecial i, 3)) (kk : ∀ v Sh' I', K v Sh' I' → q_noA Sh Sh' lv st ∧ q_W Γ Y rc rs Sh' I' (pc + 3) lv (v.toList ++ st)) : q_W Γ Y (rc + mc) (rs + ms) Sh I pc lv (As.reverse ++ .ref b :: st) := by
  intro ad H locs cells slots ls h1 h2 hP hD hS hg hls
  have hts := B.2.2.2.2.1
  have e : (As.reverse ++ Value.ref b :: st).map (q_cv ad) = (As.map (q_cv ad)).reverse ++ .ref (ad b) :: st.map (q_cv ad) := by
    rw [List.map_append, List.map_reverse]; rfl
  rw [e]
  have hgd := q_goodY hV.1
  have hcb := va_cnB (R := q_R Γ) (s := q_s Γ) (args := q_args Γ) (rm := q_rm d' mc ms) n hts hgd rfl rfl rfl (B.2.2.2.2.2.2.2.2.1.1 _ hl) (hts _ hV.2.1) hV.2.2.1 (q_fit B hdd hV.2.2.2)
  rw [hrt] at hcb
  refine q_run B (va_runIN (As := As.map (q_cv ad)) ⟨B.1, B.2.1, B.2.2.1, B.2.2.2.1, hts⟩ (hM (q_l Γ) (q_D Γ) (q_cA Γ) ad H.size) ⟨hcb, hnm, hts _ hin⟩ ⟨q_blind, q_pre B hP hD⟩ rfl (by rw [List.length_map]; exact hn) hls.1 rfl (lv_room (by rw [q_wsum]; exact hsum)) hd ⟨?_, ?_⟩) h1 h2 hP hD hS hg hls kk
  · have := B.2.2.2.2.2.2.2.2.2.1.1
    omega
  · have := B.2.2.2.2.2.2.2.2.2.1.2
    omega
theorem q_callS (B : q_Ok Γ Y d) {Y' : q_Mth} {d' mc ms n i : Nat} {As : List Value} {K : Option Value → q_Sh → q_Mem → Prop} (hM : q_Call Y' d' mc ms As Sh I K) (hV : q_Vm Y' n) (hin : Cond.static Y'.1 ∈ q_WS) (hl : Cond.methodLink Y.1.cls i Y'.1 ∈ q_WS) (hn : As.length = n) (hdd : d' + 1 ≤ d)
    (hsum : (st.map fun v => v.category).sum ≤ 8) (hd : decode Y.2.1 pc = .ok (.invokestatic i, 3)) (kk : ∀ v Sh' I', K v Sh' I' → q_noA Sh Sh' lv st ∧ q_W Γ Y rc rs Sh' I' (pc + 3) lv (v.toList ++ st)) : q_W Γ Y (rc + mc) (rs + ms) Sh I pc lv (As.reverse ++ st) := by
  intro ad H locs cells slots ls h1 h2 hP hD hS hg hls
  have hts := B.2.2.2.2.1
  have e : (As.reverse ++ st).map (q_cv ad) = (As.map (q_cv ad)).reverse ++ st.map (q_cv ad) := by
    rw [List.map_append, List.map_reverse]
  rw [e]
  have hgd := q_goodY hV.1
  refine q_run B (va_runS (As := As.map (q_cv ad)) ⟨B.1, B.2.1, B.2.2.1, B.2.2.2.1, hts⟩ (hM (q_l Γ) (q_D Γ) (q_cA Γ) ad H.size) ⟨callB_of n hts hgd rfl rfl rfl (hts _ hV.2.1) (hts _ hl) hV.2.2.1 (q_fit B hdd hV.2.2.2), hts _ hin⟩ ⟨q_blind, q_pre B hP hD⟩ rfl (by rw [List.length_map]; exact hn) hls.1 rfl (lv_room (by rw [q_wsum]; exact hsum)) hd ⟨?_, ?_⟩) h1 h2 hP hD hS hg hls kk
  · have := B.2.2.2.2.2.2.2.2.2.1.1
    omega
  · have := B.2.2.2.2.2.2.2.2.2.1.2
    omega
theorem q_callSN (B : q_Ok Γ Y d) {Y' : q_Mth} {d' mc ms n i : Nat} {As : List Value} {K : Option Value → q_Sh → q_Mem → Prop} (hM : q_Call Y' d' mc ms As Sh I K) (hV : q_Vm Y' n) (hin : Cond.static Y'.1 ∈ q_WS) (hl : Cond.methodLinkNest Y.1.cls i Y'.1 RX6 ∈ q_nl) (hn : As.length = n) (hdd : d' + 1 ≤ d)
    (hsum : (st.map fun v => v.category).sum ≤ 8) (hd : decode Y.2.1 pc = .ok (.invokestatic i, 3)) (kk : ∀ v Sh' I', K v Sh' I' → q_noA Sh Sh' lv st ∧ q_W Γ Y rc rs Sh' I' (pc + 3) lv (v.toList ++ st)) : q_W Γ Y (rc + mc) (rs + ms) Sh I pc lv (As.reverse ++ st) := by
  intro ad H locs cells slots ls h1 h2 hP hD hS hg hls
  have hts := B.2.2.2.2.1
  have e : (As.reverse ++ st).map (q_cv ad) = (As.map (q_cv ad)).reverse ++ st.map (q_cv ad) := by
    rw [List.map_append, List.map_reverse]
  rw [e]
  have hgd := q_goodY hV.1
  refine q_run B (va_runSN (As := As.map (q_cv ad)) ⟨B.1, B.2.1, B.2.2.1, B.2.2.2.1, hts⟩ (hM (q_l Γ) (q_D Γ) (q_cA Γ) ad H.size) ⟨va_cnB (R := q_R Γ) (s := q_s Γ) (args := q_args Γ) (rm := q_rm d' mc ms) n hts hgd rfl rfl rfl (B.2.2.2.2.2.2.2.2.1.1 _ hl) (hts _ hV.2.1) hV.2.2.1 (q_fit B hdd hV.2.2.2), hts _ hin, trivial⟩ ⟨q_blind, q_pre B hP hD⟩ rfl (by rw [List.length_map]; exact hn) hls.1 rfl (lv_room (by rw [q_wsum]; exact hsum)) hd ⟨?_, ?_⟩) h1 h2 hP hD hS hg hls kk
  · have := B.2.2.2.2.2.2.2.2.2.1.1
    omega
  · have := B.2.2.2.2.2.2.2.2.2.1.2
    omega

end QROWS