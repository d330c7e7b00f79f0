/-! making -/
def q_nS (Sh : q_Sh) (kd : q_Kd) : q_Sh := (Sh.1 + 1, fun l => if l = Sh.1 then kd else Sh.2.1 l, fun l k => if l = Sh.1 then none else Sh.2.2 l k)
def q_nI (I : q_Mem) (n : Nat) : q_Mem := fun l k => if l = n then 0 else I l k
theorem q_E_new {cA : Nat → ClassId} {ad : Nat → Nat} {Sh : q_Sh} {I : q_Mem} {kd : q_Kd} {a l : Nat} (hl : l < Sh.1) (hf : ∀ j, Sh.2.2 l j ≠ some Sh.1) :
    q_E cA (fun x => if x = Sh.1 then a else ad x) (q_nS Sh kd).2.1 (q_nS Sh kd).2.2 (q_nI I Sh.1) l = q_E cA ad Sh.2.1 Sh.2.2 I l := by
  have hne : ¬ l = Sh.1 := by omega
  have e1 : (q_nS Sh kd).2.1 l = Sh.2.1 l := by simp [q_nS, hne]
  have e2 : q_nI I Sh.1 l = I l := by funext b; simp [q_nI, hne]
  have e3 : ∀ j, ((q_nS Sh kd).2.2 l j).map (fun x => if x = Sh.1 then a else ad x) = (Sh.2.2 l j).map ad := by
    intro j
    have e4 : (q_nS Sh kd).2.2 l j = Sh.2.2 l j := by simp [q_nS, hne]
    rw [e4]
    cases hx : Sh.2.2 l j with
    | none => rfl
    | some x =>
      have : ¬ x = Sh.1 := fun q => hf j (by rw [hx, q])
      simp [this]
  unfold q_E q_fv
  simp only [e1, e2, e3]
theorem q_ws_new {cA : Nat → ClassId} {ad : Nat → Nat} {Sh : q_Sh} {I : q_Mem} {kd : q_Kd} {a : Nat} (hf : ∀ l j, l < Sh.1 → Sh.2.2 l j ≠ some Sh.1) :
    q_ws cA (fun x => if x = Sh.1 then a else ad x) (q_nS Sh kd) (q_nI I Sh.1) = q_ws cA ad Sh I ++ [(a, q_E cA (fun x => if x = Sh.1 then a else ad x) (q_nS Sh kd).2.1 (q_nS Sh kd).2.2 (q_nI I Sh.1) Sh.1)] := by
  unfold q_ws
  have e : (q_nS Sh kd).1 = Sh.1 + 1 := rfl
  rw [e, List.range_succ, List.map_append]
  congr 1
  · refine List.map_congr_left fun l hl => ?_
    have hl := List.mem_range.mp hl
    have hne : ¬ l = Sh.1 := by omega
    rw [q_E_new hl (fun j => hf l j hl)]
    simp [hne]
  · simp
theorem q_grow_new {n0 : Nat} {ad0 : Nat → Nat} {n a : Nat} {ad : Nat → Nat} (h : q_grow n0 ad0 n ad) : q_grow n0 ad0 (n + 1) (fun x => if x = n then a else ad x) := by
  obtain ⟨h1, h2, h3⟩ := h
  exact ⟨by omega, fun l hl => (if_neg (by omega)).trans (h2 l hl), fun e => by omega⟩
theorem q_new_lv {ad : Nat → Nat} {n a : Nat} {lv : List (Nat × Value)} (h : ∀ q ∈ lv, q_old n q.2) : q_lvm ad lv = q_lvm (fun x => if x = n then a else ad x) lv :=
  List.map_congr_left fun q hq => by rw [q_cv_old (n := n) (ad := ad) (ad' := fun x => if x = n then a else ad x) (fun l hl => if_neg (by omega)) (h q hq)]
theorem q_new_st {ad : Nat → Nat} {n a : Nat} {st : List Value} (h : ∀ v ∈ st, q_old n v) : st.map (q_cv ad) = st.map (q_cv (fun x => if x = n then a else ad x)) :=
  List.map_congr_left fun q hq => by rw [q_cv_old (n := n) (ad := ad) (ad' := fun x => if x = n then a else ad x) (fun l hl => if_neg (by omega)) (h q hq)]
/-- an array class by its name is one class -/
theorem q_arr_one {D : va_G} {cA : Nat → ClassId} {s : State} {t : Nat} {ty : FieldType} {c : ClassId} (hK : va_K D vwCl (q_tys cA) s) (ht : (q_tys cA)[t]? = some (cA t, ty)) (hK2 : va_K D vwCl (q_tys cA ++ [(c, ty)]) s) : c = cA t := by
  have h1 := (hK.2 t _ ht).2
  have h2 := (hK2.2 (q_tys cA).length (c, ty) (by simp)).2
  cases ty with
  | object C =>
    obtain ⟨_, _, -, -, -, e1⟩ := h1
    obtain ⟨_, _, -, -, -, e2⟩ := h2
    exact Option.some.inj (e2.symm.trans e1)
  | _ => exact Option.some.inj (Eq.trans (Eq.symm h2) h1)
section QROWS2
variable {K0 : Option Value → q_Sh → q_Mem → Prop} {Γ : q_Cx} {Y : q_Mth} {d rc rs : Nat} {Sh : q_Sh} {I : q_Mem} {pc : Nat} {lv : List (Nat × Value)} {st : List Value}
theorem q_new (B : q_Ok Γ Y d) {C : String} {T : u_T} {N ci i : Nat} (hC : q_Cl ci C T N) (hcl : Cond.classLink Y.1.cls i C ∈ q_WS) (hins : Cond.instantiable C N ∈ q_WS) (hini : Cond.initialized C ∈ q_WS) (hdf : ∀ j, j < N → defaultValue (q_ty ci j) = if q_isR (q_ty ci j) = true then .null else .int 0)
    (hf : ∀ l j, l < Sh.1 → Sh.2.2 l j ≠ some Sh.1) (ho : (∀ q ∈ lv, q_old Sh.1 q.2) ∧ ∀ v ∈ st, q_old Sh.1 v) (hd : decode Y.2.1 pc = .ok (.new i, 3))
    (kk : q_W Γ Y rc rs (q_nS Sh (.inl ci)) (q_nI I Sh.1) (pc + 3) lv (.ref Sh.1 :: st)) : q_W Γ Y (rc + 1) (rs + N) Sh I pc lv st := by
  intro ad H locs cells slots ls h1 h2 hP hD hS hg hls
  have hts := B.2.2.2.2.1
  have hb := B.2.2.2.2.2.2.2.2.2.1
  refine va_new (fs := (List.range N).map (fun j => if q_isR (q_ty ci j) = true then Value.null else .int 0)) B.1 B.2.1 hts hC.2.1 (q_ty ci) hC.2.2.1 B.2.2.2.1 (hts _ hcl) (hts _ hins) (hts _ hini) B.2.2.2.2.2.2.1 hP hD hS B.2.2.2.2.2.2.2.1 hC.1 (fun j hj => by rw [hdf j hj]; simp [vp_V, hj]) (by omega) (by omega) hd (fun a H1 hP1 hD1 hS1 => ?_)
  have e : q_ws (q_cA Γ) (fun x => if x = Sh.1 then a else ad x) (q_nS Sh (.inl ci)) (q_nI I Sh.1) = q_ws (q_cA Γ) ad Sh I ++ [(a, .inr (ci, (List.range N).map (fun j => if q_isR (q_ty ci j) = true then Value.null else .int 0)))] := by
    rw [q_ws_new hf]
    congr 3
    rw [q_E_obj (ci := ci) (by simp [q_nS]), hC.2.2.2.2]
    congr 2
    refine List.map_congr_left fun j _ => ?_
    simp [q_fv, q_nS, q_nI, va_rf]
  rw [← e] at hP1 hD1
  have k2 := kk (fun x => if x = Sh.1 then a else ad x) H1 locs (cells + 1) (slots + N) ls (by omega) (by omega) hP1 hD1 hS1 (q_grow_new hg) (by rw [← q_new_lv ho.1]; exact hls)
  rw [List.map_cons, ← q_new_st ho.2] at k2
  simp only [q_cv, if_true] at k2
  exact k2
theorem q_newa (B : q_Ok Γ Y d) {atype : ArrayType} {ty : FieldType} {t : Nat} (hty : newarray.typeOf atype = ty) (ht : (q_tys (q_cA Γ))[t]? = some (q_cA Γ t, ty)) (ht3 : t < 3) (hdf : defaultValue ty = .int 0) (harr : Cond.arrayClass ty ∈ q_WS) {n : Int32} {N : Nat} (hn0 : ¬ n < 0) (hN : n.toNatClampNeg = N) (hby : N * componentBytes ty ≤ 536870912)
    (hf : ∀ l j, l < Sh.1 → Sh.2.2 l j ≠ some Sh.1) (ho : (∀ q ∈ lv, q_old Sh.1 q.2) ∧ ∀ v ∈ st, q_old Sh.1 v) (hd : decode Y.2.1 pc = .ok (.newarray atype, 2))
    (kk : q_W Γ Y rc rs (q_nS Sh (.inr (t, N))) (q_nI I Sh.1) (pc + 2) lv (.ref Sh.1 :: st)) : q_W Γ Y (rc + 1) (rs + N) Sh I pc lv (.int n :: st) := by
  intro ad H locs cells slots ls h1 h2 hP hD hS hg hls
  have hts := B.2.2.2.2.1
  have hb := B.2.2.2.2.2.2.2.2.2.1
  have harr' := hts _ harr
  rw [← hty] at harr'
  refine va_newa (a0 := (N, .inl (fun _ => 0))) B.1 B.2.1 harr' hty B.2.2.2.2.2.2.1 hP hD hS B.2.2.2.2.2.2.2.1 (fun cA => by rw [vp_cell_i, hdf]) hn0 hN hby (by omega) (by omega) hd (fun a cA H1 hK1 hP1 hD1 hS1 => ?_)
  have ec := q_arr_one B.2.2.2.2.2.2.1 ht hK1
  subst ec
  have e : q_ws (q_cA Γ) (fun x => if x = Sh.1 then a else ad x) (q_nS Sh (.inr (t, N))) (q_nI I Sh.1) = q_ws (q_cA Γ) ad Sh I ++ [(a, .inl (q_cA Γ t, (N, .inl (fun _ => 0))))] := by
    have e1 : q_nI I Sh.1 Sh.1 = fun _ => 0 := by funext k; simp [q_nI]
    rw [q_ws_new hf, q_E_arr (t := t) (n := N) (by simp [q_nS]), if_pos ht3, e1]
  rw [← e] at hP1 hD1
  have k2 := kk (fun x => if x = Sh.1 then a else ad x) H1 locs (cells + 1) (slots + N) ls (by omega) (by omega) hP1 hD1 hS1 (q_grow_new hg) (by rw [← q_new_lv ho.1]; exact hls)
  rw [List.map_cons, ← q_new_st ho.2] at k2
  simp only [q_cv, if_true] at k2
  exact k2
theorem q_anew (B : q_Ok Γ Y d) {C : String} {i t : Nat} (hcl : Cond.classLink Y.1.cls i C ∈ q_WS) (hal : C ∈ q_al) (ht : (q_tys (q_cA Γ))[t]? = some (q_cA Γ t, .object C)) {n : Int32} {N : Nat} (hn0 : ¬ n < 0) (hN : n.toNatClampNeg = N) (hby : N * 4 ≤ 536870912)
    (hf : ∀ l j, l < Sh.1 → Sh.2.2 l j ≠ some Sh.1) (ho : (∀ q ∈ lv, q_old Sh.1 q.2) ∧ ∀ v ∈ st, q_old Sh.1 v) (hd : decode Y.2.1 pc = .ok (.anewarray i, 3))
    (kk : q_W Γ Y rc rs (q_nS Sh (.inr (t, N))) (q_nI I Sh.1) (pc + 3) lv (.ref Sh.1 :: st)) : q_W Γ Y (rc + 1) (rs + N) Sh I pc lv (.int n :: st) := by
  intro ad H locs cells slots ls h1 h2 hP hD hS hg hls
  have hts := B.2.2.2.2.1
  have hb := B.2.2.2.2.2.2.2.2.2.1
  refine va_newq B.1 B.2.1 B.2.2.2.1 (hts _ hcl) (B.2.2.2.2.2.2.2.2.1.2 C hal) B.2.2.2.2.2.2.1 hP hD hS B.2.2.2.2.2.2.2.1 hn0 hN hby (by omega) (by omega) hd (fun a cA H1 hK1 hP1 hD1 hS1 => ?_)
  have ec := q_arr_one B.2.2.2.2.2.2.1 ht hK1
  subst ec
  have e : q_ws (q_cA Γ) (fun x => if x = Sh.1 then a else ad x) (q_nS Sh (.inr (t, N))) (q_nI I Sh.1) = q_ws (q_cA Γ) ad Sh I ++ [(a, .inl (q_cA Γ t, (N, .inr (.inr (.inr (.inr (fun _ => none)))))))] := by
    have e1 : (fun j => Option.map (fun x => if x = Sh.1 then a else ad x) ((q_nS Sh (.inr (t, N))).2.2 Sh.1 j)) = fun _ => none := by funext k; simp [q_nS]
    rw [q_ws_new hf, q_E_arr (t := t) (n := N) (by simp [q_nS]), if_neg (q_tyq ht), e1]
  rw [← e] at hP1 hD1
  have k2 := kk (fun x => if x = Sh.1 then a else ad x) H1 locs (cells + 1) (slots + N) ls (by omega) (by omega) hP1 hD1 hS1 (q_grow_new hg) (by rw [← q_new_lv ho.1]; exact hls)
  rw [List.map_cons, ← q_new_st ho.2] at k2
  simp only [q_cv, if_true] at k2
  exact k2
theorem q_objInit (B : q_Ok Γ Y d) {i b : Nat} (hl : Cond.methodLink Y.1.cls i objectInit ∈ q_WS) (hin : Cond.instanceMethod objectInit ∈ q_WS) (hco : Cond.code objectInit ⟨#[0xb1]⟩ 1 none ∈ q_WS) (hdd : 1 ≤ d) (hsum : (st.map fun v => v.category).sum ≤ 8) (hd : decode Y.2.1 pc = .ok (.invokespecial i, 3))
    (kk : q_W Γ Y rc rs Sh I (pc + 3) lv st) : q_W Γ Y rc rs Sh I pc lv (.ref b :: st) := by
  intro ad H locs cells slots ls h1 h2 hP hD hS hg hls
  have hts := B.2.2.2.2.1
  obtain ⟨q1, q2⟩ := B.2.2.2.2.2.2.2.2.2.2.2
  have q3 := q_wsum ad st
  refine W.objInit B.1 B.2.1 B.2.2.2.1 (hts _ hl) (hts _ hin) (hts _ hco) rfl (by rw [B.2.2.1]; exact hls.1) rfl hd (by omega) ?_ (W.eq (g2 := F0 (q_m Γ) (pc + 3) ls (st.map (q_cv ad))) rfl (kk ad H locs cells slots ls h1 h2 hP hD hS hg hls))
  show 2 * 0 + _ + 12 ≤ _
  rw [q3]
  omega
theorem q_mmin (B : q_Ok Γ Y d) {i : Nat} {x y : Int32} (hl : Cond.methodLink Y.1.cls i Lib.Math.min.name ∈ q_WS) (hstt : Cond.static Lib.Math.min.name ∈ q_WS) (hini : Cond.initialized "java/lang/Math" ∈ q_WS) (hco : Cond.code Lib.Math.min.name Lib.Math.min.code 2 (some .int) ∈ q_WS) (hdd : 1 ≤ d) (hsum : (st.map fun v => v.category).sum ≤ 8) (hd : decode Y.2.1 pc = .ok (.invokestatic i, 3))
    (kk : q_W Γ Y rc rs Sh I (pc + 3) lv (.int (if y < x then y else x) :: st)) : q_W Γ Y rc rs Sh I pc lv (.int y :: .int x :: st) := by
  intro ad H locs cells slots ls h1 h2 hP hD hS hg hls
  have hts := B.2.2.2.2.1
  have hb := B.2.2.2.2.2.2.2.2.2.1
  obtain ⟨q1, q2⟩ := B.2.2.2.2.2.2.2.2.2.2.2
  exact va_mmin B.1 B.2.1 (by rw [B.2.2.1]; exact hls.1.symm) B.2.2.2.1 (hts _ hl) (hts _ hstt) (hts _ hini) (hts _ hco) (by omega) (by rw [q_wsum]; omega) (by omega) (by omega) hd (kk ad H locs cells slots ls h1 h2 hP hD hS hg hls)
theorem q_ldc2 (B : q_Ok Γ Y d) {i : Nat} {v : Int64} (hl : Cond.constantLong Y.1.cls i v ∈ q_WS) (hd : decode Y.2.1 pc = .ok (.ldc2_w i, 3)) (kk : q_W Γ Y rc rs Sh I (pc + 3) lv (.long v :: st)) : q_W Γ Y rc rs Sh I pc lv st := by
  intro ad H locs cells slots ls h1 h2 hP hD hS hg hls
  exact lv_ldc2 B.1 B.2.1 B.2.2.2.1 (B.2.2.2.2.1 _ hl) hd (kk ad H locs cells slots ls h1 h2 hP hD hS hg hls)
/-! a call whose answer and memory are known -/
def q_Rt (Y : q_Mth) (d : Nat) (args : List Value) (Sh : q_Sh) (I : q_Mem) (v : Option Value) (I' : q_Mem) : Prop := q_Call Y d 0 0 args Sh I (fun w Sh' I2 => w = v ∧ Sh' = Sh ∧ I2 = I')
theorem q_rtV (B : q_Ok Γ Y d) {Y' : q_Mth} {d' n i ci b : Nat} {As stk : List Value} {q : vw_C} {v : Option Value} {I' : q_Mem} (hM : q_Rt Y' d' (.ref b :: As) Sh I v I') (hV : q_Vm Y' n) (hin : Cond.instanceMethod Y'.1 ∈ q_WS) (hse : Cond.selects Y'.1.cls Y'.1 Y'.1 ∈ q_WS) (hl : Cond.methodLink Y.1.cls i Y'.1 ∈ q_WS) (hn : As.length = n) (hc : vwCl[ci]? = some q) (hq : q.1 = Y'.1.cls) (hb : q_is Sh b ci) (hdd : d' + 1 ≤ d)
    (hst : stk = As.reverse ++ .ref b :: st) (hsum : (st.map fun v => v.category).sum ≤ 8) (hd : decode Y.2.1 pc = .ok (.invokevirtual i, 3)) (kk : q_W Γ Y rc rs Sh I' (pc + 3) lv (v.toList ++ st)) : q_W Γ Y rc rs Sh I pc lv stk := by
  rw [hst]
  exact q_callV (mc := 0) (ms := 0) B hM hV hin hse hl hn hc hq hb hdd hsum hd (fun w Sh' I2 h => by obtain ⟨rfl, rfl, rfl⟩ := h; exact ⟨Or.inl rfl, kk⟩)
theorem q_rtS (B : q_Ok Γ Y d) {Y' : q_Mth} {d' n i : Nat} {As stk : List Value} {v : Option Value} {I' : q_Mem} (hM : q_Rt Y' d' As Sh I v I') (hV : q_Vm Y' n) (hin : Cond.static Y'.1 ∈ q_WS) (hl : Cond.methodLink Y.1.cls i Y'.1 ∈ q_WS) (hn : As.length = n) (hdd : d' + 1 ≤ d)
    (hst : stk = As.reverse ++ st) (hsum : (st.map fun v => v.category).sum ≤ 8) (hd : decode Y.2.1 pc = .ok (.invokestatic i, 3)) (kk : q_W Γ Y rc rs Sh I' (pc + 3) lv (v.toList ++ st)) : q_W Γ Y rc rs Sh I pc lv stk := by
  rw [hst]
  exact q_callS (mc := 0) (ms := 0) B hM hV hin hl hn hdd hsum hd (fun w Sh' I2 h => by obtain ⟨rfl, rfl, rfl⟩ := h; exact ⟨Or.inl rfl, kk⟩)
theorem q_rtSN (B : q_Ok Γ Y d) {Y' : q_Mth} {d' n i : Nat} {As stk : List Value} {v : Option Value} {I' : q_Mem} (hM : q_Rt Y' d' As Sh I v I') (hV : q_Vm Y' n) (hin : Cond.static Y'.1 ∈ q_WS) (hl : Cond.methodLinkNest Y.1.cls i Y'.1 RX6 ∈ q_nl) (hn : As.length = n) (hdd : d' + 1 ≤ d)
    (hst : stk = As.reverse ++ st) (hsum : (st.map fun v => v.category).sum ≤ 8) (hd : decode Y.2.1 pc = .ok (.invokestatic i, 3)) (kk : q_W Γ Y rc rs Sh I' (pc + 3) lv (v.toList ++ st)) : q_W Γ Y rc rs Sh I pc lv stk := by
  rw [hst]
  exact q_callSN (mc := 0) (ms := 0) B hM hV hin hl hn hdd hsum hd (fun w Sh' I2 h => by obtain ⟨rfl, rfl, rfl⟩ := h; exact ⟨Or.inl rfl, kk⟩)
/-- .. and one of which only a property is known -/
def q_Rp (Y : q_Mth) (d : Nat) (args : List Value) (Sh : q_Sh) (I : q_Mem) (K : Option Value → q_Mem → Prop) : Prop := q_Call Y d 0 0 args Sh I (fun w Sh' I2 => Sh' = Sh ∧ K w I2)
theorem q_rpV (B : q_Ok Γ Y d) {Y' : q_Mth} {d' n i ci b : Nat} {As stk : List Value} {q : vw_C} {K : Option Value → q_Mem → Prop} (hM : q_Rp Y' d' (.ref b :: As) Sh I K) (hV : q_Vm Y' n) (hin : Cond.instanceMethod Y'.1 ∈ q_WS) (hse : Cond.selects Y'.1.cls Y'.1 Y'.1 ∈ q_WS) (hl : Cond.methodLink Y.1.cls i Y'.1 ∈ q_WS) (hn : As.length = n) (hc : vwCl[ci]? = some q) (hq : q.1 = Y'.1.cls) (hb : q_is Sh b ci) (hdd : d' + 1 ≤ d)
    (hst : stk = As.reverse ++ .ref b :: st) (hsum : (st.map fun v => v.category).sum ≤ 8) (hd : decode Y.2.1 pc = .ok (.invokevirtual i, 3)) (kk : ∀ v I', K v I' → q_W Γ Y rc rs Sh I' (pc + 3) lv (v.toList ++ st)) : q_W Γ Y rc rs Sh I pc lv stk := by
  rw [hst]
  exact q_callV (mc := 0) (ms := 0) B hM hV hin hse hl hn hc hq hb hdd hsum hd (fun w Sh' I2 h => by obtain ⟨rfl, h⟩ := h; exact ⟨Or.inl rfl, kk _ _ h⟩)
theorem q_rt_rp {Y' : q_Mth} {d' : Nat} {args : List Value} {v : Option Value} {I' : q_Mem} (h : q_Rt Y' d' args Sh I v I') : q_Rp Y' d' args Sh I (fun w I2 => w = v ∧ I2 = I') := q_call_mono h (fun _ _ _ q => ⟨q.2.1, q.1, q.2.2⟩)
theorem q_rp_mono {Y' : q_Mth} {d' : Nat} {args : List Value} {K K' : Option Value → q_Mem → Prop} (h : q_Rp Y' d' args Sh I K) (hk : ∀ v I', K v I' → K' v I') : q_Rp Y' d' args Sh I K' := q_call_mono h (fun _ _ _ q => ⟨q.1, hk _ _ q.2⟩)
theorem q_rt_of {Y : q_Mth} {args : List Value} {v : Option Value} {I' : q_Mem} (hy : plainName Y.1.cls = true) (hn : (lg_sl args).length ≤ Y.2.2.1)
    (body : ∀ Γ : q_Cx, q_OkM Γ Y d (fun w Sh' I2 => w = v ∧ Sh' = Sh ∧ I2 = I') → q_W Γ Y 0 0 Sh I 0 (lv_args 0 args) []) : q_Rt Y d args Sh I v I' := q_call_of hy hn body
theorem q_rp_of {Y : q_Mth} {args : List Value} {K : Option Value → q_Mem → Prop} (hy : plainName Y.1.cls = true) (hn : (lg_sl args).length ≤ Y.2.2.1)
    (body : ∀ Γ : q_Cx, q_OkM Γ Y d (fun w Sh' I2 => Sh' = Sh ∧ K w I2) → q_W Γ Y 0 0 Sh I 0 (lv_args 0 args) []) : q_Rp Y d args Sh I K := q_call_of hy hn body
theorem q_rt_mono {Y' : q_Mth} {d' : Nat} {args : List Value} {v v' : Option Value} {I' I2 : q_Mem} (h : q_Rt Y' d' args Sh I v I') (e1 : v = v') (e2 : I' = I2) : q_Rt Y' d' args Sh I v' I2 := by subst e1; subst e2; exact h
theorem q_mem_eq {I2 : q_Mem} (h : I = I2) (k : q_W Γ Y rc rs Sh I2 pc lv st) : q_W Γ Y rc rs Sh I pc lv st := by rw [h]; exact k
theorem q_st_eq {st2 : List Value} (h : st = st2) (k : q_W Γ Y rc rs Sh I pc lv st2) : q_W Γ Y rc rs Sh I pc lv st := by rw [h]; exact k
/-- locals as they are asked for -/
theorem q_to {lv2 : List (Nat × Value)} {st2 : List Value} (he : ∀ q ∈ lv2, q_lk lv q.1 = some q.2) (hs : st = st2) (k : q_W Γ Y rc rs Sh I pc lv2 st2) : q_W Γ Y rc rs Sh I pc lv st := by
  subst hs
  exact q_lvto (List.all_eq_true.mpr fun q hq => by rw [he q hq]; rfl) he k
end QROWS2
/-! an array of the memory as a whole -/
def q_setA (I : q_Mem) (l : Nat) (f : Nat → Int32) : q_Mem := fun a => if a = l then f else I a
theorem q_setA_at (I : q_Mem) (l : Nat) (f : Nat → Int32) : q_setA I l f l = f := by simp [q_setA]
theorem q_setA_ne {I : q_Mem} {l m : Nat} {f : Nat → Int32} (h : m ≠ l) : q_setA I l f m = I m := by simp [q_setA, h]
theorem q_setA_setA (I : q_Mem) (l : Nat) (f g : Nat → Int32) : q_setA (q_setA I l f) l g = q_setA I l g := by
  funext a; by_cases h : a = l <;> simp [q_setA, h]
theorem q_setA_self (I : q_Mem) (l : Nat) : q_setA I l (I l) = I := by
  funext a; by_cases h : a = l <;> simp [q_setA, h]
theorem q_upI_setA (I : q_Mem) (l k : Nat) (v : Int32) : q_upI I l k v = q_setA I l (upd (I l) k v) := by
  funext a b; by_cases h : a = l <;> simp [q_setA, q_upI, upd, h]
theorem q_upd_at (f : Nat → Int32) (k : Nat) (v : Int32) : upd f k v k = v := by simp [upd]
theorem q_upd_ne {f : Nat → Int32} {k j : Nat} {v : Int32} (h : j ≠ k) : upd f k v j = f j := by simp [upd, h]
/-! numbers -/
theorem q_nI_mul (a b : Nat) : nI a * nI b = nI (a * b) := (Int32.ofNat_mul a b).symm
theorem q_nI_sub {a b : Nat} (h : b ≤ a) : nI a - nI b = nI (a - b) := by
  have e : nI a = nI (a - b) + nI b := by rw [nI_add, Nat.sub_add_cancel h]
  rw [e, Int32.add_sub_cancel]
def q_fold {α : Type} (f : Nat → α → α) : Nat → α → α
  | 0, a => a
  | n + 1, a => f n (q_fold f n a)
