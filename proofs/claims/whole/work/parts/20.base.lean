/-! words of our own for the pure functions that mirror the methods ('some z': the method comes to its end with z), and rows that lay a method's beginning, its calls and its end -/
abbrev PI : Type := Nat → Nat → Int32
abbrev PL : Type := Nat → Nat → Int64
def mb_let {α β : Type} (e : β) (K : β → Option α) : Option α := K e
theorem mb_let_s {α β : Type} {e : β} {K : β → Option α} {z : α} (h : mb_let e K = some z) : ∃ v : β, v = e ∧ K v = some z := ⟨e, rfl, h⟩
def mb_chk {α : Type} (i : Int32) (n : Nat) (x : Option α) : Option α := if i < 0 ∨ n ≤ i.toNatClampNeg then none else x
theorem mb_chk_s {α : Type} {i : Int32} {n : Nat} {x : Option α} {z : α} (h : mb_chk i n x = some z) : vp_in i n ∧ x = some z := by
  unfold mb_chk at h
  split at h
  · cases h
  · rename_i q
    exact ⟨q, h⟩
theorem mb_chk_of {α : Type} {i : Int32} {n : Nat} {x : Option α} (h : vp_in i n) : mb_chk i n x = x := if_neg h
def mb_dvi {α : Type} (y : Int32) (x : Option α) : Option α := if y = 0 then none else x
theorem mb_dvi_s {α : Type} {y : Int32} {x : Option α} {z : α} (h : mb_dvi y x = some z) : ¬ y = 0 ∧ x = some z := by
  unfold mb_dvi at h
  split at h
  · cases h
  · rename_i q
    exact ⟨q, h⟩
theorem mb_dvi_of {α : Type} {y : Int32} {x : Option α} (h : ¬ y = 0) : mb_dvi y x = x := if_neg h
def mb_dvl {α : Type} (y : Int64) (x : Option α) : Option α := if y = 0 then none else x
theorem mb_dvl_s {α : Type} {y : Int64} {x : Option α} {z : α} (h : mb_dvl y x = some z) : ¬ y = 0 ∧ x = some z := by
  unfold mb_dvl at h
  split at h
  · cases h
  · rename_i q
    exact ⟨q, h⟩
theorem mb_dvl_of {α : Type} {y : Int64} {x : Option α} (h : ¬ y = 0) : mb_dvl y x = x := if_neg h
/-- what is answered as a boolean is 0 or 1 -/
def mb_z {α : Type} (v : Int32) (x : Option α) : Option α := if v = 0 ∨ v = 1 then x else none
theorem mb_z_s {α : Type} {v : Int32} {x : Option α} {z : α} (h : mb_z v x = some z) : narrow .boolean (.int v) = .int v ∧ x = some z := by
  unfold mb_z at h
  split at h
  · rename_i q
    rcases q with rfl | rfl
    · exact ⟨rfl, h⟩
    · exact ⟨rfl, h⟩
  · cases h
theorem mb_z_of {α : Type} {v : Int32} {x : Option α} (h : v = 0 ∨ v = 1) : mb_z v x = x := if_pos h
def mb_bd1 {α β : Type} (q : Option β) (K : β → Option α) : Option α := match q with
  | some x => K x
  | none => none
theorem mb_bd1_s {α β : Type} {q : Option β} {K : β → Option α} {z : α} (h : mb_bd1 q K = some z) : ∃ x, q = some x ∧ K x = some z := by
  cases q with
  | none => cases h
  | some x => exact ⟨x, rfl, h⟩
def mb_bd2 {α β γ : Type} (q : Option (β × γ)) (K : β → γ → Option α) : Option α := match q with
  | some (x, y) => K x y
  | none => none
theorem mb_bd2_s {α β γ : Type} {q : Option (β × γ)} {K : β → γ → Option α} {z : α} (h : mb_bd2 q K = some z) : ∃ x y, q = some (x, y) ∧ K x y = some z := by
  cases q with
  | none => cases h
  | some x => obtain ⟨x, y⟩ := x; exact ⟨x, y, rfl, h⟩
def mb_bd3 {α β γ δ : Type} (q : Option (β × γ × δ)) (K : β → γ → δ → Option α) : Option α := match q with
  | some (x, y, w) => K x y w
  | none => none
theorem mb_bd3_s {α β γ δ : Type} {q : Option (β × γ × δ)} {K : β → γ → δ → Option α} {z : α} (h : mb_bd3 q K = some z) : ∃ x y w, q = some (x, y, w) ∧ K x y w = some z := by
  cases q with
  | none => cases h
  | some x => obtain ⟨x, y, w⟩ := x; exact ⟨x, y, w, rfl, h⟩
def mb_jn {κ α : Type} (k : κ) (B : κ → Option α) : Option α := B k
theorem mb_jn_s {κ α : Type} {k : κ} {B : κ → Option α} {z : α} (h : mb_jn k B = some z) : ∃ J : κ, J = k ∧ B J = some z := ⟨k, rfl, h⟩
theorem mb_j0 {α : Type} {k J : Option α} {z : α} (e : J = k) (h : J = some z) : k = some z := e ▸ h
theorem mb_j1 {A α : Type} {k J : A → Option α} {a : A} {z : α} (e : J = k) (h : J a = some z) : k a = some z := e ▸ h
theorem mb_j2 {A B α : Type} {k J : A → B → Option α} {a : A} {b : B} {z : α} (e : J = k) (h : J a b = some z) : k a b = some z := e ▸ h
theorem mb_j3 {A B C α : Type} {k J : A → B → C → Option α} {a : A} {b : B} {c : C} {z : α} (e : J = k) (h : J a b c = some z) : k a b c = some z := e ▸ h
theorem mb_j4 {A B C D α : Type} {k J : A → B → C → D → Option α} {a : A} {b : B} {c : C} {d : D} {z : α} (e : J = k) (h : J a b c d = some z) : k a b c d = some z := e ▸ h
theorem mb_j5 {A B C D E α : Type} {k J : A → B → C → D → E → Option α} {a : A} {b : B} {c : C} {d : D} {f : E} {z : α} (e : J = k) (h : J a b c d f = some z) : k a b c d f = some z := e ▸ h
theorem mb_j6 {A B C D E F α : Type} {k J : A → B → C → D → E → F → Option α} {a : A} {b : B} {c : C} {d : D} {f : E} {g : F} {z : α} (e : J = k) (h : J a b c d f g = some z) : k a b c d f g = some z := e ▸ h
theorem mb_if_t {α : Type} {c : Prop} [Decidable c] {A B : Option α} {z : α} (h : c) (hf : (if c then A else B) = some z) : A = some z := by rwa [if_pos h] at hf
theorem mb_if_f {α : Type} {c : Prop} [Decidable c] {A B : Option α} {z : α} (h : ¬ c) (hf : (if c then A else B) = some z) : B = some z := by rwa [if_neg h] at hf
/-- an element of a row of ints (place p of a picture) is written -/
def mb_u2 (P : PI) (p i : Nat) (v : Int32) : PI := fun q => cond (Nat.beq q p) (upd (P p) i v) (P q)
def mb_u2L (P : PL) (p i : Nat) (v : Int64) : PL := fun q => cond (Nat.beq q p) (vp_updL (P p) i v) (P q)
/-- a field of the object itself (place 0 of a picture) is written -/
def mb_uo (P : PI) (s : Nat) (v : Int32) : PI := fun q => cond (Nat.beq q 0) (fun j => cond (Nat.beq j s) v (P 0 j)) (P q)
def mb_uoL (P : PL) (s : Nat) (v : Int64) : PL := fun q => cond (Nat.beq q 0) (fun j => cond (Nat.beq j s) v (P 0 j)) (P q)
/-- a whole row is put in place p -/
def mb_up (P : PI) (p : Nat) (f : Nat → Int32) : PI := fun q => cond (Nat.beq q p) f (P q)
def mb_upL (P : PL) (p : Nat) (f : Nat → Int64) : PL := fun q => cond (Nat.beq q p) f (P q)
/-- how often a loop may turn in a mirror -/
def mb_fu : Nat := 1000000000
theorem mb_topi {p : Program} {l : Launch} {e : Env} {R : Room} {s : State} {m : MethodId} {args : Array Value} {below : List Frame} {meth : Method} {c : Code} {H : Heap} {locs : List Loc} {cells slots : Nat} {Q : State → Prop} {pc : Nat} {ls : Array Slot} {rest : List Value} {x y : Int32} (h : y = x) (k : W p l e R s m args below meth c H locs cells slots Q (F0 m pc ls (.int y :: rest))) : W p l e R s m args below meth c H locs cells slots Q (F0 m pc ls (.int x :: rest)) := h ▸ k
theorem mb_topl {p : Program} {l : Launch} {e : Env} {R : Room} {s : State} {m : MethodId} {args : Array Value} {below : List Frame} {meth : Method} {c : Code} {H : Heap} {locs : List Loc} {cells slots : Nat} {Q : State → Prop} {pc : Nat} {ls : Array Slot} {rest : List Value} {x y : Int64} (h : y = x) (k : W p l e R s m args below meth c H locs cells slots Q (F0 m pc ls (.long y :: rest))) : W p l e R s m args below meth c H locs cells slots Q (F0 m pc ls (.long x :: rest)) := h ▸ k
theorem gw_fm {ws ws' : va_W} {is : List Nat} (h : is.map (fun i => ws[i]?) = ws'.map some) : is.filterMap (fun i => ws[i]?) = ws' := by
  have e : is.filterMap (fun i => ws[i]?) = (is.map (fun i => ws[i]?)).filterMap id := by
    rw [List.filterMap_map]; rfl
  rw [e, h, List.filterMap_map]
  exact List.filterMap_some
/-- the words of the nest's private calls, which no list of good words may hold, and of the rows of objects: they go from caller to callee -/
def gw_nest : List (String × Nat × MethodName × String) := [("OneMeasure$Script", 42, ⟨"OneMeasure", "isUnitNumber", "(I)Z"⟩, "OneMeasure"), ("OneMeasure$Script", 46, ⟨"OneMeasure", "isDistrict", "(I)Z"⟩, "OneMeasure"),
  ("OneMeasure", 9, ⟨"OneMeasure$Units", "<init>", "()V"⟩, "OneMeasure"), ("OneMeasure", 18, ⟨"OneMeasure$Tables", "<init>", "()V"⟩, "OneMeasure"), ("OneMeasure", 25, ⟨"OneMeasure$Ways", "<init>", "()V"⟩, "OneMeasure"), ("OneMeasure", 32, ⟨"OneMeasure$Ground", "<init>", "()V"⟩, "OneMeasure"), ("OneMeasure", 39, ⟨"OneMeasure$Trials", "<init>", "()V"⟩, "OneMeasure"), ("OneMeasure", 46, ⟨"OneMeasure$Script", "<init>", "()V"⟩, "OneMeasure"), ("OneMeasure", 53, ⟨"OneMeasure$Decrees", "<init>", "()V"⟩, "OneMeasure"), ("OneMeasure", 60, ⟨"OneMeasure$Papers", "<init>", "()V"⟩, "OneMeasure"), ("OneMeasure", 67, ⟨"OneMeasure$Rods", "<init>", "()V"⟩, "OneMeasure"), ("OneMeasure", 74, ⟨"OneMeasure$Tours", "<init>", "()V"⟩, "OneMeasure"), ("OneMeasure", 81, ⟨"OneMeasure$Folk", "<init>", "()V"⟩, "OneMeasure")]
def gw_N (U : State) : Prop := (∀ q ∈ gw_nest, va_Nw (.methodLinkNest q.1 q.2.1 q.2.2.1 q.2.2.2) U) ∧ va_AO "OneMeasure$Rods" U ∧ va_AO "OneMeasure$Folk" U
theorem gw_N.same {u U : State} (h : gw_N u) (e : u.vm = U.vm) : gw_N U := ⟨fun q hq => va_Nw.same rfl e (h.1 q hq), va_AO.moved (e ▸ Vm.Alike.refl u.vm) h.2.1, va_AO.moved (e ▸ Vm.Alike.refl u.vm) h.2.2⟩
theorem gw_N.warm {s U : State} (h : gw_N s) (hW : s.WarmedH U.vm) : gw_N U := ⟨fun q hq => va_Nw.warmM hW (h.1 q hq), va_AO.moved hW.alike h.2.1, va_AO.moved hW.alike h.2.2⟩
/-- the beginning of a contract -/
abbrev gw_pre (D : va_G) (cl : List vw_C) (tys : List (ClassId × FieldType)) (ws : va_W) (sz : Nat) : State → Prop := fun U => U.heap.size = sz ∧ va_P D cl ws U.heap ∧ va_K D cl tys U ∧ va_D (fun _ => True) ws ∧ gw_N U
/-- the cells behind a method -/
abbrev gw_b (D : va_G) (cl : List vw_C) (tys : List (ClassId × FieldType)) (A : Nat → Prop) (ws : va_W) : Unit → State → Prop := fun _ t => va_P D cl ws t.heap ∧ va_K D cl tys t ∧ va_D A ws
theorem gw_blind {av : List Value} {D : va_G} {cl : List vw_C} {tys : List (ClassId × FieldType)} {ws : va_W} {sz : Nat} : FrameBlind (va_Pc av (gw_pre D cl tys ws sz)) :=
  fun a U g mk q => by obtain ⟨q0, q1, qP, qK, qD, qN⟩ := q; exact ⟨q0, q1, qP, va_K.moved (u := U) (U := U.calling g mk a) (Vm.Alike.refl U.vm) qK, qD, qN.same rfl⟩
theorem gp_V {s : State} {H : Heap} {D : va_G} {cl : List vw_C} {tys : List (ClassId × FieldType)} {A : Nat → Prop} {ws wc : va_W} {b ci q0 : Nat} {q : vw_C} {fs : List Value} {As : List Value} (hP : va_P D cl ws H) (hD : va_D A ws) (hK : va_K D cl tys s) (hN : gw_N s) (isC : List Nat) (hn : va_nd isC = true) (hC : isC.map (fun i => ws[i]?) = wc.map some) (hc : cl[ci]? = some q) (he : wc[q0]? = some (b, .inr (ci, fs))) :
    PreV s H q.1 b (va_Pc (.ref b :: As) (gw_pre D cl tys wc H.size)) As := by
  have hPc : va_P D cl wc H := hP.sub isC (gw_fm hC)
  have hDc : va_D A wc := hD.sub isC hn hC
  exact ⟨gw_blind, va_recv hK hPc hc he, fun U hU hW => ⟨rfl, by rw [hU], by rw [hU]; exact hPc, va_K.moved hW.alike hK, hDc.weaken (fun _ _ _ _ => trivial), hN.warm hW⟩⟩
theorem gp_S {s : State} {H : Heap} {D : va_G} {cl : List vw_C} {tys : List (ClassId × FieldType)} {A : Nat → Prop} {ws wc : va_W} {As : List Value} (hP : va_P D cl ws H) (hD : va_D A ws) (hK : va_K D cl tys s) (hN : gw_N s) (isC : List Nat) (hn : va_nd isC = true) (hC : isC.map (fun i => ws[i]?) = wc.map some) :
    PreS s H (va_Pc As (gw_pre D cl tys wc H.size)) As := by
  have hPc : va_P D cl wc H := hP.sub isC (gw_fm hC)
  have hDc : va_D A wc := hD.sub isC hn hC
  exact ⟨gw_blind, fun U hU hW => ⟨rfl, by rw [hU], by rw [hU]; exact hPc, va_K.moved hW.alike hK, hDc.weaken (fun _ _ _ _ => trivial), hN.warm hW⟩⟩
section
variable {p : Program} {l : Launch} {e : Env} {R : Room} {s : State} {m : MethodId} {args : Array Value} {below : List Frame} {meth : Method} {c : Code} {H : Heap} {locs : List Loc} {cells slots : Nat} {Q : State → Prop} {pc : Nat} {ls : Array Slot} {rest st0 : List Value} {D : va_G} {cl : List vw_C} {tys : List (ClassId × FieldType)} {A : Nat → Prop} {ws wc wr w1 ws' : va_W} {a : Array Value}
/-- a call that answers an int, and makes nothing -/
theorem gc_i {r0 : Int32} (hr : va_Run p l e R s m args below meth c H locs cells slots 0 0 (F0 m pc ls st0) rest (va_Qi (fun (r : Int32) (_ : Unit) => r = r0) (gw_b D cl tys (va_A wc H.size) w1) (va_A wc H.size) a) (va_A wc H.size))
    (hP : va_P D cl ws H) (hD : va_D A ws) (hS : va_S A s.heap H locs) (hA : ∀ q, s.heap.size ≤ q → A q) (isC isR : List Nat) (hC : isC.map (fun i => ws[i]?) = wc.map some) (hR : isR.map (fun i => ws[i]?) = wr.map some) (hn : va_nd isR = true) (hdis : ∀ i ∈ isR, i ∉ isC) (pm : List Nat) (hpm : va_nd pm = true) (hws : pm.map (fun i => (wr ++ w1)[i]?) = ws'.map some)
    (kk : ∀ (H1 : Heap) (locs1 : List Loc), va_P D cl ws' H1 → va_D A ws' → va_S A s.heap H1 locs1 → W p l e R s m args below meth c H1 locs1 cells slots Q (F0 m (pc + 3) ls (.int r0 :: rest))) : W p l e R s m args below meth c H locs cells slots Q (F0 m pc ls st0) := by
  have hF : ∀ q, va_A wc H.size q → A q := va_free hD hS hA isC hC
  refine va_calli hr hS (fun q _ h => hF q h) hF (fun r u t H1 locs1 ht hvm hw hB hz1 hk1 hS1 => ?_)
  obtain ⟨hP1, hK1, hD1⟩ := hB
  rw [ht] at hP1
  obtain ⟨hP2, hD2⟩ := va_join hP hD isC isR hC hR hn hdis hk1 hF hP1 hD1
  rw [hw]
  exact kk H1 locs1 (hP2.sub pm (gw_fm hws)) (hD2.sub pm hpm hws) hS1
theorem gc_l {r0 : Int64} (hr : va_Run p l e R s m args below meth c H locs cells slots 0 0 (F0 m pc ls st0) rest (va_Ql (fun (r : Int64) (_ : Unit) => r = r0) (gw_b D cl tys (va_A wc H.size) w1) (va_A wc H.size) a) (va_A wc H.size))
    (hP : va_P D cl ws H) (hD : va_D A ws) (hS : va_S A s.heap H locs) (hA : ∀ q, s.heap.size ≤ q → A q) (isC isR : List Nat) (hC : isC.map (fun i => ws[i]?) = wc.map some) (hR : isR.map (fun i => ws[i]?) = wr.map some) (hn : va_nd isR = true) (hdis : ∀ i ∈ isR, i ∉ isC) (pm : List Nat) (hpm : va_nd pm = true) (hws : pm.map (fun i => (wr ++ w1)[i]?) = ws'.map some)
    (kk : ∀ (H1 : Heap) (locs1 : List Loc), va_P D cl ws' H1 → va_D A ws' → va_S A s.heap H1 locs1 → W p l e R s m args below meth c H1 locs1 cells slots Q (F0 m (pc + 3) ls (.long r0 :: rest))) : W p l e R s m args below meth c H locs cells slots Q (F0 m pc ls st0) := by
  have hF : ∀ q, va_A wc H.size q → A q := va_free hD hS hA isC hC
  refine va_calll hr hS (fun q _ h => hF q h) hF (fun r u t H1 locs1 ht hvm hw hB hz1 hk1 hS1 => ?_)
  obtain ⟨hP1, hK1, hD1⟩ := hB
  rw [ht] at hP1
  obtain ⟨hP2, hD2⟩ := va_join hP hD isC isR hC hR hn hdis hk1 hF hP1 hD1
  rw [hw]
  exact kk H1 locs1 (hP2.sub pm (gw_fm hws)) (hD2.sub pm hpm hws) hS1
theorem gc_v (hr : va_Run p l e R s m args below meth c H locs cells slots 0 0 (F0 m pc ls st0) rest (va_Qv (fun (_ : Unit) => True) (gw_b D cl tys (va_A wc H.size) w1) (va_A wc H.size) a) (va_A wc H.size))
    (hP : va_P D cl ws H) (hD : va_D A ws) (hS : va_S A s.heap H locs) (hA : ∀ q, s.heap.size ≤ q → A q) (isC isR : List Nat) (hC : isC.map (fun i => ws[i]?) = wc.map some) (hR : isR.map (fun i => ws[i]?) = wr.map some) (hn : va_nd isR = true) (hdis : ∀ i ∈ isR, i ∉ isC) (pm : List Nat) (hpm : va_nd pm = true) (hws : pm.map (fun i => (wr ++ w1)[i]?) = ws'.map some)
    (kk : ∀ (H1 : Heap) (locs1 : List Loc), va_P D cl ws' H1 → va_D A ws' → va_S A s.heap H1 locs1 → W p l e R s m args below meth c H1 locs1 cells slots Q (F0 m (pc + 3) ls rest)) : W p l e R s m args below meth c H locs cells slots Q (F0 m pc ls st0) := by
  have hF : ∀ q, va_A wc H.size q → A q := va_free hD hS hA isC hC
  refine va_callv hr hS (fun q _ h => hF q h) hF (fun u t H1 locs1 ht hvm hw hB hz1 hk1 hS1 => ?_)
  obtain ⟨hP1, hK1, hD1⟩ := hB
  rw [ht] at hP1
  obtain ⟨hP2, hD2⟩ := va_join hP hD isC isR hC hR hn hdis hk1 hF hP1 hD1
  exact kk H1 locs1 (hP2.sub pm (gw_fm hws)) (hD2.sub pm hpm hws) hS1
end
section
variable {l : Launch} {y : MethodName} {ws ws' : List Cond} {rm : Room} {D : va_G} {cl : List vw_C} {tys : List (ClassId × FieldType)} {sz : Nat} {cc : ByteArray} {maxL : Nat} {av : List Value} {ws0 ws1 : va_W}
/-- a contract of a method that answers an int: its walk, from its first instruction -/
theorem gm_i {r0 : Int32} (hy : plainName y.cls = true) (hw : ws = Cond.code y cc maxL (some .int) :: ws') (hn : (lg_sl av).length ≤ maxL)
    (k : ∀ (p : Program) (e : Env) (s : State) (m : MethodId) (args : Array Value) (below : List Frame) (meth : Method) (c : Code) (A : Nat → Prop) (Q : State → Prop) (ls : Array Slot) (H : Heap) (locs : List Loc), p.tables.exec = Jvm.exec → c.code = cc → c.maxLocals = maxL → s.vm.findClass y.cls = some m.cls → (∀ w ∈ ws, w.before args s = true) → va_K D cl tys s → gw_N s → (∀ q, s.heap.size ≤ q → A q) → va_P D cl ws0 H → va_D A ws0 → va_S A s.heap H locs → lv_has ls maxL (lv_args 0 av) →
      (∀ (H : Heap) (locs : List Loc) (pc : Nat) (ls : Array Slot), decode cc pc = .ok (.ireturn, 1) → va_P D cl ws1 H → va_D A ws1 → va_S A s.heap H locs → W p l e rm s m args below meth c H locs 0 0 Q (F0 m pc ls [.int r0])) →
      W p l e rm s m args below meth c H locs 0 0 Q (F0 m 0 ls [])) :
    Met l y ws rm (va_Pc av (gw_pre D cl tys ws0 sz)) (va_Qi (fun (r : Int32) (_ : Unit) => r = r0) (gw_b D cl tys (va_A ws0 sz) ws1) (va_A ws0 sz)) 0 0 (va_A ws0 sz) := by
  refine Met.ofW (cc := cc) (maxL := maxL) (ret := some .int) hy hw ?_
  intro p e s m args below meth c s₁ B hml hv
  obtain ⟨rfl, hsz, hP, hK, hD0, hN⟩ := hv
  have hlocks := B.notSynchronized
  subst hsz
  rw [lg_entry_eq]
  refine k p e s m _ below meth c (va_A ws0 s.heap.size) _ _ _ _ B.exec B.bytes hml (findClass_of_methodNamed B.named) (atoms_spec (ws := ws) B.pre) hK hN (fun q h => Or.inr h) hP (hD0.self (sz := s.heap.size)) va_S.rf (lv_entry av hn) ?_
  intro H locs pc ls hd hP hD hS
  exact W.iret (v := r0) B.exec B.bytes B.returns (fun t ht hW => ⟨⟨r0, (), rfl, rfl, by rw [ht]; exact hP, va_K.moved hW.alike hK, hD⟩, hS.F ht⟩) hS.2.2 hd
theorem gm_z {r0 : Int32} (hy : plainName y.cls = true) (hw : ws = Cond.code y cc maxL (some .boolean) :: ws') (hn : (lg_sl av).length ≤ maxL)
    (k : ∀ (p : Program) (e : Env) (s : State) (m : MethodId) (args : Array Value) (below : List Frame) (meth : Method) (c : Code) (A : Nat → Prop) (Q : State → Prop) (ls : Array Slot) (H : Heap) (locs : List Loc), p.tables.exec = Jvm.exec → c.code = cc → c.maxLocals = maxL → s.vm.findClass y.cls = some m.cls → (∀ w ∈ ws, w.before args s = true) → va_K D cl tys s → gw_N s → (∀ q, s.heap.size ≤ q → A q) → va_P D cl ws0 H → va_D A ws0 → va_S A s.heap H locs → lv_has ls maxL (lv_args 0 av) →
      (∀ (H : Heap) (locs : List Loc) (pc : Nat) (ls : Array Slot), narrow .boolean (.int r0) = .int r0 → decode cc pc = .ok (.ireturn, 1) → va_P D cl ws1 H → va_D A ws1 → va_S A s.heap H locs → W p l e rm s m args below meth c H locs 0 0 Q (F0 m pc ls [.int r0])) →
      W p l e rm s m args below meth c H locs 0 0 Q (F0 m 0 ls [])) :
    Met l y ws rm (va_Pc av (gw_pre D cl tys ws0 sz)) (va_Qi (fun (r : Int32) (_ : Unit) => r = r0) (gw_b D cl tys (va_A ws0 sz) ws1) (va_A ws0 sz)) 0 0 (va_A ws0 sz) := by
  refine Met.ofW (cc := cc) (maxL := maxL) (ret := some .boolean) hy hw ?_
  intro p e s m args below meth c s₁ B hml hv
  obtain ⟨rfl, hsz, hP, hK, hD0, hN⟩ := hv
  have hlocks := B.notSynchronized
  subst hsz
  rw [lg_entry_eq]
  refine k p e s m _ below meth c (va_A ws0 s.heap.size) _ _ _ _ B.exec B.bytes hml (findClass_of_methodNamed B.named) (atoms_spec (ws := ws) B.pre) hK hN (fun q h => Or.inr h) hP (hD0.self (sz := s.heap.size)) va_S.rf (lv_entry av hn) ?_
  intro H locs pc ls hz hd hP hD hS
  exact W.zret (v := r0) B.exec B.bytes B.returns hz (fun t ht hW => ⟨⟨r0, (), rfl, rfl, by rw [ht]; exact hP, va_K.moved hW.alike hK, hD⟩, hS.F ht⟩) hS.2.2 hd
theorem gm_l {r0 : Int64} (hy : plainName y.cls = true) (hw : ws = Cond.code y cc maxL (some .long) :: ws') (hn : (lg_sl av).length ≤ maxL)
    (k : ∀ (p : Program) (e : Env) (s : State) (m : MethodId) (args : Array Value) (below : List Frame) (meth : Method) (c : Code) (A : Nat → Prop) (Q : State → Prop) (ls : Array Slot) (H : Heap) (locs : List Loc), p.tables.exec = Jvm.exec → c.code = cc → c.maxLocals = maxL → s.vm.findClass y.cls = some m.cls → (∀ w ∈ ws, w.before args s = true) → va_K D cl tys s → gw_N s → (∀ q, s.heap.size ≤ q → A q) → va_P D cl ws0 H → va_D A ws0 → va_S A s.heap H locs → lv_has ls maxL (lv_args 0 av) →
      (∀ (H : Heap) (locs : List Loc) (pc : Nat) (ls : Array Slot), decode cc pc = .ok (.lreturn, 1) → va_P D cl ws1 H → va_D A ws1 → va_S A s.heap H locs → W p l e rm s m args below meth c H locs 0 0 Q (F0 m pc ls [.long r0])) →
      W p l e rm s m args below meth c H locs 0 0 Q (F0 m 0 ls [])) :
    Met l y ws rm (va_Pc av (gw_pre D cl tys ws0 sz)) (va_Ql (fun (r : Int64) (_ : Unit) => r = r0) (gw_b D cl tys (va_A ws0 sz) ws1) (va_A ws0 sz)) 0 0 (va_A ws0 sz) := by
  refine Met.ofW (cc := cc) (maxL := maxL) (ret := some .long) hy hw ?_
  intro p e s m args below meth c s₁ B hml hv
  obtain ⟨rfl, hsz, hP, hK, hD0, hN⟩ := hv
  have hlocks := B.notSynchronized
  subst hsz
  rw [lg_entry_eq]
  refine k p e s m _ below meth c (va_A ws0 s.heap.size) _ _ _ _ B.exec B.bytes hml (findClass_of_methodNamed B.named) (atoms_spec (ws := ws) B.pre) hK hN (fun q h => Or.inr h) hP (hD0.self (sz := s.heap.size)) va_S.rf (lv_entry av hn) ?_
  intro H locs pc ls hd hP hD hS
  exact W.lret (v := r0) B.exec B.bytes B.returns (fun t ht hW => ⟨⟨r0, (), rfl, rfl, by rw [ht]; exact hP, va_K.moved hW.alike hK, hD⟩, hS.F ht⟩) hS.2.2 hd
theorem gm_v (hy : plainName y.cls = true) (hw : ws = Cond.code y cc maxL none :: ws') (hn : (lg_sl av).length ≤ maxL)
    (k : ∀ (p : Program) (e : Env) (s : State) (m : MethodId) (args : Array Value) (below : List Frame) (meth : Method) (c : Code) (A : Nat → Prop) (Q : State → Prop) (ls : Array Slot) (H : Heap) (locs : List Loc), p.tables.exec = Jvm.exec → c.code = cc → c.maxLocals = maxL → s.vm.findClass y.cls = some m.cls → (∀ w ∈ ws, w.before args s = true) → va_K D cl tys s → gw_N s → (∀ q, s.heap.size ≤ q → A q) → va_P D cl ws0 H → va_D A ws0 → va_S A s.heap H locs → lv_has ls maxL (lv_args 0 av) →
      (∀ (H : Heap) (locs : List Loc) (pc : Nat) (ls : Array Slot), decode cc pc = .ok (.return_, 1) → va_P D cl ws1 H → va_D A ws1 → va_S A s.heap H locs → W p l e rm s m args below meth c H locs 0 0 Q (F0 m pc ls [])) →
      W p l e rm s m args below meth c H locs 0 0 Q (F0 m 0 ls [])) :
    Met l y ws rm (va_Pc av (gw_pre D cl tys ws0 sz)) (va_Qv (fun (_ : Unit) => True) (gw_b D cl tys (va_A ws0 sz) ws1) (va_A ws0 sz)) 0 0 (va_A ws0 sz) := by
  refine Met.ofW (cc := cc) (maxL := maxL) (ret := none) hy hw ?_
  intro p e s m args below meth c s₁ B hml hv
  obtain ⟨rfl, hsz, hP, hK, hD0, hN⟩ := hv
  have hlocks := B.notSynchronized
  subst hsz
  rw [lg_entry_eq]
  refine k p e s m _ below meth c (va_A ws0 s.heap.size) _ _ _ _ B.exec B.bytes hml (findClass_of_methodNamed B.named) (atoms_spec (ws := ws) B.pre) hK hN (fun q h => Or.inr h) hP (hD0.self (sz := s.heap.size)) va_S.rf (lv_entry av hn) ?_
  intro H locs pc ls hd hP hD hS
  exact W.vret B.exec B.bytes B.returns (fun t ht hW => ⟨⟨(), rfl, trivial, by rw [ht]; exact hP, va_K.moved hW.alike hK, hD⟩, hS.F ht⟩) hS.2.2 hd
end
/-- a new row of ints, of longs: its class is the one that is known already -/
theorem gn_i {p : Program} {l : Launch} {e : Env} {R : Room} {s : State} {m : MethodId} {args : Array Value} {below : List Frame} {meth : Method} {c : Code} {H : Heap} {locs : List Loc} {cells slots : Nat} {Q : State → Prop} {pc : Nat} {ls : Array Slot} {rest : List Value} {cc : ByteArray} {D : va_G} {cl : List vw_C} {tys : List (ClassId × FieldType)} {A : Nat → Prop} {ws : va_W} {H0 : Heap} {cI : ClassId} {n : Int32} {N : Nat}
    (hx : p.tables.exec = Jvm.exec) (hb : c.code = cc) (harr : (Cond.arrayClass .int).before args s = true) (hK : va_K D cl tys s) (t0 : Nat) (ht : tys[t0]? = some (cI, .int)) (hP : va_P D cl ws H) (hD : va_D A ws) (hS : va_S A H0 H locs) (hA : ∀ q, H0.size ≤ q → A q)
    (hn : ¬ n < 0) (hN : n.toNatClampNeg = N) (hbytes : N * componentBytes .int ≤ 536870912) (hcells : cells + 1 ≤ R.cells) (hslots : slots + N ≤ R.slots) (hdg : decode cc pc = .ok (.newarray .int, 2))
    (kk : ∀ (q : Nat) (H1 : Heap), va_P D cl (ws ++ [(q, .inl (cI, N, .inl (fun _ => 0)))]) H1 → va_D A (ws ++ [(q, .inl (cI, N, .inl (fun _ => 0)))]) → va_S A H0 H1 locs → W p l e R s m args below meth c H1 locs (cells + 1) (slots + N) Q (F0 m (pc + 2) ls (.ref q :: rest))) : W p l e R s m args below meth c H locs cells slots Q (F0 m pc ls (.int n :: rest)) := by
  refine va_newa (a0 := (N, .inl (fun _ => 0))) hx hb (atype := .int) harr rfl hK hP hD hS hA (fun _ => rfl) hn hN hbytes hcells hslots hdg (fun q cA H1 hK1 hP1 hD1 hS1 => ?_)
  have e1 : s.vm.findClass ("[" ++ FieldType.int.toString) = some cA := (hK1.2 tys.length (cA, .int) (by simp; rfl)).2
  have e2 : s.vm.findClass ("[" ++ FieldType.int.toString) = some cI := (hK.2 t0 (cI, .int) ht).2
  have e3 : cA = cI := Option.some.inj (e1.symm.trans e2)
  subst e3
  exact kk q H1 hP1 hD1 hS1
theorem gn_l {p : Program} {l : Launch} {e : Env} {R : Room} {s : State} {m : MethodId} {args : Array Value} {below : List Frame} {meth : Method} {c : Code} {H : Heap} {locs : List Loc} {cells slots : Nat} {Q : State → Prop} {pc : Nat} {ls : Array Slot} {rest : List Value} {cc : ByteArray} {D : va_G} {cl : List vw_C} {tys : List (ClassId × FieldType)} {A : Nat → Prop} {ws : va_W} {H0 : Heap} {cI : ClassId} {n : Int32} {N : Nat}
    (hx : p.tables.exec = Jvm.exec) (hb : c.code = cc) (harr : (Cond.arrayClass .long).before args s = true) (hK : va_K D cl tys s) (t0 : Nat) (ht : tys[t0]? = some (cI, .long)) (hP : va_P D cl ws H) (hD : va_D A ws) (hS : va_S A H0 H locs) (hA : ∀ q, H0.size ≤ q → A q)
    (hn : ¬ n < 0) (hN : n.toNatClampNeg = N) (hbytes : N * componentBytes .long ≤ 536870912) (hcells : cells + 1 ≤ R.cells) (hslots : slots + N ≤ R.slots) (hdg : decode cc pc = .ok (.newarray .long, 2))
    (kk : ∀ (q : Nat) (H1 : Heap), va_P D cl (ws ++ [(q, .inl (cI, N, .inr (.inl (fun _ => 0))))]) H1 → va_D A (ws ++ [(q, .inl (cI, N, .inr (.inl (fun _ => 0))))]) → va_S A H0 H1 locs → W p l e R s m args below meth c H1 locs (cells + 1) (slots + N) Q (F0 m (pc + 2) ls (.ref q :: rest))) : W p l e R s m args below meth c H locs cells slots Q (F0 m pc ls (.int n :: rest)) := by
  refine va_newa (a0 := (N, .inr (.inl (fun _ => 0)))) hx hb (atype := .long) harr rfl hK hP hD hS hA (fun _ => rfl) hn hN hbytes hcells hslots hdg (fun q cA H1 hK1 hP1 hD1 hS1 => ?_)
  have e1 : s.vm.findClass ("[" ++ FieldType.long.toString) = some cA := (hK1.2 tys.length (cA, .long) (by simp; rfl)).2
  have e2 : s.vm.findClass ("[" ++ FieldType.long.toString) = some cI := (hK.2 t0 (cI, .long) ht).2
  have e3 : cA = cI := Option.some.inj (e1.symm.trans e2)
  subst e3
  exact kk q H1 hP1 hD1 hS1
/-- a contract of a constructor: the cells that come are named by the addresses that it finds -/
theorem gm_c {l : Launch} {y : MethodName} {ws ws' : List Cond} {rm : Room} {D : va_G} {cl : List vw_C} {tys : List (ClassId × FieldType)} {sz : Nat} {cc : ByteArray} {maxL : Nat} {av : List Value} {ws0 : va_W} {h0 : Nat} {wf : (Nat → Nat) → va_W} {mc ms : Nat} (hy : plainName y.cls = true) (hyn : y.name = "<init>") (hw : ws = Cond.code y cc maxL none :: ws') (hn : (lg_sl av).length ≤ maxL)
    (k : ∀ (p : Program) (e : Env) (s : State) (m : MethodId) (args : Array Value) (below : List Frame) (meth : Method) (c : Code) (A : Nat → Prop) (Q : State → Prop) (ls : Array Slot) (H : Heap) (locs : List Loc), p.tables.exec = Jvm.exec → c.code = cc → c.maxLocals = maxL → s.vm.findClass y.cls = some m.cls → (∀ w ∈ ws, w.before args s = true) → va_K D cl tys s → gw_N s → (∀ q, s.heap.size ≤ q → A q) → va_P D cl ws0 H → va_D A ws0 → va_S A s.heap H locs → lv_has ls maxL (lv_args 0 av) → meth.name = "<init>" →
      (∀ (a : Nat → Nat) (H : Heap) (locs : List Loc) (pc : Nat) (ls : Array Slot), a 0 = h0 → decode cc pc = .ok (.return_, 1) → va_P D cl (wf a) H → va_D A (wf a) → va_S A s.heap H locs → W p l e rm s m args below meth c H locs mc ms Q (F0 m pc ls [])) →
      W p l e rm s m args below meth c H locs 0 0 Q (F0 m 0 ls [])) :
    Met l y ws rm (va_Pc av (gw_pre D cl tys ws0 sz)) (va_Qv (fun (a : Nat → Nat) => a 0 = h0) (fun a t => va_P D cl (wf a) t.heap ∧ va_K D cl tys t ∧ va_D (va_A ws0 sz) (wf a)) (va_A ws0 sz)) mc ms (va_A ws0 sz) := by
  refine Met.ofW (cc := cc) (maxL := maxL) (ret := none) hy hw ?_
  intro p e s m args below meth c s₁ B hml hv
  obtain ⟨rfl, hsz, hP, hK, hD0, hN⟩ := hv
  have hlocks := B.notSynchronized
  have hin : meth.name = "<init>" := ((name_of_methodNamed B.named B.method).1).trans hyn
  subst hsz
  rw [lg_entry_eq]
  refine k p e s m _ below meth c (va_A ws0 s.heap.size) _ _ _ _ B.exec B.bytes hml (findClass_of_methodNamed B.named) (atoms_spec (ws := ws) B.pre) hK hN (fun q h => Or.inr h) hP (hD0.self (sz := s.heap.size)) va_S.rf (lv_entry av hn) hin ?_
  intro a H locs pc ls ha hd hP hD hS
  exact W.vret B.exec B.bytes B.returns (fun t ht hW => ⟨⟨a, rfl, ha, by rw [ht]; exact hP, va_K.moved hW.alike hK, hD⟩, hS.F ht⟩) hS.2.2 hd
/-- the same, of an object that makes others -/
theorem gm_c2 {l : Launch} {y : MethodName} {ws ws' : List Cond} {rm : Room} {D : va_G} {cl : List vw_C} {tys : List (ClassId × FieldType)} {sz : Nat} {cc : ByteArray} {maxL : Nat} {av : List Value} {ws0 : va_W} {h0 : Nat} {wf : (Nat → Nat → Nat) → va_W} {mc ms : Nat} (hy : plainName y.cls = true) (hyn : y.name = "<init>") (hw : ws = Cond.code y cc maxL none :: ws') (hn : (lg_sl av).length ≤ maxL)
    (k : ∀ (p : Program) (e : Env) (s : State) (m : MethodId) (args : Array Value) (below : List Frame) (meth : Method) (c : Code) (A : Nat → Prop) (Q : State → Prop) (ls : Array Slot) (H : Heap) (locs : List Loc), p.tables.exec = Jvm.exec → c.code = cc → c.maxLocals = maxL → s.vm.findClass y.cls = some m.cls → (∀ w ∈ ws, w.before args s = true) → va_K D cl tys s → gw_N s → (∀ q, s.heap.size ≤ q → A q) → va_P D cl ws0 H → va_D A ws0 → va_S A s.heap H locs → lv_has ls maxL (lv_args 0 av) → meth.name = "<init>" →
      (∀ (a : Nat → Nat → Nat) (H : Heap) (locs : List Loc) (pc : Nat) (ls : Array Slot), a 0 0 = h0 → decode cc pc = .ok (.return_, 1) → va_P D cl (wf a) H → va_D A (wf a) → va_S A s.heap H locs → W p l e rm s m args below meth c H locs mc ms Q (F0 m pc ls [])) →
      W p l e rm s m args below meth c H locs 0 0 Q (F0 m 0 ls [])) :
    Met l y ws rm (va_Pc av (gw_pre D cl tys ws0 sz)) (va_Qv (fun (a : Nat → Nat → Nat) => a 0 0 = h0) (fun a t => va_P D cl (wf a) t.heap ∧ va_K D cl tys t ∧ va_D (va_A ws0 sz) (wf a)) (va_A ws0 sz)) mc ms (va_A ws0 sz) := by
  refine Met.ofW (cc := cc) (maxL := maxL) (ret := none) hy hw ?_
  intro p e s m args below meth c s₁ B hml hv
  obtain ⟨rfl, hsz, hP, hK, hD0, hN⟩ := hv
  have hlocks := B.notSynchronized
  have hin : meth.name = "<init>" := ((name_of_methodNamed B.named B.method).1).trans hyn
  subst hsz
  rw [lg_entry_eq]
  refine k p e s m _ below meth c (va_A ws0 s.heap.size) _ _ _ _ B.exec B.bytes hml (findClass_of_methodNamed B.named) (atoms_spec (ws := ws) B.pre) hK hN (fun q h => Or.inr h) hP (hD0.self (sz := s.heap.size)) va_S.rf (lv_entry av hn) hin ?_
  intro a H locs pc ls ha hd hP hD hS
  exact W.vret B.exec B.bytes B.returns (fun t ht hW => ⟨⟨a, rfl, ha, by rw [ht]; exact hP, va_K.moved hW.alike hK, hD⟩, hS.F ht⟩) hS.2.2 hd
theorem mb_two {i : Int32} (h : vp_in i 2) (h0 : ¬ i = 0) : i = 1 := by
  obtain ⟨j, hj, rfl⟩ := vp_in_of h (by decide)
  rcases (show j = 0 ∨ j = 1 by omega) with rfl | rfl
  · exact absurd rfl h0
  · rfl
/-- how deep a recursion may go in a mirror -/
def mb_dp : Nat := 8
def mb_fill {α : Type} (n : Nat) (v : α) (f : Nat → α) : Nat → α := fun j => if j < n then v else f j
/-- a new row of objects -/
theorem gn_q {p : Program} {l : Launch} {e : Env} {R : Room} {s : State} {m : MethodId} {args : Array Value} {below : List Frame} {meth : Method} {c : Code} {H : Heap} {locs : List Loc} {cells slots : Nat} {Q : State → Prop} {pc : Nat} {ls : Array Slot} {rest : List Value} {cc : ByteArray} {D : va_G} {cl : List vw_C} {tys : List (ClassId × FieldType)} {A : Nat → Prop} {ws : va_W} {H0 : Heap} {cI : ClassId} {n : Int32} {N : Nat} {own C : String} {index : Nat}
    (hx : p.tables.exec = Jvm.exec) (hb : c.code = cc) (hown : s.vm.findClass own = some m.cls) (hclink : (Cond.classLink own index C).before args s = true) (hover : va_AO C s) (hK : va_K D cl tys s) (t0 : Nat) (ht : tys[t0]? = some (cI, .object C)) (hP : va_P D cl ws H) (hD : va_D A ws) (hS : va_S A H0 H locs) (hA : ∀ q, H0.size ≤ q → A q)
    (hn : ¬ n < 0) (hN : n.toNatClampNeg = N) (hbytes : N * 4 ≤ 536870912) (hcells : cells + 1 ≤ R.cells) (hslots : slots + N ≤ R.slots) (hdg : decode cc pc = .ok (.anewarray index, 3))
    (kk : ∀ (q : Nat) (H1 : Heap), va_P D cl (ws ++ [(q, .inl (cI, N, .inr (.inr (.inr (.inr (fun _ => none))))))]) H1 → va_D A (ws ++ [(q, .inl (cI, N, .inr (.inr (.inr (.inr (fun _ => none))))))]) → va_S A H0 H1 locs → W p l e R s m args below meth c H1 locs (cells + 1) (slots + N) Q (F0 m (pc + 3) ls (.ref q :: rest))) : W p l e R s m args below meth c H locs cells slots Q (F0 m pc ls (.int n :: rest)) := by
  refine va_newq hx hb hown hclink hover hK hP hD hS hA hn hN hbytes hcells hslots hdg (fun q cA H1 hK1 hP1 hD1 hS1 => ?_)
  obtain ⟨_, _, _, _, _, e1⟩ := (hK1.2 tys.length (cA, .object C) (by simp)).2
  obtain ⟨_, _, _, _, _, e2⟩ := (hK.2 t0 (cI, .object C) ht).2
  have e3 : cA = cI := Option.some.inj (e1.symm.trans e2)
  subst e3
  exact kk q H1 hP1 hD1 hS1
/-- a call of a constructor -/
theorem gc_c {p : Program} {l : Launch} {e : Env} {R : Room} {s : State} {m : MethodId} {args : Array Value} {below : List Frame} {meth : Method} {c : Code} {H : Heap} {locs : List Loc} {cells slots : Nat} {Q : State → Prop} {pc : Nat} {ls : Array Slot} {rest st0 : List Value} {D : va_G} {cl : List vw_C} {tys : List (ClassId × FieldType)} {A : Nat → Prop} {ws wc wr : va_W} {a : Array Value} {h0 mc ms : Nat} {wf : (Nat → Nat) → va_W}
    (hr : va_Run p l e R s m args below meth c H locs cells slots mc ms (F0 m pc ls st0) rest (va_Qv (fun (a : Nat → Nat) => a 0 = h0) (fun a t => va_P D cl (wf a) t.heap ∧ va_K D cl tys t ∧ va_D (va_A wc H.size) (wf a)) (va_A wc H.size) a) (va_A wc H.size))
    (hP : va_P D cl ws H) (hD : va_D A ws) (hS : va_S A s.heap H locs) (hA : ∀ q, s.heap.size ≤ q → A q) (isC isR : List Nat) (hC : isC.map (fun i => ws[i]?) = wc.map some) (hR : isR.map (fun i => ws[i]?) = wr.map some) (hn : va_nd isR = true) (hdis : ∀ i ∈ isR, i ∉ isC)
    (kk : ∀ (a : Nat → Nat) (H1 : Heap) (locs1 : List Loc), a 0 = h0 → va_P D cl (wr ++ wf a) H1 → va_D A (wr ++ wf a) → va_S A s.heap H1 locs1 → W p l e R s m args below meth c H1 locs1 (cells + mc) (slots + ms) Q (F0 m (pc + 3) ls rest)) : W p l e R s m args below meth c H locs cells slots Q (F0 m pc ls st0) := by
  have hF : ∀ q, va_A wc H.size q → A q := va_free hD hS hA isC hC
  refine va_callv hr hS (fun q _ h => hF q h) hF (fun u t H1 locs1 ht hvm hw hB hz1 hk1 hS1 => ?_)
  obtain ⟨hP1, hK1, hD1⟩ := hB
  rw [ht] at hP1
  obtain ⟨hP2, hD2⟩ := va_join hP hD isC isR hC hR hn hdis hk1 hF hP1 hD1
  exact kk u H1 locs1 hw hP2 hD2 hS1
/-- a call of a constructor -/
theorem gc_c2 {p : Program} {l : Launch} {e : Env} {R : Room} {s : State} {m : MethodId} {args : Array Value} {below : List Frame} {meth : Method} {c : Code} {H : Heap} {locs : List Loc} {cells slots : Nat} {Q : State → Prop} {pc : Nat} {ls : Array Slot} {rest st0 : List Value} {D : va_G} {cl : List vw_C} {tys : List (ClassId × FieldType)} {A : Nat → Prop} {ws wc wr : va_W} {a : Array Value} {h0 mc ms : Nat} {wf : (Nat → Nat → Nat) → va_W}
    (hr : va_Run p l e R s m args below meth c H locs cells slots mc ms (F0 m pc ls st0) rest (va_Qv (fun (a : Nat → Nat → Nat) => a 0 0 = h0) (fun a t => va_P D cl (wf a) t.heap ∧ va_K D cl tys t ∧ va_D (va_A wc H.size) (wf a)) (va_A wc H.size) a) (va_A wc H.size))
    (hP : va_P D cl ws H) (hD : va_D A ws) (hS : va_S A s.heap H locs) (hA : ∀ q, s.heap.size ≤ q → A q) (isC isR : List Nat) (hC : isC.map (fun i => ws[i]?) = wc.map some) (hR : isR.map (fun i => ws[i]?) = wr.map some) (hn : va_nd isR = true) (hdis : ∀ i ∈ isR, i ∉ isC)
    (kk : ∀ (a : Nat → Nat → Nat) (H1 : Heap) (locs1 : List Loc), a 0 0 = h0 → va_P D cl (wr ++ wf a) H1 → va_D A (wr ++ wf a) → va_S A s.heap H1 locs1 → W p l e R s m args below meth c H1 locs1 (cells + mc) (slots + ms) Q (F0 m (pc + 3) ls rest)) : W p l e R s m args below meth c H locs cells slots Q (F0 m pc ls st0) := by
  have hF : ∀ q, va_A wc H.size q → A q := va_free hD hS hA isC hC
  refine va_callv hr hS (fun q _ h => hF q h) hF (fun u t H1 locs1 ht hvm hw hB hz1 hk1 hS1 => ?_)
  obtain ⟨hP1, hK1, hD1⟩ := hB
  rw [ht] at hP1
  obtain ⟨hP2, hD2⟩ := va_join hP hD isC isR hC hR hn hdis hk1 hF hP1 hD1
  exact kk u H1 locs1 hw hP2 hD2 hS1
theorem mb_ni {x c : Int32} {k : Int} (h : ¬ x = c) (e : c.toInt = k) : ¬ x.toInt = k := fun q => h (Int32.toInt_inj.mp (q.trans e.symm))
theorem mb_lout4 {x k0 k1 k2 k3 o0 o1 o2 o3 d : Int} (h0 : ¬ x = k0) (h1 : ¬ x = k1) (h2 : ¬ x = k2) (h3 : ¬ x = k3) : Op.lookupswitch.offset [(k0, o0), (k1, o1), (k2, o2), (k3, o3)] d x = d := by
  rw [Op.lookupswitch.offset_cons, if_neg (fun q => h0 q.symm), Op.lookupswitch.offset_cons, if_neg (fun q => h1 q.symm), Op.lookupswitch.offset_cons, if_neg (fun q => h2 q.symm), Op.lookupswitch.offset_cons, if_neg (fun q => h3 q.symm), Op.lookupswitch.offset_nil]
theorem mb_n0 : narrow .boolean (.int 0) = .int 0 := rfl
theorem mb_n1 : narrow .boolean (.int 1) = .int 1 := rfl
theorem mb_cmp (r : Int64) : lg_cmp r r = 0 := by
  unfold lg_cmp
  rw [if_neg (fun h => absurd h (Int64.lt_irrefl)), if_pos rfl]
