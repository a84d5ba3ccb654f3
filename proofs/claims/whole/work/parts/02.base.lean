/-! the layer between the kit and the generated rows: partial answers, environment, contracts, calls -/
theorem gd_some {α : Type} {b : Bool} {k : Option α} {r : α} (h : gd b k = some r) : b = true ∧ k = some r := by
  unfold gd at h; split at h
  · exact ⟨‹_›, h⟩
  · cases h
theorem gd_t {α : Type} {b : Bool} {k : Option α} (h : b = true) : gd b k = k := by unfold gd; rw [if_pos h]
theorem bd_some {α β : Type} {x : Option α} {f : α → Option β} {r : β} (h : bd x f = some r) : ∃ a, x = some a ∧ f a = some r := by
  cases x with
  | none => cases h
  | some a => exact ⟨a, rfl, h⟩
theorem bd_t {α β : Type} {x : Option α} {f : α → Option β} {a : α} (h : x = some a) : bd x f = f a := by rw [h]; rfl
theorem jn_some {α β : Type} {f : α → Option β} {g : (α → Option β) → Option β} {r : β} (h : jn f g = some r) : ∃ K, K = f ∧ g K = some r := ⟨f, rfl, h⟩
theorem ix_in {i : Int32} {n : Nat} (h : ix i n = true) : vp_in i n := show ¬ (i < 0 ∨ n ≤ i.toNatClampNeg) from of_decide_eq_true h
theorem cpg_in {sp dp n : Int32} {n0 n1 : Nat} (h : cpg sp dp n n0 n1 = true) : (¬ sp < 0) ∧ (¬ dp < 0) ∧ (¬ n < 0) ∧ sp.toNatClampNeg + n.toNatClampNeg ≤ n0 ∧ dp.toNatClampNeg + n.toNatClampNeg ≤ n1 := of_decide_eq_true h
theorem isb_or {v : Int32} (h : isb v = true) : v = 0 ∨ v = 1 := of_decide_eq_true h
theorem zb_nar {v : Int32} (h : v = 0 ∨ v = 1) : narrow .boolean (.int v) = .int v := by rcases h with rfl | rfl <;> rfl
theorem zb_fit {v : Int32} (h : v = 0 ∨ v = 1) : fits .boolean (.int v) = true := by rcases h with rfl | rfl <;> rfl
theorem zb_vn {v : Int32} (h : v = 0 ∨ v = 1) : vp_nar .boolean v = v := by rcases h with rfl | rfl <;> rfl
theorem zb_0 : (0 : Int32) = 0 ∨ (0 : Int32) = 1 := Or.inl rfl
theorem zb_1 : (1 : Int32) = 0 ∨ (1 : Int32) = 1 := Or.inr rfl
theorem ifp {α : Type} {c : Prop} [Decidable c] {a b r : α} (hc : c) (h : (if c then a else b) = r) : a = r := by rw [if_pos hc] at h; exact h
theorem ifn {α : Type} {c : Prop} [Decidable c] {a b r : α} (hc : ¬ c) (h : (if c then a else b) = r) : b = r := by rw [if_neg hc] at h; exact h
abbrev gT (ca : Nat → ClassId) : List (ClassId × FieldType) := [(ca 0, .int), (ca 1, .long), (ca 2, .boolean), (ca 3, .object "MaskBows$Sheet"), (ca 4, .object "java/lang/String")]
def en_nf : List (String × Nat × String × String × String × String) := [("MaskBows$Nights", 57, "MaskBows$Carnival", "bows", "LMaskBows$Rows;", "MaskBows"), ("MaskBows", 99, "MaskBows$Carnival", "bows", "LMaskBows$Rows;", "MaskBows"), ("MaskBows$Reader", 68, "MaskBows$Carnival", "bows", "LMaskBows$Rows;", "MaskBows"), ("MaskBows$Reader", 98, "MaskBows$Carnival", "sayings", "LMaskBows$Rows;", "MaskBows"), ("MaskBows", 140, "MaskBows$Carnival", "sayings", "LMaskBows$Rows;", "MaskBows"), ("MaskBows$Nights", 122, "MaskBows$Carnival", "sayings", "LMaskBows$Rows;", "MaskBows"), ("MaskBows$Reader", 109, "MaskBows$Carnival", "deeds", "LMaskBows$Rows;", "MaskBows"), ("MaskBows$DeedBook", 51, "MaskBows$Carnival", "deeds", "LMaskBows$Rows;", "MaskBows"), ("MaskBows", 190, "MaskBows$Carnival", "deeds", "LMaskBows$Rows;", "MaskBows"), ("MaskBows", 81, "MaskBows$Carnival", "people", "I", "MaskBows"), ("MaskBows$Reader", 83, "MaskBows$Carnival", "people", "I", "MaskBows"), ("MaskBows$Nights", 113, "MaskBows$Carnival", "people", "I", "MaskBows"), ("MaskBows$Nights", 153, "MaskBows$Carnival", "rule", "Z", "MaskBows"), ("MaskBows$Nights", 161, "MaskBows$Carnival", "believed", "Z", "MaskBows")]
def en_nm : List (String × Nat × MethodName × String) := [("MaskBows", 9, ⟨"MaskBows$Carnival", "<init>", "()V"⟩, "MaskBows"), ("MaskBows", 42, ⟨"MaskBows$Tape", "<init>", "()V"⟩, "MaskBows"), ("MaskBows", 70, ⟨"MaskBows$Sheet", "<init>", "()V"⟩, "MaskBows"), ("MaskBows$Nights", 107, ⟨"MaskBows", "wearer", "(II)I"⟩, "MaskBows"), ("MaskBows$Nights", 170, ⟨"MaskBows", "changed", "(III)I"⟩, "MaskBows"), ("MaskBows$Nights", 110, ⟨"MaskBows", "maskOf", "(II)I"⟩, "MaskBows"), ("MaskBows$DeedBook", 31, ⟨"MaskBows", "isOfKind", "(II)Z"⟩, "MaskBows"), ("MaskBows$DeedBook", 101, ⟨"MaskBows", "wearer", "(II)I"⟩, "MaskBows"), ("MaskBows$Sheet", 49, ⟨"MaskBows", "wearer", "(II)I"⟩, "MaskBows")]
def en_st : List (String × Nat × String × Nat) := [("MaskBows$Reader", 39, "bow", 0), ("MaskBows$Reader", 89, "doubt", 1), ("MaskBows$Reader", 48, "says", 2), ("MaskBows$Reader", 101, "not", 3), ("MaskBows$Reader", 103, "is", 4), ("MaskBows$Reader", 53, "rule", 5), ("MaskBows$Reader", 120, "off", 6), ("MaskBows$Reader", 122, "on", 7), ("MaskBows$Reader", 59, "believe", 8), ("MaskBows$Reader", 153, "debt", 9), ("MaskBows$Reader", 155, "duel", 10), ("MaskBows$Reader", 157, "kiss", 11), ("MaskBows$Reader", 159, "vow", 12), ("MaskBows$Reader", 161, "theft", 13), ("MaskBows$Reader", 163, "deed", 14), ("MaskBows$Reader", 112, "to", 15), ("MaskBows$Reader", 114, "coins", 16), ("MaskBowsModel", 46, "deed", 14), ("MaskBowsModel", 48, "debt", 9), ("MaskBowsModel", 50, "duel", 10), ("MaskBowsModel", 52, "kiss", 11), ("MaskBowsModel", 54, "vow", 12), ("MaskBowsModel", 56, "theft", 13), ("MaskBowsModel", 324, "to", 15), ("MaskBowsModel", 326, "coins", 16), ("MaskBowsModel", 285, "bow", 0), ("MaskBowsModel", 316, "doubt", 1), ("MaskBowsModel", 290, "says", 2), ("MaskBowsModel", 331, "is", 4), ("MaskBowsModel", 333, "not", 3), ("MaskBowsModel", 295, "believe", 8), ("MaskBowsModel", 297, "rule", 5), ("MaskBowsModel", 299, "on", 7), ("MaskBowsModel", 301, "off", 6)]
/-- what a contract takes from the start beside its words: nest mates, the one static array, the String constants -/
def en_E (ev : Nat → Nat) (A : Nat → Prop) (U : State) : Prop :=
  (∀ x ∈ en_nf, va_Nw (.fieldLinkNest x.1 x.2.1 x.2.2.1 x.2.2.2.1 x.2.2.2.2.1 x.2.2.2.2.2) U) ∧ (∀ x ∈ en_nm, va_Nw (.methodLinkNest x.1 x.2.1 x.2.2.1 x.2.2.2) U) ∧
  (va_Z "MaskBows" "KIND_ABOVE" "[I" (.ref (ev 0)) A U U.heap ∧ va_T .int (ev 0) 6 (fun j => .int (en_ka j)) A U U.heap ∧ va_Z "java/lang/String" "COMPACT_STRINGS" "Z" (.int 1) A U U.heap ∧ va_Zq "jdk/internal/util/Preconditions" "SIOOBE_FORMATTER" "Ljava/util/function/BiFunction;" A U U.heap) ∧
  (∀ x ∈ en_st, vk_R x.1 x.2.1 x.2.2.1 (ev (1 + 2 * x.2.2.2)) U) ∧
  (∀ i : Nat, i < 17 → va_O "java/lang/String" (ev (1 + 2 * i)) A U U.heap ∧ va_OF "java/lang/String" "coder" "B" (.int 0) (ev (1 + 2 * i)) A U U.heap ∧ va_OF "java/lang/String" "value" "[B" (.ref (ev (2 + 2 * i))) (ev (1 + 2 * i)) A U U.heap ∧ va_T .byte (ev (2 + 2 * i)) (en_len.getD i 0) (fun j => .int ((en_byt.getD i []).getD j 0)) A U U.heap)
theorem en_E.pass {ev : Nat → Nat} {A B : Nat → Prop} {s U : State} {H : Heap} {locs : List Loc} (h : en_E ev A s) (hBA : ∀ q, B q → A q) (hS : va_S A s.heap H locs) (hU : U.heap = H) (hW : s.WarmedH U.vm) : en_E ev B U := by
  obtain ⟨h1, h2, ⟨h3, h4, h7, h8⟩, h5, h6⟩ := h
  subst hU
  refine ⟨fun x hx => va_Nw.warmF hW (h1 x hx), fun x hx => va_Nw.warmM hW (h2 x hx), ⟨((h3.kept hS.2.1).moved hW.alike).narrow hBA, ((h4.kept hS.2.1).moved hW.alike).narrow hBA, ((h7.kept hS.2.1).moved hW.alike).narrow hBA, ((h8.kept hS.2.1).moved hW.alike).narrow hBA⟩, fun x hx => vk_R.warm hW (h5 x hx), fun i hi => ?_⟩
  obtain ⟨g1, g2, g3, g4⟩ := h6 i hi
  exact ⟨((g1.kept hS.2.1).moved hW.alike).narrow hBA, ((g2.kept hS.2.1).moved hW.alike).narrow hBA, ((g3.kept hS.2.1).moved hW.alike).narrow hBA, ((g4.kept hS.2.1).moved hW.alike).narrow hBA⟩
theorem en_E.blind {ev : Nat → Nat} {A : Nat → Prop} {s U : State} (h : en_E ev A s) (hvm : U.vm = s.vm) (hh : U.heap = s.heap) : en_E ev A U := by
  obtain ⟨h1, h2, ⟨h3, h4, h7, h8⟩, h5, h6⟩ := h
  have al : s.vm.Alike U.vm := by rw [hvm]; exact Vm.Alike.refl _
  refine ⟨fun x hx => va_Nw.same rfl hvm.symm (h1 x hx), fun x hx => va_Nw.same rfl hvm.symm (h2 x hx), ⟨by rw [hh]; exact h3.moved al, by rw [hh]; exact h4.moved al, by rw [hh]; exact h7.moved al, by rw [hh]; exact h8.moved al⟩, fun x hx => vk_R.same hvm (h5 x hx), fun i hi => ?_⟩
  obtain ⟨g1, g2, g3, g4⟩ := h6 i hi
  rw [hh]
  exact ⟨g1.moved al, g2.moved al, g3.moved al, g4.moved al⟩
def ct_P (G : va_G) (ca : Nat → ClassId) (ev : Nat → Nat) (W0 : va_W) (sz : Nat) (U : State) : Prop := U.heap.size = sz ∧ va_P G vwCl W0 U.heap ∧ va_K G vwCl (gT ca) U ∧ va_D (fun _ => True) W0 ∧ en_E ev (va_A W0 sz) U
def ct_B (G : va_G) (ca : Nat → ClassId) (W1 : va_W) (A : Nat → Prop) (t : State) : Prop := va_P G vwCl W1 t.heap ∧ va_K G vwCl (gT ca) t ∧ va_D A W1
theorem ct_blind {G : va_G} {ca : Nat → ClassId} {ev : Nat → Nat} {W0 : va_W} {sz : Nat} {av : List Value} : FrameBlind (va_Pc av (ct_P G ca ev W0 sz)) := fun a U g mk q => by
  obtain ⟨q0, q1, qP, qK, qD, qE⟩ := q
  exact ⟨q0, q1, qP, va_K.moved (u := U) (U := U.calling g mk a) (Vm.Alike.refl U.vm) qK, qD, qE.blind rfl rfl⟩
abbrev CtI (l : Launch) (y : MethodName) (ws : List Cond) (rm : Room) (G : va_G) (ca : Nat → ClassId) (ev : Nat → Nat) (av : List Value) (W0 W1 : va_W) (r : Int32) : Prop := ∀ sz, Met l y ws rm (va_Pc av (ct_P G ca ev W0 sz)) (va_Qi (fun r' (_ : Unit) => r' = r) (fun _ t => ct_B G ca W1 (va_A W0 sz) t) (va_A W0 sz)) 0 0 (va_A W0 sz)
abbrev CtL (l : Launch) (y : MethodName) (ws : List Cond) (rm : Room) (G : va_G) (ca : Nat → ClassId) (ev : Nat → Nat) (av : List Value) (W0 W1 : va_W) (r : Int64) : Prop := ∀ sz, Met l y ws rm (va_Pc av (ct_P G ca ev W0 sz)) (va_Ql (fun r' (_ : Unit) => r' = r) (fun _ t => ct_B G ca W1 (va_A W0 sz) t) (va_A W0 sz)) 0 0 (va_A W0 sz)
abbrev CtO (l : Launch) (y : MethodName) (ws : List Cond) (rm : Room) (G : va_G) (ca : Nat → ClassId) (ev : Nat → Nat) (av : List Value) (W0 W1 : va_W) (r : Option Nat) : Prop := ∀ sz, Met l y ws rm (va_Pc av (ct_P G ca ev W0 sz)) (va_Qq (fun r' (_ : Unit) => r' = r) (fun _ t => ct_B G ca W1 (va_A W0 sz) t) (va_A W0 sz)) 0 0 (va_A W0 sz)
abbrev CtV (l : Launch) (y : MethodName) (ws : List Cond) (rm : Room) (G : va_G) (ca : Nat → ClassId) (ev : Nat → Nat) (av : List Value) (W0 W1 : va_W) : Prop := ∀ sz, Met l y ws rm (va_Pc av (ct_P G ca ev W0 sz)) (va_Qv (fun (_ : Unit) => True) (fun _ t => ct_B G ca W1 (va_A W0 sz) t) (va_A W0 sz)) 0 0 (va_A W0 sz)
theorem en_i {l : Launch} {y : MethodName} {ws ws' : List Cond} {rm : Room} {G : va_G} {ca : Nat → ClassId} {ev : Nat → Nat} {av : List Value} {W0 W1 : va_W} {r : Int32} {cc : ByteArray} {maxL : Nat} (hy : plainName y.cls = true) (hw : ws = .code y cc maxL (some .int) :: ws') (hlen : (lg_sl av).length ≤ maxL)
    (body : ∀ (p : Program) (e : Env) (s : State) (m : MethodId) (args : Array Value) (below : List Frame) (meth : Method) (c : Code) (A : Nat → Prop) (Q : State → Prop) (H : Heap) (locs : List Loc) (ls : Array Slot), p.tables.exec = Jvm.exec → c.code = cc → c.maxLocals = maxL → s.vm.findClass y.cls = some m.cls → (∀ w ∈ ws, w.before args s = true) → (∀ q : Nat, s.heap.size ≤ q → A q) → va_P G vwCl W0 H → va_K G vwCl (gT ca) s → va_D A W0 → en_E ev A s → va_S A s.heap H locs → lv_has ls maxL (lv_args 0 av) →
      (∀ {H : Heap} {locs : List Loc} {pc : Nat} {ls : Array Slot}, va_P G vwCl W1 H → va_D A W1 → va_S A s.heap H locs → decode cc pc = .ok (.ireturn, 1) → W p l e rm s m args below meth c H locs 0 0 Q (F0 m pc ls [.int r])) →
      W p l e rm s m args below meth c H locs 0 0 Q (F0 m 0 ls [])) : CtI l y ws rm G ca ev av W0 W1 r := by
  intro sz
  refine Met.ofW (cc := cc) (maxL := maxL) (ret := some .int) hy hw ?_
  intro p e s m args below meth c s₁ B hml hv
  obtain ⟨rfl, hsz, hP, hK, hD0, hE⟩ := hv
  subst hsz
  rw [lg_entry_eq]
  have hx := B.exec
  have hb := B.bytes
  have hr := B.returns
  have hlocks := B.notSynchronized
  refine body p e s m av.toArray below meth c (va_A W0 s.heap.size) _ s.heap [] _ hx hb hml (findClass_of_methodNamed B.named) (atoms_spec (ws := ws) B.pre) (fun q h => Or.inr h) hP hK (hD0.self (sz := s.heap.size)) hE va_S.rf (lv_entry av hlen) ?_
  intro H1 locs1 pc1 ls1 hP1 hD1 hS1 hdg
  exact W.iret hx hb hr (fun t ht hW => ⟨⟨r, (), rfl, rfl, by rw [ht]; exact hP1, va_K.moved hW.alike hK, hD1⟩, hS1.F ht⟩) hS1.2.2 hdg hlocks
theorem en_z {l : Launch} {y : MethodName} {ws ws' : List Cond} {rm : Room} {G : va_G} {ca : Nat → ClassId} {ev : Nat → Nat} {av : List Value} {W0 W1 : va_W} {r : Int32} {cc : ByteArray} {maxL : Nat} (hy : plainName y.cls = true) (hw : ws = .code y cc maxL (some .boolean) :: ws') (hlen : (lg_sl av).length ≤ maxL)
    (body : ∀ (p : Program) (e : Env) (s : State) (m : MethodId) (args : Array Value) (below : List Frame) (meth : Method) (c : Code) (A : Nat → Prop) (Q : State → Prop) (H : Heap) (locs : List Loc) (ls : Array Slot), p.tables.exec = Jvm.exec → c.code = cc → c.maxLocals = maxL → s.vm.findClass y.cls = some m.cls → (∀ w ∈ ws, w.before args s = true) → (∀ q : Nat, s.heap.size ≤ q → A q) → va_P G vwCl W0 H → va_K G vwCl (gT ca) s → va_D A W0 → en_E ev A s → va_S A s.heap H locs → lv_has ls maxL (lv_args 0 av) →
      (∀ {H : Heap} {locs : List Loc} {pc : Nat} {ls : Array Slot}, va_P G vwCl W1 H → va_D A W1 → va_S A s.heap H locs → (r = 0 ∨ r = 1) → decode cc pc = .ok (.ireturn, 1) → W p l e rm s m args below meth c H locs 0 0 Q (F0 m pc ls [.int r])) →
      W p l e rm s m args below meth c H locs 0 0 Q (F0 m 0 ls [])) : CtI l y ws rm G ca ev av W0 W1 r := by
  intro sz
  refine Met.ofW (cc := cc) (maxL := maxL) (ret := some .boolean) hy hw ?_
  intro p e s m args below meth c s₁ B hml hv
  obtain ⟨rfl, hsz, hP, hK, hD0, hE⟩ := hv
  subst hsz
  rw [lg_entry_eq]
  have hx := B.exec
  have hb := B.bytes
  have hr := B.returns
  have hlocks := B.notSynchronized
  refine body p e s m av.toArray below meth c (va_A W0 s.heap.size) _ s.heap [] _ hx hb hml (findClass_of_methodNamed B.named) (atoms_spec (ws := ws) B.pre) (fun q h => Or.inr h) hP hK (hD0.self (sz := s.heap.size)) hE va_S.rf (lv_entry av hlen) ?_
  intro H1 locs1 pc1 ls1 hP1 hD1 hS1 hz hdg
  exact W.zret hx hb hr (zb_nar hz) (fun t ht hW => ⟨⟨r, (), rfl, rfl, by rw [ht]; exact hP1, va_K.moved hW.alike hK, hD1⟩, hS1.F ht⟩) hS1.2.2 hdg hlocks
theorem en_l {l : Launch} {y : MethodName} {ws ws' : List Cond} {rm : Room} {G : va_G} {ca : Nat → ClassId} {ev : Nat → Nat} {av : List Value} {W0 W1 : va_W} {r : Int64} {cc : ByteArray} {maxL : Nat} (hy : plainName y.cls = true) (hw : ws = .code y cc maxL (some .long) :: ws') (hlen : (lg_sl av).length ≤ maxL)
    (body : ∀ (p : Program) (e : Env) (s : State) (m : MethodId) (args : Array Value) (below : List Frame) (meth : Method) (c : Code) (A : Nat → Prop) (Q : State → Prop) (H : Heap) (locs : List Loc) (ls : Array Slot), p.tables.exec = Jvm.exec → c.code = cc → c.maxLocals = maxL → s.vm.findClass y.cls = some m.cls → (∀ w ∈ ws, w.before args s = true) → (∀ q : Nat, s.heap.size ≤ q → A q) → va_P G vwCl W0 H → va_K G vwCl (gT ca) s → va_D A W0 → en_E ev A s → va_S A s.heap H locs → lv_has ls maxL (lv_args 0 av) →
      (∀ {H : Heap} {locs : List Loc} {pc : Nat} {ls : Array Slot}, va_P G vwCl W1 H → va_D A W1 → va_S A s.heap H locs → decode cc pc = .ok (.lreturn, 1) → W p l e rm s m args below meth c H locs 0 0 Q (F0 m pc ls [.long r])) →
      W p l e rm s m args below meth c H locs 0 0 Q (F0 m 0 ls [])) : CtL l y ws rm G ca ev av W0 W1 r := by
  intro sz
  refine Met.ofW (cc := cc) (maxL := maxL) (ret := some .long) hy hw ?_
  intro p e s m args below meth c s₁ B hml hv
  obtain ⟨rfl, hsz, hP, hK, hD0, hE⟩ := hv
  subst hsz
  rw [lg_entry_eq]
  have hx := B.exec
  have hb := B.bytes
  have hr := B.returns
  have hlocks := B.notSynchronized
  refine body p e s m av.toArray below meth c (va_A W0 s.heap.size) _ s.heap [] _ hx hb hml (findClass_of_methodNamed B.named) (atoms_spec (ws := ws) B.pre) (fun q h => Or.inr h) hP hK (hD0.self (sz := s.heap.size)) hE va_S.rf (lv_entry av hlen) ?_
  intro H1 locs1 pc1 ls1 hP1 hD1 hS1 hdg
  exact W.lret hx hb hr (fun t ht hW => ⟨⟨r, (), rfl, rfl, by rw [ht]; exact hP1, va_K.moved hW.alike hK, hD1⟩, hS1.F ht⟩) hS1.2.2 hdg hlocks
theorem en_v {l : Launch} {y : MethodName} {ws ws' : List Cond} {rm : Room} {G : va_G} {ca : Nat → ClassId} {ev : Nat → Nat} {av : List Value} {W0 W1 : va_W}  {cc : ByteArray} {maxL : Nat} (hy : plainName y.cls = true) (hw : ws = .code y cc maxL (none) :: ws') (hlen : (lg_sl av).length ≤ maxL)
    (body : ∀ (p : Program) (e : Env) (s : State) (m : MethodId) (args : Array Value) (below : List Frame) (meth : Method) (c : Code) (A : Nat → Prop) (Q : State → Prop) (H : Heap) (locs : List Loc) (ls : Array Slot), p.tables.exec = Jvm.exec → c.code = cc → c.maxLocals = maxL → s.vm.findClass y.cls = some m.cls → (∀ w ∈ ws, w.before args s = true) → (∀ q : Nat, s.heap.size ≤ q → A q) → va_P G vwCl W0 H → va_K G vwCl (gT ca) s → va_D A W0 → en_E ev A s → va_S A s.heap H locs → lv_has ls maxL (lv_args 0 av) →
      (∀ {H : Heap} {locs : List Loc} {pc : Nat} {ls : Array Slot}, va_P G vwCl W1 H → va_D A W1 → va_S A s.heap H locs → decode cc pc = .ok (.return_, 1) → W p l e rm s m args below meth c H locs 0 0 Q (F0 m pc ls [])) →
      W p l e rm s m args below meth c H locs 0 0 Q (F0 m 0 ls [])) : CtV l y ws rm G ca ev av W0 W1 := by
  intro sz
  refine Met.ofW (cc := cc) (maxL := maxL) (ret := none) hy hw ?_
  intro p e s m args below meth c s₁ B hml hv
  obtain ⟨rfl, hsz, hP, hK, hD0, hE⟩ := hv
  subst hsz
  rw [lg_entry_eq]
  have hx := B.exec
  have hb := B.bytes
  have hr := B.returns
  have hlocks := B.notSynchronized
  refine body p e s m av.toArray below meth c (va_A W0 s.heap.size) _ s.heap [] _ hx hb hml (findClass_of_methodNamed B.named) (atoms_spec (ws := ws) B.pre) (fun q h => Or.inr h) hP hK (hD0.self (sz := s.heap.size)) hE va_S.rf (lv_entry av hlen) ?_
  intro H1 locs1 pc1 ls1 hP1 hD1 hS1 hdg
  exact W.vret hx hb hr (fun t ht hW => ⟨⟨(), rfl, trivial, by rw [ht]; exact hP1, va_K.moved hW.alike hK, hD1⟩, hS1.F ht⟩) hS1.2.2 hdg hlocks
theorem en_o {l : Launch} {y : MethodName} {ws ws' : List Cond} {rm : Room} {G : va_G} {ca : Nat → ClassId} {ev : Nat → Nat} {av : List Value} {W0 W1 : va_W} {cn0 : String} {r : Option Nat} {cc : ByteArray} {maxL : Nat} (hy : plainName y.cls = true) (hw : ws = .code y cc maxL (some (.object cn0)) :: ws') (hlen : (lg_sl av).length ≤ maxL)
    (body : ∀ (p : Program) (e : Env) (s : State) (m : MethodId) (args : Array Value) (below : List Frame) (meth : Method) (c : Code) (A : Nat → Prop) (Q : State → Prop) (H : Heap) (locs : List Loc) (ls : Array Slot), p.tables.exec = Jvm.exec → c.code = cc → c.maxLocals = maxL → s.vm.findClass y.cls = some m.cls → (∀ w ∈ ws, w.before args s = true) → (∀ q : Nat, s.heap.size ≤ q → A q) → va_P G vwCl W0 H → va_K G vwCl (gT ca) s → va_D A W0 → en_E ev A s → va_S A s.heap H locs → lv_has ls maxL (lv_args 0 av) →
      (∀ {H : Heap} {locs : List Loc} {pc : Nat} {ls : Array Slot}, va_P G vwCl W1 H → va_D A W1 → va_S A s.heap H locs → decode cc pc = .ok (.areturn, 1) → W p l e rm s m args below meth c H locs 0 0 Q (F0 m pc ls [va_rf r])) →
      W p l e rm s m args below meth c H locs 0 0 Q (F0 m 0 ls [])) : CtO l y ws rm G ca ev av W0 W1 r := by
  intro sz
  refine Met.ofW (cc := cc) (maxL := maxL) (ret := some (.object cn0)) hy hw ?_
  intro p e s m args below meth c s₁ B hml hv
  obtain ⟨rfl, hsz, hP, hK, hD0, hE⟩ := hv
  subst hsz
  rw [lg_entry_eq]
  have hx := B.exec
  have hb := B.bytes
  have hr := B.returns
  have hlocks := B.notSynchronized
  refine body p e s m av.toArray below meth c (va_A W0 s.heap.size) _ s.heap [] _ hx hb hml (findClass_of_methodNamed B.named) (atoms_spec (ws := ws) B.pre) (fun q h => Or.inr h) hP hK (hD0.self (sz := s.heap.size)) hE va_S.rf (lv_entry av hlen) ?_
  intro H1 locs1 pc1 ls1 hP1 hD1 hS1 hdg
  exact W.aret hx hb hr (Or.inl ⟨_, rfl⟩) (va_rf_or _) (fun t ht hW => ⟨⟨r, (), rfl, rfl, by rw [ht]; exact hP1, va_K.moved hW.alike hK, hD1⟩, hS1.F ht⟩) hS1.2.2 hdg hlocks
abbrev WpC (isC : List Nat) (n9 : Nat) (Ws Wc W1 Wn : va_W) : Prop := Wn.length = n9 ∧ (isC.map (fun i => Ws[i]?) = Wc.map some) ∧ (isC.map (fun i => Wn[i]?) = W1.map some) ∧ (((List.range n9).filter (fun i => !(isC.contains i))).map (fun i => Wn[i]?) = ((List.range n9).filter (fun i => !(isC.contains i))).map (fun i => Ws[i]?)) ∧ va_nd isC = true
theorem mp_fm {ws ws' : va_W} {is : List Nat} (h : is.map (fun i => ws[i]?) = ws'.map some) : is.filterMap (fun i => ws[i]?) = ws' := by
  have e : is.filterMap (fun i => ws[i]?) = (is.map (fun i => ws[i]?)).filterMap id := by rw [List.filterMap_map]; rfl
  rw [e, h, List.filterMap_map]; exact List.filterMap_some
theorem va_P.sm {D : va_G} {cl : List vw_C} {ws ws' : va_W} {H : Heap} (h : va_P D cl ws H) (is : List Nat) (hs : is.map (fun i => ws[i]?) = ws'.map some) : va_P D cl ws' H := h.sub is (mp_fm hs)
theorem wj_at {is : List Nat} {ws w : va_W} (hs : is.map (fun i => ws[i]?) = w.map some) {k : Nat} {q : Nat × va_E} (hq : w[k]? = some q) : ∃ i : Nat, is[k]? = some i ∧ ws[i]? = some q := by
  have h1 : (is.map (fun i => ws[i]?))[k]? = some (some q) := by rw [hs, List.getElem?_map, hq]; rfl
  rw [List.getElem?_map] at h1
  cases hi : is[k]? with
  | none => rw [hi] at h1; cases h1
  | some i => rw [hi] at h1; exact ⟨i, rfl, Option.some.inj h1⟩
theorem wj_to {is : List Nat} {ws w : va_W} (hs : is.map (fun i => ws[i]?) = w.map some) {k i : Nat} {q : Nat × va_E} (hi : is[k]? = some i) (hq : ws[i]? = some q) : w[k]? = some q := by
  have h1 : (is.map (fun i => ws[i]?))[k]? = some (some q) := by rw [List.getElem?_map, hi]; simp [hq]
  rw [hs, List.getElem?_map] at h1
  cases hw : w[k]? with
  | none => rw [hw] at h1; cases h1
  | some x => rw [hw] at h1; exact Option.some.inj h1
/-- behind a call: the callee's cells are new at their places, the others are as they were -/
theorem wj {A0 : Nat → Prop} {D : va_G} {cl : List vw_C} {Ws Wc W1 Wn : va_W} {H H1 : Heap} (hP : va_P D cl Ws H) (hD : va_D A0 Ws) (isC : List Nat) (n : Nat) (hlen : Wn.length = n) (hisC : isC.map (fun i => Ws[i]?) = Wc.map some) (hnC : isC.map (fun i => Wn[i]?) = W1.map some)
    (hR : ((List.range n).filter (fun i => !(isC.contains i))).map (fun i => Wn[i]?) = ((List.range n).filter (fun i => !(isC.contains i))).map (fun i => Ws[i]?))
    (hk : ∀ q : Nat, q < H.size → ¬ va_A Wc H.size q → H1[q]? = H[q]?) (hF : ∀ q, va_A Wc H.size q → A0 q) (hP1 : va_P D cl W1 H1) (hD1 : va_D (va_A Wc H.size) W1) : va_P D cl Wn H1 ∧ va_D A0 Wn := by
  have key : ∀ (k : Nat) (q : Nat × va_E), Wn[k]? = some q → (∃ p : Nat, isC[p]? = some k ∧ W1[p]? = some q) ∨ (k ∉ isC ∧ Ws[k]? = some q) := by
    intro k q hq
    have hkn : k < n := by rw [← hlen]; exact (List.getElem?_eq_some_iff.mp hq).1
    by_cases hm : k ∈ isC
    · obtain ⟨p, hp⟩ := List.getElem?_of_mem hm
      exact Or.inl ⟨p, hp, wj_to hnC hp hq⟩
    · refine Or.inr ⟨hm, ?_⟩
      have := List.map_inj_left.mp hR k (List.mem_filter.mpr ⟨List.mem_range.mpr hkn, by simpa using hm⟩)
      rw [← this]; exact hq
  have apart : ∀ (k : Nat) (q : Nat × va_E), k ∉ isC → Ws[k]? = some q → q.1 < H.size ∧ ¬ va_A Wc H.size q.1 := by
    intro k q hm hq
    have hl := (hP k q hq).lt
    refine ⟨hl, fun h => ?_⟩
    rcases h with ⟨k2, e, h⟩ | h
    · obtain ⟨j, h3, h4⟩ := wj_at hisC h
      have hij := hD.1 k j q (q.1, e) hq h4 rfl
      subst hij
      exact hm (List.mem_of_getElem? h3)
    · omega
  refine ⟨fun k q hq => ?_, ⟨fun i j x y hx hy hxy => ?_, fun k q hq => ?_⟩⟩
  · rcases key k q hq with ⟨p, -, h⟩ | ⟨hm, h⟩
    · exact hP1 p q h
    · obtain ⟨g1, g2⟩ := apart k q hm h
      exact (hP k q h).kept (hk q.1 g1 g2)
  · rcases key i x hx with ⟨p1, a1, b1⟩ | ⟨a1, b1⟩ <;> rcases key j y hy with ⟨p2, a2, b2⟩ | ⟨a2, b2⟩
    · have := hD1.1 p1 p2 x y b1 b2 hxy
      subst this
      exact Option.some.inj (a1.symm.trans a2)
    · exact absurd (by rw [← hxy]; exact hD1.2 p1 x b1) (apart j y a2 b2).2
    · exact absurd (by rw [hxy]; exact hD1.2 p2 y b2) (apart i x a1 b1).2
    · exact hD.1 i j x y b1 b2 hxy
  · rcases key k q hq with ⟨p, -, h⟩ | ⟨-, h⟩
    · exact hF _ (hD1.2 p q h)
    · exact hD.2 k q h
def pk : List Bool → va_W → va_W
  | true :: m, x :: a => x :: pk m a
  | false :: m, _ :: a => pk m a
  | _, _ => []
def sm : List Bool → va_W → va_W → Prop
  | [], [], [] => True
  | true :: m, _ :: a, _ :: b => sm m a b
  | false :: m, x :: a, y :: b => y = x ∧ sm m a b
  | _, _, _ => False
def ixm : List Bool → Nat → List Nat
  | true :: m, k => k :: ixm m (k + 1)
  | false :: m, k => ixm m (k + 1)
  | [], _ => []
theorem sm_len : ∀ {m : List Bool} {a b : va_W}, sm m a b → a.length = m.length ∧ b.length = m.length
  | [], [], [], _ => ⟨rfl, rfl⟩
  | true :: m, _ :: a, _ :: b, h => by have := sm_len (m := m) h; simp [this.1, this.2]
  | false :: m, x :: a, y :: b, h => by have := sm_len (m := m) h.2; simp [this.1, this.2]
  | [], [], _ :: _, h => h.elim
  | [], _ :: _, _, h => h.elim
  | true :: _, [], _, h => h.elim
  | false :: _, [], _, h => h.elim
  | true :: _, _ :: _, [], h => h.elim
  | false :: _, _ :: _, [], h => h.elim
theorem sm_at : ∀ {m : List Bool} {a b : va_W}, sm m a b → ∀ i : Nat, m[i]? = some false → b[i]? = a[i]?
  | [], [], [], _, i, h => by simp at h
  | true :: m, _ :: a, _ :: b, h, 0, hi => by simp at hi
  | true :: m, _ :: a, _ :: b, h, i + 1, hi => by simpa using sm_at (m := m) h i (by simpa using hi)
  | false :: m, x :: a, y :: b, h, 0, hi => by simp [h.1]
  | false :: m, x :: a, y :: b, h, i + 1, hi => by simpa using sm_at (m := m) h.2 i (by simpa using hi)
  | [], [], _ :: _, h, _, _ => h.elim
  | [], _ :: _, _, h, _, _ => h.elim
  | true :: _, [], _, h, _, _ => h.elim
  | false :: _, [], _, h, _, _ => h.elim
  | true :: _, _ :: _, [], h, _, _ => h.elim
  | false :: _, _ :: _, [], h, _, _ => h.elim
theorem pk_at : ∀ (m : List Bool) (a : va_W) (k j : Nat), a.length = m.length → ∀ i, (ixm m k)[j]? = some i → k ≤ i ∧ (pk m a)[j]? = a[i - k]? := by
  intro m
  induction m with
  | nil => intro a k j _ i h; simp [ixm] at h
  | cons c m ih =>
    intro a k j hl i h
    cases a with
    | nil => simp at hl
    | cons x a =>
      have hl2 : a.length = m.length := by simpa using hl
      cases c with
      | true =>
        cases j with
        | zero => simp only [ixm, List.getElem?_cons_zero, Option.some.injEq] at h; subst h; simp [pk]
        | succ j =>
          have h : (ixm m (k + 1))[j]? = some i := by simpa [ixm] using h
          obtain ⟨h1, h2⟩ := ih a (k + 1) j hl2 i h
          refine ⟨by omega, ?_⟩
          show (x :: pk m a)[j + 1]? = _
          rw [List.getElem?_cons_succ, h2, show i - k = (i - (k + 1)) + 1 by omega, List.getElem?_cons_succ]
      | false =>
        have h : (ixm m (k + 1))[j]? = some i := h
        obtain ⟨h1, h2⟩ := ih a (k + 1) j hl2 i h
        refine ⟨by omega, ?_⟩
        show (pk m a)[j]? = _
        rw [h2, show i - k = (i - (k + 1)) + 1 by omega, List.getElem?_cons_succ]
theorem mkWp {Ws Wc W1 Wn : va_W} (isC : List Nat) (n9 : Nat) (m : List Bool) (pm : List Nat) (hc : (m == (List.range n9).map (fun i => isC.contains i)) = true ∧ (pm.map (fun j => (ixm m 0)[j]?) == isC.map some) = true ∧ va_nd isC = true) (hsm : sm m Ws Wn)
    (h1 : pm.map (fun i => (pk m Ws)[i]?) = Wc.map some) (h2 : pm.map (fun i => (pk m Wn)[i]?) = W1.map some) : WpC isC n9 Ws Wc W1 Wn := by
  obtain ⟨hm, hp, hnd⟩ := hc
  have hm := eq_of_beq hm
  have hp := eq_of_beq hp
  obtain ⟨l1, l2⟩ := sm_len hsm
  have hml : m.length = n9 := by rw [hm]; simp
  have key : ∀ a : va_W, a.length = m.length → isC.map (fun i => a[i]?) = pm.map (fun i => (pk m a)[i]?) := by
    intro a ha
    have hlen : isC.length = pm.length := by have := congrArg List.length hp; simpa using this.symm
    refine List.ext_getElem? (fun q => ?_)
    rw [List.getElem?_map, List.getElem?_map]
    have hq := congrArg (fun l => l[q]?) hp
    simp only [List.getElem?_map] at hq
    cases h3 : pm[q]? with
    | none =>
      have : isC[q]? = none := by rw [List.getElem?_eq_none_iff] at h3 ⊢; omega
      rw [this]; rfl
    | some j =>
      rw [h3] at hq
      cases h4 : isC[q]? with
      | none => rw [h4] at hq; simp at hq
      | some i =>
        rw [h4] at hq
        have hq : (ixm m 0)[j]? = some i := by simpa using hq
        have := (pk_at m a 0 j ha i hq).2
        simp only [Option.map_some]
        rw [this]; rfl
  refine ⟨l2.trans hml, (key Ws l1).trans h1, (key Wn l2).trans h2, ?_, hnd⟩
  refine List.map_inj_left.mpr (fun i hi => ?_)
  obtain ⟨hi1, hi2⟩ := List.mem_filter.mp hi
  refine sm_at hsm i ?_
  rw [hm, List.getElem?_map, List.getElem?_range (List.mem_range.mp hi1)]
  simpa using hi2
/-- a call of a method whose world is the cells at the places isC of the caller's -/
theorem cl_Vi {p : Program} {l : Launch} {e : Env} {R : Room} {s : State} {m : MethodId} {args : Array Value} {below : List Frame} {meth : Method} {c : Code} {H : Heap} {locs : List Loc} {G : va_G} {ca : Nat → ClassId} {cc : ByteArray} {pc : Nat} {ls : Array Slot} {A : Nat → Prop} {Q : State → Prop} {cells slots : Nat} {Ts ws : List Cond} {bytes : ByteArray} {nL maxL index n : Nat} {own C : String} {y : MethodName} {ret : Option FieldType} {rm : Room} {b : Addr} {As rest : List Value} {ev : Nat → Nat} {Ws Wc W1 Wn : va_W} {r : Int32} (S : CallFix p m c cc nL s args Ts own) (hC : CtI l y ws rm G ca ev (.ref b :: As) Wc W1 r) (cw : CallW R s args own C index y bytes maxL ret ws rm 0 0 n)
    (hK : va_K G vwCl (gT ca) s) (hP : va_P G vwCl Ws H) (hD : va_D A Ws) (hS : va_S A s.heap H locs) (hA : ∀ q, s.heap.size ≤ q → A q) (hE : en_E ev A s)
    {isC : List Nat} {n9 : Nat} (wp : WpC isC n9 Ws Wc W1 Wn)
    {q0 ci : Nat} {cq : vw_C} {fs : List Value} (hrec : Wc[q0]? = some (b, .inr (ci, fs))) (hci : vwCl[ci]? = some cq) (hcq : cq.1 = C) (hn : As.length = n) (hls : ls.size = nL) {st0 : List Value} (hst0 : st0 = As.reverse ++ .ref b :: rest) (hst : (rest.map fun v => v.category).sum ≤ 8) (hdg : decode cc pc = .ok (.invokevirtual index, 3)) (hf : cells ≤ R.cells ∧ slots ≤ R.slots)
    (kk : ∀ (H1 : Heap) (locs1 : List Loc), va_P G vwCl Wn H1 → va_D A Wn → va_S A s.heap H1 locs1 → W p l e R s m args below meth c H1 locs1 cells slots Q (F0 m (pc + 3) ls (.int r :: rest))) :
    W p l e R s m args below meth c H locs cells slots Q (F0 m pc ls st0) := by
  obtain ⟨hlen, hisC, hnC, hR, hnd⟩ := wp
  have hPc := hP.sm isC hisC
  have hDc := hD.sub isC hnd hisC
  have hFc := va_free (wc := Wc) hD hS hA isC hisC
  have hpre : ∀ U : State, U.heap = H → s.WarmedH U.vm → va_Pc (.ref b :: As) (ct_P G ca ev Wc H.size) ((.ref b :: As)).toArray U := fun U hU hW => ⟨rfl, by rw [hU], by rw [hU]; exact hPc, va_K.moved hW.alike hK, hDc.weaken (fun _ _ _ _ => trivial), hE.pass hFc hS hU hW⟩
  refine va_calli (va_runV (As := As) (rest := rest) S (hC H.size) cw ⟨ct_blind, hcq ▸ va_recv hK hPc hci hrec, hpre⟩ rfl hn hls hst0 (lv_room hst) hdg hf) hS (fun q _ h => hFc q h) hFc (fun r' u t H1 locs1 ht hvm hw hB hz1 hk1 hS1 => ?_)
  have hw : r' = r := hw
  subst hw
  obtain ⟨hP1, hK1, hD1⟩ := hB
  rw [ht] at hP1
  obtain ⟨hP2, hD2⟩ := wj hP hD isC n9 hlen hisC hnC hR hk1 hFc hP1 hD1
  exact kk H1 locs1 hP2 hD2 hS1
/-- a call of a method whose world is the caller's own -/
theorem cm_Vi {p : Program} {l : Launch} {e : Env} {R : Room} {s : State} {m : MethodId} {args : Array Value} {below : List Frame} {meth : Method} {c : Code} {H : Heap} {locs : List Loc} {G : va_G} {ca : Nat → ClassId} {cc : ByteArray} {pc : Nat} {ls : Array Slot} {A : Nat → Prop} {Q : State → Prop} {cells slots : Nat} {Ts ws : List Cond} {bytes : ByteArray} {nL maxL index n : Nat} {own C : String} {y : MethodName} {ret : Option FieldType} {rm : Room} {b : Addr} {As rest : List Value} {ev : Nat → Nat} {Wc W1 : va_W} {r : Int32} (S : CallFix p m c cc nL s args Ts own) (hC : CtI l y ws rm G ca ev (.ref b :: As) Wc W1 r) (cw : CallW R s args own C index y bytes maxL ret ws rm 0 0 n)
    (hK : va_K G vwCl (gT ca) s) (hP : va_P G vwCl Wc H) (hD : va_D A Wc) (hS : va_S A s.heap H locs) (hA : ∀ q, s.heap.size ≤ q → A q) (hE : en_E ev A s)
    {q0 ci : Nat} {cq : vw_C} {fs : List Value} (hrec : Wc[q0]? = some (b, .inr (ci, fs))) (hci : vwCl[ci]? = some cq) (hcq : cq.1 = C) (hn : As.length = n) (hls : ls.size = nL) {st0 : List Value} (hst0 : st0 = As.reverse ++ .ref b :: rest) (hst : (rest.map fun v => v.category).sum ≤ 8) (hdg : decode cc pc = .ok (.invokevirtual index, 3)) (hf : cells ≤ R.cells ∧ slots ≤ R.slots)
    (kk : ∀ (H1 : Heap) (locs1 : List Loc), va_P G vwCl W1 H1 → va_D A W1 → va_S A s.heap H1 locs1 → W p l e R s m args below meth c H1 locs1 cells slots Q (F0 m (pc + 3) ls (.int r :: rest))) :
    W p l e R s m args below meth c H locs cells slots Q (F0 m pc ls st0) := by
  have hPc := hP
  have hFc : ∀ q, va_A Wc H.size q → A q := fun q h => by
    rcases h with ⟨k, x, h⟩ | h
    · exact hD.2 k (q, x) h
    · exact hA q (Nat.le_trans hS.1 h)
  have hpre : ∀ U : State, U.heap = H → s.WarmedH U.vm → va_Pc (.ref b :: As) (ct_P G ca ev Wc H.size) ((.ref b :: As)).toArray U := fun U hU hW => ⟨rfl, by rw [hU], by rw [hU]; exact hP, va_K.moved hW.alike hK, hD.weaken (fun _ _ _ _ => trivial), hE.pass hFc hS hU hW⟩
  refine va_calli (va_runV (As := As) (rest := rest) S (hC H.size) cw ⟨ct_blind, hcq ▸ va_recv hK hPc hci hrec, hpre⟩ rfl hn hls hst0 (lv_room hst) hdg hf) hS (fun q _ h => hFc q h) hFc (fun r' u t H1 locs1 ht hvm hw hB hz1 hk1 hS1 => ?_)
  have hw : r' = r := hw
  subst hw
  obtain ⟨hP1, hK1, hD1⟩ := hB
  rw [ht] at hP1
  exact kk H1 locs1 hP1 (hD1.weaken (fun k q _ h => hFc q.1 h)) hS1
/-- a call of a method whose world is the cells at the places isC of the caller's -/
theorem cl_Vl {p : Program} {l : Launch} {e : Env} {R : Room} {s : State} {m : MethodId} {args : Array Value} {below : List Frame} {meth : Method} {c : Code} {H : Heap} {locs : List Loc} {G : va_G} {ca : Nat → ClassId} {cc : ByteArray} {pc : Nat} {ls : Array Slot} {A : Nat → Prop} {Q : State → Prop} {cells slots : Nat} {Ts ws : List Cond} {bytes : ByteArray} {nL maxL index n : Nat} {own C : String} {y : MethodName} {ret : Option FieldType} {rm : Room} {b : Addr} {As rest : List Value} {ev : Nat → Nat} {Ws Wc W1 Wn : va_W} {r : Int64} (S : CallFix p m c cc nL s args Ts own) (hC : CtL l y ws rm G ca ev (.ref b :: As) Wc W1 r) (cw : CallW R s args own C index y bytes maxL ret ws rm 0 0 n)
    (hK : va_K G vwCl (gT ca) s) (hP : va_P G vwCl Ws H) (hD : va_D A Ws) (hS : va_S A s.heap H locs) (hA : ∀ q, s.heap.size ≤ q → A q) (hE : en_E ev A s)
    {isC : List Nat} {n9 : Nat} (wp : WpC isC n9 Ws Wc W1 Wn)
    {q0 ci : Nat} {cq : vw_C} {fs : List Value} (hrec : Wc[q0]? = some (b, .inr (ci, fs))) (hci : vwCl[ci]? = some cq) (hcq : cq.1 = C) (hn : As.length = n) (hls : ls.size = nL) {st0 : List Value} (hst0 : st0 = As.reverse ++ .ref b :: rest) (hst : (rest.map fun v => v.category).sum ≤ 8) (hdg : decode cc pc = .ok (.invokevirtual index, 3)) (hf : cells ≤ R.cells ∧ slots ≤ R.slots)
    (kk : ∀ (H1 : Heap) (locs1 : List Loc), va_P G vwCl Wn H1 → va_D A Wn → va_S A s.heap H1 locs1 → W p l e R s m args below meth c H1 locs1 cells slots Q (F0 m (pc + 3) ls (.long r :: rest))) :
    W p l e R s m args below meth c H locs cells slots Q (F0 m pc ls st0) := by
  obtain ⟨hlen, hisC, hnC, hR, hnd⟩ := wp
  have hPc := hP.sm isC hisC
  have hDc := hD.sub isC hnd hisC
  have hFc := va_free (wc := Wc) hD hS hA isC hisC
  have hpre : ∀ U : State, U.heap = H → s.WarmedH U.vm → va_Pc (.ref b :: As) (ct_P G ca ev Wc H.size) ((.ref b :: As)).toArray U := fun U hU hW => ⟨rfl, by rw [hU], by rw [hU]; exact hPc, va_K.moved hW.alike hK, hDc.weaken (fun _ _ _ _ => trivial), hE.pass hFc hS hU hW⟩
  refine va_calll (va_runV (As := As) (rest := rest) S (hC H.size) cw ⟨ct_blind, hcq ▸ va_recv hK hPc hci hrec, hpre⟩ rfl hn hls hst0 (lv_room hst) hdg hf) hS (fun q _ h => hFc q h) hFc (fun r' u t H1 locs1 ht hvm hw hB hz1 hk1 hS1 => ?_)
  have hw : r' = r := hw
  subst hw
  obtain ⟨hP1, hK1, hD1⟩ := hB
  rw [ht] at hP1
  obtain ⟨hP2, hD2⟩ := wj hP hD isC n9 hlen hisC hnC hR hk1 hFc hP1 hD1
  exact kk H1 locs1 hP2 hD2 hS1
/-- a call of a method whose world is the caller's own -/
theorem cm_Vl {p : Program} {l : Launch} {e : Env} {R : Room} {s : State} {m : MethodId} {args : Array Value} {below : List Frame} {meth : Method} {c : Code} {H : Heap} {locs : List Loc} {G : va_G} {ca : Nat → ClassId} {cc : ByteArray} {pc : Nat} {ls : Array Slot} {A : Nat → Prop} {Q : State → Prop} {cells slots : Nat} {Ts ws : List Cond} {bytes : ByteArray} {nL maxL index n : Nat} {own C : String} {y : MethodName} {ret : Option FieldType} {rm : Room} {b : Addr} {As rest : List Value} {ev : Nat → Nat} {Wc W1 : va_W} {r : Int64} (S : CallFix p m c cc nL s args Ts own) (hC : CtL l y ws rm G ca ev (.ref b :: As) Wc W1 r) (cw : CallW R s args own C index y bytes maxL ret ws rm 0 0 n)
    (hK : va_K G vwCl (gT ca) s) (hP : va_P G vwCl Wc H) (hD : va_D A Wc) (hS : va_S A s.heap H locs) (hA : ∀ q, s.heap.size ≤ q → A q) (hE : en_E ev A s)
    {q0 ci : Nat} {cq : vw_C} {fs : List Value} (hrec : Wc[q0]? = some (b, .inr (ci, fs))) (hci : vwCl[ci]? = some cq) (hcq : cq.1 = C) (hn : As.length = n) (hls : ls.size = nL) {st0 : List Value} (hst0 : st0 = As.reverse ++ .ref b :: rest) (hst : (rest.map fun v => v.category).sum ≤ 8) (hdg : decode cc pc = .ok (.invokevirtual index, 3)) (hf : cells ≤ R.cells ∧ slots ≤ R.slots)
    (kk : ∀ (H1 : Heap) (locs1 : List Loc), va_P G vwCl W1 H1 → va_D A W1 → va_S A s.heap H1 locs1 → W p l e R s m args below meth c H1 locs1 cells slots Q (F0 m (pc + 3) ls (.long r :: rest))) :
    W p l e R s m args below meth c H locs cells slots Q (F0 m pc ls st0) := by
  have hPc := hP
  have hFc : ∀ q, va_A Wc H.size q → A q := fun q h => by
    rcases h with ⟨k, x, h⟩ | h
    · exact hD.2 k (q, x) h
    · exact hA q (Nat.le_trans hS.1 h)
  have hpre : ∀ U : State, U.heap = H → s.WarmedH U.vm → va_Pc (.ref b :: As) (ct_P G ca ev Wc H.size) ((.ref b :: As)).toArray U := fun U hU hW => ⟨rfl, by rw [hU], by rw [hU]; exact hP, va_K.moved hW.alike hK, hD.weaken (fun _ _ _ _ => trivial), hE.pass hFc hS hU hW⟩
  refine va_calll (va_runV (As := As) (rest := rest) S (hC H.size) cw ⟨ct_blind, hcq ▸ va_recv hK hPc hci hrec, hpre⟩ rfl hn hls hst0 (lv_room hst) hdg hf) hS (fun q _ h => hFc q h) hFc (fun r' u t H1 locs1 ht hvm hw hB hz1 hk1 hS1 => ?_)
  have hw : r' = r := hw
  subst hw
  obtain ⟨hP1, hK1, hD1⟩ := hB
  rw [ht] at hP1
  exact kk H1 locs1 hP1 (hD1.weaken (fun k q _ h => hFc q.1 h)) hS1
/-- a call of a method whose world is the cells at the places isC of the caller's -/
theorem cl_Vv {p : Program} {l : Launch} {e : Env} {R : Room} {s : State} {m : MethodId} {args : Array Value} {below : List Frame} {meth : Method} {c : Code} {H : Heap} {locs : List Loc} {G : va_G} {ca : Nat → ClassId} {cc : ByteArray} {pc : Nat} {ls : Array Slot} {A : Nat → Prop} {Q : State → Prop} {cells slots : Nat} {Ts ws : List Cond} {bytes : ByteArray} {nL maxL index n : Nat} {own C : String} {y : MethodName} {ret : Option FieldType} {rm : Room} {b : Addr} {As rest : List Value} {ev : Nat → Nat} {Ws Wc W1 Wn : va_W}  (S : CallFix p m c cc nL s args Ts own) (hC : CtV l y ws rm G ca ev (.ref b :: As) Wc W1) (cw : CallW R s args own C index y bytes maxL ret ws rm 0 0 n)
    (hK : va_K G vwCl (gT ca) s) (hP : va_P G vwCl Ws H) (hD : va_D A Ws) (hS : va_S A s.heap H locs) (hA : ∀ q, s.heap.size ≤ q → A q) (hE : en_E ev A s)
    {isC : List Nat} {n9 : Nat} (wp : WpC isC n9 Ws Wc W1 Wn)
    {q0 ci : Nat} {cq : vw_C} {fs : List Value} (hrec : Wc[q0]? = some (b, .inr (ci, fs))) (hci : vwCl[ci]? = some cq) (hcq : cq.1 = C) (hn : As.length = n) (hls : ls.size = nL) {st0 : List Value} (hst0 : st0 = As.reverse ++ .ref b :: rest) (hst : (rest.map fun v => v.category).sum ≤ 8) (hdg : decode cc pc = .ok (.invokevirtual index, 3)) (hf : cells ≤ R.cells ∧ slots ≤ R.slots)
    (kk : ∀ (H1 : Heap) (locs1 : List Loc), va_P G vwCl Wn H1 → va_D A Wn → va_S A s.heap H1 locs1 → W p l e R s m args below meth c H1 locs1 cells slots Q (F0 m (pc + 3) ls (rest))) :
    W p l e R s m args below meth c H locs cells slots Q (F0 m pc ls st0) := by
  obtain ⟨hlen, hisC, hnC, hR, hnd⟩ := wp
  have hPc := hP.sm isC hisC
  have hDc := hD.sub isC hnd hisC
  have hFc := va_free (wc := Wc) hD hS hA isC hisC
  have hpre : ∀ U : State, U.heap = H → s.WarmedH U.vm → va_Pc (.ref b :: As) (ct_P G ca ev Wc H.size) ((.ref b :: As)).toArray U := fun U hU hW => ⟨rfl, by rw [hU], by rw [hU]; exact hPc, va_K.moved hW.alike hK, hDc.weaken (fun _ _ _ _ => trivial), hE.pass hFc hS hU hW⟩
  refine va_callv (va_runV (As := As) (rest := rest) S (hC H.size) cw ⟨ct_blind, hcq ▸ va_recv hK hPc hci hrec, hpre⟩ rfl hn hls hst0 (lv_room hst) hdg hf) hS (fun q _ h => hFc q h) hFc (fun u t H1 locs1 ht hvm hw hB hz1 hk1 hS1 => ?_)
  obtain ⟨hP1, hK1, hD1⟩ := hB
  rw [ht] at hP1
  obtain ⟨hP2, hD2⟩ := wj hP hD isC n9 hlen hisC hnC hR hk1 hFc hP1 hD1
  exact kk H1 locs1 hP2 hD2 hS1
/-- a call of a method whose world is the caller's own -/
theorem cm_Vv {p : Program} {l : Launch} {e : Env} {R : Room} {s : State} {m : MethodId} {args : Array Value} {below : List Frame} {meth : Method} {c : Code} {H : Heap} {locs : List Loc} {G : va_G} {ca : Nat → ClassId} {cc : ByteArray} {pc : Nat} {ls : Array Slot} {A : Nat → Prop} {Q : State → Prop} {cells slots : Nat} {Ts ws : List Cond} {bytes : ByteArray} {nL maxL index n : Nat} {own C : String} {y : MethodName} {ret : Option FieldType} {rm : Room} {b : Addr} {As rest : List Value} {ev : Nat → Nat} {Wc W1 : va_W}  (S : CallFix p m c cc nL s args Ts own) (hC : CtV l y ws rm G ca ev (.ref b :: As) Wc W1) (cw : CallW R s args own C index y bytes maxL ret ws rm 0 0 n)
    (hK : va_K G vwCl (gT ca) s) (hP : va_P G vwCl Wc H) (hD : va_D A Wc) (hS : va_S A s.heap H locs) (hA : ∀ q, s.heap.size ≤ q → A q) (hE : en_E ev A s)
    {q0 ci : Nat} {cq : vw_C} {fs : List Value} (hrec : Wc[q0]? = some (b, .inr (ci, fs))) (hci : vwCl[ci]? = some cq) (hcq : cq.1 = C) (hn : As.length = n) (hls : ls.size = nL) {st0 : List Value} (hst0 : st0 = As.reverse ++ .ref b :: rest) (hst : (rest.map fun v => v.category).sum ≤ 8) (hdg : decode cc pc = .ok (.invokevirtual index, 3)) (hf : cells ≤ R.cells ∧ slots ≤ R.slots)
    (kk : ∀ (H1 : Heap) (locs1 : List Loc), va_P G vwCl W1 H1 → va_D A W1 → va_S A s.heap H1 locs1 → W p l e R s m args below meth c H1 locs1 cells slots Q (F0 m (pc + 3) ls (rest))) :
    W p l e R s m args below meth c H locs cells slots Q (F0 m pc ls st0) := by
  have hPc := hP
  have hFc : ∀ q, va_A Wc H.size q → A q := fun q h => by
    rcases h with ⟨k, x, h⟩ | h
    · exact hD.2 k (q, x) h
    · exact hA q (Nat.le_trans hS.1 h)
  have hpre : ∀ U : State, U.heap = H → s.WarmedH U.vm → va_Pc (.ref b :: As) (ct_P G ca ev Wc H.size) ((.ref b :: As)).toArray U := fun U hU hW => ⟨rfl, by rw [hU], by rw [hU]; exact hP, va_K.moved hW.alike hK, hD.weaken (fun _ _ _ _ => trivial), hE.pass hFc hS hU hW⟩
  refine va_callv (va_runV (As := As) (rest := rest) S (hC H.size) cw ⟨ct_blind, hcq ▸ va_recv hK hPc hci hrec, hpre⟩ rfl hn hls hst0 (lv_room hst) hdg hf) hS (fun q _ h => hFc q h) hFc (fun u t H1 locs1 ht hvm hw hB hz1 hk1 hS1 => ?_)
  obtain ⟨hP1, hK1, hD1⟩ := hB
  rw [ht] at hP1
  exact kk H1 locs1 hP1 (hD1.weaken (fun k q _ h => hFc q.1 h)) hS1
/-- a call of a method whose world is the cells at the places isC of the caller's -/
theorem cl_Vo {p : Program} {l : Launch} {e : Env} {R : Room} {s : State} {m : MethodId} {args : Array Value} {below : List Frame} {meth : Method} {c : Code} {H : Heap} {locs : List Loc} {G : va_G} {ca : Nat → ClassId} {cc : ByteArray} {pc : Nat} {ls : Array Slot} {A : Nat → Prop} {Q : State → Prop} {cells slots : Nat} {Ts ws : List Cond} {bytes : ByteArray} {nL maxL index n : Nat} {own C : String} {y : MethodName} {ret : Option FieldType} {rm : Room} {b : Addr} {As rest : List Value} {ev : Nat → Nat} {Ws Wc W1 Wn : va_W} {r : Option Nat} (S : CallFix p m c cc nL s args Ts own) (hC : CtO l y ws rm G ca ev (.ref b :: As) Wc W1 r) (cw : CallW R s args own C index y bytes maxL ret ws rm 0 0 n)
    (hK : va_K G vwCl (gT ca) s) (hP : va_P G vwCl Ws H) (hD : va_D A Ws) (hS : va_S A s.heap H locs) (hA : ∀ q, s.heap.size ≤ q → A q) (hE : en_E ev A s)
    {isC : List Nat} {n9 : Nat} (wp : WpC isC n9 Ws Wc W1 Wn)
    {q0 ci : Nat} {cq : vw_C} {fs : List Value} (hrec : Wc[q0]? = some (b, .inr (ci, fs))) (hci : vwCl[ci]? = some cq) (hcq : cq.1 = C) (hn : As.length = n) (hls : ls.size = nL) {st0 : List Value} (hst0 : st0 = As.reverse ++ .ref b :: rest) (hst : (rest.map fun v => v.category).sum ≤ 8) (hdg : decode cc pc = .ok (.invokevirtual index, 3)) (hf : cells ≤ R.cells ∧ slots ≤ R.slots)
    (kk : ∀ (H1 : Heap) (locs1 : List Loc), va_P G vwCl Wn H1 → va_D A Wn → va_S A s.heap H1 locs1 → W p l e R s m args below meth c H1 locs1 cells slots Q (F0 m (pc + 3) ls (va_rf r :: rest))) :
    W p l e R s m args below meth c H locs cells slots Q (F0 m pc ls st0) := by
  obtain ⟨hlen, hisC, hnC, hR, hnd⟩ := wp
  have hPc := hP.sm isC hisC
  have hDc := hD.sub isC hnd hisC
  have hFc := va_free (wc := Wc) hD hS hA isC hisC
  have hpre : ∀ U : State, U.heap = H → s.WarmedH U.vm → va_Pc (.ref b :: As) (ct_P G ca ev Wc H.size) ((.ref b :: As)).toArray U := fun U hU hW => ⟨rfl, by rw [hU], by rw [hU]; exact hPc, va_K.moved hW.alike hK, hDc.weaken (fun _ _ _ _ => trivial), hE.pass hFc hS hU hW⟩
  refine va_callq (va_runV (As := As) (rest := rest) S (hC H.size) cw ⟨ct_blind, hcq ▸ va_recv hK hPc hci hrec, hpre⟩ rfl hn hls hst0 (lv_room hst) hdg hf) hS (fun q _ h => hFc q h) hFc (fun r' u t H1 locs1 ht hvm hw hB hz1 hk1 hS1 => ?_)
  have hw : r' = r := hw
  subst hw
  obtain ⟨hP1, hK1, hD1⟩ := hB
  rw [ht] at hP1
  obtain ⟨hP2, hD2⟩ := wj hP hD isC n9 hlen hisC hnC hR hk1 hFc hP1 hD1
  exact kk H1 locs1 hP2 hD2 hS1
/-- a call of a method whose world is the caller's own -/
theorem cm_Vo {p : Program} {l : Launch} {e : Env} {R : Room} {s : State} {m : MethodId} {args : Array Value} {below : List Frame} {meth : Method} {c : Code} {H : Heap} {locs : List Loc} {G : va_G} {ca : Nat → ClassId} {cc : ByteArray} {pc : Nat} {ls : Array Slot} {A : Nat → Prop} {Q : State → Prop} {cells slots : Nat} {Ts ws : List Cond} {bytes : ByteArray} {nL maxL index n : Nat} {own C : String} {y : MethodName} {ret : Option FieldType} {rm : Room} {b : Addr} {As rest : List Value} {ev : Nat → Nat} {Wc W1 : va_W} {r : Option Nat} (S : CallFix p m c cc nL s args Ts own) (hC : CtO l y ws rm G ca ev (.ref b :: As) Wc W1 r) (cw : CallW R s args own C index y bytes maxL ret ws rm 0 0 n)
    (hK : va_K G vwCl (gT ca) s) (hP : va_P G vwCl Wc H) (hD : va_D A Wc) (hS : va_S A s.heap H locs) (hA : ∀ q, s.heap.size ≤ q → A q) (hE : en_E ev A s)
    {q0 ci : Nat} {cq : vw_C} {fs : List Value} (hrec : Wc[q0]? = some (b, .inr (ci, fs))) (hci : vwCl[ci]? = some cq) (hcq : cq.1 = C) (hn : As.length = n) (hls : ls.size = nL) {st0 : List Value} (hst0 : st0 = As.reverse ++ .ref b :: rest) (hst : (rest.map fun v => v.category).sum ≤ 8) (hdg : decode cc pc = .ok (.invokevirtual index, 3)) (hf : cells ≤ R.cells ∧ slots ≤ R.slots)
    (kk : ∀ (H1 : Heap) (locs1 : List Loc), va_P G vwCl W1 H1 → va_D A W1 → va_S A s.heap H1 locs1 → W p l e R s m args below meth c H1 locs1 cells slots Q (F0 m (pc + 3) ls (va_rf r :: rest))) :
    W p l e R s m args below meth c H locs cells slots Q (F0 m pc ls st0) := by
  have hPc := hP
  have hFc : ∀ q, va_A Wc H.size q → A q := fun q h => by
    rcases h with ⟨k, x, h⟩ | h
    · exact hD.2 k (q, x) h
    · exact hA q (Nat.le_trans hS.1 h)
  have hpre : ∀ U : State, U.heap = H → s.WarmedH U.vm → va_Pc (.ref b :: As) (ct_P G ca ev Wc H.size) ((.ref b :: As)).toArray U := fun U hU hW => ⟨rfl, by rw [hU], by rw [hU]; exact hP, va_K.moved hW.alike hK, hD.weaken (fun _ _ _ _ => trivial), hE.pass hFc hS hU hW⟩
  refine va_callq (va_runV (As := As) (rest := rest) S (hC H.size) cw ⟨ct_blind, hcq ▸ va_recv hK hPc hci hrec, hpre⟩ rfl hn hls hst0 (lv_room hst) hdg hf) hS (fun q _ h => hFc q h) hFc (fun r' u t H1 locs1 ht hvm hw hB hz1 hk1 hS1 => ?_)
  have hw : r' = r := hw
  subst hw
  obtain ⟨hP1, hK1, hD1⟩ := hB
  rw [ht] at hP1
  exact kk H1 locs1 hP1 (hD1.weaken (fun k q _ h => hFc q.1 h)) hS1
/-- a call of a method whose world is the cells at the places isC of the caller's -/
theorem cl_Si {p : Program} {l : Launch} {e : Env} {R : Room} {s : State} {m : MethodId} {args : Array Value} {below : List Frame} {meth : Method} {c : Code} {H : Heap} {locs : List Loc} {G : va_G} {ca : Nat → ClassId} {cc : ByteArray} {pc : Nat} {ls : Array Slot} {A : Nat → Prop} {Q : State → Prop} {cells slots : Nat} {Ts ws : List Cond} {bytes : ByteArray} {nL maxL index n : Nat} {own : String} {y : MethodName} {ret : Option FieldType} {rm : Room} {As rest : List Value} {ev : Nat → Nat} {Ws Wc W1 Wn : va_W} {r : Int32} (S : CallFix p m c cc nL s args Ts own) (hC : CtI l y ws rm G ca ev As Wc W1 r) (cw : CallB R s args own index y bytes maxL ret ws rm 0 0 n ∧ (Cond.static y).before args s = true)
    (hK : va_K G vwCl (gT ca) s) (hP : va_P G vwCl Ws H) (hD : va_D A Ws) (hS : va_S A s.heap H locs) (hA : ∀ q, s.heap.size ≤ q → A q) (hE : en_E ev A s)
    {isC : List Nat} {n9 : Nat} (wp : WpC isC n9 Ws Wc W1 Wn)
    (hn : As.length = n) (hls : ls.size = nL) {st0 : List Value} (hst0 : st0 = As.reverse ++ rest) (hst : (rest.map fun v => v.category).sum ≤ 8) (hdg : decode cc pc = .ok (.invokestatic index, 3)) (hf : cells ≤ R.cells ∧ slots ≤ R.slots)
    (kk : ∀ (H1 : Heap) (locs1 : List Loc), va_P G vwCl Wn H1 → va_D A Wn → va_S A s.heap H1 locs1 → W p l e R s m args below meth c H1 locs1 cells slots Q (F0 m (pc + 3) ls (.int r :: rest))) :
    W p l e R s m args below meth c H locs cells slots Q (F0 m pc ls st0) := by
  obtain ⟨hlen, hisC, hnC, hR, hnd⟩ := wp
  have hPc := hP.sm isC hisC
  have hDc := hD.sub isC hnd hisC
  have hFc := va_free (wc := Wc) hD hS hA isC hisC
  have hpre : ∀ U : State, U.heap = H → s.WarmedH U.vm → va_Pc As (ct_P G ca ev Wc H.size) (As).toArray U := fun U hU hW => ⟨rfl, by rw [hU], by rw [hU]; exact hPc, va_K.moved hW.alike hK, hDc.weaken (fun _ _ _ _ => trivial), hE.pass hFc hS hU hW⟩
  refine va_calli (va_runS (As := As) (rest := rest) S (hC H.size) cw ⟨ct_blind, hpre⟩ rfl hn hls hst0 (lv_room hst) hdg hf) hS (fun q _ h => hFc q h) hFc (fun r' u t H1 locs1 ht hvm hw hB hz1 hk1 hS1 => ?_)
  have hw : r' = r := hw
  subst hw
  obtain ⟨hP1, hK1, hD1⟩ := hB
  rw [ht] at hP1
  obtain ⟨hP2, hD2⟩ := wj hP hD isC n9 hlen hisC hnC hR hk1 hFc hP1 hD1
  exact kk H1 locs1 hP2 hD2 hS1
/-- a call of a method whose world is the caller's own -/
theorem cm_Si {p : Program} {l : Launch} {e : Env} {R : Room} {s : State} {m : MethodId} {args : Array Value} {below : List Frame} {meth : Method} {c : Code} {H : Heap} {locs : List Loc} {G : va_G} {ca : Nat → ClassId} {cc : ByteArray} {pc : Nat} {ls : Array Slot} {A : Nat → Prop} {Q : State → Prop} {cells slots : Nat} {Ts ws : List Cond} {bytes : ByteArray} {nL maxL index n : Nat} {own : String} {y : MethodName} {ret : Option FieldType} {rm : Room} {As rest : List Value} {ev : Nat → Nat} {Wc W1 : va_W} {r : Int32} (S : CallFix p m c cc nL s args Ts own) (hC : CtI l y ws rm G ca ev As Wc W1 r) (cw : CallB R s args own index y bytes maxL ret ws rm 0 0 n ∧ (Cond.static y).before args s = true)
    (hK : va_K G vwCl (gT ca) s) (hP : va_P G vwCl Wc H) (hD : va_D A Wc) (hS : va_S A s.heap H locs) (hA : ∀ q, s.heap.size ≤ q → A q) (hE : en_E ev A s)
    (hn : As.length = n) (hls : ls.size = nL) {st0 : List Value} (hst0 : st0 = As.reverse ++ rest) (hst : (rest.map fun v => v.category).sum ≤ 8) (hdg : decode cc pc = .ok (.invokestatic index, 3)) (hf : cells ≤ R.cells ∧ slots ≤ R.slots)
    (kk : ∀ (H1 : Heap) (locs1 : List Loc), va_P G vwCl W1 H1 → va_D A W1 → va_S A s.heap H1 locs1 → W p l e R s m args below meth c H1 locs1 cells slots Q (F0 m (pc + 3) ls (.int r :: rest))) :
    W p l e R s m args below meth c H locs cells slots Q (F0 m pc ls st0) := by
  have hPc := hP
  have hFc : ∀ q, va_A Wc H.size q → A q := fun q h => by
    rcases h with ⟨k, x, h⟩ | h
    · exact hD.2 k (q, x) h
    · exact hA q (Nat.le_trans hS.1 h)
  have hpre : ∀ U : State, U.heap = H → s.WarmedH U.vm → va_Pc As (ct_P G ca ev Wc H.size) (As).toArray U := fun U hU hW => ⟨rfl, by rw [hU], by rw [hU]; exact hP, va_K.moved hW.alike hK, hD.weaken (fun _ _ _ _ => trivial), hE.pass hFc hS hU hW⟩
  refine va_calli (va_runS (As := As) (rest := rest) S (hC H.size) cw ⟨ct_blind, hpre⟩ rfl hn hls hst0 (lv_room hst) hdg hf) hS (fun q _ h => hFc q h) hFc (fun r' u t H1 locs1 ht hvm hw hB hz1 hk1 hS1 => ?_)
  have hw : r' = r := hw
  subst hw
  obtain ⟨hP1, hK1, hD1⟩ := hB
  rw [ht] at hP1
  exact kk H1 locs1 hP1 (hD1.weaken (fun k q _ h => hFc q.1 h)) hS1
/-- a call of a static method that has no cells -/
theorem cn_Si {p : Program} {l : Launch} {e : Env} {R : Room} {s : State} {m : MethodId} {args : Array Value} {below : List Frame} {meth : Method} {c : Code} {H : Heap} {locs : List Loc} {G : va_G} {ca : Nat → ClassId} {cc : ByteArray} {pc : Nat} {ls : Array Slot} {A : Nat → Prop} {Q : State → Prop} {cells slots : Nat} {Ts ws : List Cond} {bytes : ByteArray} {nL maxL index n : Nat} {own : String} {y : MethodName} {ret : Option FieldType} {rm : Room} {As rest : List Value} {ev : Nat → Nat} {Ws : va_W} {r : Int32} (S : CallFix p m c cc nL s args Ts own) (hC : CtI l y ws rm G ca ev As [] [] r) (cw : CallB R s args own index y bytes maxL ret ws rm 0 0 n ∧ (Cond.static y).before args s = true)
    (hK : va_K G vwCl (gT ca) s) (hP : va_P G vwCl Ws H) (hD : va_D A Ws) (hS : va_S A s.heap H locs) (hA : ∀ q, s.heap.size ≤ q → A q) (hE : en_E ev A s)
    (hn : As.length = n) (hls : ls.size = nL) {st0 : List Value} (hst0 : st0 = As.reverse ++ rest) (hst : (rest.map fun v => v.category).sum ≤ 8) (hdg : decode cc pc = .ok (.invokestatic index, 3)) (hf : cells ≤ R.cells ∧ slots ≤ R.slots)
    (kk : ∀ (H1 : Heap) (locs1 : List Loc), va_P G vwCl Ws H1 → va_D A Ws → va_S A s.heap H1 locs1 → W p l e R s m args below meth c H1 locs1 cells slots Q (F0 m (pc + 3) ls (.int r :: rest))) :
    W p l e R s m args below meth c H locs cells slots Q (F0 m pc ls st0) := by
  have hFc : ∀ q, va_A [] H.size q → A q := fun q h => by
    rcases h with ⟨k, x, h⟩ | h
    · simp at h
    · exact hA q (Nat.le_trans hS.1 h)
  have hpre : ∀ U : State, U.heap = H → s.WarmedH U.vm → va_Pc As (ct_P G ca ev [] H.size) (As).toArray U := fun U hU hW => ⟨rfl, by rw [hU], fun k q h => by simp at h, va_K.moved hW.alike hK, ⟨fun i j p q h => by simp at h, fun k q h => by simp at h⟩, hE.pass hFc hS hU hW⟩
  refine va_calli (va_runS (As := As) (rest := rest) S (hC H.size) cw ⟨ct_blind, hpre⟩ rfl hn hls hst0 (lv_room hst) hdg hf) hS (fun q _ h => hFc q h) hFc (fun r' u t H1 locs1 ht hvm hw hB hz1 hk1 hS1 => ?_)
  have hw : r' = r := hw
  subst hw
  refine kk H1 locs1 (hP.kept (fun k x hx => hk1 x.1 ((hP k x hx).lt) (fun h => ?_))) hD hS1
  rcases h with ⟨k2, e2, h⟩ | h
  · simp at h
  · exact absurd ((hP k x hx).lt) (Nat.not_lt.mpr h)
/-- a call of a method whose world is the cells at the places isC of the caller's -/
theorem cl_Sl {p : Program} {l : Launch} {e : Env} {R : Room} {s : State} {m : MethodId} {args : Array Value} {below : List Frame} {meth : Method} {c : Code} {H : Heap} {locs : List Loc} {G : va_G} {ca : Nat → ClassId} {cc : ByteArray} {pc : Nat} {ls : Array Slot} {A : Nat → Prop} {Q : State → Prop} {cells slots : Nat} {Ts ws : List Cond} {bytes : ByteArray} {nL maxL index n : Nat} {own : String} {y : MethodName} {ret : Option FieldType} {rm : Room} {As rest : List Value} {ev : Nat → Nat} {Ws Wc W1 Wn : va_W} {r : Int64} (S : CallFix p m c cc nL s args Ts own) (hC : CtL l y ws rm G ca ev As Wc W1 r) (cw : CallB R s args own index y bytes maxL ret ws rm 0 0 n ∧ (Cond.static y).before args s = true)
    (hK : va_K G vwCl (gT ca) s) (hP : va_P G vwCl Ws H) (hD : va_D A Ws) (hS : va_S A s.heap H locs) (hA : ∀ q, s.heap.size ≤ q → A q) (hE : en_E ev A s)
    {isC : List Nat} {n9 : Nat} (wp : WpC isC n9 Ws Wc W1 Wn)
    (hn : As.length = n) (hls : ls.size = nL) {st0 : List Value} (hst0 : st0 = As.reverse ++ rest) (hst : (rest.map fun v => v.category).sum ≤ 8) (hdg : decode cc pc = .ok (.invokestatic index, 3)) (hf : cells ≤ R.cells ∧ slots ≤ R.slots)
    (kk : ∀ (H1 : Heap) (locs1 : List Loc), va_P G vwCl Wn H1 → va_D A Wn → va_S A s.heap H1 locs1 → W p l e R s m args below meth c H1 locs1 cells slots Q (F0 m (pc + 3) ls (.long r :: rest))) :
    W p l e R s m args below meth c H locs cells slots Q (F0 m pc ls st0) := by
  obtain ⟨hlen, hisC, hnC, hR, hnd⟩ := wp
  have hPc := hP.sm isC hisC
  have hDc := hD.sub isC hnd hisC
  have hFc := va_free (wc := Wc) hD hS hA isC hisC
  have hpre : ∀ U : State, U.heap = H → s.WarmedH U.vm → va_Pc As (ct_P G ca ev Wc H.size) (As).toArray U := fun U hU hW => ⟨rfl, by rw [hU], by rw [hU]; exact hPc, va_K.moved hW.alike hK, hDc.weaken (fun _ _ _ _ => trivial), hE.pass hFc hS hU hW⟩
  refine va_calll (va_runS (As := As) (rest := rest) S (hC H.size) cw ⟨ct_blind, hpre⟩ rfl hn hls hst0 (lv_room hst) hdg hf) hS (fun q _ h => hFc q h) hFc (fun r' u t H1 locs1 ht hvm hw hB hz1 hk1 hS1 => ?_)
  have hw : r' = r := hw
  subst hw
  obtain ⟨hP1, hK1, hD1⟩ := hB
  rw [ht] at hP1
  obtain ⟨hP2, hD2⟩ := wj hP hD isC n9 hlen hisC hnC hR hk1 hFc hP1 hD1
  exact kk H1 locs1 hP2 hD2 hS1
/-- a call of a method whose world is the caller's own -/
theorem cm_Sl {p : Program} {l : Launch} {e : Env} {R : Room} {s : State} {m : MethodId} {args : Array Value} {below : List Frame} {meth : Method} {c : Code} {H : Heap} {locs : List Loc} {G : va_G} {ca : Nat → ClassId} {cc : ByteArray} {pc : Nat} {ls : Array Slot} {A : Nat → Prop} {Q : State → Prop} {cells slots : Nat} {Ts ws : List Cond} {bytes : ByteArray} {nL maxL index n : Nat} {own : String} {y : MethodName} {ret : Option FieldType} {rm : Room} {As rest : List Value} {ev : Nat → Nat} {Wc W1 : va_W} {r : Int64} (S : CallFix p m c cc nL s args Ts own) (hC : CtL l y ws rm G ca ev As Wc W1 r) (cw : CallB R s args own index y bytes maxL ret ws rm 0 0 n ∧ (Cond.static y).before args s = true)
    (hK : va_K G vwCl (gT ca) s) (hP : va_P G vwCl Wc H) (hD : va_D A Wc) (hS : va_S A s.heap H locs) (hA : ∀ q, s.heap.size ≤ q → A q) (hE : en_E ev A s)
    (hn : As.length = n) (hls : ls.size = nL) {st0 : List Value} (hst0 : st0 = As.reverse ++ rest) (hst : (rest.map fun v => v.category).sum ≤ 8) (hdg : decode cc pc = .ok (.invokestatic index, 3)) (hf : cells ≤ R.cells ∧ slots ≤ R.slots)
    (kk : ∀ (H1 : Heap) (locs1 : List Loc), va_P G vwCl W1 H1 → va_D A W1 → va_S A s.heap H1 locs1 → W p l e R s m args below meth c H1 locs1 cells slots Q (F0 m (pc + 3) ls (.long r :: rest))) :
    W p l e R s m args below meth c H locs cells slots Q (F0 m pc ls st0) := by
  have hPc := hP
  have hFc : ∀ q, va_A Wc H.size q → A q := fun q h => by
    rcases h with ⟨k, x, h⟩ | h
    · exact hD.2 k (q, x) h
    · exact hA q (Nat.le_trans hS.1 h)
  have hpre : ∀ U : State, U.heap = H → s.WarmedH U.vm → va_Pc As (ct_P G ca ev Wc H.size) (As).toArray U := fun U hU hW => ⟨rfl, by rw [hU], by rw [hU]; exact hP, va_K.moved hW.alike hK, hD.weaken (fun _ _ _ _ => trivial), hE.pass hFc hS hU hW⟩
  refine va_calll (va_runS (As := As) (rest := rest) S (hC H.size) cw ⟨ct_blind, hpre⟩ rfl hn hls hst0 (lv_room hst) hdg hf) hS (fun q _ h => hFc q h) hFc (fun r' u t H1 locs1 ht hvm hw hB hz1 hk1 hS1 => ?_)
  have hw : r' = r := hw
  subst hw
  obtain ⟨hP1, hK1, hD1⟩ := hB
  rw [ht] at hP1
  exact kk H1 locs1 hP1 (hD1.weaken (fun k q _ h => hFc q.1 h)) hS1
/-- a call of a static method that has no cells -/
theorem cn_Sl {p : Program} {l : Launch} {e : Env} {R : Room} {s : State} {m : MethodId} {args : Array Value} {below : List Frame} {meth : Method} {c : Code} {H : Heap} {locs : List Loc} {G : va_G} {ca : Nat → ClassId} {cc : ByteArray} {pc : Nat} {ls : Array Slot} {A : Nat → Prop} {Q : State → Prop} {cells slots : Nat} {Ts ws : List Cond} {bytes : ByteArray} {nL maxL index n : Nat} {own : String} {y : MethodName} {ret : Option FieldType} {rm : Room} {As rest : List Value} {ev : Nat → Nat} {Ws : va_W} {r : Int64} (S : CallFix p m c cc nL s args Ts own) (hC : CtL l y ws rm G ca ev As [] [] r) (cw : CallB R s args own index y bytes maxL ret ws rm 0 0 n ∧ (Cond.static y).before args s = true)
    (hK : va_K G vwCl (gT ca) s) (hP : va_P G vwCl Ws H) (hD : va_D A Ws) (hS : va_S A s.heap H locs) (hA : ∀ q, s.heap.size ≤ q → A q) (hE : en_E ev A s)
    (hn : As.length = n) (hls : ls.size = nL) {st0 : List Value} (hst0 : st0 = As.reverse ++ rest) (hst : (rest.map fun v => v.category).sum ≤ 8) (hdg : decode cc pc = .ok (.invokestatic index, 3)) (hf : cells ≤ R.cells ∧ slots ≤ R.slots)
    (kk : ∀ (H1 : Heap) (locs1 : List Loc), va_P G vwCl Ws H1 → va_D A Ws → va_S A s.heap H1 locs1 → W p l e R s m args below meth c H1 locs1 cells slots Q (F0 m (pc + 3) ls (.long r :: rest))) :
    W p l e R s m args below meth c H locs cells slots Q (F0 m pc ls st0) := by
  have hFc : ∀ q, va_A [] H.size q → A q := fun q h => by
    rcases h with ⟨k, x, h⟩ | h
    · simp at h
    · exact hA q (Nat.le_trans hS.1 h)
  have hpre : ∀ U : State, U.heap = H → s.WarmedH U.vm → va_Pc As (ct_P G ca ev [] H.size) (As).toArray U := fun U hU hW => ⟨rfl, by rw [hU], fun k q h => by simp at h, va_K.moved hW.alike hK, ⟨fun i j p q h => by simp at h, fun k q h => by simp at h⟩, hE.pass hFc hS hU hW⟩
  refine va_calll (va_runS (As := As) (rest := rest) S (hC H.size) cw ⟨ct_blind, hpre⟩ rfl hn hls hst0 (lv_room hst) hdg hf) hS (fun q _ h => hFc q h) hFc (fun r' u t H1 locs1 ht hvm hw hB hz1 hk1 hS1 => ?_)
  have hw : r' = r := hw
  subst hw
  refine kk H1 locs1 (hP.kept (fun k x hx => hk1 x.1 ((hP k x hx).lt) (fun h => ?_))) hD hS1
  rcases h with ⟨k2, e2, h⟩ | h
  · simp at h
  · exact absurd ((hP k x hx).lt) (Nat.not_lt.mpr h)
/-- a call of a method whose world is the cells at the places isC of the caller's -/
theorem cl_Sv {p : Program} {l : Launch} {e : Env} {R : Room} {s : State} {m : MethodId} {args : Array Value} {below : List Frame} {meth : Method} {c : Code} {H : Heap} {locs : List Loc} {G : va_G} {ca : Nat → ClassId} {cc : ByteArray} {pc : Nat} {ls : Array Slot} {A : Nat → Prop} {Q : State → Prop} {cells slots : Nat} {Ts ws : List Cond} {bytes : ByteArray} {nL maxL index n : Nat} {own : String} {y : MethodName} {ret : Option FieldType} {rm : Room} {As rest : List Value} {ev : Nat → Nat} {Ws Wc W1 Wn : va_W}  (S : CallFix p m c cc nL s args Ts own) (hC : CtV l y ws rm G ca ev As Wc W1) (cw : CallB R s args own index y bytes maxL ret ws rm 0 0 n ∧ (Cond.static y).before args s = true)
    (hK : va_K G vwCl (gT ca) s) (hP : va_P G vwCl Ws H) (hD : va_D A Ws) (hS : va_S A s.heap H locs) (hA : ∀ q, s.heap.size ≤ q → A q) (hE : en_E ev A s)
    {isC : List Nat} {n9 : Nat} (wp : WpC isC n9 Ws Wc W1 Wn)
    (hn : As.length = n) (hls : ls.size = nL) {st0 : List Value} (hst0 : st0 = As.reverse ++ rest) (hst : (rest.map fun v => v.category).sum ≤ 8) (hdg : decode cc pc = .ok (.invokestatic index, 3)) (hf : cells ≤ R.cells ∧ slots ≤ R.slots)
    (kk : ∀ (H1 : Heap) (locs1 : List Loc), va_P G vwCl Wn H1 → va_D A Wn → va_S A s.heap H1 locs1 → W p l e R s m args below meth c H1 locs1 cells slots Q (F0 m (pc + 3) ls (rest))) :
    W p l e R s m args below meth c H locs cells slots Q (F0 m pc ls st0) := by
  obtain ⟨hlen, hisC, hnC, hR, hnd⟩ := wp
  have hPc := hP.sm isC hisC
  have hDc := hD.sub isC hnd hisC
  have hFc := va_free (wc := Wc) hD hS hA isC hisC
  have hpre : ∀ U : State, U.heap = H → s.WarmedH U.vm → va_Pc As (ct_P G ca ev Wc H.size) (As).toArray U := fun U hU hW => ⟨rfl, by rw [hU], by rw [hU]; exact hPc, va_K.moved hW.alike hK, hDc.weaken (fun _ _ _ _ => trivial), hE.pass hFc hS hU hW⟩
  refine va_callv (va_runS (As := As) (rest := rest) S (hC H.size) cw ⟨ct_blind, hpre⟩ rfl hn hls hst0 (lv_room hst) hdg hf) hS (fun q _ h => hFc q h) hFc (fun u t H1 locs1 ht hvm hw hB hz1 hk1 hS1 => ?_)
  obtain ⟨hP1, hK1, hD1⟩ := hB
  rw [ht] at hP1
  obtain ⟨hP2, hD2⟩ := wj hP hD isC n9 hlen hisC hnC hR hk1 hFc hP1 hD1
  exact kk H1 locs1 hP2 hD2 hS1
/-- a call of a method whose world is the caller's own -/
theorem cm_Sv {p : Program} {l : Launch} {e : Env} {R : Room} {s : State} {m : MethodId} {args : Array Value} {below : List Frame} {meth : Method} {c : Code} {H : Heap} {locs : List Loc} {G : va_G} {ca : Nat → ClassId} {cc : ByteArray} {pc : Nat} {ls : Array Slot} {A : Nat → Prop} {Q : State → Prop} {cells slots : Nat} {Ts ws : List Cond} {bytes : ByteArray} {nL maxL index n : Nat} {own : String} {y : MethodName} {ret : Option FieldType} {rm : Room} {As rest : List Value} {ev : Nat → Nat} {Wc W1 : va_W}  (S : CallFix p m c cc nL s args Ts own) (hC : CtV l y ws rm G ca ev As Wc W1) (cw : CallB R s args own index y bytes maxL ret ws rm 0 0 n ∧ (Cond.static y).before args s = true)
    (hK : va_K G vwCl (gT ca) s) (hP : va_P G vwCl Wc H) (hD : va_D A Wc) (hS : va_S A s.heap H locs) (hA : ∀ q, s.heap.size ≤ q → A q) (hE : en_E ev A s)
    (hn : As.length = n) (hls : ls.size = nL) {st0 : List Value} (hst0 : st0 = As.reverse ++ rest) (hst : (rest.map fun v => v.category).sum ≤ 8) (hdg : decode cc pc = .ok (.invokestatic index, 3)) (hf : cells ≤ R.cells ∧ slots ≤ R.slots)
    (kk : ∀ (H1 : Heap) (locs1 : List Loc), va_P G vwCl W1 H1 → va_D A W1 → va_S A s.heap H1 locs1 → W p l e R s m args below meth c H1 locs1 cells slots Q (F0 m (pc + 3) ls (rest))) :
    W p l e R s m args below meth c H locs cells slots Q (F0 m pc ls st0) := by
  have hPc := hP
  have hFc : ∀ q, va_A Wc H.size q → A q := fun q h => by
    rcases h with ⟨k, x, h⟩ | h
    · exact hD.2 k (q, x) h
    · exact hA q (Nat.le_trans hS.1 h)
  have hpre : ∀ U : State, U.heap = H → s.WarmedH U.vm → va_Pc As (ct_P G ca ev Wc H.size) (As).toArray U := fun U hU hW => ⟨rfl, by rw [hU], by rw [hU]; exact hP, va_K.moved hW.alike hK, hD.weaken (fun _ _ _ _ => trivial), hE.pass hFc hS hU hW⟩
  refine va_callv (va_runS (As := As) (rest := rest) S (hC H.size) cw ⟨ct_blind, hpre⟩ rfl hn hls hst0 (lv_room hst) hdg hf) hS (fun q _ h => hFc q h) hFc (fun u t H1 locs1 ht hvm hw hB hz1 hk1 hS1 => ?_)
  obtain ⟨hP1, hK1, hD1⟩ := hB
  rw [ht] at hP1
  exact kk H1 locs1 hP1 (hD1.weaken (fun k q _ h => hFc q.1 h)) hS1
/-- a call of a static method that has no cells -/
theorem cn_Sv {p : Program} {l : Launch} {e : Env} {R : Room} {s : State} {m : MethodId} {args : Array Value} {below : List Frame} {meth : Method} {c : Code} {H : Heap} {locs : List Loc} {G : va_G} {ca : Nat → ClassId} {cc : ByteArray} {pc : Nat} {ls : Array Slot} {A : Nat → Prop} {Q : State → Prop} {cells slots : Nat} {Ts ws : List Cond} {bytes : ByteArray} {nL maxL index n : Nat} {own : String} {y : MethodName} {ret : Option FieldType} {rm : Room} {As rest : List Value} {ev : Nat → Nat} {Ws : va_W}  (S : CallFix p m c cc nL s args Ts own) (hC : CtV l y ws rm G ca ev As [] []) (cw : CallB R s args own index y bytes maxL ret ws rm 0 0 n ∧ (Cond.static y).before args s = true)
    (hK : va_K G vwCl (gT ca) s) (hP : va_P G vwCl Ws H) (hD : va_D A Ws) (hS : va_S A s.heap H locs) (hA : ∀ q, s.heap.size ≤ q → A q) (hE : en_E ev A s)
    (hn : As.length = n) (hls : ls.size = nL) {st0 : List Value} (hst0 : st0 = As.reverse ++ rest) (hst : (rest.map fun v => v.category).sum ≤ 8) (hdg : decode cc pc = .ok (.invokestatic index, 3)) (hf : cells ≤ R.cells ∧ slots ≤ R.slots)
    (kk : ∀ (H1 : Heap) (locs1 : List Loc), va_P G vwCl Ws H1 → va_D A Ws → va_S A s.heap H1 locs1 → W p l e R s m args below meth c H1 locs1 cells slots Q (F0 m (pc + 3) ls (rest))) :
    W p l e R s m args below meth c H locs cells slots Q (F0 m pc ls st0) := by
  have hFc : ∀ q, va_A [] H.size q → A q := fun q h => by
    rcases h with ⟨k, x, h⟩ | h
    · simp at h
    · exact hA q (Nat.le_trans hS.1 h)
  have hpre : ∀ U : State, U.heap = H → s.WarmedH U.vm → va_Pc As (ct_P G ca ev [] H.size) (As).toArray U := fun U hU hW => ⟨rfl, by rw [hU], fun k q h => by simp at h, va_K.moved hW.alike hK, ⟨fun i j p q h => by simp at h, fun k q h => by simp at h⟩, hE.pass hFc hS hU hW⟩
  refine va_callv (va_runS (As := As) (rest := rest) S (hC H.size) cw ⟨ct_blind, hpre⟩ rfl hn hls hst0 (lv_room hst) hdg hf) hS (fun q _ h => hFc q h) hFc (fun u t H1 locs1 ht hvm hw hB hz1 hk1 hS1 => ?_)
  refine kk H1 locs1 (hP.kept (fun k x hx => hk1 x.1 ((hP k x hx).lt) (fun h => ?_))) hD hS1
  rcases h with ⟨k2, e2, h⟩ | h
  · simp at h
  · exact absurd ((hP k x hx).lt) (Nat.not_lt.mpr h)
/-- a call of a method whose world is the cells at the places isC of the caller's -/
theorem cl_So {p : Program} {l : Launch} {e : Env} {R : Room} {s : State} {m : MethodId} {args : Array Value} {below : List Frame} {meth : Method} {c : Code} {H : Heap} {locs : List Loc} {G : va_G} {ca : Nat → ClassId} {cc : ByteArray} {pc : Nat} {ls : Array Slot} {A : Nat → Prop} {Q : State → Prop} {cells slots : Nat} {Ts ws : List Cond} {bytes : ByteArray} {nL maxL index n : Nat} {own : String} {y : MethodName} {ret : Option FieldType} {rm : Room} {As rest : List Value} {ev : Nat → Nat} {Ws Wc W1 Wn : va_W} {r : Option Nat} (S : CallFix p m c cc nL s args Ts own) (hC : CtO l y ws rm G ca ev As Wc W1 r) (cw : CallB R s args own index y bytes maxL ret ws rm 0 0 n ∧ (Cond.static y).before args s = true)
    (hK : va_K G vwCl (gT ca) s) (hP : va_P G vwCl Ws H) (hD : va_D A Ws) (hS : va_S A s.heap H locs) (hA : ∀ q, s.heap.size ≤ q → A q) (hE : en_E ev A s)
    {isC : List Nat} {n9 : Nat} (wp : WpC isC n9 Ws Wc W1 Wn)
    (hn : As.length = n) (hls : ls.size = nL) {st0 : List Value} (hst0 : st0 = As.reverse ++ rest) (hst : (rest.map fun v => v.category).sum ≤ 8) (hdg : decode cc pc = .ok (.invokestatic index, 3)) (hf : cells ≤ R.cells ∧ slots ≤ R.slots)
    (kk : ∀ (H1 : Heap) (locs1 : List Loc), va_P G vwCl Wn H1 → va_D A Wn → va_S A s.heap H1 locs1 → W p l e R s m args below meth c H1 locs1 cells slots Q (F0 m (pc + 3) ls (va_rf r :: rest))) :
    W p l e R s m args below meth c H locs cells slots Q (F0 m pc ls st0) := by
  obtain ⟨hlen, hisC, hnC, hR, hnd⟩ := wp
  have hPc := hP.sm isC hisC
  have hDc := hD.sub isC hnd hisC
  have hFc := va_free (wc := Wc) hD hS hA isC hisC
  have hpre : ∀ U : State, U.heap = H → s.WarmedH U.vm → va_Pc As (ct_P G ca ev Wc H.size) (As).toArray U := fun U hU hW => ⟨rfl, by rw [hU], by rw [hU]; exact hPc, va_K.moved hW.alike hK, hDc.weaken (fun _ _ _ _ => trivial), hE.pass hFc hS hU hW⟩
  refine va_callq (va_runS (As := As) (rest := rest) S (hC H.size) cw ⟨ct_blind, hpre⟩ rfl hn hls hst0 (lv_room hst) hdg hf) hS (fun q _ h => hFc q h) hFc (fun r' u t H1 locs1 ht hvm hw hB hz1 hk1 hS1 => ?_)
  have hw : r' = r := hw
  subst hw
  obtain ⟨hP1, hK1, hD1⟩ := hB
  rw [ht] at hP1
  obtain ⟨hP2, hD2⟩ := wj hP hD isC n9 hlen hisC hnC hR hk1 hFc hP1 hD1
  exact kk H1 locs1 hP2 hD2 hS1
/-- a call of a method whose world is the caller's own -/
theorem cm_So {p : Program} {l : Launch} {e : Env} {R : Room} {s : State} {m : MethodId} {args : Array Value} {below : List Frame} {meth : Method} {c : Code} {H : Heap} {locs : List Loc} {G : va_G} {ca : Nat → ClassId} {cc : ByteArray} {pc : Nat} {ls : Array Slot} {A : Nat → Prop} {Q : State → Prop} {cells slots : Nat} {Ts ws : List Cond} {bytes : ByteArray} {nL maxL index n : Nat} {own : String} {y : MethodName} {ret : Option FieldType} {rm : Room} {As rest : List Value} {ev : Nat → Nat} {Wc W1 : va_W} {r : Option Nat} (S : CallFix p m c cc nL s args Ts own) (hC : CtO l y ws rm G ca ev As Wc W1 r) (cw : CallB R s args own index y bytes maxL ret ws rm 0 0 n ∧ (Cond.static y).before args s = true)
    (hK : va_K G vwCl (gT ca) s) (hP : va_P G vwCl Wc H) (hD : va_D A Wc) (hS : va_S A s.heap H locs) (hA : ∀ q, s.heap.size ≤ q → A q) (hE : en_E ev A s)
    (hn : As.length = n) (hls : ls.size = nL) {st0 : List Value} (hst0 : st0 = As.reverse ++ rest) (hst : (rest.map fun v => v.category).sum ≤ 8) (hdg : decode cc pc = .ok (.invokestatic index, 3)) (hf : cells ≤ R.cells ∧ slots ≤ R.slots)
    (kk : ∀ (H1 : Heap) (locs1 : List Loc), va_P G vwCl W1 H1 → va_D A W1 → va_S A s.heap H1 locs1 → W p l e R s m args below meth c H1 locs1 cells slots Q (F0 m (pc + 3) ls (va_rf r :: rest))) :
    W p l e R s m args below meth c H locs cells slots Q (F0 m pc ls st0) := by
  have hPc := hP
  have hFc : ∀ q, va_A Wc H.size q → A q := fun q h => by
    rcases h with ⟨k, x, h⟩ | h
    · exact hD.2 k (q, x) h
    · exact hA q (Nat.le_trans hS.1 h)
  have hpre : ∀ U : State, U.heap = H → s.WarmedH U.vm → va_Pc As (ct_P G ca ev Wc H.size) (As).toArray U := fun U hU hW => ⟨rfl, by rw [hU], by rw [hU]; exact hP, va_K.moved hW.alike hK, hD.weaken (fun _ _ _ _ => trivial), hE.pass hFc hS hU hW⟩
  refine va_callq (va_runS (As := As) (rest := rest) S (hC H.size) cw ⟨ct_blind, hpre⟩ rfl hn hls hst0 (lv_room hst) hdg hf) hS (fun q _ h => hFc q h) hFc (fun r' u t H1 locs1 ht hvm hw hB hz1 hk1 hS1 => ?_)
  have hw : r' = r := hw
  subst hw
  obtain ⟨hP1, hK1, hD1⟩ := hB
  rw [ht] at hP1
  exact kk H1 locs1 hP1 (hD1.weaken (fun k q _ h => hFc q.1 h)) hS1
/-- a call of a static method that has no cells -/
theorem cn_So {p : Program} {l : Launch} {e : Env} {R : Room} {s : State} {m : MethodId} {args : Array Value} {below : List Frame} {meth : Method} {c : Code} {H : Heap} {locs : List Loc} {G : va_G} {ca : Nat → ClassId} {cc : ByteArray} {pc : Nat} {ls : Array Slot} {A : Nat → Prop} {Q : State → Prop} {cells slots : Nat} {Ts ws : List Cond} {bytes : ByteArray} {nL maxL index n : Nat} {own : String} {y : MethodName} {ret : Option FieldType} {rm : Room} {As rest : List Value} {ev : Nat → Nat} {Ws : va_W} {r : Option Nat} (S : CallFix p m c cc nL s args Ts own) (hC : CtO l y ws rm G ca ev As [] [] r) (cw : CallB R s args own index y bytes maxL ret ws rm 0 0 n ∧ (Cond.static y).before args s = true)
    (hK : va_K G vwCl (gT ca) s) (hP : va_P G vwCl Ws H) (hD : va_D A Ws) (hS : va_S A s.heap H locs) (hA : ∀ q, s.heap.size ≤ q → A q) (hE : en_E ev A s)
    (hn : As.length = n) (hls : ls.size = nL) {st0 : List Value} (hst0 : st0 = As.reverse ++ rest) (hst : (rest.map fun v => v.category).sum ≤ 8) (hdg : decode cc pc = .ok (.invokestatic index, 3)) (hf : cells ≤ R.cells ∧ slots ≤ R.slots)
    (kk : ∀ (H1 : Heap) (locs1 : List Loc), va_P G vwCl Ws H1 → va_D A Ws → va_S A s.heap H1 locs1 → W p l e R s m args below meth c H1 locs1 cells slots Q (F0 m (pc + 3) ls (va_rf r :: rest))) :
    W p l e R s m args below meth c H locs cells slots Q (F0 m pc ls st0) := by
  have hFc : ∀ q, va_A [] H.size q → A q := fun q h => by
    rcases h with ⟨k, x, h⟩ | h
    · simp at h
    · exact hA q (Nat.le_trans hS.1 h)
  have hpre : ∀ U : State, U.heap = H → s.WarmedH U.vm → va_Pc As (ct_P G ca ev [] H.size) (As).toArray U := fun U hU hW => ⟨rfl, by rw [hU], fun k q h => by simp at h, va_K.moved hW.alike hK, ⟨fun i j p q h => by simp at h, fun k q h => by simp at h⟩, hE.pass hFc hS hU hW⟩
  refine va_callq (va_runS (As := As) (rest := rest) S (hC H.size) cw ⟨ct_blind, hpre⟩ rfl hn hls hst0 (lv_room hst) hdg hf) hS (fun q _ h => hFc q h) hFc (fun r' u t H1 locs1 ht hvm hw hB hz1 hk1 hS1 => ?_)
  have hw : r' = r := hw
  subst hw
  refine kk H1 locs1 (hP.kept (fun k x hx => hk1 x.1 ((hP k x hx).lt) (fun h => ?_))) hD hS1
  rcases h with ⟨k2, e2, h⟩ | h
  · simp at h
  · exact absurd ((hP k x hx).lt) (Nat.not_lt.mpr h)
/-- a call of a static method that has no cells -/
theorem cn_Ni {p : Program} {l : Launch} {e : Env} {R : Room} {s : State} {m : MethodId} {args : Array Value} {below : List Frame} {meth : Method} {c : Code} {H : Heap} {locs : List Loc} {G : va_G} {ca : Nat → ClassId} {cc : ByteArray} {pc : Nat} {ls : Array Slot} {A : Nat → Prop} {Q : State → Prop} {cells slots : Nat} {Ts ws : List Cond} {bytes : ByteArray} {nL maxL index n : Nat} {own host : String} {y : MethodName} {ret : Option FieldType} {rm : Room} {As rest : List Value} {ev : Nat → Nat} {Ws : va_W} {r : Int32} (S : CallFix p m c cc nL s args Ts own) (hC : CtI l y ws rm G ca ev As [] [] r) (cw : va_CN R s args own index y host bytes maxL ret ws rm 0 0 n ∧ (Cond.static y).before args s = true ∧ True)
    (hK : va_K G vwCl (gT ca) s) (hP : va_P G vwCl Ws H) (hD : va_D A Ws) (hS : va_S A s.heap H locs) (hA : ∀ q, s.heap.size ≤ q → A q) (hE : en_E ev A s)
    (hn : As.length = n) (hls : ls.size = nL) {st0 : List Value} (hst0 : st0 = As.reverse ++ rest) (hst : (rest.map fun v => v.category).sum ≤ 8) (hdg : decode cc pc = .ok (.invokestatic index, 3)) (hf : cells ≤ R.cells ∧ slots ≤ R.slots)
    (kk : ∀ (H1 : Heap) (locs1 : List Loc), va_P G vwCl Ws H1 → va_D A Ws → va_S A s.heap H1 locs1 → W p l e R s m args below meth c H1 locs1 cells slots Q (F0 m (pc + 3) ls (.int r :: rest))) :
    W p l e R s m args below meth c H locs cells slots Q (F0 m pc ls st0) := by
  have hFc : ∀ q, va_A [] H.size q → A q := fun q h => by
    rcases h with ⟨k, x, h⟩ | h
    · simp at h
    · exact hA q (Nat.le_trans hS.1 h)
  have hpre : ∀ U : State, U.heap = H → s.WarmedH U.vm → va_Pc As (ct_P G ca ev [] H.size) (As).toArray U := fun U hU hW => ⟨rfl, by rw [hU], fun k q h => by simp at h, va_K.moved hW.alike hK, ⟨fun i j p q h => by simp at h, fun k q h => by simp at h⟩, hE.pass hFc hS hU hW⟩
  refine va_calli (va_runSN (As := As) (rest := rest) S (hC H.size) cw ⟨ct_blind, hpre⟩ rfl hn hls hst0 (lv_room hst) hdg hf) hS (fun q _ h => hFc q h) hFc (fun r' u t H1 locs1 ht hvm hw hB hz1 hk1 hS1 => ?_)
  have hw : r' = r := hw
  subst hw
  refine kk H1 locs1 (hP.kept (fun k x hx => hk1 x.1 ((hP k x hx).lt) (fun h => ?_))) hD hS1
  rcases h with ⟨k2, e2, h⟩ | h
  · simp at h
  · exact absurd ((hP k x hx).lt) (Nat.not_lt.mpr h)
theorem kidx_lt (j : Nat) : kidx j < 17 := by unfold kidx; split <;> decide
def mk_kinds (ev : Nat → Nat) : Nat → Option Nat := fun j => some (ev (1 + 2 * kidx j))
