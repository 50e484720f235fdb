/-! THE LAYER: memory as a map from addresses to tagged cells; a judgement V over it, an instruction a row; a contract CC over it, a call a row -/
abbrev mE : Type := (Nat × List Value) ⊕ (Nat × Nat × ((Nat → Int32) ⊕ (Nat → Option Nat)))
abbrev mM : Type := Nat → Option (Nat × mE)
/-- the machine's cell of a cell -/
def mv (KA : Nat → ClassId) (e : mE) : va_E := match e with
  | .inl o => .inr o
  | .inr (k, n, .inl f) => .inl (KA k, n, .inl f)
  | .inr (k, n, .inr g) => .inl (KA k, n, cond (Nat.beq k 5) (.inr (.inl (fun j => lN ((g j).getD 0)))) (.inr (.inr (.inr (.inr g)))))
theorem mv_r {KA : Nat → ClassId} {k n : Nat} {g : Nat → Option Nat} (h : Nat.beq k 5 = false) : mv KA (.inr (k, n, .inr g)) = .inl (KA k, n, .inr (.inr (.inr (.inr g)))) := by
  show Sum.inl (KA k, n, cond (Nat.beq k 5) _ _) = _
  rw [h]
  rfl
def mup (M : mM) (a : Nat) (x : Nat × mE) : mM := fun b => if b = a then some x else M b
theorem mup_s {M : mM} {a : Nat} {x : Nat × mE} : mup M a x a = some x := if_pos rfl
theorem mup_n {M : mM} {a b : Nat} {x : Nat × mE} (h : b ≠ a) : mup M a x b = M b := if_neg h
/-- the kinds of arrays -/
def tysK (KA : Nat → ClassId) : List (ClassId × FieldType) := [(KA 0, .int), (KA 1, .char), (KA 2, .object "java/lang/Object"), (KA 3, .object "TitleFinder$State"), (KA 4, .array .int), (KA 5, .long)]
/-- the surroundings: the launch, the law's start heap, the classes, the arrays' classes, the literals' addresses, the empty list's array -/
abbrev mG : Type := Launch × Heap × va_G × (Nat → ClassId) × (Nat → Nat) × (Nat → Int32) × Nat × Nat
abbrev mAf (H0 : Heap) : Nat → Prop := fun q => H0.size ≤ q
/-- what a cell is in the heap; of one that was there before (an empty row of Objects) only what reading needs -/
def mAt (G : mG) (H : Heap) (a t : Nat) (e : mE) : Prop := (t ≠ 0 ∧ va_at G.2.2.1 vwCl (a, mv G.2.2.2.1 e) H) ∨ (t = 0 ∧ ∃ (g : Nat → Option Nat) (cell : Cell), e = .inr (2, 0, .inr g) ∧ H[a]? = some cell ∧ cell.cls = G.2.2.2.1 2 ∧ cell.slots.size = 0 ∧ cell.vm.isStatics = false ∧ cell.vm ≠ .unknown)
theorem mAt.z {G : mG} {H : Heap} {a t : Nat} {e : mE} (h : mAt G H a t e) (ht : t ≠ 0) : va_at G.2.2.1 vwCl (a, mv G.2.2.2.1 e) H := by
  rcases h with ⟨-, h⟩ | ⟨h, -⟩
  · exact h
  · exact absurd h ht
theorem mAt.o {G : mG} {H : Heap} {a t : Nat} {o : Nat × List Value} (h : mAt G H a t (.inl o)) : va_at G.2.2.1 vwCl (a, mv G.2.2.2.1 (.inl o)) H := by
  rcases h with ⟨-, h⟩ | ⟨-, g, cell, e, -⟩
  · exact h
  · cases e
theorem mAt.f {G : mG} {H : Heap} {a t k n : Nat} {f : Nat → Int32} (h : mAt G H a t (.inr (k, n, .inl f))) : t ≠ 0 ∧ va_at G.2.2.1 vwCl (a, mv G.2.2.2.1 (.inr (k, n, .inl f))) H := by
  rcases h with ⟨h0, h⟩ | ⟨-, g, cell, e, -⟩
  · exact ⟨h0, h⟩
  · cases e
theorem mAt.kept {G : mG} {H H1 : Heap} {a t : Nat} {e : mE} (h : mAt G H a t e) (hq : H1[a]? = H[a]?) : mAt G H1 a t e := by
  rcases h with ⟨h0, h⟩ | ⟨h0, g, cell, e, h1, h2⟩
  · exact Or.inl ⟨h0, h.kept hq⟩
  · exact Or.inr ⟨h0, g, cell, e, hq.trans h1, h2⟩
theorem mAt.lt {G : mG} {H : Heap} {a t : Nat} {e : mE} (h : mAt G H a t e) : a < H.size := by
  rcases h with ⟨h0, h⟩ | ⟨h0, g, cell, e, h1, h2⟩
  · exact h.lt
  · exact (Array.getElem?_eq_some_iff.mp h1).1
def mR (G : mG) (M : mM) (H : Heap) (locs : List Loc) : Prop :=
  (∀ a t e, M a = some (t, e) → mAt G H a t e) ∧ (∀ a t e, M a = some (t, e) → (t = 0 ↔ a < G.2.1.size)) ∧ va_S (mAf G.2.1) G.2.1 H locs
def mNest : List Cond := [.methodLinkNest "TitleFinder" 9 yX2_init "TitleFinder", .methodLinkNest "TitleFinder$History" 17 yX2_init "TitleFinder", .methodLinkNest "TitleFinder" 28 yX4_init "TitleFinder", .methodLinkNest "TitleFinder" 35 yX1_init "TitleFinder", .methodLinkNest "TitleFinder" 42 yX3_init "TitleFinder"]
/-- arrays of rows of ints -/
def va_AOA (t : FieldType) (U : State) : Prop := (Cond.arrayOver (.array t)).before #[] U = true
theorem va_AOA.use {t : FieldType} {A : Array Value} {U : State} (h : va_AOA t U) : (Cond.arrayOver (.array t)).before A U = true := h
theorem va_AOA.moved {t : FieldType} {u U : State} (hvm : u.vm.Alike U.vm) (h : va_AOA t u) : va_AOA t U := arrayOver_alikeB hvm h
/-- what is known of the tables, of what was there before, of the script -/
def mK (G : mG) (U : State) : Prop := va_K G.2.2.1 vwCl (tysK G.2.2.2.1) U ∧ va_Z "java/util/ArrayList" "DEFAULTCAPACITY_EMPTY_ELEMENTDATA" "[Ljava/lang/Object;" (.ref G.2.2.2.2.2.2.1) (mAf G.2.1) U G.2.1
  ∧ True ∧ True ∧ va_X (G.2.2.2.2.1 0) (G.2.2.2.2.1 1) G.2.2.2.2.2.1 U G.2.1 ∧ (G.2.2.2.2.1 0 < G.2.1.size ∧ G.2.2.2.2.1 1 ≤ 260)
  ∧ va_AO "java/lang/Object" U ∧ va_AO "TitleFinder$State" U ∧ va_AOA .int U ∧ (∀ w ∈ mNest, va_Nw w U) ∧ va_Nw (.castable "TitleFinder$Title" "java/lang/Object") U ∧ va_Mi "[Ljava/lang/Object;" G.2.2.2.2.2.2.2 U ∧ va_Dc U
theorem mK.warm {G : mG} {s U : State} (hW : s.WarmedH U.vm) (h : mK G s) : mK G U := by
  obtain ⟨h1, h2, h3, h4, h5, h6, h7, h8, h9, h10, h11, h12, h13⟩ := h
  have hvm := hW.alike
  refine ⟨va_K.moved hvm h1, va_Z.moved hvm h2, h3, h4, va_X.moved hvm h5, h6, va_AO.moved hvm h7, va_AO.moved hvm h8, va_AOA.moved hvm h9, fun w hw => ?_, va_Nw.warmC hW h11, va_Mi.moved hvm h12, va_Dc.moved hvm h13⟩
  have hz := h10 w hw
  simp only [mNest, List.mem_cons, List.not_mem_nil, or_false] at hw
  rcases hw with rfl | rfl | rfl | rfl | rfl <;> exact va_Nw.warmM hW hz
theorem mK.same {G : mG} {u U : State} (hv : U.vm = u.vm) (h : mK G u) : mK G U := by
  obtain ⟨h1, h2, h3, h4, h5, h6, h7, h8, h9, h10, h11, h12, h13⟩ := h
  have hvm : u.vm.Alike U.vm := by rw [hv]; exact Vm.Alike.refl _
  refine ⟨va_K.moved hvm h1, va_Z.moved hvm h2, h3, h4, va_X.moved hvm h5, h6, va_AO.moved hvm h7, va_AO.moved hvm h8, va_AOA.moved hvm h9, fun w hw => ?_, va_Nw.same rfl hv.symm h11, va_Mi.moved hvm h12, va_Dc.moved hvm h13⟩
  have hz := h10 w hw
  simp only [mNest, List.mem_cons, List.not_mem_nil, or_false] at hw
  rcases hw with rfl | rfl | rfl | rfl | rfl <;> exact va_Nw.same rfl hv.symm hz
/-- locals: what is known of them, by their places -/
def mP (L : List (Option Value)) : List (Nat × Value) := (List.range L.length).filterMap (fun i => (L[i]?).join.map (fun v => (i, v)))
theorem mP_mem {L : List (Option Value)} {i : Nat} {v : Value} : (i, v) ∈ mP L ↔ L[i]? = some (some v) := by
  unfold mP
  rw [List.mem_filterMap]
  constructor
  · rintro ⟨j, hj, h⟩
    cases hq : L[j]? with
    | none => rw [hq] at h; cases h
    | some x =>
      cases x with
      | none => rw [hq] at h; cases h
      | some w =>
        rw [hq] at h
        cases h
        exact hq
  · intro h
    have hlt : i < L.length := (List.getElem?_eq_some_iff.mp h).1
    exact ⟨i, List.mem_range.mpr hlt, by rw [h]; rfl⟩
def mL (ls : Array Slot) (L : List (Option Value)) : Prop := lv_has ls L.length (mP L)
theorem mL_get {ls : Array Slot} {L : List (Option Value)} (h : mL ls L) {i : Nat} {v : Value} (hi : L[i]? = some (some v)) : ls[i]? = some (.val v) := h.2.2 (i, v) (mP_mem.mpr hi)
/-- no long stands just ahead of place i -/
def mk2 (L : List (Option Value)) (i : Nat) : Bool := match i with
  | 0 => true
  | j + 1 => match L[j]? with
    | some (some v) => v.category == 1
    | _ => true
theorem mL_set {ls : Array Slot} {L : List (Option Value)} {i : Nat} {v : Value} (hk : mk2 L i = true) (hlt : i < L.length)
    (h : lv_has ls L.length ((i, v) :: (mP L).filter (fun q => !(q.1 == i) && !(q.1 + 1 == i && q.2.category == 2)))) : mL ls (L.set i (some v)) := by
  unfold mL
  rw [List.length_set]
  refine ⟨h.1, h.2.1, fun q hq => ?_⟩
  obtain ⟨j, w⟩ := q
  have hq := mP_mem.mp hq
  by_cases hj : j = i
  · subst hj
    rw [List.getElem?_set_self hlt] at hq
    cases hq
    exact h.2.2 _ List.mem_cons_self
  · rw [List.getElem?_set_ne (fun e => hj e.symm)] at hq
    refine h.2.2 _ (List.mem_cons_of_mem _ (List.mem_filter.mpr ⟨mP_mem.mpr hq, ?_⟩))
    simp only [Bool.and_eq_true, Bool.not_eq_true', beq_eq_false_iff_ne, ne_eq, Bool.and_eq_false_iff]
    refine ⟨hj, ?_⟩
    by_cases e : j + 1 = i
    · refine Or.inr ?_
      rw [← e] at hk
      simp only [mk2, hq] at hk
      have : w.category = 1 := by simpa using hk
      omega
    · exact Or.inl e
theorem mL_set2 {ls : Array Slot} {L : List (Option Value)} {i : Nat} {v : Value} (hk : mk2 L i = true) (hlt : i + 1 < L.length)
    (h : lv_has ls L.length ((i, v) :: (mP L).filter (fun q => !(q.1 == i) && (!(q.1 == i + 1) && !(q.1 + 1 == i && q.2.category == 2))))) : mL ls ((L.set i (some v)).set (i + 1) none) := by
  unfold mL
  rw [List.length_set, List.length_set]
  refine ⟨h.1, h.2.1, fun q hq => ?_⟩
  obtain ⟨j, w⟩ := q
  have hq := mP_mem.mp hq
  by_cases hj1 : j = i + 1
  · subst hj1
    rw [List.getElem?_set_self (by rw [List.length_set]; exact hlt)] at hq
    cases hq
  rw [List.getElem?_set_ne (fun e => hj1 e.symm)] at hq
  by_cases hj : j = i
  · subst hj
    rw [List.getElem?_set_self (by omega)] at hq
    cases hq
    exact h.2.2 _ List.mem_cons_self
  · rw [List.getElem?_set_ne (fun e => hj e.symm)] at hq
    refine h.2.2 _ (List.mem_cons_of_mem _ (List.mem_filter.mpr ⟨mP_mem.mpr hq, ?_⟩))
    simp only [Bool.and_eq_true, Bool.not_eq_true', beq_eq_false_iff_ne, ne_eq, Bool.and_eq_false_iff]
    refine ⟨hj, hj1, ?_⟩
    by_cases e : j + 1 = i
    · refine Or.inr ?_
      rw [← e] at hk
      simp only [mk2, hq] at hk
      have : w.category = 1 := by simpa using hk
      omega
    · exact Or.inl e
/-- a method's locals at its entry -/
def mA : Nat → List Value → List (Option Value)
  | n, [] => List.replicate n none
  | n, .long x :: vs => some (.long x) :: none :: mA (n - 2) vs
  | n, .double x :: vs => some (.double x) :: none :: mA (n - 2) vs
  | n, v :: vs => some v :: mA (n - 1) vs
theorem mA_in : ∀ (As : List Value) (n k i : Nat) (v : Value), (mA n As)[i]? = some (some v) → (k + i, v) ∈ lv_args k As := by
  intro As
  induction As with
  | nil =>
    intro n k i v h
    unfold mA at h
    rw [List.getElem?_replicate] at h
    split at h <;> cases h
  | cons a vs ih =>
    intro n k i v h
    have one : a.category = 1 → (some a :: mA (n - 1) vs)[i]? = some (some v) → (k + i, v) ∈ lv_args k (a :: vs) := by
      intro hc h
      show _ ∈ (k, a) :: lv_args (if a.category = 2 then k + 2 else k + 1) vs
      rw [if_neg (by omega)]
      cases i with
      | zero => cases h; exact List.mem_cons_self
      | succ i =>
        have h2 := ih (n - 1) (k + 1) i v h
        rw [show k + 1 + i = k + (i + 1) by omega] at h2
        exact List.mem_cons_of_mem _ h2
    have two : a.category = 2 → (some a :: none :: mA (n - 2) vs)[i]? = some (some v) → (k + i, v) ∈ lv_args k (a :: vs) := by
      intro hc h
      show _ ∈ (k, a) :: lv_args (if a.category = 2 then k + 2 else k + 1) vs
      rw [if_pos hc]
      cases i with
      | zero => cases h; exact List.mem_cons_self
      | succ i =>
        cases i with
        | zero => cases h
        | succ i =>
          have h2 := ih (n - 2) (k + 2) i v h
          rw [show k + 2 + i = k + (i + 1 + 1) by omega] at h2
          exact List.mem_cons_of_mem _ h2
    cases a with
    | long x => exact two rfl h
    | double x => exact two rfl h
    | int x => exact one rfl h
    | float x => exact one rfl h
    | null => exact one rfl h
    | ref x => exact one rfl h
    | retAddr x => exact one rfl h
/-- an activation: program, launch, environment, room, state at its entry, method, arguments, frames below, method's row, code, aim, most new cells, most new slots, surroundings -/
abbrev mX : Type := Program × Env × Room × State × MethodId × Array Value × List Frame × Method × Code × (State → Prop) × Nat × Nat × mG
def V (X : mX) (bc bs pc : Nat) (L : List (Option Value)) (st : List Value) (M : mM) : Prop := match X with
  | (p, e, R, s, m, args, below, meth, c, Q, mc, ms, G) => ∀ (H : Heap) (locs : List Loc) (cells slots : Nat) (ls : Array Slot), mR G M H locs → cells + bc ≤ mc → slots + bs ≤ ms → mL ls L → W p G.1 e R s m args below meth c H locs cells slots Q (F0 m pc ls st)
/-- a method: its name, code, locals, answer, height -/
abbrev mI : Type := MethodName × ByteArray × Nat × Option FieldType × Nat
/-- what every row needs of an activation -/
def Cx (X : mX) (G : mG) (I : mI) : Prop := match X with
  | (p, _, R, s, m, args, _, meth, c, _, mc, ms, G') => G' = G ∧ p.tables.exec = Jvm.exec ∧ c.code = I.2.1 ∧ c.maxLocals = I.2.2.1 ∧ meth.sig.returnType = I.2.2.2.1 ∧ meth.locks = false ∧ s.vm.findClass I.1.cls = some m.cls ∧ (∀ w ∈ BIG, w.before args s = true) ∧ mK G s ∧ (I.2.2.2.2 ≤ R.frames ∧ 37 * I.2.2.2.2 ≤ R.locals ∧ mc ≤ R.cells ∧ ms ≤ R.slots) ∧ (I.1.name = "<init>" → meth.name = "<init>") ∧ va_S (mAf G.2.1) G.2.1 s.heap []
/-- what an activation aims at: to return with 'post' -/
def Rt (X : mX) (post : Option Value → mM → Prop) : Prop := match X with
  | (_, _, _, s, _, args, below, _, _, Q, mc, ms, G) => Q = MQ below (fun _ _ o t => ∃ r M', o = .returned r ∧ post r M' ∧ mR G M' t.heap []) args s mc ms (mAf G.2.1)
def mRoom (h mc ms : Nat) : Room := { frames := h, cells := mc, slots := ms, locals := 37 * h }
/-- a contract at given arguments and memory -/
def CC (G : mG) (I : mI) (mc ms : Nat) (As : List Value) (M : mM) (post : Option Value → mM → Prop) : Prop :=
  Met G.1 I.1 (.code I.1 I.2.1 I.2.2.1 I.2.2.2.1 :: BIG) (mRoom I.2.2.2.2 mc ms) (fun v U => v = As.toArray ∧ mR G M U.heap [] ∧ mK G U) (fun _ _ o t => ∃ r M', o = .returned r ∧ post r M' ∧ mR G M' t.heap []) mc ms (mAf G.2.1)
/-! rows of the layer: the lists that the kit's rows ask for -/
def mW (KA : Nat → ClassId) (M : mM) (n : Nat) (f : Nat → Bool) : va_W := (List.range n).filterMap (fun b => match M b with
  | some (t, e) => if t ≠ 0 ∧ f b = true then some (b, mv KA e) else none
  | none => none)
theorem mW_mem {KA : Nat → ClassId} {M : mM} {n : Nat} {f : Nat → Bool} {q : Nat × va_E} : q ∈ mW KA M n f ↔ q.1 < n ∧ f q.1 = true ∧ ∃ t e, M q.1 = some (t, e) ∧ t ≠ 0 ∧ q.2 = mv KA e := by
  unfold mW
  rw [List.mem_filterMap]
  constructor
  · rintro ⟨b, hb, h⟩
    cases hM : M b with
    | none => rw [hM] at h; cases h
    | some te =>
      obtain ⟨t, e⟩ := te
      rw [hM] at h
      by_cases hc : t ≠ 0 ∧ f b = true
      · simp only [if_pos hc] at h
        cases h
        exact ⟨List.mem_range.mp hb, hc.2, t, e, hM, hc.1, rfl⟩
      · simp only [if_neg hc] at h
        cases h
  · rintro ⟨h1, h2, t, e, h3, h4, h5⟩
    refine ⟨q.1, List.mem_range.mpr h1, ?_⟩
    rw [h3]
    simp only [if_pos (show t ≠ 0 ∧ f q.1 = true from ⟨h4, h2⟩)]
    rw [← h5]
theorem mW_pair (KA : Nat → ClassId) (M : mM) (n : Nat) (f : Nat → Bool) : (mW KA M n f).Pairwise (fun p q => p.1 ≠ q.1) := by
  unfold mW
  refine List.Pairwise.filterMap _ ?_ List.pairwise_lt_range
  intro a a' hlt b hb b' hb'
  have key : ∀ (x : Nat) (y : Nat × va_E), (match M x with
      | some (t, e) => if t ≠ 0 ∧ f x = true then some (x, mv KA e) else none
      | none => none) = some y → y.1 = x := by
    intro x y h
    cases hM : M x with
    | none => rw [hM] at h; cases h
    | some te =>
      obtain ⟨t, e⟩ := te
      rw [hM] at h
      by_cases hc : t ≠ 0 ∧ f x = true
      · simp only [if_pos hc] at h
        cases h
        rfl
      · simp only [if_neg hc] at h
        cases h
  rw [key a b hb, key a' b' hb']
  omega
theorem va_D_of {A : Nat → Prop} {ws : va_W} (h : ws.Pairwise (fun p q => p.1 ≠ q.1)) (hA : ∀ q ∈ ws, A q.1) : va_D A ws := by
  refine ⟨fun i j p q hi hj e => ?_, fun k q hk => hA q (List.mem_of_getElem? hk)⟩
  have key : ∀ (i j : Nat) (p q : Nat × va_E), i < j → ws[i]? = some p → ws[j]? = some q → p.1 ≠ q.1 := by
    intro i j p q hij hi hj
    obtain ⟨li, ei⟩ := List.getElem?_eq_some_iff.mp hi
    obtain ⟨lj, ej⟩ := List.getElem?_eq_some_iff.mp hj
    have := List.pairwise_iff_getElem.mp h i j li lj hij
    rw [ei, ej] at this
    exact this
  rcases Nat.lt_trichotomy i j with h1 | h1 | h1
  · exact absurd e (key i j p q h1 hi hj)
  · exact h1
  · exact absurd e.symm (key j i q p h1 hj hi)
theorem mW_P {G : mG} {M : mM} {H : Heap} {locs : List Loc} {n : Nat} {f : Nat → Bool} (h : mR G M H locs) : va_P G.2.2.1 vwCl (mW G.2.2.2.1 M n f) H := by
  intro k q hq
  obtain ⟨-, -, t, e, h1, h0, h2⟩ := mW_mem.mp (List.mem_of_getElem? hq)
  have := (h.1 q.1 t e h1).z h0
  rw [← h2] at this
  exact this
theorem mR.lt {G : mG} {M : mM} {H : Heap} {locs : List Loc} (h : mR G M H locs) {a t : Nat} {e : mE} (ha : M a = some (t, e)) : a < H.size := (h.1 a t e ha).lt
theorem mR.none {G : mG} {M : mM} {H : Heap} {locs : List Loc} (h : mR G M H locs) {a : Nat} (ha : H.size ≤ a) : M a = none := by
  cases hM : M a with
  | none => rfl
  | some te => exact absurd (h.lt (show M a = some (te.1, te.2) from hM)) (by omega)
theorem mW_D {G : mG} {M : mM} {H : Heap} {locs : List Loc} {n : Nat} {f : Nat → Bool} (h : mR G M H locs) : va_D (mAf G.2.1) (mW G.2.2.2.1 M n f) := by
  refine va_D_of (mW_pair _ _ _ _) fun q hq => ?_
  obtain ⟨-, -, t, e, h1, h2, -⟩ := mW_mem.mp hq
  have := (h.2.1 q.1 t e h1)
  show G.2.1.size ≤ q.1
  omega
/-- a cell, and all others that may be written -/
def mWx (G : mG) (M : mM) (H : Heap) (a : Nat) : va_W := mW G.2.2.2.1 M H.size (fun b => !(b == a))
theorem mWx_P {G : mG} {M : mM} {H : Heap} {locs : List Loc} {a t : Nat} {e : mE} (h : mR G M H locs) (ha : M a = some (t, e)) (ht : t ≠ 0) : va_P G.2.2.1 vwCl ((a, mv G.2.2.2.1 e) :: mWx G M H a) H := by
  intro k q hq
  cases k with
  | zero => cases hq; exact (h.1 a t e ha).z ht
  | succ k => exact mW_P h k q hq
theorem mWx_D {G : mG} {M : mM} {H : Heap} {locs : List Loc} {a t : Nat} {e : mE} (h : mR G M H locs) (ha : M a = some (t, e)) (ht : t ≠ 0) (x : va_E) : va_D (mAf G.2.1) ((a, x) :: mWx G M H a) := by
  refine va_D_of (List.pairwise_cons.mpr ⟨fun q hq => ?_, mW_pair _ _ _ _⟩) fun q hq => ?_
  · have := (mW_mem.mp hq).2.1
    intro e
    simp only [Bool.not_eq_true', beq_eq_false_iff_ne] at this
    exact this e.symm
  · have key : ∀ b tb eb, M b = some (tb, eb) → tb ≠ 0 → mAf G.2.1 b := fun b tb eb h1 h2 => by
      have := h.2.1 b tb eb h1
      show G.2.1.size ≤ b
      omega
    rcases List.mem_cons.mp hq with rfl | hq
    · exact key a t e ha ht
    · obtain ⟨-, -, t', e', h1, h2, -⟩ := mW_mem.mp hq
      exact key _ _ _ h1 h2
theorem mR_put {G : mG} {M : mM} {H H1 : Heap} {locs locs1 : List Loc} {a t : Nat} {e e' : mE} (h : mR G M H locs) (ha : M a = some (t, e)) (ht : t ≠ 0) (hP : va_P G.2.2.1 vwCl ((a, mv G.2.2.2.1 e') :: mWx G M H a) H1) (hS : va_S (mAf G.2.1) G.2.1 H1 locs1) : mR G (mup M a (t, e')) H1 locs1 := by
  refine ⟨fun b tb eb hb => ?_, fun b tb eb hb => ?_, hS⟩
  · by_cases hba : b = a
    · subst hba
      rw [mup_s] at hb
      cases hb
      exact Or.inl ⟨ht, hP 0 _ rfl⟩
    · rw [mup_n hba] at hb
      by_cases h0 : tb = 0
      · have hlt := (h.2.1 b tb eb hb).mp h0
        refine (h.1 b tb eb hb).kept ?_
        have hn : ¬ mAf G.2.1 b := by show ¬ G.2.1.size ≤ b; omega
        rw [hS.2.1 b hlt hn, h.2.2.2.1 b hlt hn]
      · have hm : (b, mv G.2.2.2.1 eb) ∈ mWx G M H a := mW_mem.mpr ⟨h.lt hb, by simpa using hba, tb, eb, hb, h0, rfl⟩
        obtain ⟨k, hk⟩ := List.mem_iff_getElem?.mp hm
        exact Or.inl ⟨h0, hP (k + 1) _ hk⟩
  · by_cases hba : b = a
    · subst hba
      rw [mup_s] at hb
      cases hb
      exact h.2.1 b t e ha
    · rw [mup_n hba] at hb
      exact h.2.1 b tb eb hb
theorem mR_new {G : mG} {M : mM} {H H1 : Heap} {locs locs1 : List Loc} {q t : Nat} {e : mE} (h : mR G M H locs) (ht : t ≠ 0) (hP : va_P G.2.2.1 vwCl (mW G.2.2.2.1 M H.size (fun _ => true) ++ [(q, mv G.2.2.2.1 e)]) H1) (hD : va_D (mAf G.2.1) (mW G.2.2.2.1 M H.size (fun _ => true) ++ [(q, mv G.2.2.2.1 e)])) (hS : va_S (mAf G.2.1) G.2.1 H1 locs1) : M q = none ∧ G.2.1.size ≤ q ∧ mR G (mup M q (t, e)) H1 locs1 := by
  have hl : (mW G.2.2.2.1 M H.size (fun _ => true) ++ [(q, mv G.2.2.2.1 e)])[(mW G.2.2.2.1 M H.size (fun _ => true)).length]? = some (q, mv G.2.2.2.1 e) := by simp
  have hq : G.2.1.size ≤ q := hD.2 _ _ hl
  have inW : ∀ b tb eb, M b = some (tb, eb) → tb ≠ 0 → ∃ k : Nat, k < (mW G.2.2.2.1 M H.size (fun _ => true)).length ∧ (mW G.2.2.2.1 M H.size (fun _ => true) ++ [(q, mv G.2.2.2.1 e)])[k]? = some (b, mv G.2.2.2.1 eb) := by
    intro b tb eb hb h0
    have hm : (b, mv G.2.2.2.1 eb) ∈ mW G.2.2.2.1 M H.size (fun _ => true) := mW_mem.mpr ⟨h.lt hb, rfl, tb, eb, hb, h0, rfl⟩
    obtain ⟨k, hk⟩ := List.mem_iff_getElem?.mp hm
    have hlt : k < (mW G.2.2.2.1 M H.size (fun _ => true)).length := (List.getElem?_eq_some_iff.mp hk).1
    exact ⟨k, hlt, by rw [List.getElem?_append_left hlt]; exact hk⟩
  have hnone : M q = none := by
    cases hM : M q with
    | none => rfl
    | some te =>
      obtain ⟨tq, eq⟩ := te
      exfalso
      by_cases h0 : tq = 0
      · have := (h.2.1 q tq eq hM).mp h0
        omega
      · obtain ⟨k, hlt, hk⟩ := inW q tq eq hM h0
        have := hD.1 k _ _ _ hk hl rfl
        omega
  refine ⟨hnone, hq, fun b tb eb hb => ?_, fun b tb eb hb => ?_, hS⟩
  · by_cases hba : b = q
    · subst hba
      rw [mup_s] at hb
      cases hb
      exact Or.inl ⟨ht, hP _ _ hl⟩
    · rw [mup_n hba] at hb
      by_cases h0 : tb = 0
      · have hlt := (h.2.1 b tb eb hb).mp h0
        refine (h.1 b tb eb hb).kept ?_
        have hn : ¬ mAf G.2.1 b := by show ¬ G.2.1.size ≤ b; omega
        rw [hS.2.1 b hlt hn, h.2.2.2.1 b hlt hn]
      · obtain ⟨k, hlt, hk⟩ := inW b tb eb hb h0
        exact Or.inl ⟨h0, hP k _ hk⟩
  · by_cases hba : b = q
    · subst hba
      rw [mup_s] at hb
      cases hb
      constructor
      · intro h1; exact absurd h1 ht
      · intro h1; omega
    · rw [mup_n hba] at hb
      exact h.2.1 b tb eb hb
/-- a cell's ghost tag may change -/
theorem mR_tag {G : mG} {M : mM} {H : Heap} {locs : List Loc} {a t t' : Nat} {e : mE} (h : mR G M H locs) (ha : M a = some (t, e)) (ht : t ≠ 0) (ht' : t' ≠ 0) : mR G (mup M a (t', e)) H locs := by
  refine ⟨fun b tb eb hb => ?_, fun b tb eb hb => ?_, h.2.2⟩
  · by_cases hba : b = a
    · subst hba
      rw [mup_s] at hb
      cases hb
      exact Or.inl ⟨ht', (h.1 b t e ha).z ht⟩
    · rw [mup_n hba] at hb
      exact h.1 b tb eb hb
  · by_cases hba : b = a
    · subst hba
      rw [mup_s] at hb
      cases hb
      have := h.2.1 b t e ha
      constructor
      · intro h1; exact absurd h1 ht'
      · intro h1; exact absurd (this.mpr h1) ht
    · rw [mup_n hba] at hb
      exact h.2.1 b tb eb hb
theorem mR.ret {G : mG} {M : mM} {H : Heap} {locs : List Loc} (h : mR G M H locs) : mR G M H [] := ⟨h.1, h.2.1, h.2.2.1, h.2.2.2.1, fun l hl => by cases hl⟩
/-- a contract out of the walk of its body -/
theorem CC.of {G : mG} {I : mI} {mc ms : Nat} {As : List Value} {M : mM} {post : Option Value → mM → Prop} (hy : plainName I.1.cls = true) (hlen : (lg_sl As).length ≤ I.2.2.1) (hA : (mA I.2.2.1 As).length = I.2.2.1)
    (body : ∀ X : mX, Cx X G I → Rt X post → V X mc ms 0 (mA I.2.2.1 As) [] M) : CC G I mc ms As M post := by
  refine Met.ofW (cc := I.2.1) (maxL := I.2.2.1) (ret := I.2.2.2.1) hy rfl ?_
  intro p e s m args below meth c s₁ B hml hv
  obtain ⟨rfl, hR, hK⟩ := hv
  have hts0 := atoms_spec (ws := .code I.1 I.2.1 I.2.2.1 I.2.2.2.1 :: BIG) B.pre
  rw [lg_entry_eq]
  have hl := lv_entry As hlen
  have hl2 : mL ((lg_sl As ++ List.replicate (I.2.2.1 - (lg_sl As).length) Slot.unset).toArray) (mA I.2.2.1 As) := by
    unfold mL
    rw [hA]
    refine ⟨hl.1, hl.2.1, fun q hq => hl.2.2 q ?_⟩
    have := mA_in As I.2.2.1 0 q.1 q.2 (mP_mem.mp hq)
    rw [Nat.zero_add] at this
    exact this
  exact body (p, e, (headSpec (.code I.1 I.2.1 I.2.2.1 I.2.2.2.1 :: BIG) (mRoom I.2.2.2.2 mc ms)).room, s, m, As.toArray, below, meth, c, MQ below (fun _ _ o t => ∃ r M', o = .returned r ∧ post r M' ∧ mR G M' t.heap []) As.toArray s mc ms (mAf G.2.1), mc, ms, G)
    ⟨rfl, B.exec, B.bytes, hml, B.returns, B.notSynchronized, findClass_of_methodNamed B.named, fun w hw => hts0 w (List.mem_cons_of_mem _ hw), hK, ⟨Nat.le_refl _, Nat.le_refl _, Nat.le_refl _, Nat.le_refl _⟩, fun hn => (name_of_methodNamed B.named B.method).1.trans hn, hR.2.2⟩ rfl
    s.heap [] 0 0 _ hR (by omega) (by omega) hl2
theorem CC.mono {G : mG} {I : mI} {mc ms : Nat} {As : List Value} {M : mM} {post post' : Option Value → mM → Prop} (h : CC G I mc ms As M post) (hp : ∀ r M', post r M' → post' r M') : CC G I mc ms As M post' := by
  intro p e ha hc hk s m args below hf hap hP ht
  obtain ⟨k, o, h1, h2, h3, ⟨⟨r, M', e1, e2, e3⟩, h5⟩⟩ := h p e ha hc hk s m args below hf hap hP ht
  exact ⟨k, o, h1, h2, h3, ⟨⟨r, M', e1, hp r M' e2, e3⟩, h5⟩⟩
theorem V.widen {X : mX} {bc bs bc' bs' pc : Nat} {L : List (Option Value)} {st : List Value} {M : mM} (h1 : bc' ≤ bc) (h2 : bs' ≤ bs) (k : V X bc' bs' pc L st M) : V X bc bs pc L st M := by
  obtain ⟨p, e, R, s, m, args, below, meth, c, Q, mc, ms, G⟩ := X
  intro H locs cells slots ls hR hc hs hl
  exact k H locs cells slots ls hR (by omega) (by omega) hl
section RWS
theorem s_iload_n {X : mX} {G : mG} {I : mI} (C : Cx X G I) {bc bs pc : Nat} (q : Nat) {L : List (Option Value)} {st : List Value} {M : mM} {k : Fin 4} {x : Int32} (d : decode I.2.1 pc = .ok (.iload_n k, 1)) (e : pc + 1 = q) (hg : L[(k : Nat)]? = some (some (.int x))) (k : V X bc bs q L (.int x :: st) M) : V X bc bs pc L (st) M := by
  obtain ⟨p, e0, R, s, m, args, below, meth, c, Q, mc, ms, G'⟩ := X
  obtain ⟨rfl, hx, hb, hml, hr, hlk, hown, hts, hK, hroom, hini, hS0⟩ := C
  subst e
  intro H locs cells slots ls hR hc hs hl
  exact lv_iload_n hx hb d rfl (mL_get hl hg) (k H locs cells slots ls hR hc hs hl)
theorem s_iload {X : mX} {G : mG} {I : mI} (C : Cx X G I) {bc bs pc : Nat} (q : Nat) {L : List (Option Value)} {st : List Value} {M : mM} {i : Nat} {x : Int32} (d : decode I.2.1 pc = .ok (.iload i, 2)) (e : pc + 2 = q) (hg : L[i]? = some (some (.int x))) (k : V X bc bs q L (.int x :: st) M) : V X bc bs pc L (st) M := by
  obtain ⟨p, e0, R, s, m, args, below, meth, c, Q, mc, ms, G'⟩ := X
  obtain ⟨rfl, hx, hb, hml, hr, hlk, hown, hts, hK, hroom, hini, hS0⟩ := C
  subst e
  intro H locs cells slots ls hR hc hs hl
  exact lv_iload hx hb d (mL_get hl hg) (k H locs cells slots ls hR hc hs hl)
theorem s_lload_n {X : mX} {G : mG} {I : mI} (C : Cx X G I) {bc bs pc : Nat} (q : Nat) {L : List (Option Value)} {st : List Value} {M : mM} {k : Fin 4} {x : Int64} (d : decode I.2.1 pc = .ok (.lload_n k, 1)) (e : pc + 1 = q) (hg : L[(k : Nat)]? = some (some (.long x))) (k : V X bc bs q L (.long x :: st) M) : V X bc bs pc L (st) M := by
  obtain ⟨p, e0, R, s, m, args, below, meth, c, Q, mc, ms, G'⟩ := X
  obtain ⟨rfl, hx, hb, hml, hr, hlk, hown, hts, hK, hroom, hini, hS0⟩ := C
  subst e
  intro H locs cells slots ls hR hc hs hl
  exact lv_lload_n hx hb d rfl (mL_get hl hg) (k H locs cells slots ls hR hc hs hl)
theorem s_lload {X : mX} {G : mG} {I : mI} (C : Cx X G I) {bc bs pc : Nat} (q : Nat) {L : List (Option Value)} {st : List Value} {M : mM} {i : Nat} {x : Int64} (d : decode I.2.1 pc = .ok (.lload i, 2)) (e : pc + 2 = q) (hg : L[i]? = some (some (.long x))) (k : V X bc bs q L (.long x :: st) M) : V X bc bs pc L (st) M := by
  obtain ⟨p, e0, R, s, m, args, below, meth, c, Q, mc, ms, G'⟩ := X
  obtain ⟨rfl, hx, hb, hml, hr, hlk, hown, hts, hK, hroom, hini, hS0⟩ := C
  subst e
  intro H locs cells slots ls hR hc hs hl
  exact lv_lload hx hb d (mL_get hl hg) (k H locs cells slots ls hR hc hs hl)
theorem s_aload_n {X : mX} {G : mG} {I : mI} (C : Cx X G I) {bc bs pc : Nat} (q : Nat) {L : List (Option Value)} {st : List Value} {M : mM} {k : Fin 4} {x : Nat} (d : decode I.2.1 pc = .ok (.aload_n k, 1)) (e : pc + 1 = q) (hg : L[(k : Nat)]? = some (some (.ref x))) (k : V X bc bs q L (.ref x :: st) M) : V X bc bs pc L (st) M := by
  obtain ⟨p, e0, R, s, m, args, below, meth, c, Q, mc, ms, G'⟩ := X
  obtain ⟨rfl, hx, hb, hml, hr, hlk, hown, hts, hK, hroom, hini, hS0⟩ := C
  subst e
  intro H locs cells slots ls hR hc hs hl
  exact lv_aload_n hx hb d rfl (mL_get hl hg) (k H locs cells slots ls hR hc hs hl)
theorem s_aload {X : mX} {G : mG} {I : mI} (C : Cx X G I) {bc bs pc : Nat} (q : Nat) {L : List (Option Value)} {st : List Value} {M : mM} {i : Nat} {x : Nat} (d : decode I.2.1 pc = .ok (.aload i, 2)) (e : pc + 2 = q) (hg : L[i]? = some (some (.ref x))) (k : V X bc bs q L (.ref x :: st) M) : V X bc bs pc L (st) M := by
  obtain ⟨p, e0, R, s, m, args, below, meth, c, Q, mc, ms, G'⟩ := X
  obtain ⟨rfl, hx, hb, hml, hr, hlk, hown, hts, hK, hroom, hini, hS0⟩ := C
  subst e
  intro H locs cells slots ls hR hc hs hl
  exact lv_aload hx hb d (mL_get hl hg) (k H locs cells slots ls hR hc hs hl)
theorem s_aload_nN {X : mX} {G : mG} {I : mI} (C : Cx X G I) {bc bs pc : Nat} (q : Nat) {L : List (Option Value)} {st : List Value} {M : mM} {k : Fin 4} (d : decode I.2.1 pc = .ok (.aload_n k, 1)) (e : pc + 1 = q) (hg : L[(k : Nat)]? = some (some .null)) (k : V X bc bs q L (.null :: st) M) : V X bc bs pc L (st) M := by
  obtain ⟨p, e0, R, s, m, args, below, meth, c, Q, mc, ms, G'⟩ := X
  obtain ⟨rfl, hx, hb, hml, hr, hlk, hown, hts, hK, hroom, hini, hS0⟩ := C
  subst e
  intro H locs cells slots ls hR hc hs hl
  exact lv_aload_nN hx hb d rfl (mL_get hl hg) (k H locs cells slots ls hR hc hs hl)
theorem s_iconst {X : mX} {G : mG} {I : mI} (C : Cx X G I) {bc bs pc : Nat} (q : Nat) {L : List (Option Value)} {st : List Value} {M : mM} {n : Int} (v : Int32) (d : decode I.2.1 pc = .ok (.iconst n, 1)) (e : pc + 1 = q) (hv : Int32.ofInt n = v) (k : V X bc bs q L (.int v :: st) M) : V X bc bs pc L (st) M := by
  obtain ⟨p, e0, R, s, m, args, below, meth, c, Q, mc, ms, G'⟩ := X
  obtain ⟨rfl, hx, hb, hml, hr, hlk, hown, hts, hK, hroom, hini, hS0⟩ := C
  subst e
  intro H locs cells slots ls hR hc hs hl
  exact lv_iconst hx hb d hv (k H locs cells slots ls hR hc hs hl)
theorem s_bipush {X : mX} {G : mG} {I : mI} (C : Cx X G I) {bc bs pc : Nat} (q : Nat) {L : List (Option Value)} {st : List Value} {M : mM} {n : Int} (v : Int32) (d : decode I.2.1 pc = .ok (.bipush n, 2)) (e : pc + 2 = q) (hv : (Int8.ofInt n).toInt32 = v) (k : V X bc bs q L (.int v :: st) M) : V X bc bs pc L (st) M := by
  obtain ⟨p, e0, R, s, m, args, below, meth, c, Q, mc, ms, G'⟩ := X
  obtain ⟨rfl, hx, hb, hml, hr, hlk, hown, hts, hK, hroom, hini, hS0⟩ := C
  subst e
  intro H locs cells slots ls hR hc hs hl
  exact lv_bipush hx hb d hv (k H locs cells slots ls hR hc hs hl)
theorem s_sipush {X : mX} {G : mG} {I : mI} (C : Cx X G I) {bc bs pc : Nat} (q : Nat) {L : List (Option Value)} {st : List Value} {M : mM} {n : Int} (v : Int32) (d : decode I.2.1 pc = .ok (.sipush n, 3)) (e : pc + 3 = q) (hv : (Int16.ofInt n).toInt32 = v) (k : V X bc bs q L (.int v :: st) M) : V X bc bs pc L (st) M := by
  obtain ⟨p, e0, R, s, m, args, below, meth, c, Q, mc, ms, G'⟩ := X
  obtain ⟨rfl, hx, hb, hml, hr, hlk, hown, hts, hK, hroom, hini, hS0⟩ := C
  subst e
  intro H locs cells slots ls hR hc hs hl
  exact lv_sipush hx hb d hv (k H locs cells slots ls hR hc hs hl)
theorem s_lconst {X : mX} {G : mG} {I : mI} (C : Cx X G I) {bc bs pc : Nat} (q : Nat) {L : List (Option Value)} {st : List Value} {M : mM} {n : Fin 2} (v : Int64) (d : decode I.2.1 pc = .ok (.lconst n, 1)) (e : pc + 1 = q) (hv : Int64.ofNat (n : Nat) = v) (k : V X bc bs q L (.long v :: st) M) : V X bc bs pc L (st) M := by
  obtain ⟨p, e0, R, s, m, args, below, meth, c, Q, mc, ms, G'⟩ := X
  obtain ⟨rfl, hx, hb, hml, hr, hlk, hown, hts, hK, hroom, hini, hS0⟩ := C
  subst e
  intro H locs cells slots ls hR hc hs hl
  exact lv_lconst hx hb d hv (k H locs cells slots ls hR hc hs hl)
theorem s_null {X : mX} {G : mG} {I : mI} (C : Cx X G I) {bc bs pc : Nat} (q : Nat) {L : List (Option Value)} {st : List Value} {M : mM}  (d : decode I.2.1 pc = .ok (.aconst_null, 1)) (e : pc + 1 = q)  (k : V X bc bs q L (.null :: st) M) : V X bc bs pc L (st) M := by
  obtain ⟨p, e0, R, s, m, args, below, meth, c, Q, mc, ms, G'⟩ := X
  obtain ⟨rfl, hx, hb, hml, hr, hlk, hown, hts, hK, hroom, hini, hS0⟩ := C
  subst e
  intro H locs cells slots ls hR hc hs hl
  exact lv_null hx hb d (k H locs cells slots ls hR hc hs hl)
theorem s_iadd {X : mX} {G : mG} {I : mI} (C : Cx X G I) {bc bs pc : Nat} (q : Nat) {L : List (Option Value)} {st : List Value} {M : mM} {x y : Int32} (d : decode I.2.1 pc = .ok (.iadd, 1)) (e : pc + 1 = q)  (k : V X bc bs q L (.int (x + y) :: st) M) : V X bc bs pc L (.int y :: .int x :: st) M := by
  obtain ⟨p, e0, R, s, m, args, below, meth, c, Q, mc, ms, G'⟩ := X
  obtain ⟨rfl, hx, hb, hml, hr, hlk, hown, hts, hK, hroom, hini, hS0⟩ := C
  subst e
  intro H locs cells slots ls hR hc hs hl
  exact lv_iadd hx hb d (k H locs cells slots ls hR hc hs hl)
theorem s_isub {X : mX} {G : mG} {I : mI} (C : Cx X G I) {bc bs pc : Nat} (q : Nat) {L : List (Option Value)} {st : List Value} {M : mM} {x y : Int32} (d : decode I.2.1 pc = .ok (.isub, 1)) (e : pc + 1 = q)  (k : V X bc bs q L (.int (x - y) :: st) M) : V X bc bs pc L (.int y :: .int x :: st) M := by
  obtain ⟨p, e0, R, s, m, args, below, meth, c, Q, mc, ms, G'⟩ := X
  obtain ⟨rfl, hx, hb, hml, hr, hlk, hown, hts, hK, hroom, hini, hS0⟩ := C
  subst e
  intro H locs cells slots ls hR hc hs hl
  exact lv_isub hx hb d (k H locs cells slots ls hR hc hs hl)
theorem s_imul {X : mX} {G : mG} {I : mI} (C : Cx X G I) {bc bs pc : Nat} (q : Nat) {L : List (Option Value)} {st : List Value} {M : mM} {x y : Int32} (d : decode I.2.1 pc = .ok (.imul, 1)) (e : pc + 1 = q)  (k : V X bc bs q L (.int (x * y) :: st) M) : V X bc bs pc L (.int y :: .int x :: st) M := by
  obtain ⟨p, e0, R, s, m, args, below, meth, c, Q, mc, ms, G'⟩ := X
  obtain ⟨rfl, hx, hb, hml, hr, hlk, hown, hts, hK, hroom, hini, hS0⟩ := C
  subst e
  intro H locs cells slots ls hR hc hs hl
  exact lv_imul hx hb d (k H locs cells slots ls hR hc hs hl)
theorem s_iand {X : mX} {G : mG} {I : mI} (C : Cx X G I) {bc bs pc : Nat} (q : Nat) {L : List (Option Value)} {st : List Value} {M : mM} {x y : Int32} (d : decode I.2.1 pc = .ok (.iand, 1)) (e : pc + 1 = q)  (k : V X bc bs q L (.int (x &&& y) :: st) M) : V X bc bs pc L (.int y :: .int x :: st) M := by
  obtain ⟨p, e0, R, s, m, args, below, meth, c, Q, mc, ms, G'⟩ := X
  obtain ⟨rfl, hx, hb, hml, hr, hlk, hown, hts, hK, hroom, hini, hS0⟩ := C
  subst e
  intro H locs cells slots ls hR hc hs hl
  exact lv_iand hx hb d (k H locs cells slots ls hR hc hs hl)
theorem s_ior {X : mX} {G : mG} {I : mI} (C : Cx X G I) {bc bs pc : Nat} (q : Nat) {L : List (Option Value)} {st : List Value} {M : mM} {x y : Int32} (d : decode I.2.1 pc = .ok (.ior, 1)) (e : pc + 1 = q)  (k : V X bc bs q L (.int (x ||| y) :: st) M) : V X bc bs pc L (.int y :: .int x :: st) M := by
  obtain ⟨p, e0, R, s, m, args, below, meth, c, Q, mc, ms, G'⟩ := X
  obtain ⟨rfl, hx, hb, hml, hr, hlk, hown, hts, hK, hroom, hini, hS0⟩ := C
  subst e
  intro H locs cells slots ls hR hc hs hl
  exact lv_ior hx hb d (k H locs cells slots ls hR hc hs hl)
theorem s_ishl {X : mX} {G : mG} {I : mI} (C : Cx X G I) {bc bs pc : Nat} (q : Nat) {L : List (Option Value)} {st : List Value} {M : mM} {x y : Int32} (d : decode I.2.1 pc = .ok (.ishl, 1)) (e : pc + 1 = q)  (k : V X bc bs q L (.int (x <<< (y &&& 31)) :: st) M) : V X bc bs pc L (.int y :: .int x :: st) M := by
  obtain ⟨p, e0, R, s, m, args, below, meth, c, Q, mc, ms, G'⟩ := X
  obtain ⟨rfl, hx, hb, hml, hr, hlk, hown, hts, hK, hroom, hini, hS0⟩ := C
  subst e
  intro H locs cells slots ls hR hc hs hl
  exact lv_ishl hx hb d (k H locs cells slots ls hR hc hs hl)
theorem s_ishr {X : mX} {G : mG} {I : mI} (C : Cx X G I) {bc bs pc : Nat} (q : Nat) {L : List (Option Value)} {st : List Value} {M : mM} {x y : Int32} (d : decode I.2.1 pc = .ok (.ishr, 1)) (e : pc + 1 = q)  (k : V X bc bs q L (.int (x >>> (y &&& 31)) :: st) M) : V X bc bs pc L (.int y :: .int x :: st) M := by
  obtain ⟨p, e0, R, s, m, args, below, meth, c, Q, mc, ms, G'⟩ := X
  obtain ⟨rfl, hx, hb, hml, hr, hlk, hown, hts, hK, hroom, hini, hS0⟩ := C
  subst e
  intro H locs cells slots ls hR hc hs hl
  exact lv_ishr hx hb d (k H locs cells slots ls hR hc hs hl)
theorem s_ladd {X : mX} {G : mG} {I : mI} (C : Cx X G I) {bc bs pc : Nat} (q : Nat) {L : List (Option Value)} {st : List Value} {M : mM} {x y : Int64} (d : decode I.2.1 pc = .ok (.ladd, 1)) (e : pc + 1 = q)  (k : V X bc bs q L (.long (x + y) :: st) M) : V X bc bs pc L (.long y :: .long x :: st) M := by
  obtain ⟨p, e0, R, s, m, args, below, meth, c, Q, mc, ms, G'⟩ := X
  obtain ⟨rfl, hx, hb, hml, hr, hlk, hown, hts, hK, hroom, hini, hS0⟩ := C
  subst e
  intro H locs cells slots ls hR hc hs hl
  exact lv_ladd hx hb d (k H locs cells slots ls hR hc hs hl)
theorem s_lmul {X : mX} {G : mG} {I : mI} (C : Cx X G I) {bc bs pc : Nat} (q : Nat) {L : List (Option Value)} {st : List Value} {M : mM} {x y : Int64} (d : decode I.2.1 pc = .ok (.lmul, 1)) (e : pc + 1 = q)  (k : V X bc bs q L (.long (x * y) :: st) M) : V X bc bs pc L (.long y :: .long x :: st) M := by
  obtain ⟨p, e0, R, s, m, args, below, meth, c, Q, mc, ms, G'⟩ := X
  obtain ⟨rfl, hx, hb, hml, hr, hlk, hown, hts, hK, hroom, hini, hS0⟩ := C
  subst e
  intro H locs cells slots ls hR hc hs hl
  exact lv_lmul hx hb d (k H locs cells slots ls hR hc hs hl)
theorem s_land {X : mX} {G : mG} {I : mI} (C : Cx X G I) {bc bs pc : Nat} (q : Nat) {L : List (Option Value)} {st : List Value} {M : mM} {x y : Int64} (d : decode I.2.1 pc = .ok (.land, 1)) (e : pc + 1 = q)  (k : V X bc bs q L (.long (x &&& y) :: st) M) : V X bc bs pc L (.long y :: .long x :: st) M := by
  obtain ⟨p, e0, R, s, m, args, below, meth, c, Q, mc, ms, G'⟩ := X
  obtain ⟨rfl, hx, hb, hml, hr, hlk, hown, hts, hK, hroom, hini, hS0⟩ := C
  subst e
  intro H locs cells slots ls hR hc hs hl
  exact lv_land hx hb d (k H locs cells slots ls hR hc hs hl)
theorem s_irem {X : mX} {G : mG} {I : mI} (C : Cx X G I) {bc bs pc : Nat} (q : Nat) {L : List (Option Value)} {st : List Value} {M : mM} {x y : Int32} (d : decode I.2.1 pc = .ok (.irem, 1)) (e : pc + 1 = q) (hne : ¬ y = 0) (k : V X bc bs q L (.int (x - x / y * y) :: st) M) : V X bc bs pc L (.int y :: .int x :: st) M := by
  obtain ⟨p, e0, R, s, m, args, below, meth, c, Q, mc, ms, G'⟩ := X
  obtain ⟨rfl, hx, hb, hml, hr, hlk, hown, hts, hK, hroom, hini, hS0⟩ := C
  subst e
  intro H locs cells slots ls hR hc hs hl
  exact lv_irem hx hb d hne (k H locs cells slots ls hR hc hs hl)
theorem s_i2l {X : mX} {G : mG} {I : mI} (C : Cx X G I) {bc bs pc : Nat} (q : Nat) {L : List (Option Value)} {st : List Value} {M : mM} {x : Int32} (d : decode I.2.1 pc = .ok (.i2l, 1)) (e : pc + 1 = q)  (k : V X bc bs q L (.long x.toInt64 :: st) M) : V X bc bs pc L (.int x :: st) M := by
  obtain ⟨p, e0, R, s, m, args, below, meth, c, Q, mc, ms, G'⟩ := X
  obtain ⟨rfl, hx, hb, hml, hr, hlk, hown, hts, hK, hroom, hini, hS0⟩ := C
  subst e
  intro H locs cells slots ls hR hc hs hl
  exact lv_i2l hx hb d rfl (k H locs cells slots ls hR hc hs hl)
theorem s_l2i {X : mX} {G : mG} {I : mI} (C : Cx X G I) {bc bs pc : Nat} (q : Nat) {L : List (Option Value)} {st : List Value} {M : mM} {x : Int64} (d : decode I.2.1 pc = .ok (.l2i, 1)) (e : pc + 1 = q)  (k : V X bc bs q L (.int x.toInt32 :: st) M) : V X bc bs pc L (.long x :: st) M := by
  obtain ⟨p, e0, R, s, m, args, below, meth, c, Q, mc, ms, G'⟩ := X
  obtain ⟨rfl, hx, hb, hml, hr, hlk, hown, hts, hK, hroom, hini, hS0⟩ := C
  subst e
  intro H locs cells slots ls hR hc hs hl
  exact lv_l2i hx hb d rfl (k H locs cells slots ls hR hc hs hl)
theorem s_i2c {X : mX} {G : mG} {I : mI} (C : Cx X G I) {bc bs pc : Nat} (q : Nat) {L : List (Option Value)} {st : List Value} {M : mM} {x v : Int32} (d : decode I.2.1 pc = .ok (.i2c, 1)) (e : pc + 1 = q) (hv : (x.toUInt32 % 65536).toInt32 = v) (k : V X bc bs q L (.int v :: st) M) : V X bc bs pc L (.int x :: st) M := by
  obtain ⟨p, e0, R, s, m, args, below, meth, c, Q, mc, ms, G'⟩ := X
  obtain ⟨rfl, hx, hb, hml, hr, hlk, hown, hts, hK, hroom, hini, hS0⟩ := C
  subst e
  intro H locs cells slots ls hR hc hs hl
  exact lv_i2c hx hb d hv (k H locs cells slots ls hR hc hs hl)
theorem s_lshr {X : mX} {G : mG} {I : mI} (C : Cx X G I) {bc bs pc : Nat} (q : Nat) {L : List (Option Value)} {st : List Value} {M : mM} {x : Int64} {y : Int32} (d : decode I.2.1 pc = .ok (.lshr, 1)) (e : pc + 1 = q)  (k : V X bc bs q L (.long (x >>> (y.toInt64 &&& 63)) :: st) M) : V X bc bs pc L (.int y :: .long x :: st) M := by
  obtain ⟨p, e0, R, s, m, args, below, meth, c, Q, mc, ms, G'⟩ := X
  obtain ⟨rfl, hx, hb, hml, hr, hlk, hown, hts, hK, hroom, hini, hS0⟩ := C
  subst e
  intro H locs cells slots ls hR hc hs hl
  exact lv_lshr hx hb d rfl (k H locs cells slots ls hR hc hs hl)
theorem s_lcmp {X : mX} {G : mG} {I : mI} (C : Cx X G I) {bc bs pc : Nat} (q : Nat) {L : List (Option Value)} {st : List Value} {M : mM} {x y : Int64} (d : decode I.2.1 pc = .ok (.lcmp, 1)) (e : pc + 1 = q)  (k : V X bc bs q L (.int (lg_cmp x y) :: st) M) : V X bc bs pc L (.long y :: .long x :: st) M := by
  obtain ⟨p, e0, R, s, m, args, below, meth, c, Q, mc, ms, G'⟩ := X
  obtain ⟨rfl, hx, hb, hml, hr, hlk, hown, hts, hK, hroom, hini, hS0⟩ := C
  subst e
  intro H locs cells slots ls hR hc hs hl
  exact W.lcmp hx hb d (k H locs cells slots ls hR hc hs hl)
theorem s_lor {X : mX} {G : mG} {I : mI} (C : Cx X G I) {bc bs pc : Nat} (q : Nat) {L : List (Option Value)} {st : List Value} {M : mM} {x y : Int64} (d : decode I.2.1 pc = .ok (.lor, 1)) (e : pc + 1 = q)  (k : V X bc bs q L (.long (x ||| y) :: st) M) : V X bc bs pc L (.long y :: .long x :: st) M := by
  obtain ⟨p, e0, R, s, m, args, below, meth, c, Q, mc, ms, G'⟩ := X
  obtain ⟨rfl, hx, hb, hml, hr, hlk, hown, hts, hK, hroom, hini, hS0⟩ := C
  subst e
  intro H locs cells slots ls hR hc hs hl
  exact lv_lor hx hb d (k H locs cells slots ls hR hc hs hl)
theorem s_lsub {X : mX} {G : mG} {I : mI} (C : Cx X G I) {bc bs pc : Nat} (q : Nat) {L : List (Option Value)} {st : List Value} {M : mM} {x y : Int64} (d : decode I.2.1 pc = .ok (.lsub, 1)) (e : pc + 1 = q)  (k : V X bc bs q L (.long (x - y) :: st) M) : V X bc bs pc L (.long y :: .long x :: st) M := by
  obtain ⟨p, e0, R, s, m, args, below, meth, c, Q, mc, ms, G'⟩ := X
  obtain ⟨rfl, hx, hb, hml, hr, hlk, hown, hts, hK, hroom, hini, hS0⟩ := C
  subst e
  intro H locs cells slots ls hR hc hs hl
  exact lv_lsub hx hb d (k H locs cells slots ls hR hc hs hl)
theorem s_lshl {X : mX} {G : mG} {I : mI} (C : Cx X G I) {bc bs pc : Nat} (q : Nat) {L : List (Option Value)} {st : List Value} {M : mM} {x : Int64} {y : Int32} (d : decode I.2.1 pc = .ok (.lshl, 1)) (e : pc + 1 = q)  (k : V X bc bs q L (.long (x <<< (y.toInt64 &&& 63)) :: st) M) : V X bc bs pc L (.int y :: .long x :: st) M := by
  obtain ⟨p, e0, R, s, m, args, below, meth, c, Q, mc, ms, G'⟩ := X
  obtain ⟨rfl, hx, hb, hml, hr, hlk, hown, hts, hK, hroom, hini, hS0⟩ := C
  subst e
  intro H locs cells slots ls hR hc hs hl
  exact lv_lshl hx hb d rfl (k H locs cells slots ls hR hc hs hl)
theorem s_idiv {X : mX} {G : mG} {I : mI} (C : Cx X G I) {bc bs pc : Nat} (q : Nat) {L : List (Option Value)} {st : List Value} {M : mM} {x y : Int32} (d : decode I.2.1 pc = .ok (.idiv, 1)) (e : pc + 1 = q) (hne : ¬ y = 0) (k : V X bc bs q L (.int (x / y) :: st) M) : V X bc bs pc L (.int y :: .int x :: st) M := by
  obtain ⟨p, e0, R, s, m, args, below, meth, c, Q, mc, ms, G'⟩ := X
  obtain ⟨rfl, hx, hb, hml, hr, hlk, hown, hts, hK, hroom, hini, hS0⟩ := C
  subst e
  intro H locs cells slots ls hR hc hs hl
  exact lv_idiv hx hb d hne (k H locs cells slots ls hR hc hs hl)
theorem s_iaddN {X : mX} {G : mG} {I : mI} (C : Cx X G I) {bc bs pc : Nat} (q : Nat) {L : List (Option Value)} {st : List Value} {M : mM} {a b : Nat} (d : decode I.2.1 pc = .ok (.iadd, 1)) (e : pc + 1 = q)  (k : V X bc bs q L (.int (nI (a + b)) :: st) M) : V X bc bs pc L (.int (nI b) :: .int (nI a) :: st) M := by
  obtain ⟨p, e0, R, s, m, args, below, meth, c, Q, mc, ms, G'⟩ := X
  obtain ⟨rfl, hx, hb, hml, hr, hlk, hown, hts, hK, hroom, hini, hS0⟩ := C
  subst e
  intro H locs cells slots ls hR hc hs hl
  exact lv_iadd hx hb d (by rw [nI_add]; exact k H locs cells slots ls hR hc hs hl)
theorem s_isubN {X : mX} {G : mG} {I : mI} (C : Cx X G I) {bc bs pc : Nat} (q : Nat) {L : List (Option Value)} {st : List Value} {M : mM} {a b : Nat} (d : decode I.2.1 pc = .ok (.isub, 1)) (e : pc + 1 = q) (hle : b ≤ a) (k : V X bc bs q L (.int (nI (a - b)) :: st) M) : V X bc bs pc L (.int (nI b) :: .int (nI a) :: st) M := by
  obtain ⟨p, e0, R, s, m, args, below, meth, c, Q, mc, ms, G'⟩ := X
  obtain ⟨rfl, hx, hb, hml, hr, hlk, hown, hts, hK, hroom, hini, hS0⟩ := C
  subst e
  intro H locs cells slots ls hR hc hs hl
  exact lv_isub hx hb d (by rw [pk_sub hle]; exact k H locs cells slots ls hR hc hs hl)
theorem s_imulN {X : mX} {G : mG} {I : mI} (C : Cx X G I) {bc bs pc : Nat} (q : Nat) {L : List (Option Value)} {st : List Value} {M : mM} {a b : Nat} (d : decode I.2.1 pc = .ok (.imul, 1)) (e : pc + 1 = q)  (k : V X bc bs q L (.int (nI (a * b)) :: st) M) : V X bc bs pc L (.int (nI b) :: .int (nI a) :: st) M := by
  obtain ⟨p, e0, R, s, m, args, below, meth, c, Q, mc, ms, G'⟩ := X
  obtain ⟨rfl, hx, hb, hml, hr, hlk, hown, hts, hK, hroom, hini, hS0⟩ := C
  subst e
  intro H locs cells slots ls hR hc hs hl
  exact lv_imul hx hb d (by rw [pk_mul]; exact k H locs cells slots ls hR hc hs hl)
theorem s_dup {X : mX} {G : mG} {I : mI} (C : Cx X G I) {bc bs pc : Nat} (q : Nat) {L : List (Option Value)} {st : List Value} {M : mM} {va : Value} (d : decode I.2.1 pc = .ok (.dup, 1)) (e : pc + 1 = q) (hv : va.category = 1) (k : V X bc bs q L (va :: va :: st) M) : V X bc bs pc L (va :: st) M := by
  obtain ⟨p, e0, R, s, m, args, below, meth, c, Q, mc, ms, G'⟩ := X
  obtain ⟨rfl, hx, hb, hml, hr, hlk, hown, hts, hK, hroom, hini, hS0⟩ := C
  subst e
  intro H locs cells slots ls hR hc hs hl
  exact lv_dup hx hb d hv (k H locs cells slots ls hR hc hs hl)
theorem s_pop {X : mX} {G : mG} {I : mI} (C : Cx X G I) {bc bs pc : Nat} (q : Nat) {L : List (Option Value)} {st : List Value} {M : mM} {va : Value} (d : decode I.2.1 pc = .ok (.pop, 1)) (e : pc + 1 = q) (hv : va.category = 1) (k : V X bc bs q L (st) M) : V X bc bs pc L (va :: st) M := by
  obtain ⟨p, e0, R, s, m, args, below, meth, c, Q, mc, ms, G'⟩ := X
  obtain ⟨rfl, hx, hb, hml, hr, hlk, hown, hts, hK, hroom, hini, hS0⟩ := C
  subst e
  intro H locs cells slots ls hR hc hs hl
  exact lv_pop hx hb d hv (k H locs cells slots ls hR hc hs hl)
theorem s_dup_x1 {X : mX} {G : mG} {I : mI} (C : Cx X G I) {bc bs pc : Nat} (q : Nat) {L : List (Option Value)} {st : List Value} {M : mM} {va vb : Value} (d : decode I.2.1 pc = .ok (.dup_x1, 1)) (e : pc + 1 = q) (hv : va.category = 1) (hw : vb.category = 1) (k : V X bc bs q L (va :: vb :: va :: st) M) : V X bc bs pc L (va :: vb :: st) M := by
  obtain ⟨p, e0, R, s, m, args, below, meth, c, Q, mc, ms, G'⟩ := X
  obtain ⟨rfl, hx, hb, hml, hr, hlk, hown, hts, hK, hroom, hini, hS0⟩ := C
  subst e
  intro H locs cells slots ls hR hc hs hl
  exact lv_dup_x1 hx hb d hv hw (k H locs cells slots ls hR hc hs hl)
theorem s_dup2 {X : mX} {G : mG} {I : mI} (C : Cx X G I) {bc bs pc : Nat} (q : Nat) {L : List (Option Value)} {st : List Value} {M : mM} {va vb : Value} (d : decode I.2.1 pc = .ok (.dup2, 1)) (e : pc + 1 = q) (hv : va.category = 1) (hw : vb.category = 1) (k : V X bc bs q L (va :: vb :: va :: vb :: st) M) : V X bc bs pc L (va :: vb :: st) M := by
  obtain ⟨p, e0, R, s, m, args, below, meth, c, Q, mc, ms, G'⟩ := X
  obtain ⟨rfl, hx, hb, hml, hr, hlk, hown, hts, hK, hroom, hini, hS0⟩ := C
  subst e
  intro H locs cells slots ls hR hc hs hl
  exact lv_dup2_11 hx hb d hv hw (k H locs cells slots ls hR hc hs hl)
theorem s_goto {X : mX} {G : mG} {I : mI} (C : Cx X G I) {bc bs pc : Nat} (q : Nat) {L : List (Option Value)} {st : List Value} {M : mM} {off : Int} (d : decode I.2.1 pc = .ok (.goto off, 3)) (e : (pc : Int) + off = (q : Int)) (k : V X bc bs q L st M) : V X bc bs pc L st M := by
  obtain ⟨p, e0, R, s, m, args, below, meth, c, Q, mc, ms, G'⟩ := X
  obtain ⟨rfl, hx, hb, hml, hr, hlk, hown, hts, hK, hroom, hini, hS0⟩ := C
  intro H locs cells slots ls hR hc hs hl
  exact lv_goto hx hb d e (k H locs cells slots ls hR hc hs hl)
theorem s_icmp_lt {X : mX} {G : mG} {I : mI} (C : Cx X G I) {bc bs pc : Nat} (t q : Nat) {L : List (Option Value)} {st : List Value} {M : mM} {x y : Int32} {off : Int} (d : decode I.2.1 pc = .ok (.if_icmp .lt off, 3)) (e : (pc : Int) + off = (t : Int)) (e2 : pc + 3 = q)  (kt : x < y → V X bc bs t L st M) (kf : ¬ x < y → V X bc bs q L st M) : V X bc bs pc L (.int y :: .int x :: st) M := by
  obtain ⟨p, e0, R, s, m, args, below, meth, c, Q, mc, ms, G'⟩ := X
  obtain ⟨rfl, hx, hb, hml, hr, hlk, hown, hts, hK, hroom, hini, hS0⟩ := C
  subst e2
  intro H locs cells slots ls hR hc hs hl
  exact lv_icmp_lt hx hb d e (fun z => kt z H locs cells slots ls hR hc hs hl) (fun z => kf z H locs cells slots ls hR hc hs hl)
theorem s_if_lt {X : mX} {G : mG} {I : mI} (C : Cx X G I) {bc bs pc : Nat} (t q : Nat) {L : List (Option Value)} {st : List Value} {M : mM} {x : Int32} {off : Int} (d : decode I.2.1 pc = .ok (.ifCond .lt off, 3)) (e : (pc : Int) + off = (t : Int)) (e2 : pc + 3 = q)  (kt : x < 0 → V X bc bs t L st M) (kf : ¬ x < 0 → V X bc bs q L st M) : V X bc bs pc L (.int x :: st) M := by
  obtain ⟨p, e0, R, s, m, args, below, meth, c, Q, mc, ms, G'⟩ := X
  obtain ⟨rfl, hx, hb, hml, hr, hlk, hown, hts, hK, hroom, hini, hS0⟩ := C
  subst e2
  intro H locs cells slots ls hR hc hs hl
  exact lv_if_lt hx hb d e (fun z => kt z H locs cells slots ls hR hc hs hl) (fun z => kf z H locs cells slots ls hR hc hs hl)
theorem s_icmp_ge {X : mX} {G : mG} {I : mI} (C : Cx X G I) {bc bs pc : Nat} (t q : Nat) {L : List (Option Value)} {st : List Value} {M : mM} {x y : Int32} {off : Int} (d : decode I.2.1 pc = .ok (.if_icmp .ge off, 3)) (e : (pc : Int) + off = (t : Int)) (e2 : pc + 3 = q)  (kt : y ≤ x → V X bc bs t L st M) (kf : ¬ y ≤ x → V X bc bs q L st M) : V X bc bs pc L (.int y :: .int x :: st) M := by
  obtain ⟨p, e0, R, s, m, args, below, meth, c, Q, mc, ms, G'⟩ := X
  obtain ⟨rfl, hx, hb, hml, hr, hlk, hown, hts, hK, hroom, hini, hS0⟩ := C
  subst e2
  intro H locs cells slots ls hR hc hs hl
  exact lv_icmp_ge hx hb d e (fun z => kt z H locs cells slots ls hR hc hs hl) (fun z => kf z H locs cells slots ls hR hc hs hl)
theorem s_if_ge {X : mX} {G : mG} {I : mI} (C : Cx X G I) {bc bs pc : Nat} (t q : Nat) {L : List (Option Value)} {st : List Value} {M : mM} {x : Int32} {off : Int} (d : decode I.2.1 pc = .ok (.ifCond .ge off, 3)) (e : (pc : Int) + off = (t : Int)) (e2 : pc + 3 = q)  (kt : 0 ≤ x → V X bc bs t L st M) (kf : ¬ 0 ≤ x → V X bc bs q L st M) : V X bc bs pc L (.int x :: st) M := by
  obtain ⟨p, e0, R, s, m, args, below, meth, c, Q, mc, ms, G'⟩ := X
  obtain ⟨rfl, hx, hb, hml, hr, hlk, hown, hts, hK, hroom, hini, hS0⟩ := C
  subst e2
  intro H locs cells slots ls hR hc hs hl
  exact lv_if_ge hx hb d e (fun z => kt z H locs cells slots ls hR hc hs hl) (fun z => kf z H locs cells slots ls hR hc hs hl)
theorem s_icmp_gt {X : mX} {G : mG} {I : mI} (C : Cx X G I) {bc bs pc : Nat} (t q : Nat) {L : List (Option Value)} {st : List Value} {M : mM} {x y : Int32} {off : Int} (d : decode I.2.1 pc = .ok (.if_icmp .gt off, 3)) (e : (pc : Int) + off = (t : Int)) (e2 : pc + 3 = q)  (kt : y < x → V X bc bs t L st M) (kf : ¬ y < x → V X bc bs q L st M) : V X bc bs pc L (.int y :: .int x :: st) M := by
  obtain ⟨p, e0, R, s, m, args, below, meth, c, Q, mc, ms, G'⟩ := X
  obtain ⟨rfl, hx, hb, hml, hr, hlk, hown, hts, hK, hroom, hini, hS0⟩ := C
  subst e2
  intro H locs cells slots ls hR hc hs hl
  exact lv_icmp_gt hx hb d e (fun z => kt z H locs cells slots ls hR hc hs hl) (fun z => kf z H locs cells slots ls hR hc hs hl)
theorem s_if_gt {X : mX} {G : mG} {I : mI} (C : Cx X G I) {bc bs pc : Nat} (t q : Nat) {L : List (Option Value)} {st : List Value} {M : mM} {x : Int32} {off : Int} (d : decode I.2.1 pc = .ok (.ifCond .gt off, 3)) (e : (pc : Int) + off = (t : Int)) (e2 : pc + 3 = q)  (kt : 0 < x → V X bc bs t L st M) (kf : ¬ 0 < x → V X bc bs q L st M) : V X bc bs pc L (.int x :: st) M := by
  obtain ⟨p, e0, R, s, m, args, below, meth, c, Q, mc, ms, G'⟩ := X
  obtain ⟨rfl, hx, hb, hml, hr, hlk, hown, hts, hK, hroom, hini, hS0⟩ := C
  subst e2
  intro H locs cells slots ls hR hc hs hl
  exact lv_if_gt hx hb d e (fun z => kt z H locs cells slots ls hR hc hs hl) (fun z => kf z H locs cells slots ls hR hc hs hl)
theorem s_icmp_le {X : mX} {G : mG} {I : mI} (C : Cx X G I) {bc bs pc : Nat} (t q : Nat) {L : List (Option Value)} {st : List Value} {M : mM} {x y : Int32} {off : Int} (d : decode I.2.1 pc = .ok (.if_icmp .le off, 3)) (e : (pc : Int) + off = (t : Int)) (e2 : pc + 3 = q)  (kt : x ≤ y → V X bc bs t L st M) (kf : ¬ x ≤ y → V X bc bs q L st M) : V X bc bs pc L (.int y :: .int x :: st) M := by
  obtain ⟨p, e0, R, s, m, args, below, meth, c, Q, mc, ms, G'⟩ := X
  obtain ⟨rfl, hx, hb, hml, hr, hlk, hown, hts, hK, hroom, hini, hS0⟩ := C
  subst e2
  intro H locs cells slots ls hR hc hs hl
  exact lv_icmp_le hx hb d e (fun z => kt z H locs cells slots ls hR hc hs hl) (fun z => kf z H locs cells slots ls hR hc hs hl)
theorem s_if_le {X : mX} {G : mG} {I : mI} (C : Cx X G I) {bc bs pc : Nat} (t q : Nat) {L : List (Option Value)} {st : List Value} {M : mM} {x : Int32} {off : Int} (d : decode I.2.1 pc = .ok (.ifCond .le off, 3)) (e : (pc : Int) + off = (t : Int)) (e2 : pc + 3 = q)  (kt : x ≤ 0 → V X bc bs t L st M) (kf : ¬ x ≤ 0 → V X bc bs q L st M) : V X bc bs pc L (.int x :: st) M := by
  obtain ⟨p, e0, R, s, m, args, below, meth, c, Q, mc, ms, G'⟩ := X
  obtain ⟨rfl, hx, hb, hml, hr, hlk, hown, hts, hK, hroom, hini, hS0⟩ := C
  subst e2
  intro H locs cells slots ls hR hc hs hl
  exact lv_if_le hx hb d e (fun z => kt z H locs cells slots ls hR hc hs hl) (fun z => kf z H locs cells slots ls hR hc hs hl)
theorem s_icmp_eq {X : mX} {G : mG} {I : mI} (C : Cx X G I) {bc bs pc : Nat} (t q : Nat) {L : List (Option Value)} {st : List Value} {M : mM} {x y : Int32} {off : Int} (d : decode I.2.1 pc = .ok (.if_icmp .eq off, 3)) (e : (pc : Int) + off = (t : Int)) (e2 : pc + 3 = q)  (kt : x = y → V X bc bs t L st M) (kf : ¬ x = y → V X bc bs q L st M) : V X bc bs pc L (.int y :: .int x :: st) M := by
  obtain ⟨p, e0, R, s, m, args, below, meth, c, Q, mc, ms, G'⟩ := X
  obtain ⟨rfl, hx, hb, hml, hr, hlk, hown, hts, hK, hroom, hini, hS0⟩ := C
  subst e2
  intro H locs cells slots ls hR hc hs hl
  exact lv_icmp_eq hx hb d e (fun z => kt z H locs cells slots ls hR hc hs hl) (fun z => kf z H locs cells slots ls hR hc hs hl)
theorem s_if_eq {X : mX} {G : mG} {I : mI} (C : Cx X G I) {bc bs pc : Nat} (t q : Nat) {L : List (Option Value)} {st : List Value} {M : mM} {x : Int32} {off : Int} (d : decode I.2.1 pc = .ok (.ifCond .eq off, 3)) (e : (pc : Int) + off = (t : Int)) (e2 : pc + 3 = q)  (kt : x = 0 → V X bc bs t L st M) (kf : ¬ x = 0 → V X bc bs q L st M) : V X bc bs pc L (.int x :: st) M := by
  obtain ⟨p, e0, R, s, m, args, below, meth, c, Q, mc, ms, G'⟩ := X
  obtain ⟨rfl, hx, hb, hml, hr, hlk, hown, hts, hK, hroom, hini, hS0⟩ := C
  subst e2
  intro H locs cells slots ls hR hc hs hl
  exact lv_if_eq hx hb d e (fun z => kt z H locs cells slots ls hR hc hs hl) (fun z => kf z H locs cells slots ls hR hc hs hl)
theorem s_icmp_ne {X : mX} {G : mG} {I : mI} (C : Cx X G I) {bc bs pc : Nat} (t q : Nat) {L : List (Option Value)} {st : List Value} {M : mM} {x y : Int32} {off : Int} (d : decode I.2.1 pc = .ok (.if_icmp .ne off, 3)) (e : (pc : Int) + off = (t : Int)) (e2 : pc + 3 = q)  (kt : ¬ x = y → V X bc bs t L st M) (kf : x = y → V X bc bs q L st M) : V X bc bs pc L (.int y :: .int x :: st) M := by
  obtain ⟨p, e0, R, s, m, args, below, meth, c, Q, mc, ms, G'⟩ := X
  obtain ⟨rfl, hx, hb, hml, hr, hlk, hown, hts, hK, hroom, hini, hS0⟩ := C
  subst e2
  intro H locs cells slots ls hR hc hs hl
  exact lv_icmp_ne hx hb d e (fun z => kt z H locs cells slots ls hR hc hs hl) (fun z => kf z H locs cells slots ls hR hc hs hl)
theorem s_if_ne {X : mX} {G : mG} {I : mI} (C : Cx X G I) {bc bs pc : Nat} (t q : Nat) {L : List (Option Value)} {st : List Value} {M : mM} {x : Int32} {off : Int} (d : decode I.2.1 pc = .ok (.ifCond .ne off, 3)) (e : (pc : Int) + off = (t : Int)) (e2 : pc + 3 = q)  (kt : ¬ x = 0 → V X bc bs t L st M) (kf : x = 0 → V X bc bs q L st M) : V X bc bs pc L (.int x :: st) M := by
  obtain ⟨p, e0, R, s, m, args, below, meth, c, Q, mc, ms, G'⟩ := X
  obtain ⟨rfl, hx, hb, hml, hr, hlk, hown, hts, hK, hroom, hini, hS0⟩ := C
  subst e2
  intro H locs cells slots ls hR hc hs hl
  exact lv_if_ne hx hb d e (fun z => kt z H locs cells slots ls hR hc hs hl) (fun z => kf z H locs cells slots ls hR hc hs hl)
theorem s_icmp_ltN {X : mX} {G : mG} {I : mI} (C : Cx X G I) {bc bs pc : Nat} (t q : Nat) {L : List (Option Value)} {st : List Value} {M : mM} {a b : Nat} {off : Int} (d : decode I.2.1 pc = .ok (.if_icmp .lt off, 3)) (e : (pc : Int) + off = (t : Int)) (e2 : pc + 3 = q) (ha : a < 2 ^ 31) (hb2 : b < 2 ^ 31) (kt : a < b → V X bc bs t L st M) (kf : b ≤ a → V X bc bs q L st M) : V X bc bs pc L (.int (nI b) :: .int (nI a) :: st) M := by
  obtain ⟨p, e0, R, s, m, args, below, meth, c, Q, mc, ms, G'⟩ := X
  obtain ⟨rfl, hx, hb, hml, hr, hlk, hown, hts, hK, hroom, hini, hS0⟩ := C
  subst e2
  intro H locs cells slots ls hR hc hs hl
  exact lv_icmp_lt hx hb d e (fun z => kt ((nI_ltI ha hb2).mp z) H locs cells slots ls hR hc hs hl) (fun z => kf (Nat.le_of_not_lt (fun w => z ((nI_ltI ha hb2).mpr w))) H locs cells slots ls hR hc hs hl)
theorem s_icmp_geN {X : mX} {G : mG} {I : mI} (C : Cx X G I) {bc bs pc : Nat} (t q : Nat) {L : List (Option Value)} {st : List Value} {M : mM} {a b : Nat} {off : Int} (d : decode I.2.1 pc = .ok (.if_icmp .ge off, 3)) (e : (pc : Int) + off = (t : Int)) (e2 : pc + 3 = q) (ha : a < 2 ^ 31) (hb2 : b < 2 ^ 31) (kt : b ≤ a → V X bc bs t L st M) (kf : a < b → V X bc bs q L st M) : V X bc bs pc L (.int (nI b) :: .int (nI a) :: st) M := by
  obtain ⟨p, e0, R, s, m, args, below, meth, c, Q, mc, ms, G'⟩ := X
  obtain ⟨rfl, hx, hb, hml, hr, hlk, hown, hts, hK, hroom, hini, hS0⟩ := C
  subst e2
  intro H locs cells slots ls hR hc hs hl
  exact lv_icmp_ge hx hb d e (fun z => kt ((nI_leI hb2 ha).mp z) H locs cells slots ls hR hc hs hl) (fun z => kf (Nat.lt_of_not_le (fun w => z ((nI_leI hb2 ha).mpr w))) H locs cells slots ls hR hc hs hl)
theorem s_icmp_gtN {X : mX} {G : mG} {I : mI} (C : Cx X G I) {bc bs pc : Nat} (t q : Nat) {L : List (Option Value)} {st : List Value} {M : mM} {a b : Nat} {off : Int} (d : decode I.2.1 pc = .ok (.if_icmp .gt off, 3)) (e : (pc : Int) + off = (t : Int)) (e2 : pc + 3 = q) (ha : a < 2 ^ 31) (hb2 : b < 2 ^ 31) (kt : b < a → V X bc bs t L st M) (kf : a ≤ b → V X bc bs q L st M) : V X bc bs pc L (.int (nI b) :: .int (nI a) :: st) M := by
  obtain ⟨p, e0, R, s, m, args, below, meth, c, Q, mc, ms, G'⟩ := X
  obtain ⟨rfl, hx, hb, hml, hr, hlk, hown, hts, hK, hroom, hini, hS0⟩ := C
  subst e2
  intro H locs cells slots ls hR hc hs hl
  exact lv_icmp_gt hx hb d e (fun z => kt ((nI_ltI hb2 ha).mp z) H locs cells slots ls hR hc hs hl) (fun z => kf (Nat.le_of_not_lt (fun w => z ((nI_ltI hb2 ha).mpr w))) H locs cells slots ls hR hc hs hl)
theorem s_icmp_leN {X : mX} {G : mG} {I : mI} (C : Cx X G I) {bc bs pc : Nat} (t q : Nat) {L : List (Option Value)} {st : List Value} {M : mM} {a b : Nat} {off : Int} (d : decode I.2.1 pc = .ok (.if_icmp .le off, 3)) (e : (pc : Int) + off = (t : Int)) (e2 : pc + 3 = q) (ha : a < 2 ^ 31) (hb2 : b < 2 ^ 31) (kt : a ≤ b → V X bc bs t L st M) (kf : b < a → V X bc bs q L st M) : V X bc bs pc L (.int (nI b) :: .int (nI a) :: st) M := by
  obtain ⟨p, e0, R, s, m, args, below, meth, c, Q, mc, ms, G'⟩ := X
  obtain ⟨rfl, hx, hb, hml, hr, hlk, hown, hts, hK, hroom, hini, hS0⟩ := C
  subst e2
  intro H locs cells slots ls hR hc hs hl
  exact lv_icmp_le hx hb d e (fun z => kt ((nI_leI ha hb2).mp z) H locs cells slots ls hR hc hs hl) (fun z => kf (Nat.lt_of_not_le (fun w => z ((nI_leI ha hb2).mpr w))) H locs cells slots ls hR hc hs hl)
theorem s_icmp_eqN {X : mX} {G : mG} {I : mI} (C : Cx X G I) {bc bs pc : Nat} (t q : Nat) {L : List (Option Value)} {st : List Value} {M : mM} {a b : Nat} {off : Int} (d : decode I.2.1 pc = .ok (.if_icmp .eq off, 3)) (e : (pc : Int) + off = (t : Int)) (e2 : pc + 3 = q) (ha : a < 2 ^ 31) (hb2 : b < 2 ^ 31) (kt : a = b → V X bc bs t L st M) (kf : a ≠ b → V X bc bs q L st M) : V X bc bs pc L (.int (nI b) :: .int (nI a) :: st) M := by
  obtain ⟨p, e0, R, s, m, args, below, meth, c, Q, mc, ms, G'⟩ := X
  obtain ⟨rfl, hx, hb, hml, hr, hlk, hown, hts, hK, hroom, hini, hS0⟩ := C
  subst e2
  intro H locs cells slots ls hR hc hs hl
  exact lv_icmp_eq hx hb d e (fun z => kt ((nI_eq ha hb2).mp z) H locs cells slots ls hR hc hs hl) (fun z => kf (fun w => z ((nI_eq ha hb2).mpr w)) H locs cells slots ls hR hc hs hl)
theorem s_icmp_neN {X : mX} {G : mG} {I : mI} (C : Cx X G I) {bc bs pc : Nat} (t q : Nat) {L : List (Option Value)} {st : List Value} {M : mM} {a b : Nat} {off : Int} (d : decode I.2.1 pc = .ok (.if_icmp .ne off, 3)) (e : (pc : Int) + off = (t : Int)) (e2 : pc + 3 = q) (ha : a < 2 ^ 31) (hb2 : b < 2 ^ 31) (kt : a ≠ b → V X bc bs t L st M) (kf : a = b → V X bc bs q L st M) : V X bc bs pc L (.int (nI b) :: .int (nI a) :: st) M := by
  obtain ⟨p, e0, R, s, m, args, below, meth, c, Q, mc, ms, G'⟩ := X
  obtain ⟨rfl, hx, hb, hml, hr, hlk, hown, hts, hK, hroom, hini, hS0⟩ := C
  subst e2
  intro H locs cells slots ls hR hc hs hl
  exact lv_icmp_ne hx hb d e (fun z => kt (fun w => z ((nI_eq ha hb2).mpr w)) H locs cells slots ls hR hc hs hl) (fun z => kf ((nI_eq ha hb2).mp z) H locs cells slots ls hR hc hs hl)
theorem s_if_eqN {X : mX} {G : mG} {I : mI} (C : Cx X G I) {bc bs pc : Nat} (t q : Nat) {L : List (Option Value)} {st : List Value} {M : mM} {a : Nat} {off : Int} (d : decode I.2.1 pc = .ok (.ifCond .eq off, 3)) (e : (pc : Int) + off = (t : Int)) (e2 : pc + 3 = q) (ha : a < 2 ^ 31) (kt : a = 0 → V X bc bs t L st M) (kf : a ≠ 0 → V X bc bs q L st M) : V X bc bs pc L (.int (nI a) :: st) M := by
  obtain ⟨p, e0, R, s, m, args, below, meth, c, Q, mc, ms, G'⟩ := X
  obtain ⟨rfl, hx, hb, hml, hr, hlk, hown, hts, hK, hroom, hini, hS0⟩ := C
  subst e2
  intro H locs cells slots ls hR hc hs hl
  exact lv_if_eq hx hb d e (fun z => kt ((nI_eq ha (by omega)).mp (z.trans nI_0.symm)) H locs cells slots ls hR hc hs hl) (fun z => kf (fun w => z (by rw [w]; exact nI_0)) H locs cells slots ls hR hc hs hl)
theorem s_if_neN {X : mX} {G : mG} {I : mI} (C : Cx X G I) {bc bs pc : Nat} (t q : Nat) {L : List (Option Value)} {st : List Value} {M : mM} {a : Nat} {off : Int} (d : decode I.2.1 pc = .ok (.ifCond .ne off, 3)) (e : (pc : Int) + off = (t : Int)) (e2 : pc + 3 = q) (ha : a < 2 ^ 31) (kt : a ≠ 0 → V X bc bs t L st M) (kf : a = 0 → V X bc bs q L st M) : V X bc bs pc L (.int (nI a) :: st) M := by
  obtain ⟨p, e0, R, s, m, args, below, meth, c, Q, mc, ms, G'⟩ := X
  obtain ⟨rfl, hx, hb, hml, hr, hlk, hown, hts, hK, hroom, hini, hS0⟩ := C
  subst e2
  intro H locs cells slots ls hR hc hs hl
  exact lv_if_ne hx hb d e (fun z => kt (fun w => z (by rw [w]; exact nI_0)) H locs cells slots ls hR hc hs hl) (fun z => kf ((nI_eq ha (by omega)).mp (z.trans nI_0.symm)) H locs cells slots ls hR hc hs hl)
theorem s_if_gtN {X : mX} {G : mG} {I : mI} (C : Cx X G I) {bc bs pc : Nat} (t q : Nat) {L : List (Option Value)} {st : List Value} {M : mM} {a : Nat} {off : Int} (d : decode I.2.1 pc = .ok (.ifCond .gt off, 3)) (e : (pc : Int) + off = (t : Int)) (e2 : pc + 3 = q) (ha : a < 2 ^ 31) (kt : 0 < a → V X bc bs t L st M) (kf : a = 0 → V X bc bs q L st M) : V X bc bs pc L (.int (nI a) :: st) M := by
  obtain ⟨p, e0, R, s, m, args, below, meth, c, Q, mc, ms, G'⟩ := X
  obtain ⟨rfl, hx, hb, hml, hr, hlk, hown, hts, hK, hroom, hini, hS0⟩ := C
  subst e2
  intro H locs cells slots ls hR hc hs hl
  exact lv_if_gt hx hb d e (fun z => kt (Nat.pos_of_ne_zero (fun w => by rw [w, nI_0] at z; exact absurd z (by decide))) H locs cells slots ls hR hc hs hl) (fun z => kf (Nat.eq_zero_of_not_pos (fun w => z (by rw [← nI_0]; exact nI_lt w ha))) H locs cells slots ls hR hc hs hl)
theorem s_if_leN {X : mX} {G : mG} {I : mI} (C : Cx X G I) {bc bs pc : Nat} (t q : Nat) {L : List (Option Value)} {st : List Value} {M : mM} {a : Nat} {off : Int} (d : decode I.2.1 pc = .ok (.ifCond .le off, 3)) (e : (pc : Int) + off = (t : Int)) (e2 : pc + 3 = q) (ha : a < 2 ^ 31) (kt : a = 0 → V X bc bs t L st M) (kf : 0 < a → V X bc bs q L st M) : V X bc bs pc L (.int (nI a) :: st) M := by
  obtain ⟨p, e0, R, s, m, args, below, meth, c, Q, mc, ms, G'⟩ := X
  obtain ⟨rfl, hx, hb, hml, hr, hlk, hown, hts, hK, hroom, hini, hS0⟩ := C
  subst e2
  intro H locs cells slots ls hR hc hs hl
  exact lv_if_le hx hb d e (fun z => kt (Nat.eq_zero_of_not_pos (fun w => nI_nle w ha z)) H locs cells slots ls hR hc hs hl) (fun z => kf (Nat.pos_of_ne_zero (fun w => z (by rw [w, nI_0]; decide))) H locs cells slots ls hR hc hs hl)
theorem s_if_ltN {X : mX} {G : mG} {I : mI} (C : Cx X G I) {bc bs pc : Nat} (q : Nat) {L : List (Option Value)} {st : List Value} {M : mM} {a : Nat} {off : Int} {t : Nat} (d : decode I.2.1 pc = .ok (.ifCond .lt off, 3)) (e : (pc : Int) + off = (t : Int)) (e2 : pc + 3 = q) (ha : a < 2 ^ 31) (kf : V X bc bs q L st M) : V X bc bs pc L (.int (nI a) :: st) M := s_if_lt C t q d e e2 (fun z => absurd z (nI_pos ha)) (fun _ => kf)
theorem s_if_geN {X : mX} {G : mG} {I : mI} (C : Cx X G I) {bc bs pc : Nat} (t : Nat) {L : List (Option Value)} {st : List Value} {M : mM} {a : Nat} {off : Int} (d : decode I.2.1 pc = .ok (.ifCond .ge off, 3)) (e : (pc : Int) + off = (t : Int)) (ha : a < 2 ^ 31) (kt : V X bc bs t L st M) : V X bc bs pc L (.int (nI a) :: st) M := s_if_ge C t _ d e rfl (fun _ => kt) (fun z => absurd (nI_pos' ha) z)
def mB (b : Bool) : Int32 := cond b 1 0
theorem mB_0 {b : Bool} : mB b = 0 ↔ b = false := by cases b <;> decide
theorem mB_n {b : Bool} : ¬ mB b = 0 ↔ b = true := by cases b <;> decide
theorem mB_z (b : Bool) : narrow .boolean (.int (mB b)) = .int (mB b) := by cases b <;> decide
theorem s_if_eqB {X : mX} {G : mG} {I : mI} (C : Cx X G I) {bc bs pc : Nat} (t q : Nat) {L : List (Option Value)} {st : List Value} {M : mM} {b : Bool} {off : Int} (d : decode I.2.1 pc = .ok (.ifCond .eq off, 3)) (e : (pc : Int) + off = (t : Int)) (e2 : pc + 3 = q)  (kt : b = false → V X bc bs t L st M) (kf : b = true → V X bc bs q L st M) : V X bc bs pc L (.int (mB b) :: st) M := by
  obtain ⟨p, e0, R, s, m, args, below, meth, c, Q, mc, ms, G'⟩ := X
  obtain ⟨rfl, hx, hb, hml, hr, hlk, hown, hts, hK, hroom, hini, hS0⟩ := C
  subst e2
  intro H locs cells slots ls hR hc hs hl
  exact lv_if_eq hx hb d e (fun z => kt (mB_0.mp z) H locs cells slots ls hR hc hs hl) (fun z => kf (mB_n.mp z) H locs cells slots ls hR hc hs hl)
theorem s_if_neB {X : mX} {G : mG} {I : mI} (C : Cx X G I) {bc bs pc : Nat} (t q : Nat) {L : List (Option Value)} {st : List Value} {M : mM} {b : Bool} {off : Int} (d : decode I.2.1 pc = .ok (.ifCond .ne off, 3)) (e : (pc : Int) + off = (t : Int)) (e2 : pc + 3 = q)  (kt : b = true → V X bc bs t L st M) (kf : b = false → V X bc bs q L st M) : V X bc bs pc L (.int (mB b) :: st) M := by
  obtain ⟨p, e0, R, s, m, args, below, meth, c, Q, mc, ms, G'⟩ := X
  obtain ⟨rfl, hx, hb, hml, hr, hlk, hown, hts, hK, hroom, hini, hS0⟩ := C
  subst e2
  intro H locs cells slots ls hR hc hs hl
  exact lv_if_ne hx hb d e (fun z => kt (mB_n.mp z) H locs cells slots ls hR hc hs hl) (fun z => kf (mB_0.mp z) H locs cells slots ls hR hc hs hl)
theorem s_acmp_ne {X : mX} {G : mG} {I : mI} (C : Cx X G I) {bc bs pc : Nat} (t q : Nat) {L : List (Option Value)} {st : List Value} {M : mM} {x y : Nat} {off : Int} (d : decode I.2.1 pc = .ok (.if_acmp .ne off, 3)) (e : (pc : Int) + off = (t : Int)) (e2 : pc + 3 = q) (kt : ¬ x = y → V X bc bs t L st M) (kf : x = y → V X bc bs q L st M) : V X bc bs pc L (.ref y :: .ref x :: st) M := by
  obtain ⟨p, e0, R, s, m, args, below, meth, c, Q, mc, ms, G'⟩ := X
  obtain ⟨rfl, hx, hb, hml, hr, hlk, hown, hts, hK, hroom, hini, hS0⟩ := C
  subst e2
  intro H locs cells slots ls hR hc hs hl
  exact lv_acmp_ne (rx := some x) (ry := some y) hx hb d e (fun z => kt (fun w => z (by rw [w])) H locs cells slots ls hR hc hs hl) (fun z => kf (Option.some.inj z) H locs cells slots ls hR hc hs hl)
theorem s_istore_n {X : mX} {G : mG} {I : mI} (C : Cx X G I) {bc bs pc : Nat} (q : Nat) {L : List (Option Value)} {st : List Value} {M : mM} {k : Fin 4} {x : Int32} (d : decode I.2.1 pc = .ok (.istore_n k, 1)) (e : pc + 1 = q) (hk : mk2 L (k : Nat) = true) (hn0 : Nat.ble ((k : Nat) + 1) L.length = true) (k' : V X bc bs q (L.set (k : Nat) (some (.int x))) st M) : V X bc bs pc L (.int x :: st) M := by
  obtain ⟨p, e0, R, s, m, args, below, meth, c, Q, mc, ms, G'⟩ := X
  obtain ⟨rfl, hx, hb, hml, hr, hlk, hown, hts, hK, hroom, hini, hS0⟩ := C
  subst e
  intro H locs cells slots ls hR hc hs hl
  have hn := Nat.le_of_ble_eq_true hn0
  exact lv_istore_n hx hb d rfl hl hn rfl (fun ls' hl' => k' H locs cells slots ls' hR hc hs (mL_set hk hn hl'))
theorem s_istore {X : mX} {G : mG} {I : mI} (C : Cx X G I) {bc bs pc : Nat} (q : Nat) {L : List (Option Value)} {st : List Value} {M : mM} {i : Nat} {x : Int32} (d : decode I.2.1 pc = .ok (.istore i, 2)) (e : pc + 2 = q) (hk : mk2 L i = true) (hn0 : Nat.ble (i + 1) L.length = true) (k' : V X bc bs q (L.set i (some (.int x))) st M) : V X bc bs pc L (.int x :: st) M := by
  obtain ⟨p, e0, R, s, m, args, below, meth, c, Q, mc, ms, G'⟩ := X
  obtain ⟨rfl, hx, hb, hml, hr, hlk, hown, hts, hK, hroom, hini, hS0⟩ := C
  subst e
  intro H locs cells slots ls hR hc hs hl
  have hn := Nat.le_of_ble_eq_true hn0
  exact lv_istore hx hb d hl hn rfl (fun ls' hl' => k' H locs cells slots ls' hR hc hs (mL_set hk hn hl'))
theorem s_astore_n {X : mX} {G : mG} {I : mI} (C : Cx X G I) {bc bs pc : Nat} (q : Nat) {L : List (Option Value)} {st : List Value} {M : mM} {k : Fin 4} {x : Nat} (d : decode I.2.1 pc = .ok (.astore_n k, 1)) (e : pc + 1 = q) (hk : mk2 L (k : Nat) = true) (hn0 : Nat.ble ((k : Nat) + 1) L.length = true) (k' : V X bc bs q (L.set (k : Nat) (some (.ref x))) st M) : V X bc bs pc L (.ref x :: st) M := by
  obtain ⟨p, e0, R, s, m, args, below, meth, c, Q, mc, ms, G'⟩ := X
  obtain ⟨rfl, hx, hb, hml, hr, hlk, hown, hts, hK, hroom, hini, hS0⟩ := C
  subst e
  intro H locs cells slots ls hR hc hs hl
  have hn := Nat.le_of_ble_eq_true hn0
  exact lv_astore_n hx hb d rfl hl hn rfl (fun ls' hl' => k' H locs cells slots ls' hR hc hs (mL_set hk hn hl'))
theorem s_astore {X : mX} {G : mG} {I : mI} (C : Cx X G I) {bc bs pc : Nat} (q : Nat) {L : List (Option Value)} {st : List Value} {M : mM} {i : Nat} {x : Nat} (d : decode I.2.1 pc = .ok (.astore i, 2)) (e : pc + 2 = q) (hk : mk2 L i = true) (hn0 : Nat.ble (i + 1) L.length = true) (k' : V X bc bs q (L.set i (some (.ref x))) st M) : V X bc bs pc L (.ref x :: st) M := by
  obtain ⟨p, e0, R, s, m, args, below, meth, c, Q, mc, ms, G'⟩ := X
  obtain ⟨rfl, hx, hb, hml, hr, hlk, hown, hts, hK, hroom, hini, hS0⟩ := C
  subst e
  intro H locs cells slots ls hR hc hs hl
  have hn := Nat.le_of_ble_eq_true hn0
  exact lv_astore hx hb d hl hn rfl (fun ls' hl' => k' H locs cells slots ls' hR hc hs (mL_set hk hn hl'))
theorem s_lstore_n {X : mX} {G : mG} {I : mI} (C : Cx X G I) {bc bs pc : Nat} (q : Nat) {L : List (Option Value)} {st : List Value} {M : mM} {k : Fin 4} {x : Int64} (d : decode I.2.1 pc = .ok (.lstore_n k, 1)) (e : pc + 1 = q) (hk : mk2 L (k : Nat) = true) (hn0 : Nat.ble ((k : Nat) + 1 + 1) L.length = true) (k' : V X bc bs q ((L.set (k : Nat) (some (.long x))).set ((k : Nat) + 1) none) st M) : V X bc bs pc L (.long x :: st) M := by
  obtain ⟨p, e0, R, s, m, args, below, meth, c, Q, mc, ms, G'⟩ := X
  obtain ⟨rfl, hx, hb, hml, hr, hlk, hown, hts, hK, hroom, hini, hS0⟩ := C
  subst e
  intro H locs cells slots ls hR hc hs hl
  have hn := Nat.le_of_ble_eq_true hn0
  exact lv_lstore_n hx hb d rfl hl hn rfl (fun ls' hl' => k' H locs cells slots ls' hR hc hs (mL_set2 hk hn hl'))
theorem s_lstore {X : mX} {G : mG} {I : mI} (C : Cx X G I) {bc bs pc : Nat} (q : Nat) {L : List (Option Value)} {st : List Value} {M : mM} {i : Nat} {x : Int64} (d : decode I.2.1 pc = .ok (.lstore i, 2)) (e : pc + 2 = q) (hk : mk2 L i = true) (hn0 : Nat.ble (i + 1 + 1) L.length = true) (k' : V X bc bs q ((L.set i (some (.long x))).set (i + 1) none) st M) : V X bc bs pc L (.long x :: st) M := by
  obtain ⟨p, e0, R, s, m, args, below, meth, c, Q, mc, ms, G'⟩ := X
  obtain ⟨rfl, hx, hb, hml, hr, hlk, hown, hts, hK, hroom, hini, hS0⟩ := C
  subst e
  intro H locs cells slots ls hR hc hs hl
  have hn := Nat.le_of_ble_eq_true hn0
  exact lv_lstore hx hb d hl hn rfl (fun ls' hl' => k' H locs cells slots ls' hR hc hs (mL_set2 hk hn hl'))
theorem s_iinc {X : mX} {G : mG} {I : mI} (C : Cx X G I) {bc bs pc : Nat} (q : Nat) {L : List (Option Value)} {st : List Value} {M : mM} {i : Nat} {n : Int} {x : Int32} (v : Int32) (d : decode I.2.1 pc = .ok (.iinc i n, 3)) (e : pc + 3 = q) (hg : L[i]? = some (some (.int x))) (hv : x + Int32.ofInt n = v) (hk : mk2 L i = true) (k' : V X bc bs q (L.set i (some (.int v))) st M) : V X bc bs pc L st M := by
  obtain ⟨p, e0, R, s, m, args, below, meth, c, Q, mc, ms, G'⟩ := X
  obtain ⟨rfl, hx, hb, hml, hr, hlk, hown, hts, hK, hroom, hini, hS0⟩ := C
  subst e
  intro H locs cells slots ls hR hc hs hl
  have hn : i < L.length := (List.getElem?_eq_some_iff.mp hg).1
  obtain ⟨j, hj⟩ := List.mem_iff_getElem?.mp (mP_mem.mpr hg)
  exact lv_iinc hx hb d hl hj hv hn rfl (fun ls' hl' => k' H locs cells slots ls' hR hc hs (mL_set hk hn hl'))
theorem s_vret {X : mX} {G : mG} {I : mI} (C : Cx X G I) {bc bs pc : Nat} {L : List (Option Value)} {M : mM}  (d : decode I.2.1 pc = .ok (.return_, 1)) {post : Option Value → mM → Prop} (T : Rt X post) (hty : I.2.2.2.1 = none) (h : post (none) M) : V X bc bs pc L [] M := by
  obtain ⟨p, e0, R, s, m, args, below, meth, c, Q, mc, ms, G'⟩ := X
  obtain ⟨rfl, hx, hb, hml, hr, hlk, hown, hts, hK, hroom, hini, hS0⟩ := C
  have T : Q = _ := T
  subst T
  intro H locs cells slots ls hR hc hs hl
  refine W.widen (k := mc) (n := ms) (by omega) (by omega) ?_
  exact W.vret hx hb (hr.trans hty) (fun t ht _ => ⟨_, M, rfl, h, by rw [ht]; exact hR.ret⟩) hR.2.2.2.2 d hlk
theorem s_iret {X : mX} {G : mG} {I : mI} (C : Cx X G I) {bc bs pc : Nat} {L : List (Option Value)} {M : mM} {v : Int32} (d : decode I.2.1 pc = .ok (.ireturn, 1)) {post : Option Value → mM → Prop} (T : Rt X post) (hty : I.2.2.2.1 = some .int) (h : post (some (.int v)) M) : V X bc bs pc L [.int v] M := by
  obtain ⟨p, e0, R, s, m, args, below, meth, c, Q, mc, ms, G'⟩ := X
  obtain ⟨rfl, hx, hb, hml, hr, hlk, hown, hts, hK, hroom, hini, hS0⟩ := C
  have T : Q = _ := T
  subst T
  intro H locs cells slots ls hR hc hs hl
  refine W.widen (k := mc) (n := ms) (by omega) (by omega) ?_
  exact W.iret hx hb (hr.trans hty) (fun t ht _ => ⟨_, M, rfl, h, by rw [ht]; exact hR.ret⟩) hR.2.2.2.2 d hlk
theorem s_zret {X : mX} {G : mG} {I : mI} (C : Cx X G I) {bc bs pc : Nat} {L : List (Option Value)} {M : mM} {v : Int32} {ty : FieldType} (d : decode I.2.1 pc = .ok (.ireturn, 1)) {post : Option Value → mM → Prop} (T : Rt X post) (hty : I.2.2.2.1 = some ty) (hn : narrow ty (.int v) = .int v) (h : post (some (.int v)) M) : V X bc bs pc L [.int v] M := by
  obtain ⟨p, e0, R, s, m, args, below, meth, c, Q, mc, ms, G'⟩ := X
  obtain ⟨rfl, hx, hb, hml, hr, hlk, hown, hts, hK, hroom, hini, hS0⟩ := C
  have T : Q = _ := T
  subst T
  intro H locs cells slots ls hR hc hs hl
  refine W.widen (k := mc) (n := ms) (by omega) (by omega) ?_
  exact W.zret hx hb (hr.trans hty) hn (fun t ht _ => ⟨_, M, rfl, h, by rw [ht]; exact hR.ret⟩) hR.2.2.2.2 d hlk
theorem s_lret {X : mX} {G : mG} {I : mI} (C : Cx X G I) {bc bs pc : Nat} {L : List (Option Value)} {M : mM} {v : Int64} (d : decode I.2.1 pc = .ok (.lreturn, 1)) {post : Option Value → mM → Prop} (T : Rt X post) (hty : I.2.2.2.1 = some .long) (h : post (some (.long v)) M) : V X bc bs pc L [.long v] M := by
  obtain ⟨p, e0, R, s, m, args, below, meth, c, Q, mc, ms, G'⟩ := X
  obtain ⟨rfl, hx, hb, hml, hr, hlk, hown, hts, hK, hroom, hini, hS0⟩ := C
  have T : Q = _ := T
  subst T
  intro H locs cells slots ls hR hc hs hl
  refine W.widen (k := mc) (n := ms) (by omega) (by omega) ?_
  exact W.lret hx hb (hr.trans hty) (fun t ht _ => ⟨_, M, rfl, h, by rw [ht]; exact hR.ret⟩) hR.2.2.2.2 d hlk
theorem s_aret {X : mX} {G : mG} {I : mI} (C : Cx X G I) {bc bs pc : Nat} {L : List (Option Value)} {M : mM} {a : Nat} {ty : FieldType} (d : decode I.2.1 pc = .ok (.areturn, 1)) {post : Option Value → mM → Prop} (T : Rt X post) (hty : I.2.2.2.1 = some ty) (hrt : (∃ n, ty = .object n) ∨ ∃ t, ty = .array t) (h : post (some (.ref a)) M) : V X bc bs pc L [.ref a] M := by
  obtain ⟨p, e0, R, s, m, args, below, meth, c, Q, mc, ms, G'⟩ := X
  obtain ⟨rfl, hx, hb, hml, hr, hlk, hown, hts, hK, hroom, hini, hS0⟩ := C
  have T : Q = _ := T
  subst T
  intro H locs cells slots ls hR hc hs hl
  refine W.widen (k := mc) (n := ms) (by omega) (by omega) ?_
  exact W.aret hx hb (hr.trans hty) hrt (Or.inr ⟨a, rfl⟩) (fun t ht _ => ⟨_, M, rfl, h, by rw [ht]; exact hR.ret⟩) hR.2.2.2.2 d hlk
end RWS
/-! memory rows -/
/-- a field of the classes here, as a class of ours links it -/
def mF (own : String) (idx ci k : Nat) : Prop := ∃ r : vw_C, vwCl[ci]? = some r ∧ k < r.2.2 ∧ (∀ w ∈ u_ws r.1 r.2.1 r.2.2, w ∈ BIG) ∧ ∃ ref, Cond.fieldLink own idx ref (r.2.1 k).2.1 (r.2.1 k).2.2.1 ∈ BIG ∧ (ref = (r.2.1 k).1 ∨ Cond.sameField ref (r.2.1 k).1 (r.2.1 k).2.1 (r.2.1 k).2.2.1 ∈ BIG)
theorem mF_same {ref o n d : String} {s : State} {args : Array Value} (hts : ∀ w ∈ BIG, w.before args s = true) (h : ref = o ∨ Cond.sameField ref o n d ∈ BIG) : ∀ x, s.fieldFound? o n d = some x → s.fieldFound? ref n d = some x := by
  rcases h with rfl | h
  · exact fun _ h9 => h9
  · exact fun x hx => u_same (hts _ h) x hx
theorem s_getf {X : mX} {G : mG} {I : mI} (C : Cx X G I) {bc bs pc : Nat} (q : Nat) {L : List (Option Value)} {st : List Value} {M : mM} {idx ci k a t : Nat} {fs : List Value} {v : Value} (d : decode I.2.1 pc = .ok (.getfield idx, 3)) (e : pc + 3 = q) (hf : mF I.1.cls idx ci k) (hM : M a = some (t, .inl (ci, fs))) (hv : fs[k]? = some v) (h : V X bc bs q L (v :: st) M) : V X bc bs pc L (.ref a :: st) M := by
  obtain ⟨p, e0, R, s, m, args, below, meth, c, Q, mc, ms, G'⟩ := X
  obtain ⟨rfl, hx, hb, hml, hr, hlk, hown, hts, hK, hroom, hini, hS0⟩ := C
  obtain ⟨r, h1, h2, h3, ref, h4, h4s⟩ := hf
  subst e
  intro H locs cells slots ls hR hc hs hl
  exact va_get (ws := [(a, .inr (ci, fs))]) hx hb hts h3 hown hK.1 (fun k q hq => by
    cases k with
    | zero => cases hq; exact (hR.1 a t _ hM).o
    | succ k => cases hq) 0 rfl h1 k h2 (hts _ h4) (mF_same hts h4s) hv d (h H locs cells slots ls hR hc hs hl)
/-- a field that may be written: of type ty -/
def mFp (own : String) (idx ci k : Nat) (ty : FieldType) (fin : Bool) : Prop := ∃ (r : vw_C) (ty0 : Nat → FieldType), vwCl[ci]? = some r ∧ k < r.2.2 ∧ (∀ w ∈ u_ws r.1 r.2.1 r.2.2, w ∈ BIG) ∧ (∃ ref, Cond.fieldLink own idx ref (r.2.1 k).2.1 (r.2.1 k).2.2.1 ∈ BIG ∧ (ref = (r.2.1 k).1 ∨ Cond.sameField ref (r.2.1 k).1 (r.2.1 k).2.1 (r.2.1 k).2.2.1 ∈ BIG)) ∧ (∀ k, k < r.2.2 → parseFieldDescriptor (r.2.1 k).2.2.1 = some (ty0 k)) ∧ (∀ a, a < r.2.2 → ∀ b, b < r.2.2 → a ≠ b → (r.2.1 a).2.1 ≠ (r.2.1 b).2.1) ∧ ty0 k = ty ∧ (r.2.1 k).2.2.2 = fin ∧ (fin = true → (r.2.1 k).1 = own)
theorem s_putf {X : mX} {G : mG} {I : mI} (C : Cx X G I) {bc bs pc : Nat} (q : Nat) {L : List (Option Value)} {st : List Value} {M : mM} {idx ci k a t : Nat} {ty : FieldType} {fs : List Value} {v : Value} (d : decode I.2.1 pc = .ok (.putfield idx, 3)) (e : pc + 3 = q) (hf : mFp I.1.cls idx ci k ty false) (hM : M a = some (t, .inl (ci, fs))) (ht : t ≠ 0) (hn : narrow ty v = v) (hfit : fits ty v = true) (hlen0 : Nat.ble (k + 1) fs.length = true) (h : V X bc bs q L st (mup M a (t, .inl (ci, fs.set k v)))) : V X bc bs pc L (v :: .ref a :: st) M := by
  obtain ⟨p, e0, R, s, m, args, below, meth, c, Q, mc, ms, G'⟩ := X
  obtain ⟨rfl, hx, hb, hml, hr, hlk, hown, hts, hK, hroom, hini, hS0⟩ := C
  obtain ⟨r, ty0, h1, h2, h3, ⟨ref, h4, h4s⟩, h5, h6, h7, h8, -⟩ := hf
  have hlen := Nat.le_of_ble_eq_true hlen0
  subst e
  subst h7
  intro H locs cells slots ls hR hc hs hl
  refine va_put (ws := (a, .inr (ci, fs)) :: mWx G' M H a) hx hb hts h3 ty0 h5 h6 hown hK.1 (mWx_P hR hM ht) (mWx_D hR hM ht _) hR.2.2 0 rfl h1 k h2 (hts _ h4) (mF_same hts h4s) h8 (h5 k h2) hn hfit hlen d (fun H1 locs1 hP _ hS => ?_)
  exact h H1 locs1 cells slots ls (mR_put (e' := .inl (ci, fs.set k v)) hR hM ht hP hS) hc hs hl
theorem s_putF {X : mX} {G : mG} {I : mI} (C : Cx X G I) {bc bs pc : Nat} (q : Nat) {L : List (Option Value)} {st : List Value} {M : mM} {idx ci k a t : Nat} {ty : FieldType} {fs : List Value} {v : Value} (d : decode I.2.1 pc = .ok (.putfield idx, 3)) (e : pc + 3 = q) (hf : mFp I.1.cls idx ci k ty true) (hI : I.1.name = "<init>") (hM : M a = some (t, .inl (ci, fs))) (ht : t ≠ 0) (hn : narrow ty v = v) (hfit : fits ty v = true) (hlen0 : Nat.ble (k + 1) fs.length = true) (h : V X bc bs q L st (mup M a (t, .inl (ci, fs.set k v)))) : V X bc bs pc L (v :: .ref a :: st) M := by
  obtain ⟨p, e0, R, s, m, args, below, meth, c, Q, mc, ms, G'⟩ := X
  obtain ⟨rfl, hx, hb, hml, hr, hlk, hown, hts, hK, hroom, hini, hS0⟩ := C
  obtain ⟨r, ty0, h1, h2, h3, ⟨ref, h4, h4s⟩, h5, h6, h7, h8, h9⟩ := hf
  have hlen := Nat.le_of_ble_eq_true hlen0
  subst e
  subst h7
  intro H locs cells slots ls hR hc hs hl
  refine va_putF (ws := (a, .inr (ci, fs)) :: mWx G' M H a) hx hb hts h3 ty0 h5 h6 hown hK.1 (mWx_P hR hM ht) (mWx_D hR hM ht _) hR.2.2 0 rfl h1 k h2 (hts _ h4) (mF_same hts h4s) h8 (hini hI) (h9 rfl) (h5 k h2) hn hfit hlen d (fun H1 locs1 hP _ hS => ?_)
  exact h H1 locs1 cells slots ls (mR_put (e' := .inl (ci, fs.set k v)) hR hM ht hP hS) hc hs hl
/-- reading rows of ints (kind 0) and of chars (kind 1) -/
theorem s_iald {X : mX} {G : mG} {I : mI} (C : Cx X G I) {bc bs pc : Nat} (q : Nat) {L : List (Option Value)} {st : List Value} {M : mM} {a t n : Nat} {f : Nat → Int32} {i : Nat} (d : decode I.2.1 pc = .ok (.iaload, 1)) (e : pc + 1 = q) (hM : M a = some (t, .inr (0, n, .inl f))) (hi : i < n) (hn : n < 2 ^ 31) (h : V X bc bs q L (.int (f i) :: st) M) : V X bc bs pc L (.int (nI i) :: .ref a :: st) M := by
  obtain ⟨p, e0, R, s, m, args, below, meth, c, Q, mc, ms, G'⟩ := X
  obtain ⟨rfl, hx, hb, hml, hr, hlk, hown, hts, hK, hroom, hini, hS0⟩ := C
  subst e
  intro H locs cells slots ls hR hc hs hl
  refine va_iald (ws := [(a, .inl (G'.2.2.2.1 0, n, .inl f))]) hx hb hK.1 (fun k q hq => by
    cases k with
    | zero => cases hq; exact (hR.1 a t _ hM).f.2
    | succ k => cases hq) 0 0 rfl rfl (vp_in_nI hi hn) d ?_
  rw [nI_clamp (by omega)]
  exact h H locs cells slots ls hR hc hs hl
theorem s_cald {X : mX} {G : mG} {I : mI} (C : Cx X G I) {bc bs pc : Nat} (q : Nat) {L : List (Option Value)} {st : List Value} {M : mM} {a t n : Nat} {f : Nat → Int32} {i : Nat} (d : decode I.2.1 pc = .ok (.caload, 1)) (e : pc + 1 = q) (hM : M a = some (t, .inr (1, n, .inl f))) (hi : i < n) (hn : n < 2 ^ 31) (h : V X bc bs q L (.int (f i) :: st) M) : V X bc bs pc L (.int (nI i) :: .ref a :: st) M := by
  obtain ⟨p, e0, R, s, m, args, below, meth, c, Q, mc, ms, G'⟩ := X
  obtain ⟨rfl, hx, hb, hml, hr, hlk, hown, hts, hK, hroom, hini, hS0⟩ := C
  subst e
  intro H locs cells slots ls hR hc hs hl
  refine va_cald (ws := [(a, .inl (G'.2.2.2.1 1, n, .inl f))]) hx hb hK.1 (fun k q hq => by
    cases k with
    | zero => cases hq; exact (hR.1 a t _ hM).f.2
    | succ k => cases hq) 0 1 rfl rfl (vp_in_nI hi hn) d ?_
  rw [nI_clamp (by omega)]
  exact h H locs cells slots ls hR hc hs hl
/-- reading rows of references: of objects (kinds 2, 3), of rows (kind 4) -/
theorem s_aald {X : mX} {G : mG} {I : mI} (C : Cx X G I) {bc bs pc : Nat} (q : Nat) {L : List (Option Value)} {st : List Value} {M : mM} {a t n kd : Nat} {f : Nat → Option Nat} {i : Nat} (d : decode I.2.1 pc = .ok (.aaload, 1)) (e : pc + 1 = q) (hM : M a = some (t, .inr (kd, n, .inr f))) (hkd : kd = 2 ∨ kd = 3 ∨ kd = 4) (hi : i < n) (hn : n < 2 ^ 31) (h : V X bc bs q L (va_rf (f i) :: st) M) : V X bc bs pc L (.int (nI i) :: .ref a :: st) M := by
  obtain ⟨p, e0, R, s, m, args, below, meth, c, Q, mc, ms, G'⟩ := X
  obtain ⟨rfl, hx, hb, hml, hr, hlk, hown, hts, hK, hroom, hini, hS0⟩ := C
  subst e
  intro H locs cells slots ls hR hc hs hl
  have hcell : H[a]? = some (vp_cell (G'.2.2.2.1 kd) (n, .inr (.inr (.inr (.inr f))))) := by
    have hb5 : Nat.beq kd 5 = false := by rcases hkd with rfl | rfl | rfl <;> rfl
    rcases hR.1 a t _ hM with ⟨-, h⟩ | ⟨-, g0, c0, e0', -⟩
    · rw [mv_r hb5] at h
      exact h
    · cases e0'
      exact absurd hi (Nat.not_lt_zero _)
  have hv : (f (nI i).toNatClampNeg) = f i := by rw [nI_clamp (by omega)]
  have hlt : (nI i).toNatClampNeg < n := by rw [nI_clamp (by omega)]; exact hi
  have go : ∀ (ty : FieldType), ArrOfT s (G'.2.2.2.1 kd) ty → ty.isReference = true → W p G'.1 e0 R s m args below meth c H locs cells slots Q (F0 m pc ls (.int (nI i) :: .ref a :: st)) := by
    intro ty hA hty
    exact W.aald (v := va_rf (f i)) (ty := ty) hx hb hcell (hA n (fun j => va_rf (f j))) hty (fun q => by cases q) (by show ¬ (nI i < 0 ∨ (arrV _ _ _).slots.size ≤ _); rw [arrV_size]; exact vp_in_nI hi hn) (by show (arrV _ _ _).slots[_]? = _; rw [arrV_read _ _ hlt, hv]) rfl rfl d (h H locs cells slots ls hR hc hs hl)
  rcases hkd with rfl | rfl | rfl
  · exact go (.object "java/lang/Object") (hK.1.2 2 _ rfl).1 rfl
  · exact go (.object "TitleFinder$State") (hK.1.2 3 _ rfl).1 rfl
  · exact go (.array .int) (hK.1.2 4 _ rfl).1 rfl
theorem s_alen {X : mX} {G : mG} {I : mI} (C : Cx X G I) {bc bs pc : Nat} (q : Nat) {L : List (Option Value)} {st : List Value} {M : mM} {a t n kd : Nat} {f : (Nat → Int32) ⊕ (Nat → Option Nat)} (d : decode I.2.1 pc = .ok (.arraylength, 1)) (e : pc + 1 = q) (hM : M a = some (t, .inr (kd, n, f))) (hkd : kd < 5) (h : V X bc bs q L (.int (nI n) :: st) M) : V X bc bs pc L (.ref a :: st) M := by
  obtain ⟨p, e0, R, s, m, args, below, meth, c, Q, mc, ms, G'⟩ := X
  obtain ⟨rfl, hx, hb, hml, hr, hlk, hown, hts, hK, hroom, hini, hS0⟩ := C
  subst e
  intro H locs cells slots ls hR hc hs hl
  have hty : ∃ ty, (tysK G'.2.2.2.1)[kd]? = some (G'.2.2.2.1 kd, ty) := by
    match kd, hkd with
    | 0, _ => exact ⟨_, rfl⟩
    | 1, _ => exact ⟨_, rfl⟩
    | 2, _ => exact ⟨_, rfl⟩
    | 3, _ => exact ⟨_, rfl⟩
    | 4, _ => exact ⟨_, rfl⟩
  obtain ⟨ty, hty⟩ := hty
  have hb5 : Nat.beq kd 5 = false := by
    match kd, hkd with
    | 0, _ => rfl
    | 1, _ => rfl
    | 2, _ => rfl
    | 3, _ => rfl
    | 4, _ => rfl
  cases f with
  | inl f =>
    exact va_alen (ws := [(a, .inl (G'.2.2.2.1 kd, n, .inl f))]) hx hb hK.1 (fun k q hq => by
      cases k with
      | zero => cases hq; exact (hR.1 a t _ hM).f.2
      | succ k => cases hq) 0 kd rfl hty rfl d (h H locs cells slots ls hR hc hs hl)
  | inr f =>
    rcases hR.1 a t _ hM with ⟨-, hA⟩ | ⟨-, g0, c0, e0', k1, k2, k3, k4, -⟩
    · rw [mv_r hb5] at hA
      exact va_alen (ws := [(a, .inl (G'.2.2.2.1 kd, n, .inr (.inr (.inr (.inr f)))))]) hx hb hK.1 (fun k q hq => by
        cases k with
        | zero => cases hq; exact hA
        | succ k => cases hq) 0 kd rfl hty rfl d (h H locs cells slots ls hR hc hs hl)
    · cases e0'
      obtain ⟨-, kk, hkk, comp, hkind⟩ := (hK.1.2 2 _ rfl).1 0 (fun _ => .null)
      exact W.alen (n := nI 0) hx hb k1 ⟨fun z hz => (by rw [hz] at k4; cases k4), kk, (by rw [k2]; exact hkk), comp, hkind⟩ (by rw [k3]; rfl) rfl rfl d (h H locs cells slots ls hR hc hs hl)
theorem s_iast {X : mX} {G : mG} {I : mI} (C : Cx X G I) {bc bs pc : Nat} (q : Nat) {L : List (Option Value)} {st : List Value} {M : mM} {a t n : Nat} {f : Nat → Int32} {i : Nat} {x : Int32} (d : decode I.2.1 pc = .ok (.iastore, 1)) (e : pc + 1 = q) (hM : M a = some (t, .inr (0, n, .inl f))) (ht : t ≠ 0) (hi : i < n) (hn : n < 2 ^ 31) (h : V X bc bs q L st (mup M a (t, .inr (0, n, .inl (upd f i x))))) : V X bc bs pc L (.int x :: .int (nI i) :: .ref a :: st) M := by
  obtain ⟨p, e0, R, s, m, args, below, meth, c, Q, mc, ms, G'⟩ := X
  obtain ⟨rfl, hx, hb, hml, hr, hlk, hown, hts, hK, hroom, hini, hS0⟩ := C
  subst e
  intro H locs cells slots ls hR hc hs hl
  refine va_iast (ws := (a, .inl (G'.2.2.2.1 0, n, .inl f)) :: mWx G' M H a) hx hb hK.1 (mWx_P hR hM ht) (mWx_D hR hM ht _) hR.2.2 0 0 rfl rfl (vp_in_nI hi hn) d (fun H1 locs1 hP _ hS => ?_)
  rw [nI_clamp (by omega)] at hP
  exact h H1 locs1 cells slots ls (mR_put (e' := .inr (0, n, .inl (upd f i x))) hR hM ht hP hS) hc hs hl
theorem s_cast {X : mX} {G : mG} {I : mI} (C : Cx X G I) {bc bs pc : Nat} (q : Nat) {L : List (Option Value)} {st : List Value} {M : mM} {a t n : Nat} {f : Nat → Int32} {i : Nat} {x : Int32} (d : decode I.2.1 pc = .ok (.castore, 1)) (e : pc + 1 = q) (hM : M a = some (t, .inr (1, n, .inl f))) (ht : t ≠ 0) (hi : i < n) (hn : n < 2 ^ 31) (hx0 : vp_nar .char x = x) (h : V X bc bs q L st (mup M a (t, .inr (1, n, .inl (upd f i x))))) : V X bc bs pc L (.int x :: .int (nI i) :: .ref a :: st) M := by
  obtain ⟨p, e0, R, s, m, args, below, meth, c, Q, mc, ms, G'⟩ := X
  obtain ⟨rfl, hx, hb, hml, hr, hlk, hown, hts, hK, hroom, hini, hS0⟩ := C
  subst e
  intro H locs cells slots ls hR hc hs hl
  refine va_cast (ws := (a, .inl (G'.2.2.2.1 1, n, .inl f)) :: mWx G' M H a) hx hb hK.1 (mWx_P hR hM ht) (mWx_D hR hM ht _) hR.2.2 0 1 rfl rfl (vp_in_nI hi hn) d (fun H1 locs1 hP _ hS => ?_)
  rw [nI_clamp (by omega), hx0] at hP
  exact h H1 locs1 cells slots ls (mR_put (e' := .inr (1, n, .inl (upd f i x))) hR hM ht hP hS) hc hs hl
/-- an object (class cv) into a row of objects of class E -/
theorem s_aast {X : mX} {G : mG} {I : mI} (C : Cx X G I) {bc bs pc : Nat} (q : Nat) {L : List (Option Value)} {st : List Value} {M : mM} {a t n kd v tv ci : Nat} {f : Nat → Option Nat} {vs : List Value} {i : Nat} {E : String} {r : vw_C} (d : decode I.2.1 pc = .ok (.aastore, 1)) (e : pc + 1 = q) (hM : M a = some (t, .inr (kd, n, .inr f))) (ht : t ≠ 0) (hkd : kd = 2 ∧ E = "java/lang/Object" ∨ kd = 3 ∧ E = "TitleFinder$State") (hv : M v = some (tv, .inl (ci, vs))) (hci : vwCl[ci]? = some r) (hcs : r.1 = "TitleFinder$Title" ∧ E = "java/lang/Object" ∨ r.1 = E) (hi : i < n) (hn : n < 2 ^ 31) (h : V X bc bs q L st (mup M a (t, .inr (kd, n, .inr (va_up f i (some v)))))) : V X bc bs pc L (.ref v :: .int (nI i) :: .ref a :: st) M := by
  obtain ⟨p, e0, R, s, m, args, below, meth, c, Q, mc, ms, G'⟩ := X
  obtain ⟨rfl, hx, hb, hml, hr, hlk, hown, hts, hK, hroom, hini, hS0⟩ := C
  subst e
  intro H locs cells slots ls hR hc hs hl
  have hva : a ≠ v := by
    intro h
    subst h
    rw [hM] at hv
    cases hv
  have hvt : tv ≠ 0 ∨ tv = 0 := (Classical.em _).symm
  obtain ⟨r', hr', cellV, g1, g2, g3, -⟩ := (hR.1 v tv _ hv).o
  have : r' = r := Option.some.inj (hr'.symm.trans hci)
  subst this
  have hcls := (hK.1.1 ci r' hci).2
  have hAny : va_Any E s H v := by
    obtain ⟨kC, hkC, -⟩ := hcls.2
    refine ⟨cellV, g1, by rw [g3]; rfl, ⟨kC, by rw [g2]; exact hkC⟩, fun comp hcomp => ?_⟩
    rw [g2]
    rcases hcs with ⟨e1, e2⟩ | e1
    · have hn := hK.2.2.2.2.2.2.2.2.2.2.1
      rw [← e1, ← e2] at hn
      unfold va_Nw at hn
      simp [Cond.before, Cond.holds, Cond.value, hcls.1, hcomp] at hn
      exact hn
    · rw [← e1] at hcomp
      have : comp = G'.2.2.1.1 ci := Option.some.inj (hcomp.symm.trans hcls.1)
      rw [this]
      exact va_assign hcls
  rcases hkd with ⟨rfl, rfl⟩ | ⟨rfl, rfl⟩
  · refine va_astqM (ws := (a, .inl (G'.2.2.2.1 2, n, .inr (.inr (.inr (.inr f))))) :: mWx G' M H a) hx hb hK.1 (mWx_P hR hM ht) (mWx_D hR hM ht _) hR.2.2 0 2 rfl rfl hAny (vp_in_nI hi hn) d (fun H1 locs1 hP _ hS => ?_)
    rw [nI_clamp (by omega)] at hP
    exact h H1 locs1 cells slots ls (mR_put (e' := .inr (2, n, .inr (va_up f i (some v)))) hR hM ht hP hS) hc hs hl
  · refine va_astqM (ws := (a, .inl (G'.2.2.2.1 3, n, .inr (.inr (.inr (.inr f))))) :: mWx G' M H a) hx hb hK.1 (mWx_P hR hM ht) (mWx_D hR hM ht _) hR.2.2 0 3 rfl rfl hAny (vp_in_nI hi hn) d (fun H1 locs1 hP _ hS => ?_)
    rw [nI_clamp (by omega)] at hP
    exact h H1 locs1 cells slots ls (mR_put (e' := .inr (3, n, .inr (va_up f i (some v)))) hR hM ht hP hS) hc hs hl
/-- null into a row of objects -/
theorem s_aastN {X : mX} {G : mG} {I : mI} (C : Cx X G I) {bc bs pc : Nat} (q : Nat) {L : List (Option Value)} {st : List Value} {M : mM} {a t n : Nat} {f : Nat → Option Nat} {i : Nat} (d : decode I.2.1 pc = .ok (.aastore, 1)) (e : pc + 1 = q) (hM : M a = some (t, .inr (2, n, .inr f))) (ht : t ≠ 0) (hi : i < n) (hn : n < 2 ^ 31) (h : V X bc bs q L st (mup M a (t, .inr (2, n, .inr (va_up f i none))))) : V X bc bs pc L (.null :: .int (nI i) :: .ref a :: st) M := by
  obtain ⟨p, e0, R, s, m, args, below, meth, c, Q, mc, ms, G'⟩ := X
  obtain ⟨rfl, hx, hb, hml, hr, hlk, hown, hts, hK, hroom, hini, hS0⟩ := C
  subst e
  intro H locs cells slots ls hR hc hs hl
  refine va_astqN (ws := (a, .inl (G'.2.2.2.1 2, n, .inr (.inr (.inr (.inr f))))) :: mWx G' M H a) hx hb hK.1 (mWx_P hR hM ht) (mWx_D hR hM ht _) hR.2.2 0 2 rfl rfl (vp_in_nI hi hn) d (fun H1 locs1 hP _ hS => ?_)
  rw [nI_clamp (by omega)] at hP
  exact h H1 locs1 cells slots ls (mR_put (e' := .inr (2, n, .inr (va_up f i none))) hR hM ht hP hS) hc hs hl
/-- making an object -/
def mN (own : String) (idx ci : Nat) (fs : List Value) : Prop := ∃ (r : vw_C) (ty0 : Nat → FieldType), vwCl[ci]? = some r ∧ (∀ w ∈ u_ws r.1 r.2.1 r.2.2, w ∈ BIG) ∧ (∀ k, k < r.2.2 → parseFieldDescriptor (r.2.1 k).2.2.1 = some (ty0 k)) ∧ Cond.classLink own idx r.1 ∈ BIG ∧ Cond.instantiable r.1 r.2.2 ∈ BIG ∧ Cond.initialized r.1 ∈ BIG ∧ (∀ j, j < r.2.2 → defaultValue (ty0 j) = vp_V fs j) ∧ r.2.2 = fs.length
theorem s_new {X : mX} {G : mG} {I : mI} (C : Cx X G I) {bc bs pc : Nat} (q bc' bs' tag : Nat) {L : List (Option Value)} {st : List Value} {M : mM} {idx ci : Nat} {fs : List Value} (d : decode I.2.1 pc = .ok (.new idx, 3)) (e : pc + 3 = q) (hn : mN I.1.cls idx ci fs) (ht : tag ≠ 0) (hbc : bc' + 1 ≤ bc) (hbs : bs' + fs.length ≤ bs) (h : ∀ a, M a = none → G.2.1.size ≤ a → V X bc' bs' q L (.ref a :: st) (mup M a (tag, .inl (ci, fs)))) : V X bc bs pc L st M := by
  obtain ⟨p, e0, R, s, m, args, below, meth, c, Q, mc, ms, G'⟩ := X
  obtain ⟨rfl, hx, hb, hml, hr, hlk, hown, hts, hK, hroom, hini, hS0⟩ := C
  obtain ⟨r, ty0, h1, h2, h3, h4, h5, h6, h7, h8⟩ := hn
  subst e
  intro H locs cells slots ls hR hc hs hl
  refine va_new (ws := mW G'.2.2.2.1 M H.size (fun _ => true)) (fs := fs) hx hb hts h2 ty0 h3 hown (hts _ h4) (hts _ h5) (hts _ h6) hK.1 (mW_P hR) (mW_D hR) hR.2.2 (fun q h => h) h1 h7 (by omega) (by omega) d (fun a H1 hP hD hS => ?_)
  obtain ⟨g1, g2, g3⟩ := mR_new (e := .inl (ci, fs)) hR ht hP hD hS
  exact h a g1 g2 H1 locs _ _ ls g3 (by omega) (by omega) hl
/-- making a row of ints or of chars -/
theorem s_newa {X : mX} {G : mG} {I : mI} (C : Cx X G I) {bc bs pc : Nat} (q bc' bs' tag : Nat) {L : List (Option Value)} {st : List Value} {M : mM} {at0 : ArrayType} {kd n : Nat} (d : decode I.2.1 pc = .ok (.newarray at0, 2)) (e : pc + 2 = q) (hkd : at0 = .int ∧ kd = 0 ∧ Cond.arrayClass .int ∈ BIG ∨ at0 = .char ∧ kd = 1 ∧ Cond.arrayClass .char ∈ BIG) (hn : n ≤ 100000) (ht : tag ≠ 0) (hbc : bc' + 1 ≤ bc) (hbs : bs' + n ≤ bs) (h : ∀ a, M a = none → G.2.1.size ≤ a → V X bc' bs' q L (.ref a :: st) (mup M a (tag, .inr (kd, n, .inl (fun _ => 0))))) : V X bc bs pc L (.int (nI n) :: st) M := by
  obtain ⟨p, e0, R, s, m, args, below, meth, c, Q, mc, ms, G'⟩ := X
  obtain ⟨rfl, hx, hb, hml, hr, hlk, hown, hts, hK, hroom, hini, hS0⟩ := C
  subst e
  intro H locs cells slots ls hR hc hs hl
  have hz : (nI n).toNatClampNeg = n := nI_clamp (by omega)
  rcases hkd with ⟨rfl, rfl, hw⟩ | ⟨rfl, rfl, hw⟩
  · refine va_newaK hx hb (atype := .int) (hts _ hw) rfl d rfl (nI_pos (by omega)) hz (by show n * 4 ≤ _; omega) (by omega) (by omega) rfl (fun H1 cA e1 z1 o1 hAr hNm => ?_)
    have hcA : cA = G'.2.2.2.1 0 := Option.some.inj (hNm.symm.trans (hK.1.2 0 _ rfl).2)
    subst hcA
    have hk : ∀ (k : Nat) (x : Nat × va_E), (mW G'.2.2.2.1 M H.size (fun _ => true))[k]? = some x → H1[x.1]? = H[x.1]? := fun k x hx => o1 x.1 ((mW_P hR k x hx).lt)
    obtain ⟨g1, g2, g3⟩ := mR_new (q := H.size) (e := .inr (0, n, .inl (fun _ => 0))) hR ht (((mW_P hR).kept hk).app (fun k x hx => by
      cases k with
      | zero => cases hx; exact e1
      | succ k => cases hx)) ((mW_D hR).push (mW_P hR) rfl hR.2.2.1) ⟨Nat.le_trans hR.2.2.1 (by omega), fun x h1 h2 => (o1 x (Nat.lt_of_lt_of_le h1 hR.2.2.1)).trans (hR.2.2.2.1 x h1 h2), hR.2.2.2.2⟩
    exact h H.size g1 g2 H1 locs _ _ ls g3 (by omega) (by omega) hl
  · refine va_newaK hx hb (atype := .char) (hts _ hw) rfl d rfl (nI_pos (by omega)) hz (by show n * 2 ≤ _; omega) (by omega) (by omega) rfl (fun H1 cA e1 z1 o1 hAr hNm => ?_)
    have hcA : cA = G'.2.2.2.1 1 := Option.some.inj (hNm.symm.trans (hK.1.2 1 _ rfl).2)
    subst hcA
    have hk : ∀ (k : Nat) (x : Nat × va_E), (mW G'.2.2.2.1 M H.size (fun _ => true))[k]? = some x → H1[x.1]? = H[x.1]? := fun k x hx => o1 x.1 ((mW_P hR k x hx).lt)
    obtain ⟨g1, g2, g3⟩ := mR_new (q := H.size) (e := .inr (1, n, .inl (fun _ => 0))) hR ht (((mW_P hR).kept hk).app (fun k x hx => by
      cases k with
      | zero => cases hx; exact e1
      | succ k => cases hx)) ((mW_D hR).push (mW_P hR) rfl hR.2.2.1) ⟨Nat.le_trans hR.2.2.1 (by omega), fun x h1 h2 => (o1 x (Nat.lt_of_lt_of_le h1 hR.2.2.1)).trans (hR.2.2.2.1 x h1 h2), hR.2.2.2.2⟩
    exact h H.size g1 g2 H1 locs _ _ ls g3 (by omega) (by omega) hl
/-- a ghost tag changes -/
theorem s_tag {X : mX} {bc bs pc : Nat} {L : List (Option Value)} {st : List Value} {M : mM} (a t t' : Nat) {e : mE} (ha : M a = some (t, e)) (ht : t ≠ 0) (ht' : t' ≠ 0) (h : V X bc bs pc L st (mup M a (t', e))) : V X bc bs pc L st M := by
  obtain ⟨p, e0, R, s, m, args, below, meth, c, Q, mc, ms, G⟩ := X
  intro H locs cells slots ls hR hc hs hl
  exact h H locs cells slots ls (mR_tag hR ha ht ht') hc hs hl
/-! calls -/
/-- who may be called on: an object of class cls -/
def mRv (G : mG) (M : mM) (cls : String) (b : Nat) : Prop := ∀ (s : State) (H : Heap) (locs : List Loc), mK G s → mR G M H locs → ∃ cellB : Cell, H[b]? = some cellB ∧ cellB.vm.isStatics = false ∧ s.vm.findClass cls = some cellB.cls
theorem mRv_of {G : mG} {M : mM} {b t ci : Nat} {fs : List Value} {cls : String} (hM : M b = some (t, .inl (ci, fs))) (hc : (vwCl[ci]?).map (fun r => r.1) = some cls) : mRv G M cls b := by
  intro s H locs hK hR
  obtain ⟨r, h1, cell, g1, g2, g3, -⟩ := (hR.1 b t _ hM).o
  have h1 : vwCl[ci]? = some r := h1
  rw [h1] at hc
  have hc : r.1 = cls := Option.some.inj hc
  subst hc
  exact ⟨cell, g1, by rw [g3]; rfl, by rw [g2]; exact (hK.1.1 ci r h1).2.1⟩
def mCB (own : String) (idx : Nat) (J : mI) (n : Nat) : Prop := Cond.code J.1 J.2.1 J.2.2.1 J.2.2.2.1 ∈ BIG ∧ Cond.initialized J.1.cls ∈ BIG ∧ (J.1.cls ≠ "java/lang/invoke/MethodHandle" ∧ J.1.cls ≠ "java/lang/invoke/VarHandle") ∧ (parseMethodDescriptor J.1.desc).map (fun d => d.parameters.length) = some n
/-- a call of a method on an object, of a static method, of a constructor, of a nest mate's constructor -/
def mCv (own : String) (idx : Nat) (J : mI) (n : Nat) : Prop := mCB own idx J n ∧ Cond.methodLink own idx J.1 ∈ BIG ∧ Cond.instanceMethod J.1 ∈ BIG ∧ Cond.selects J.1.cls J.1 J.1 ∈ BIG
def mCs (own : String) (idx : Nat) (J : mI) (n : Nat) : Prop := mCB own idx J n ∧ Cond.methodLink own idx J.1 ∈ BIG ∧ Cond.static J.1 ∈ BIG
def mCi (own : String) (idx : Nat) (J : mI) (n : Nat) : Prop := mCB own idx J n ∧ Cond.methodLink own idx J.1 ∈ BIG ∧ Cond.instanceMethod J.1 ∈ BIG ∧ J.1.name = "<init>" ∧ J.2.2.2.1 = none
def mCn (own : String) (idx : Nat) (J : mI) (n : Nat) : Prop := mCB own idx J n ∧ (∃ host, Cond.methodLinkNest own idx J.1 host ∈ mNest) ∧ Cond.instanceMethod J.1 ∈ BIG ∧ J.1.name = "<init>" ∧ J.2.2.2.1 = none
/-- the callee's room lies in the caller's -/
def mH (I J : mI) : Prop := J.2.2.2.2 + 1 ≤ I.2.2.2.2 ∧ 8 + (J.2.2.1 + 11) + 37 * J.2.2.2.2 ≤ 37 * I.2.2.2.2
theorem mblind {G : mG} {M : mM} {As : List Value} : FrameBlind (fun v U => v = As.toArray ∧ mR G M U.heap [] ∧ mK G U) := fun a U g mk h => ⟨h.1, h.2.1, mK.same (u := U) (U := U.calling g mk a) rfl h.2.2⟩
theorem V_back {p : Program} {e0 : Env} {R : Room} {s : State} {m : MethodId} {args : Array Value} {below : List Frame} {meth : Method} {c : Code} {Q : State → Prop} {mc ms : Nat} {G : mG} {H : Heap} {locs : List Loc} {cells slots mc' ms' bc' bs' pc : Nat} {ls : Array Slot} {L : List (Option Value)} {st rest : List Value} {post : Option Value → mM → Prop}
    (hS : va_S (mAf G.2.1) G.2.1 H locs) (hc : cells + mc' + bc' ≤ mc) (hs : slots + ms' + bs' ≤ ms) (hl : mL ls L)
    (hr : va_Run p G.1 e0 R s m args below meth c H locs cells slots mc' ms' (F0 m pc ls st) rest (fun _ o t => ∃ r M', o = .returned r ∧ post r M' ∧ mR G M' t.heap []) (mAf G.2.1))
    (k : ∀ r M', post r M' → V (p, e0, R, s, m, args, below, meth, c, Q, mc, ms, G) bc' bs' (pc + 3) L (r.toList ++ rest) M') : W p G.1 e0 R s m args below meth c H locs cells slots Q (F0 m pc ls st) := by
  intro T hT X0
  obtain ⟨v, st₀, t, T', Lc, h0, X', hL, e1, e2, ⟨r, M', hv, hp, hm⟩, stp⟩ := hr T hT X0
  cases hv
  have hR' : mR G M' T'.heap (locs ++ Lc) := by
    rw [e1]
    refine ⟨hm.1, hm.2.1, hm.2.2.1, hm.2.2.2.1, fun l hl => ?_⟩
    rcases List.mem_append.mp hl with h | h
    · exact hS.2.2 l h
    · exact hL l h
  obtain ⟨t2, a1, b1⟩ := k v M' hp T'.heap (locs ++ Lc) (cells + mc') (slots + ms') ls hR' hc hs hl T' rfl X'
  exact ⟨t2, stp t2 a1, b1⟩
theorem s_invV {X : mX} {G : mG} {I : mI} (C : Cx X G I) {bc bs pc : Nat} (q bc' bs' : Nat) {L : List (Option Value)} {st : List Value} (rest : List Value) {M : mM} {idx mc' ms' : Nat} {J : mI} {post : Option Value → mM → Prop} {n : Nat} {As : List Value} {b : Nat} (hrv : mRv G M J.1.cls b) (d : decode I.2.1 pc = .ok (.invokevirtual idx, 3)) (e : pc + 3 = q) (hm : mCv I.1.cls idx J n) (hct : CC G J mc' ms' (.ref b :: As) M post) (hst : st = As.reverse ++ .ref b :: rest) (hn : As.length = n) (hL : L.length = I.2.2.1) (hh : mH I J) (hw : (rest.map fun v => v.category).sum ≤ 8) (hbc : bc' + mc' ≤ bc) (hbs : bs' + ms' ≤ bs) (k : ∀ r M', post r M' → V X bc' bs' q L (r.toList ++ rest) M') : V X bc bs pc L st M := by
  obtain ⟨p, e0, R, s, m, args, below, meth, c, Q, mc, ms, G'⟩ := X
  obtain ⟨rfl, hx, hb, hml, hr, hlk, hown, hts, hK, hroom, hini, hS0⟩ := C
  obtain ⟨⟨w1, w2, w3, w4⟩, CC0⟩ := hm
  subst e
  intro H locs cells slots ls hR hc hs hl
  have hCB : ∀ w ∈ (Cond.code J.1 J.2.1 J.2.2.1 J.2.2.2.1 :: BIG), ∀ (a' : Array Value) (U : State), s.WarmedH U.vm → w.before a' U = true := by
    intro w hw a' U hW
    have hw : w ∈ BIG := (List.mem_cons.mp hw).elim (fun e => by rw [e]; exact w1) id
    exact word_at hW (big_good w hw) (hts w hw)
  have hsig : ∀ sig, parseMethodDescriptor J.1.desc = some sig → n = sig.parameters.length := by
    intro sig h
    rw [h] at w4
    exact (Option.some.inj w4).symm
  have hro : (mRoom J.2.2.2.2 mc' ms').frames + 1 ≤ R.frames ∧ 8 + (J.2.2.1 + 11) + (mRoom J.2.2.2.2 mc' ms').locals ≤ R.locals := ⟨Nat.le_trans hh.1 hroom.1, Nat.le_trans hh.2 hroom.2.1⟩
  obtain ⟨w5, w6, w7⟩ := CC0
  exact V_back hR.2.2 (by omega) (by omega) hl (va_runV (As := As) (rest := rest) ⟨hx, hb, hml, hown, hts⟩ hct ⟨⟨rfl, rfl, hro.1, hro.2, hCB, List.mem_cons_self, hts _ w1, hts _ w2, w3, hsig, hts _ w5⟩, hts _ w6, hts _ w7⟩ ⟨mblind, hrv s H locs hK hR, fun U hU hW => ⟨rfl, by rw [hU]; exact hR.ret, mK.warm hW hK⟩⟩ rfl hn (hl.1.trans hL) hst (lv_room hw) d ⟨by omega, by omega⟩) k
theorem s_invS {X : mX} {G : mG} {I : mI} (C : Cx X G I) {bc bs pc : Nat} (q bc' bs' : Nat) {L : List (Option Value)} {st : List Value} (rest : List Value) {M : mM} {idx mc' ms' : Nat} {J : mI} {post : Option Value → mM → Prop} {n : Nat} {As : List Value}  (d : decode I.2.1 pc = .ok (.invokestatic idx, 3)) (e : pc + 3 = q) (hm : mCs I.1.cls idx J n) (hct : CC G J mc' ms' (As) M post) (hst : st = As.reverse ++ rest) (hn : As.length = n) (hL : L.length = I.2.2.1) (hh : mH I J) (hw : (rest.map fun v => v.category).sum ≤ 8) (hbc : bc' + mc' ≤ bc) (hbs : bs' + ms' ≤ bs) (k : ∀ r M', post r M' → V X bc' bs' q L (r.toList ++ rest) M') : V X bc bs pc L st M := by
  obtain ⟨p, e0, R, s, m, args, below, meth, c, Q, mc, ms, G'⟩ := X
  obtain ⟨rfl, hx, hb, hml, hr, hlk, hown, hts, hK, hroom, hini, hS0⟩ := C
  obtain ⟨⟨w1, w2, w3, w4⟩, CC0⟩ := hm
  subst e
  intro H locs cells slots ls hR hc hs hl
  have hCB : ∀ w ∈ (Cond.code J.1 J.2.1 J.2.2.1 J.2.2.2.1 :: BIG), ∀ (a' : Array Value) (U : State), s.WarmedH U.vm → w.before a' U = true := by
    intro w hw a' U hW
    have hw : w ∈ BIG := (List.mem_cons.mp hw).elim (fun e => by rw [e]; exact w1) id
    exact word_at hW (big_good w hw) (hts w hw)
  have hsig : ∀ sig, parseMethodDescriptor J.1.desc = some sig → n = sig.parameters.length := by
    intro sig h
    rw [h] at w4
    exact (Option.some.inj w4).symm
  have hro : (mRoom J.2.2.2.2 mc' ms').frames + 1 ≤ R.frames ∧ 8 + (J.2.2.1 + 11) + (mRoom J.2.2.2.2 mc' ms').locals ≤ R.locals := ⟨Nat.le_trans hh.1 hroom.1, Nat.le_trans hh.2 hroom.2.1⟩
  obtain ⟨w5, w6⟩ := CC0
  exact V_back hR.2.2 (by omega) (by omega) hl (va_runS (As := As) (rest := rest) ⟨hx, hb, hml, hown, hts⟩ hct ⟨⟨rfl, rfl, hro.1, hro.2, hCB, List.mem_cons_self, hts _ w1, hts _ w2, w3, hsig, hts _ w5⟩, hts _ w6⟩ ⟨mblind, fun U hU hW => ⟨rfl, by rw [hU]; exact hR.ret, mK.warm hW hK⟩⟩ rfl hn (hl.1.trans hL) hst (lv_room hw) d ⟨by omega, by omega⟩) k
theorem s_invI {X : mX} {G : mG} {I : mI} (C : Cx X G I) {bc bs pc : Nat} (q bc' bs' : Nat) {L : List (Option Value)} {st : List Value} (rest : List Value) {M : mM} {idx mc' ms' : Nat} {J : mI} {post : Option Value → mM → Prop} {n : Nat} {As : List Value} {b : Nat} (d : decode I.2.1 pc = .ok (.invokespecial idx, 3)) (e : pc + 3 = q) (hm : mCi I.1.cls idx J n) (hct : CC G J mc' ms' (.ref b :: As) M post) (hst : st = As.reverse ++ .ref b :: rest) (hn : As.length = n) (hL : L.length = I.2.2.1) (hh : mH I J) (hw : (rest.map fun v => v.category).sum ≤ 8) (hbc : bc' + mc' ≤ bc) (hbs : bs' + ms' ≤ bs) (k : ∀ r M', post r M' → V X bc' bs' q L (r.toList ++ rest) M') : V X bc bs pc L st M := by
  obtain ⟨p, e0, R, s, m, args, below, meth, c, Q, mc, ms, G'⟩ := X
  obtain ⟨rfl, hx, hb, hml, hr, hlk, hown, hts, hK, hroom, hini, hS0⟩ := C
  obtain ⟨⟨w1, w2, w3, w4⟩, CC0⟩ := hm
  subst e
  intro H locs cells slots ls hR hc hs hl
  have hCB : ∀ w ∈ (Cond.code J.1 J.2.1 J.2.2.1 J.2.2.2.1 :: BIG), ∀ (a' : Array Value) (U : State), s.WarmedH U.vm → w.before a' U = true := by
    intro w hw a' U hW
    have hw : w ∈ BIG := (List.mem_cons.mp hw).elim (fun e => by rw [e]; exact w1) id
    exact word_at hW (big_good w hw) (hts w hw)
  have hsig : ∀ sig, parseMethodDescriptor J.1.desc = some sig → n = sig.parameters.length := by
    intro sig h
    rw [h] at w4
    exact (Option.some.inj w4).symm
  have hro : (mRoom J.2.2.2.2 mc' ms').frames + 1 ≤ R.frames ∧ 8 + (J.2.2.1 + 11) + (mRoom J.2.2.2.2 mc' ms').locals ≤ R.locals := ⟨Nat.le_trans hh.1 hroom.1, Nat.le_trans hh.2 hroom.2.1⟩
  obtain ⟨w5, w6, w7, w8⟩ := CC0
  rw [CC] at hct
  rw [w8] at hct hCB w1
  exact V_back hR.2.2 (by omega) (by omega) hl (va_runI (As := As) (rest := rest) ⟨hx, hb, hml, hown, hts⟩ hct ⟨⟨rfl, rfl, hro.1, hro.2, hCB, List.mem_cons_self, hts _ w1, hts _ w2, w3, hsig, hts _ w5⟩, w7, hts _ w6⟩ ⟨mblind, fun U hU hW => ⟨rfl, by rw [hU]; exact hR.ret, mK.warm hW hK⟩⟩ rfl hn (hl.1.trans hL) hst (lv_room hw) d ⟨by omega, by omega⟩) k
theorem s_invN {X : mX} {G : mG} {I : mI} (C : Cx X G I) {bc bs pc : Nat} (q bc' bs' : Nat) {L : List (Option Value)} {st : List Value} (rest : List Value) {M : mM} {idx mc' ms' : Nat} {J : mI} {post : Option Value → mM → Prop} {n : Nat} {As : List Value} {b : Nat} (d : decode I.2.1 pc = .ok (.invokespecial idx, 3)) (e : pc + 3 = q) (hm : mCn I.1.cls idx J n) (hct : CC G J mc' ms' (.ref b :: As) M post) (hst : st = As.reverse ++ .ref b :: rest) (hn : As.length = n) (hL : L.length = I.2.2.1) (hh : mH I J) (hw : (rest.map fun v => v.category).sum ≤ 8) (hbc : bc' + mc' ≤ bc) (hbs : bs' + ms' ≤ bs) (k : ∀ r M', post r M' → V X bc' bs' q L (r.toList ++ rest) M') : V X bc bs pc L st M := by
  obtain ⟨p, e0, R, s, m, args, below, meth, c, Q, mc, ms, G'⟩ := X
  obtain ⟨rfl, hx, hb, hml, hr, hlk, hown, hts, hK, hroom, hini, hS0⟩ := C
  obtain ⟨⟨w1, w2, w3, w4⟩, CC0⟩ := hm
  subst e
  intro H locs cells slots ls hR hc hs hl
  have hCB : ∀ w ∈ (Cond.code J.1 J.2.1 J.2.2.1 J.2.2.2.1 :: BIG), ∀ (a' : Array Value) (U : State), s.WarmedH U.vm → w.before a' U = true := by
    intro w hw a' U hW
    have hw : w ∈ BIG := (List.mem_cons.mp hw).elim (fun e => by rw [e]; exact w1) id
    exact word_at hW (big_good w hw) (hts w hw)
  have hsig : ∀ sig, parseMethodDescriptor J.1.desc = some sig → n = sig.parameters.length := by
    intro sig h
    rw [h] at w4
    exact (Option.some.inj w4).symm
  have hro : (mRoom J.2.2.2.2 mc' ms').frames + 1 ≤ R.frames ∧ 8 + (J.2.2.1 + 11) + (mRoom J.2.2.2.2 mc' ms').locals ≤ R.locals := ⟨Nat.le_trans hh.1 hroom.1, Nat.le_trans hh.2 hroom.2.1⟩
  obtain ⟨⟨host, w5⟩, w6, w7, w8⟩ := CC0
  rw [CC] at hct
  rw [w8] at hct hCB w1
  have hnw : va_Nw (.methodLinkNest I.1.cls idx J.1 host) s := hK.2.2.2.2.2.2.2.2.2.1 _ w5
  exact V_back hR.2.2 (by omega) (by omega) hl (va_runIN (As := As) (rest := rest) ⟨hx, hb, hml, hown, hts⟩ hct ⟨va_cnB n hts (ws' := BIG) (fun w hw => ⟨(List.mem_cons.mp hw).elim (fun e => by rw [e]; exact w1) id, big_good w ((List.mem_cons.mp hw).elim (fun e => by rw [e]; exact w1) id)⟩) rfl rfl rfl hnw (hts _ w2) ⟨w3.1, w3.2, w4⟩ hro, w7, hts _ w6⟩ ⟨mblind, fun U hU hW => ⟨rfl, by rw [hU]; exact hR.ret, mK.warm hW hK⟩⟩ rfl hn (hl.1.trans hL) hst (lv_room hw) d ⟨by omega, by omega⟩) k
/-! more rows -/
theorem s_ldc2 {X : mX} {G : mG} {I : mI} (C : Cx X G I) {bc bs pc : Nat} (q : Nat) {L : List (Option Value)} {st : List Value} {M : mM} {idx : Nat} (v : Int64) (d : decode I.2.1 pc = .ok (.ldc2_w idx, 3)) (e : pc + 3 = q) (hc : Cond.constantLong I.1.cls idx v ∈ BIG) (k : V X bc bs q L (.long v :: st) M) : V X bc bs pc L st M := by
  obtain ⟨p, e0, R, s, m, args, below, meth, c, Q, mc, ms, G'⟩ := X
  obtain ⟨rfl, hx, hb, hml, hr, hlk, hown, hts, hK, hroom, hini, hS0⟩ := C
  subst e
  intro H locs cells slots ls hR hc' hs hl
  exact lv_ldc2 hx hb hown (hts _ hc) d (k H locs cells slots ls hR hc' hs hl)
theorem s_ldci {X : mX} {G : mG} {I : mI} (C : Cx X G I) {bc bs pc : Nat} (q : Nat) {L : List (Option Value)} {st : List Value} {M : mM} {idx : Nat} (v : Int32) (d : decode I.2.1 pc = .ok (.ldc idx, 2)) (e : pc + 2 = q) (hc : Cond.constant I.1.cls idx v ∈ BIG) (k : V X bc bs q L (.int v :: st) M) : V X bc bs pc L st M := by
  obtain ⟨p, e0, R, s, m, args, below, meth, c, Q, mc, ms, G'⟩ := X
  obtain ⟨rfl, hx, hb, hml, hr, hlk, hown, hts, hK, hroom, hini, hS0⟩ := C
  subst e
  intro H locs cells slots ls hR hc' hs hl
  exact lv_ldc hx hb hown (hts _ hc) d (k H locs cells slots ls hR hc' hs hl)
theorem s_tabI {X : mX} {G : mG} {I : mI} (C : Cx X G I) {bc bs pc : Nat} (t : Nat) {L : List (Option Value)} {st : List Value} {M : mM} {dflt lo hi off : Int} {offs : Array Int} {len : Nat} {x : Int32} (d : decode I.2.1 pc = .ok (.tableswitch dflt lo hi offs, len)) (h1 : ¬ x.toInt < lo) (h2 : ¬ hi < x.toInt) (ho : offs[(x.toInt - lo).toNat]? = some off) (ht : (pc : Int) + off = (t : Int)) (k : V X bc bs t L st M) : V X bc bs pc L (.int x :: st) M := by
  obtain ⟨p, e0, R, s, m, args, below, meth, c, Q, mc, ms, G'⟩ := X
  obtain ⟨rfl, hx, hb, hml, hr, hlk, hown, hts, hK, hroom, hini, hS0⟩ := C
  intro H locs cells slots ls hR hc' hs hl
  exact lv_tableIn hx hb d h1 h2 ho ht (k H locs cells slots ls hR hc' hs hl)
theorem s_tabO {X : mX} {G : mG} {I : mI} (C : Cx X G I) {bc bs pc : Nat} (t : Nat) {L : List (Option Value)} {st : List Value} {M : mM} {dflt lo hi : Int} {offs : Array Int} {len : Nat} {x : Int32} (d : decode I.2.1 pc = .ok (.tableswitch dflt lo hi offs, len)) (h : x.toInt < lo ∨ hi < x.toInt) (ht : (pc : Int) + dflt = (t : Int)) (k : V X bc bs t L st M) : V X bc bs pc L (.int x :: st) M := by
  obtain ⟨p, e0, R, s, m, args, below, meth, c, Q, mc, ms, G'⟩ := X
  obtain ⟨rfl, hx, hb, hml, hr, hlk, hown, hts, hK, hroom, hini, hS0⟩ := C
  intro H locs cells slots ls hR hc' hs hl
  exact lv_tableOut hx hb d h ht (k H locs cells slots ls hR hc' hs hl)
theorem s_look {X : mX} {G : mG} {I : mI} (C : Cx X G I) {bc bs pc : Nat} (t : Nat) {L : List (Option Value)} {st : List Value} {M : mM} {dflt off : Int} {ps : Array (Int × Int)} {len : Nat} {x : Int32} (d : decode I.2.1 pc = .ok (.lookupswitch dflt ps, len)) (hp : (ps.toList.zip (ps.toList.drop 1)).all (fun (a, next) => a.1 < next.1) = true) (ho : Op.lookupswitch.offset ps.toList dflt x.toInt = off) (ht : (pc : Int) + off = (t : Int)) (k : V X bc bs t L st M) : V X bc bs pc L (.int x :: st) M := by
  obtain ⟨p, e0, R, s, m, args, below, meth, c, Q, mc, ms, G'⟩ := X
  obtain ⟨rfl, hx, hb, hml, hr, hlk, hown, hts, hK, hroom, hini, hS0⟩ := C
  intro H locs cells slots ls hR hc' hs hl
  exact lv_lookup hx hb d hp ho ht (k H locs cells slots ls hR hc' hs hl)
/-- Math.max, Math.min -/
def mMath (own : String) (idx : Nat) (y : MethodName) (b : ByteArray) : Prop := Cond.methodLink own idx y ∈ BIG ∧ Cond.static y ∈ BIG ∧ Cond.initialized "java/lang/Math" ∈ BIG ∧ Cond.code y b 2 (some .int) ∈ BIG
theorem s_max {X : mX} {G : mG} {I : mI} (C : Cx X G I) {bc bs pc : Nat} (q : Nat) {L : List (Option Value)} {st : List Value} {M : mM} {idx : Nat} {x y : Int32} (d : decode I.2.1 pc = .ok (.invokestatic idx, 3)) (e : pc + 3 = q) (hm : mMath I.1.cls idx Lib.Math.max.name Lib.Math.max.code) (hL : L.length = I.2.2.1) (hI : 1 ≤ I.2.2.2.2) (hw : (st.map fun v => v.category).sum ≤ 8) (k : V X bc bs q L (.int (if x < y then y else x) :: st) M) : V X bc bs pc L (.int y :: .int x :: st) M := by
  obtain ⟨p, e0, R, s, m, args, below, meth, c, Q, mc, ms, G'⟩ := X
  obtain ⟨rfl, hx, hb, hml, hr, hlk, hown, hts, hK, hroom, hini, hS0⟩ := C
  obtain ⟨w1, w2, w3, w4⟩ := hm
  subst e
  intro H locs cells slots ls hR hc' hs hl
  exact va_mmax hx hb (hml.trans (hL.symm.trans hl.1.symm)) hown (hts _ w1) (hts _ w2) (hts _ w3) (hts _ w4) (by omega) (by omega) (by omega) (by omega) d (k H locs cells slots ls hR hc' hs hl)
theorem s_min {X : mX} {G : mG} {I : mI} (C : Cx X G I) {bc bs pc : Nat} (q : Nat) {L : List (Option Value)} {st : List Value} {M : mM} {idx : Nat} {x y : Int32} (d : decode I.2.1 pc = .ok (.invokestatic idx, 3)) (e : pc + 3 = q) (hm : mMath I.1.cls idx Lib.Math.min.name Lib.Math.min.code) (hL : L.length = I.2.2.1) (hI : 1 ≤ I.2.2.2.2) (hw : (st.map fun v => v.category).sum ≤ 8) (k : V X bc bs q L (.int (if y < x then y else x) :: st) M) : V X bc bs pc L (.int y :: .int x :: st) M := by
  obtain ⟨p, e0, R, s, m, args, below, meth, c, Q, mc, ms, G'⟩ := X
  obtain ⟨rfl, hx, hb, hml, hr, hlk, hown, hts, hK, hroom, hini, hS0⟩ := C
  obtain ⟨w1, w2, w3, w4⟩ := hm
  subst e
  intro H locs cells slots ls hR hc' hs hl
  exact va_mmin hx hb (hml.trans (hL.symm.trans hl.1.symm)) hown (hts _ w1) (hts _ w2) (hts _ w3) (hts _ w4) (by omega) (by omega) (by omega) (by omega) d (k H locs cells slots ls hR hc' hs hl)
theorem s_maxN {X : mX} {G : mG} {I : mI} (C : Cx X G I) {bc bs pc : Nat} (q : Nat) {L : List (Option Value)} {st : List Value} {M : mM} {idx : Nat} {x y : Nat} (d : decode I.2.1 pc = .ok (.invokestatic idx, 3)) (e : pc + 3 = q) (hm : mMath I.1.cls idx Lib.Math.max.name Lib.Math.max.code) (hL : L.length = I.2.2.1) (hI : 1 ≤ I.2.2.2.2) (hw : (st.map fun v => v.category).sum ≤ 8) (hx0 : x < 2 ^ 31) (hy0 : y < 2 ^ 31) (k : V X bc bs q L (.int (nI (max x y)) :: st) M) : V X bc bs pc L (.int (nI y) :: .int (nI x) :: st) M := by
  refine s_max C q d e hm hL hI hw ?_
  have : (if nI x < nI y then nI y else nI x) = nI (max x y) := by
    by_cases h : x < y
    · rw [if_pos ((nI_ltI hx0 hy0).mpr h), Nat.max_eq_right (by omega)]
    · rw [if_neg (fun z => h ((nI_ltI hx0 hy0).mp z)), Nat.max_eq_left (by omega)]
  rw [this]
  exact k
theorem s_minN {X : mX} {G : mG} {I : mI} (C : Cx X G I) {bc bs pc : Nat} (q : Nat) {L : List (Option Value)} {st : List Value} {M : mM} {idx : Nat} {x y : Nat} (d : decode I.2.1 pc = .ok (.invokestatic idx, 3)) (e : pc + 3 = q) (hm : mMath I.1.cls idx Lib.Math.min.name Lib.Math.min.code) (hL : L.length = I.2.2.1) (hI : 1 ≤ I.2.2.2.2) (hw : (st.map fun v => v.category).sum ≤ 8) (hx0 : x < 2 ^ 31) (hy0 : y < 2 ^ 31) (k : V X bc bs q L (.int (nI (min x y)) :: st) M) : V X bc bs pc L (.int (nI y) :: .int (nI x) :: st) M := by
  refine s_min C q d e hm hL hI hw ?_
  have : (if nI y < nI x then nI y else nI x) = nI (min x y) := by
    by_cases h : y < x
    · rw [if_pos ((nI_ltI hy0 hx0).mpr h), Nat.min_eq_right (by omega)]
    · rw [if_neg (fun z => h ((nI_ltI hy0 hx0).mp z)), Nat.min_eq_left (by omega)]
  rw [this]
  exact k
/-- a cast of an object to its own class -/
theorem s_castT {X : mX} {G : mG} {I : mI} (C : Cx X G I) {bc bs pc : Nat} (q : Nat) {L : List (Option Value)} {st : List Value} {M : mM} {idx a t ci : Nat} {fs : List Value} {r : vw_C} (d : decode I.2.1 pc = .ok (.checkcast idx, 3)) (e : pc + 3 = q) (hM : M a = some (t, .inl (ci, fs))) (hci : vwCl[ci]? = some r) (hc : Cond.classLink I.1.cls idx r.1 ∈ BIG) (k : V X bc bs q L (.ref a :: st) M) : V X bc bs pc L (.ref a :: st) M := by
  obtain ⟨p, e0, R, s, m, args, below, meth, c, Q, mc, ms, G'⟩ := X
  obtain ⟨rfl, hx, hb, hml, hr, hlk, hown, hts, hK, hroom, hini, hS0⟩ := C
  subst e
  intro H locs cells slots ls hR hc' hs hl
  obtain ⟨r', h1, cell, g1, g2, g3, -⟩ := (hR.1 a t _ hM).o
  have : r' = r := Option.some.inj (h1.symm.trans hci)
  subst this
  have hcls := (hK.1.1 ci r' hci).2
  have hnw : va_Nw (.castable r'.1 r'.1) s := by
    unfold va_Nw
    simp [Cond.before, Cond.holds, Cond.value, hcls.1, va_assign hcls]
  exact va_castY hx hb hown (hts _ hc) hnw ⟨cell, g1, by rw [g3]; rfl, by rw [g2]; exact hcls.1⟩ d (k H locs cells slots ls hR hc' hs hl)
