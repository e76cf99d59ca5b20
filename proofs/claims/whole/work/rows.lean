section
-- ===== PART A: goes FIRST, ahead of the names: the tables' words, and 'selects' of the private methods out of them =====
/-- a private method of a class that the tables say can be made, by its rows of tables_1 -/
def lw_okq (q : MethodName × Nat) : Prop := (q.1.cls ≠ "java/lang/invoke/MethodHandle" ∧ q.1.cls ≠ "java/lang/invoke/VarHandle") ∧ Cond.instantiable q.1.cls q.2 ∈ tables_1 ∧ Cond.privateMethod q.1 ∈ tables_1 ∧ Cond.instanceMethod q.1 ∈ tables_1
theorem lw_p0 : lw_okq (⟨"java/lang/Throwable", "fillInStackTrace", "(I)Ljava/lang/Throwable;"⟩, 6) := ⟨⟨by decide +kernel, by decide +kernel⟩, List.mem_of_getElem? (i := 231) (by decide +kernel), List.mem_of_getElem? (i := 229) (by decide +kernel), List.mem_of_getElem? (i := 230) (by decide +kernel)⟩
theorem lw_p1 : lw_okq (⟨"FormulaPages", "requireSoundAndFed", "()V"⟩, 6) := ⟨⟨by decide +kernel, by decide +kernel⟩, List.mem_of_getElem? (i := 21) (by decide +kernel), List.mem_of_getElem? (i := 277) (by decide +kernel), List.mem_of_getElem? (i := 278) (by decide +kernel)⟩
theorem lw_p2 : lw_okq (⟨"FormulaPages", "requireSound", "()V"⟩, 6) := ⟨⟨by decide +kernel, by decide +kernel⟩, List.mem_of_getElem? (i := 21) (by decide +kernel), List.mem_of_getElem? (i := 281) (by decide +kernel), List.mem_of_getElem? (i := 282) (by decide +kernel)⟩
theorem lw_p3 : lw_okq (⟨"FormulaPages", "act", "(I)I"⟩, 6) := ⟨⟨by decide +kernel, by decide +kernel⟩, List.mem_of_getElem? (i := 21) (by decide +kernel), List.mem_of_getElem? (i := 310) (by decide +kernel), List.mem_of_getElem? (i := 311) (by decide +kernel)⟩
theorem lw_p4 : lw_okq (⟨"FormulaPages$Shelf", "pageFor", "(I)LFormulaPages$Page;"⟩, 6) := ⟨⟨by decide +kernel, by decide +kernel⟩, List.mem_of_getElem? (i := 75) (by decide +kernel), List.mem_of_getElem? (i := 338) (by decide +kernel), List.mem_of_getElem? (i := 339) (by decide +kernel)⟩
theorem lw_p5 : lw_okq (⟨"FormulaPages$Shelf", "pageNumberFor", "(I)I"⟩, 6) := ⟨⟨by decide +kernel, by decide +kernel⟩, List.mem_of_getElem? (i := 75) (by decide +kernel), List.mem_of_getElem? (i := 342) (by decide +kernel), List.mem_of_getElem? (i := 343) (by decide +kernel)⟩
theorem lw_p6 : lw_okq (⟨"FormulaPages$Page", "recordSizeAt", "(I)I"⟩, 2) := ⟨⟨by decide +kernel, by decide +kernel⟩, List.mem_of_getElem? (i := 81) (by decide +kernel), List.mem_of_getElem? (i := 370) (by decide +kernel), List.mem_of_getElem? (i := 371) (by decide +kernel)⟩
theorem lw_p7 : lw_okq (⟨"FormulaPages$Page", "numberPlace", "(I)I"⟩, 2) := ⟨⟨by decide +kernel, by decide +kernel⟩, List.mem_of_getElem? (i := 81) (by decide +kernel), List.mem_of_getElem? (i := 379) (by decide +kernel), List.mem_of_getElem? (i := 380) (by decide +kernel)⟩
theorem lw_p8 : lw_okq (⟨"FormulaPages$Shelf", "splitsFor", "(LFormulaPages$Page;II)I"⟩, 6) := ⟨⟨by decide +kernel, by decide +kernel⟩, List.mem_of_getElem? (i := 75) (by decide +kernel), List.mem_of_getElem? (i := 393) (by decide +kernel), List.mem_of_getElem? (i := 394) (by decide +kernel)⟩
theorem lw_p9 : lw_okq (⟨"FormulaPages$Page", "hashAt", "(I)I"⟩, 2) := ⟨⟨by decide +kernel, by decide +kernel⟩, List.mem_of_getElem? (i := 81) (by decide +kernel), List.mem_of_getElem? (i := 405) (by decide +kernel), List.mem_of_getElem? (i := 406) (by decide +kernel)⟩
theorem lw_p10 : lw_okq (⟨"FormulaPages$Shelf", "split", "(I)V"⟩, 6) := ⟨⟨by decide +kernel, by decide +kernel⟩, List.mem_of_getElem? (i := 75) (by decide +kernel), List.mem_of_getElem? (i := 409) (by decide +kernel), List.mem_of_getElem? (i := 410) (by decide +kernel)⟩
theorem lw_p11 : lw_okq (⟨"FormulaPages$Shelf", "doubleTable", "()V"⟩, 6) := ⟨⟨by decide +kernel, by decide +kernel⟩, List.mem_of_getElem? (i := 75) (by decide +kernel), List.mem_of_getElem? (i := 413) (by decide +kernel), List.mem_of_getElem? (i := 414) (by decide +kernel)⟩
theorem lw_p12 : lw_okq (⟨"FormulaPages$Page", "countRecord", "(I)V"⟩, 2) := ⟨⟨by decide +kernel, by decide +kernel⟩, List.mem_of_getElem? (i := 81) (by decide +kernel), List.mem_of_getElem? (i := 450) (by decide +kernel), List.mem_of_getElem? (i := 451) (by decide +kernel)⟩
theorem lw_p13 : lw_okq (⟨"FormulaPages$Shelf", "redirect", "(III)V"⟩, 6) := ⟨⟨by decide +kernel, by decide +kernel⟩, List.mem_of_getElem? (i := 75) (by decide +kernel), List.mem_of_getElem? (i := 455) (by decide +kernel), List.mem_of_getElem? (i := 456) (by decide +kernel)⟩
theorem lw_p14 : lw_okq (⟨"FormulaPages$Journal", "checkByte", "(II)I"⟩, 2) := ⟨⟨by decide +kernel, by decide +kernel⟩, List.mem_of_getElem? (i := 29) (by decide +kernel), List.mem_of_getElem? (i := 476) (by decide +kernel), List.mem_of_getElem? (i := 477) (by decide +kernel)⟩
theorem lw_p15 : lw_okq (⟨"FormulaPages", "replay", "()I"⟩, 6) := ⟨⟨by decide +kernel, by decide +kernel⟩, List.mem_of_getElem? (i := 21) (by decide +kernel), List.mem_of_getElem? (i := 545) (by decide +kernel), List.mem_of_getElem? (i := 546) (by decide +kernel)⟩
def lw_privs_1 : List (MethodName × Nat) := [(⟨"java/lang/Throwable", "fillInStackTrace", "(I)Ljava/lang/Throwable;"⟩, 6), (⟨"FormulaPages", "requireSoundAndFed", "()V"⟩, 6), (⟨"FormulaPages", "requireSound", "()V"⟩, 6), (⟨"FormulaPages", "act", "(I)I"⟩, 6), (⟨"FormulaPages$Shelf", "pageFor", "(I)LFormulaPages$Page;"⟩, 6), (⟨"FormulaPages$Shelf", "pageNumberFor", "(I)I"⟩, 6), (⟨"FormulaPages$Page", "recordSizeAt", "(I)I"⟩, 2), (⟨"FormulaPages$Page", "numberPlace", "(I)I"⟩, 2), (⟨"FormulaPages$Shelf", "splitsFor", "(LFormulaPages$Page;II)I"⟩, 6), (⟨"FormulaPages$Page", "hashAt", "(I)I"⟩, 2), (⟨"FormulaPages$Shelf", "split", "(I)V"⟩, 6), (⟨"FormulaPages$Shelf", "doubleTable", "()V"⟩, 6), (⟨"FormulaPages$Page", "countRecord", "(I)V"⟩, 2), (⟨"FormulaPages$Shelf", "redirect", "(III)V"⟩, 6), (⟨"FormulaPages$Journal", "checkByte", "(II)I"⟩, 2), (⟨"FormulaPages", "replay", "()I"⟩, 6)]
theorem lw_r1 : ∀ q ∈ lw_privs_1, lw_okq q := List.forall_mem_cons.mpr ⟨lw_p0, List.forall_mem_cons.mpr ⟨lw_p1, List.forall_mem_cons.mpr ⟨lw_p2, List.forall_mem_cons.mpr ⟨lw_p3, List.forall_mem_cons.mpr ⟨lw_p4, List.forall_mem_cons.mpr ⟨lw_p5, List.forall_mem_cons.mpr ⟨lw_p6, List.forall_mem_cons.mpr ⟨lw_p7, List.forall_mem_cons.mpr ⟨lw_p8, List.forall_mem_cons.mpr ⟨lw_p9, List.forall_mem_cons.mpr ⟨lw_p10, List.forall_mem_cons.mpr ⟨lw_p11, List.forall_mem_cons.mpr ⟨lw_p12, List.forall_mem_cons.mpr ⟨lw_p13, List.forall_mem_cons.mpr ⟨lw_p14, List.forall_mem_cons.mpr ⟨lw_p15, fun _ h => absurd h List.not_mem_nil⟩⟩⟩⟩⟩⟩⟩⟩⟩⟩⟩⟩⟩⟩⟩⟩
theorem lw_p16 : lw_okq (⟨"FormulaPages", "requirePageByte", "(II)V"⟩, 6) := ⟨⟨by decide +kernel, by decide +kernel⟩, List.mem_of_getElem? (i := 21) (by decide +kernel), List.mem_of_getElem? (i := 606) (by decide +kernel), List.mem_of_getElem? (i := 607) (by decide +kernel)⟩
theorem lw_p17 : lw_okq (⟨"FormulaPages", "requireMask", "(I)V"⟩, 6) := ⟨⟨by decide +kernel, by decide +kernel⟩, List.mem_of_getElem? (i := 21) (by decide +kernel), List.mem_of_getElem? (i := 613) (by decide +kernel), List.mem_of_getElem? (i := 614) (by decide +kernel)⟩
theorem lw_p18 : lw_okq (⟨"FormulaPagesModel", "copy", "(II)V"⟩, 20) := ⟨⟨by decide +kernel, by decide +kernel⟩, List.mem_of_getElem? (i := 693) (by decide +kernel), List.mem_of_getElem? (i := 699) (by decide +kernel), List.mem_of_getElem? (i := 700) (by decide +kernel)⟩
theorem lw_p19 : lw_okq (⟨"FormulaPagesModel", "may", "()Z"⟩, 20) := ⟨⟨by decide +kernel, by decide +kernel⟩, List.mem_of_getElem? (i := 693) (by decide +kernel), List.mem_of_getElem? (i := 780) (by decide +kernel), List.mem_of_getElem? (i := 781) (by decide +kernel)⟩
theorem lw_p20 : lw_okq (⟨"FormulaPagesModel", "isAltered", "()Z"⟩, 20) := ⟨⟨by decide +kernel, by decide +kernel⟩, List.mem_of_getElem? (i := 693) (by decide +kernel), List.mem_of_getElem? (i := 784) (by decide +kernel), List.mem_of_getElem? (i := 785) (by decide +kernel)⟩
theorem lw_p21 : lw_okq (⟨"FormulaPagesModel", "comes", "(I)Z"⟩, 20) := ⟨⟨by decide +kernel, by decide +kernel⟩, List.mem_of_getElem? (i := 693) (by decide +kernel), List.mem_of_getElem? (i := 788) (by decide +kernel), List.mem_of_getElem? (i := 789) (by decide +kernel)⟩
theorem lw_p22 : lw_okq (⟨"FormulaPagesModel", "look", "()I"⟩, 20) := ⟨⟨by decide +kernel, by decide +kernel⟩, List.mem_of_getElem? (i := 693) (by decide +kernel), List.mem_of_getElem? (i := 792) (by decide +kernel), List.mem_of_getElem? (i := 793) (by decide +kernel)⟩
theorem lw_p23 : lw_okq (⟨"FormulaPagesModel", "hashOf", "()I"⟩, 20) := ⟨⟨by decide +kernel, by decide +kernel⟩, List.mem_of_getElem? (i := 693) (by decide +kernel), List.mem_of_getElem? (i := 796) (by decide +kernel), List.mem_of_getElem? (i := 797) (by decide +kernel)⟩
theorem lw_p24 : lw_okq (⟨"FormulaPagesModel", "length", "(I)I"⟩, 20) := ⟨⟨by decide +kernel, by decide +kernel⟩, List.mem_of_getElem? (i := 693) (by decide +kernel), List.mem_of_getElem? (i := 804) (by decide +kernel), List.mem_of_getElem? (i := 805) (by decide +kernel)⟩
theorem lw_p25 : lw_okq (⟨"FormulaPagesModel", "splits", "(I)Z"⟩, 20) := ⟨⟨by decide +kernel, by decide +kernel⟩, List.mem_of_getElem? (i := 693) (by decide +kernel), List.mem_of_getElem? (i := 808) (by decide +kernel), List.mem_of_getElem? (i := 809) (by decide +kernel)⟩
theorem lw_p26 : lw_okq (⟨"FormulaPagesModel", "write", "(II)I"⟩, 20) := ⟨⟨by decide +kernel, by decide +kernel⟩, List.mem_of_getElem? (i := 693) (by decide +kernel), List.mem_of_getElem? (i := 812) (by decide +kernel), List.mem_of_getElem? (i := 813) (by decide +kernel)⟩
theorem lw_p27 : lw_okq (⟨"FormulaPagesModel", "replays", "(II)Z"⟩, 20) := ⟨⟨by decide +kernel, by decide +kernel⟩, List.mem_of_getElem? (i := 693) (by decide +kernel), List.mem_of_getElem? (i := 832) (by decide +kernel), List.mem_of_getElem? (i := 833) (by decide +kernel)⟩
theorem lw_p28 : lw_okq (⟨"FormulaPagesModel", "fill", "(I)V"⟩, 20) := ⟨⟨by decide +kernel, by decide +kernel⟩, List.mem_of_getElem? (i := 693) (by decide +kernel), List.mem_of_getElem? (i := 848) (by decide +kernel), List.mem_of_getElem? (i := 849) (by decide +kernel)⟩
theorem lw_p29 : lw_okq (⟨"FormulaPagesModel", "raise", "(I)I"⟩, 20) := ⟨⟨by decide +kernel, by decide +kernel⟩, List.mem_of_getElem? (i := 693) (by decide +kernel), List.mem_of_getElem? (i := 864) (by decide +kernel), List.mem_of_getElem? (i := 865) (by decide +kernel)⟩
def lw_privs_2 : List (MethodName × Nat) := [(⟨"FormulaPages", "requirePageByte", "(II)V"⟩, 6), (⟨"FormulaPages", "requireMask", "(I)V"⟩, 6), (⟨"FormulaPagesModel", "copy", "(II)V"⟩, 20), (⟨"FormulaPagesModel", "may", "()Z"⟩, 20), (⟨"FormulaPagesModel", "isAltered", "()Z"⟩, 20), (⟨"FormulaPagesModel", "comes", "(I)Z"⟩, 20), (⟨"FormulaPagesModel", "look", "()I"⟩, 20), (⟨"FormulaPagesModel", "hashOf", "()I"⟩, 20), (⟨"FormulaPagesModel", "length", "(I)I"⟩, 20), (⟨"FormulaPagesModel", "splits", "(I)Z"⟩, 20), (⟨"FormulaPagesModel", "write", "(II)I"⟩, 20), (⟨"FormulaPagesModel", "replays", "(II)Z"⟩, 20), (⟨"FormulaPagesModel", "fill", "(I)V"⟩, 20), (⟨"FormulaPagesModel", "raise", "(I)I"⟩, 20)]
theorem lw_r2 : ∀ q ∈ lw_privs_2, lw_okq q := List.forall_mem_cons.mpr ⟨lw_p16, List.forall_mem_cons.mpr ⟨lw_p17, List.forall_mem_cons.mpr ⟨lw_p18, List.forall_mem_cons.mpr ⟨lw_p19, List.forall_mem_cons.mpr ⟨lw_p20, List.forall_mem_cons.mpr ⟨lw_p21, List.forall_mem_cons.mpr ⟨lw_p22, List.forall_mem_cons.mpr ⟨lw_p23, List.forall_mem_cons.mpr ⟨lw_p24, List.forall_mem_cons.mpr ⟨lw_p25, List.forall_mem_cons.mpr ⟨lw_p26, List.forall_mem_cons.mpr ⟨lw_p27, List.forall_mem_cons.mpr ⟨lw_p28, List.forall_mem_cons.mpr ⟨lw_p29, fun _ h => absurd h List.not_mem_nil⟩⟩⟩⟩⟩⟩⟩⟩⟩⟩⟩⟩⟩⟩
def lw_privs : List (MethodName × Nat) := lw_privs_1 ++ (lw_privs_2)
def lw_tbl : List Cond := k2_sels lw_privs ++ tables_1
theorem lw_privs_ok : ∀ q ∈ lw_privs, lw_okq q := by
  show ∀ q ∈ lw_privs_1 ++ (lw_privs_2), lw_okq q
  exact List.forall_mem_append.mpr ⟨lw_r1, lw_r2⟩
-- ===== end of PART A; then your names; then what follows =====
end
section
/-! ===== BEGIN words of one list among another's, by their places ===== -/
theorem goodIn_r {big : List Cond} (ws : List Cond) (ps : List Nat) (hp : ws = ps.filterMap (fun i => big[i]?)) (h : ws.all goodWord = true) : GoodIn big ws := by
  intro w hw
  have h1 := List.all_eq_true.mp h w hw
  rw [hp] at hw
  obtain ⟨i, -, hi⟩ := List.mem_filterMap.mp hw
  have hm : w ∈ big := by first | exact List.mem_of_getElem? hi | exact List.getElem?_mem hi
  exact ⟨hm, good_of_word h1⟩
theorem goodIn_app {big a b : List Cond} (ha : GoodIn big a) (hb : GoodIn big b) : GoodIn big (a ++ b) := fun w h => (List.mem_append.mp h).elim (ha w) (hb w)
theorem goodIn_ca {big a b : List Cond} {c : Cond} (ha : GoodIn big (c :: a)) (hb : GoodIn big b) : GoodIn big (c :: (a ++ b)) := fun w h => (List.mem_cons.mp h).elim (fun e => ha w (List.mem_cons.mpr (Or.inl e))) (fun h => (List.mem_append.mp h).elim (fun h => ha w (List.mem_cons.mpr (Or.inr h))) (hb w))
theorem goodIn_sub {big ws : List Cond} (hm : ∀ w ∈ ws, w ∈ big) (h : ws.all goodWord = true) : GoodIn big ws := fun w hw => ⟨hm w hw, good_of_word (List.all_eq_true.mp h w hw)⟩
/-! ===== END ===== -/

/-! ===== BEGIN exceptions that leave a method, and their catching by the caller (launches without stack traces) ===== -/
section VXA
/-! The laws vx_back, vx_callV, vx_callS, vx_callSW, vx_throw0, vx_throwS follow proofs of the library, with one case more: JvmDerived/Free/Laws.lean (Back.of_free), Shelf42/LK1.lean (callV, callS), Shelf/KitTraced.lean (throwNew0V, throwNewS). -/
/-- where a method has thrown q: the class by its name, the cell, what was written, the world -/
def vx_T (XC : String → State → State → Prop) (st : State) (q : Addr) (t : State) (mc ms : Nat) (free : Addr → Prop) : Prop :=
  ∃ (E : String) (ce : Cell) (L : List Loc), XC E st t ∧ t.heap[q]? = some ce ∧ ce.vm = .none ∧ st.vm.findClass E = some ce.cls ∧ st.WarmedH t.vm ∧ st.sameButNew ({ t with vm := st.vm } : State) L mc ms ∧ ∀ z ∈ L, free z.base
def vx_Q (Qc : Array Value → State → Outcome → State → Prop) (XC : String → State → State → Prop) (mc ms : Nat) (free : Addr → Prop) : Array Value → State → Outcome → State → Prop := fun a st o t =>
  (Qc a st o t ∧ ∃ L, FrameEnd st o t L mc ms ∧ ∀ q ∈ L, free q.base) ∨ ∃ q, o = .threw q ∧ vx_T XC st q t mc ms free
/-- a callee that returns or throws -/
def vx_Met (l : Launch) (y : MethodName) (ws : List Cond) (rm : Room) (Pc : Array Value → State → Prop) (Qc : Array Value → State → Outcome → State → Prop) (XC : String → State → State → Prop) (mc ms : Nat) (free : Addr → Prop) : Prop :=
  MetFree l y (headSpec ws rm) Pc (fun _ _ _ _ _ => True) (vx_Q Qc XC mc ms free)
def vx_Post (XC : String → State → State → Prop) (mc ms : Nat) (free : Addr → Prop) : Pt → Array Value → Addr → Pt → Prop := fun A a q B =>
  ∃ (g : JFrame) (mk : MethodId) (t : State) (L : List Loc) (E : String) (ce : Cell), B.U.heap = t.heap ∧ B.U.vm = t.vm ∧ XC E (A.U.calling g mk a) t ∧ t.heap[q]? = some ce ∧ ce.vm = .none ∧ A.U.vm.findClass E = some ce.cls ∧ B.locs = A.locs ++ L ∧ (∀ z ∈ L, free z.base) ∧ B.cells = A.cells + mc ∧ B.slots = A.slots + ms
def vx_Back (l : Launch) (R : Room) (p : Program) (e : Env) (below : List Frame) (s : State) (sargs : Array Value) (y : MethodName) (len W9 : Nat)
    (Pre : Pt → Array Value → Prop) (Post : Pt → Array Value → Option Value → Pt → Prop) (PostX : Pt → Array Value → Addr → Pt → Prop) : Prop :=
  ∀ (m : MethodId) (meth : Method) (c : Code) (A : Pt) (g : JFrame) (ig : Instr) (mk : MethodId) (a : Array Value),
    Stand p l e R s m sargs below meth c A.U A.locs A.cells A.slots → g.method = m → g.locals.size = c.maxLocals → decode c.code g.pc = .ok (ig, len) →
    2 * g.monitorRoom + (g.stack.map fun v => v.category).sum ≤ W9 → A.U.methodNamed? y = some mk → Pre A a →
    (∃ (v : Option Value) (B : Pt), Stand p l e R s m sargs below meth c B.U B.locs B.cells B.slots ∧ Post A a v B ∧
      Steps p.tables e below (doInvoke e (A.U.setTop g) [] mk a).1 (B.U.setTop { g with pc := g.pc + len, stack := v.toList ++ g.stack })) ∨
    (∃ (q : Addr) (B : Pt), Stand p l e R s m sargs below meth c B.U B.locs B.cells B.slots ∧ PostX A a q B ∧
      Steps p.tables e below (doInvoke e (A.U.setTop g) [] mk a).1 ((B.U.setTop g).pushFrame (.throwing q)))
section Payer
variable {l : Launch} {R : Room} {p : Program} {e : Env} {below : List Frame} {s : State} {sargs : Array Value} {y : MethodName} {len W9 : Nat}
theorem vx_back {ws : List Cond} {rm : Room} {Pc : Array Value → State → Prop} {Qc : Array Value → State → Outcome → State → Prop} {XC : String → State → State → Prop} {mc ms : Nat} {free : Addr → Prop} {bytes : ByteArray} {maxL : Nat} {ret : Option FieldType}
    (hM : vx_Met l y ws rm Pc Qc XC mc ms free) (hblind : FrameBlind Pc) (hrc : rm.cells = mc) (hrs : rm.slots = ms)
    (hframes : rm.frames + 1 ≤ R.frames) (hlocals : W9 + (maxL + 11) + rm.locals ≤ R.locals)
    (hws : ∀ w ∈ ws, ∀ a' U, s.WarmedH U.vm → w.before a' U = true) (hcode : Cond.code y bytes maxL ret ∈ ws) (hinit : ∀ a' U, s.WarmedH U.vm → (Cond.initialized y.cls).before a' U = true) :
    vx_Back l R p e below s sargs y len W9 (PreOf R mc ms Pc) (PostOf Qc mc ms free) (vx_Post XC mc ms free) := by
  intro m meth c A g ig mk a X hg hsize hdg hW hn hp
  have h1 : (headSpec ws rm).pre.before a A.U = true := atoms_intro fun w hw => hws w hw _ _ X.warmed
  have h2 : (Cond.code y bytes maxL ret).before a A.U = true := hws _ hcode _ _ X.warmed
  have h3 : (Cond.initialized y.cls).before a A.U = true := hinit _ _ X.warmed
  have h4 : A.cells + (headSpec ws rm).room.cells ≤ R.cells := by rw [show (headSpec ws rm).room.cells = mc from hrc]; exact hp.1
  have h5 : A.slots + (headSpec ws rm).room.slots ≤ R.slots := by rw [show (headSpec ws rm).room.slots = ms from hrs]; exact hp.2.1
  have hPc : Pc a (A.U.calling g mk a) := hblind _ _ _ _ hp.2.2
  obtain ⟨U, Ls, c0, s0⟩ := A
  dsimp only [Pt.U, Pt.locs, Pt.cells, Pt.slots] at h1 h2 h3 h4 h5 X hn hPc ⊢
  obtain ⟨methY, cY, hmY, hcY, -, hlY, -, -, -, -⟩ := Cond.code_spec hn h2
  obtain ⟨kY, hkY, -⟩ := className_of_methodNamed hn
  have hinitY : kY.init = .initialized := Cond.initialized_spec (findClass_of_methodNamed hn) hkY h3
  have h : At U g.method c below := by rw [hg]; exact X.here
  have hlocals9 : W9 + (maxL + 11) + (headSpec ws rm).room.locals ≤ R.locals := hlocals
  have happ : (headSpec ws rm).appliesLoose y e.platform (U.calling g mk a) = true :=
    Spec.appliesLoose_calling (g := g) h hdg hn hkY hinitY
      (X.room_calling (g := g) (R' := (headSpec ws rm).room) hsize hmY hcY hframes (by rw [hlY]; omega) h4 h5) h1
  obtain ⟨mid, hmid⟩ := h.above
  have hfr : (U.setTop g).frames = (.java g :: mid) ++ below := by rw [State.frames_setTop' g h.top, hmid]; rfl
  obtain ⟨o, s₂, hsteps, -, hend, hq⟩ := Steps.callFree hM p X.admits X.cas X.clock (acts := []) hfr happ hPc trivial
  have hq' : vx_Q Qc XC mc ms free a (U.calling g mk a) o s₂ := hq
  rw [State.frames_setTop' g h.top] at hend
  obtain ⟨g₀, hg0⟩ := Option.isSome_iff_exists.mp h.top
  obtain ⟨r, hr⟩ := State.topJava?_eq_some.mp hg0
  have hr' : (({ U with heap := s₂.heap, slotsUsed := s₂.slotsUsed } : State).setVm s₂.vm).frames = .java g₀ :: r := hr
  rcases hq' with ⟨hqc, L, hfe, hL⟩ | ⟨q, rfl, E, ce, L, hx, hce, hcv, hcl, hW₂, hsm, hL⟩
  · obtain ⟨⟨v, rfl⟩, hW₂, e2, q2, q3, q4, q5, q6⟩ := id hfe
    have e3 : s₂ = ({ (U.calling g mk a).setFrames s₂.frames with heap := s₂.heap, slotsUsed := s₂.slotsUsed } : State).setVm s₂.vm := by
      have : s₂ = ({ s₂ with vm := (U.calling g mk a).vm } : State).setVm s₂.vm := rfl
      rw [e2] at this
      exact this
    obtain ⟨c₂, i₂, len₂, hc₂, hd₂, hf₂⟩ := hend
    have hW' : U.WarmedH s₂.vm := hW₂
    have hcc : c₂ = c := by
      have h1 : s₂.code? g.method = U.code? g.method := by
        rw [State.code?_eq, State.code?_eq, hW'.alike.method?]
      exact Option.some.inj (hc₂.symm.trans (h1.trans h.code))
    subst hcc
    have hlen : len₂ = len := by rw [hdg] at hd₂; cases hd₂; rfl
    subst hlen
    have hs₂ : s₂ = (({ U with heap := s₂.heap, slotsUsed := s₂.slotsUsed } : State).setVm s₂.vm).setTop { g with pc := g.pc + len₂, stack := v.toList ++ g.stack } := by
      refine e3.trans ?_
      rw [hf₂, State.calling_eq h.top, State.setFrames_setFrames, State.setTop_of_frames _ hr', hr]
      rfl
    have hsame : U.sameButNew ({ U with heap := s₂.heap, slotsUsed := s₂.slotsUsed } : State) L mc ms := by
      refine ⟨?_, q2, q3, q4, q5, q6⟩
      obtain ⟨t, ht, -⟩ := State.frames_cons hr
      show ({ U with heap := s₂.heap, slotsUsed := s₂.slotsUsed } : State) = { U.setFrames U.frames with heap := s₂.heap, slotsUsed := s₂.slotsUsed }
      rw [State.setFrames_self ht]
    subst hg
    refine Or.inl ⟨v, ⟨(({ U with heap := s₂.heap, slotsUsed := s₂.slotsUsed } : State).setVm s₂.vm), Ls ++ L, c0 + mc, s0 + ms⟩,
      ⟨X.admits, X.cas, X.clock, X.frames, X.room, X.hears, X.method, X.code, (X.here.setHeapUsed s₂.heap s₂.slotsUsed).setVm hW'.alike, X.tail, State.WarmedH.trans X.warmed hW', X.limits, X.bytes, X.same.trans (hsame.setVm s.vm)⟩,
      ⟨g, mk, s₂, L, rfl, rfl, hqc, rfl, hL, rfl, rfl⟩, ?_⟩
    show Steps p.tables e below _ ((({ U with heap := s₂.heap, slotsUsed := s₂.slotsUsed } : State).setVm s₂.vm).setTop { g with pc := g.pc + len₂, stack := v.toList ++ g.stack })
    rw [← hs₂]
    exact hsteps
  · obtain ⟨e2, q2, q3, q4, q5, q6⟩ := id hsm
    have e3 : s₂ = ({ (U.calling g mk a).setFrames s₂.frames with heap := s₂.heap, slotsUsed := s₂.slotsUsed } : State).setVm s₂.vm := by
      have : s₂ = ({ s₂ with vm := (U.calling g mk a).vm } : State).setVm s₂.vm := rfl
      rw [e2] at this
      exact this
    have hf₂ : s₂.frames = .throwing q :: .java g :: U.frames.tail := hend
    have hW' : U.WarmedH s₂.vm := hW₂
    have hs₂ : s₂ = ((({ U with heap := s₂.heap, slotsUsed := s₂.slotsUsed } : State).setVm s₂.vm).setTop g).pushFrame (.throwing q) := by
      refine e3.trans ?_
      rw [hf₂, State.calling_eq h.top, State.setFrames_setFrames, State.pushFrame, State.frames_setTop _ hr', State.setTop_of_frames _ hr', State.setFrames_setFrames, hr]
      rfl
    have hsame : U.sameButNew ({ U with heap := s₂.heap, slotsUsed := s₂.slotsUsed } : State) L mc ms := by
      refine ⟨?_, q2, q3, q4, q5, q6⟩
      obtain ⟨t, ht, -⟩ := State.frames_cons hr
      show ({ U with heap := s₂.heap, slotsUsed := s₂.slotsUsed } : State) = { U.setFrames U.frames with heap := s₂.heap, slotsUsed := s₂.slotsUsed }
      rw [State.setFrames_self ht]
    subst hg
    refine Or.inr ⟨q, ⟨(({ U with heap := s₂.heap, slotsUsed := s₂.slotsUsed } : State).setVm s₂.vm), Ls ++ L, c0 + mc, s0 + ms⟩,
      ⟨X.admits, X.cas, X.clock, X.frames, X.room, X.hears, X.method, X.code, (X.here.setHeapUsed s₂.heap s₂.slotsUsed).setVm hW'.alike, X.tail, State.WarmedH.trans X.warmed hW', X.limits, X.bytes, X.same.trans (hsame.setVm s.vm)⟩,
      ⟨g, mk, s₂, L, E, ce, rfl, rfl, hx, hce, hcv, hcl, rfl, hL, rfl, rfl⟩, ?_⟩
    show Steps p.tables e below _ (((({ U with heap := s₂.heap, slotsUsed := s₂.slotsUsed } : State).setVm s₂.vm).setTop g).pushFrame (.throwing q))
    rw [← hs₂]
    exact hsteps
end Payer
section Calls
variable {p : Program} {l : Launch} {e : Env} {R : Room} {s : State} {m : MethodId} {args : Array Value} {below : List Frame} {meth : Method} {c : Code} {T : State} {locs : List Loc} {cells slots : Nat}
theorem vx_callV (X : Stand p l e R s m args below meth c T locs cells slots) (hexec : p.tables.exec = Jvm.exec) {own C : String} {index : Nat} {y : MethodName} {bytes : ByteArray} {maxL : Nat} {ret : Option FieldType}
    (hown : s.vm.findClass own = some m.cls) (hlink : (Cond.methodLink own index y).before args s = true) (hinst : (Cond.instanceMethod y).before args s = true) (hsel : (Cond.selects C y y).before args s = true)
    (hcode : (Cond.code y bytes maxL ret).before args s = true) (hy : y.cls ≠ "java/lang/invoke/MethodHandle" ∧ y.cls ≠ "java/lang/invoke/VarHandle")
    {W9 : Nat} {Pre : Pt → Array Value → Prop} {Post : Pt → Array Value → Option Value → Pt → Prop} {PostX : Pt → Array Value → Addr → Pt → Prop} (hK : vx_Back l R p e below s args y 3 W9 Pre Post PostX)
    {b : Addr} {cellB : Cell} (hcell : T.heap[b]? = some cellB) (hobj : cellB.vm.isStatics = false) (hcls : s.vm.findClass C = some cellB.cls)
    {g : JFrame} (hg : g.method = m) (hsize : g.locals.size = c.maxLocals) {argsL rest : List Value} (hlen : ∀ sig, parseMethodDescriptor y.desc = some sig → argsL.length = sig.parameters.length)
    (hstack : g.stack = argsL.reverse ++ .ref b :: rest) (hW : 2 * g.monitorRoom + (rest.map fun v => v.category).sum ≤ W9) (hdg : decode c.code g.pc = .ok (.invokevirtual index, 3))
    (hpre : ∀ vm₁, s.WarmedH vm₁ → Pre ⟨T.setVm vm₁, locs, cells, slots⟩ (Value.ref b :: argsL).toArray) :
    (∃ (v : Option Value) (vm₁ : Vm) (B : Pt), s.WarmedH vm₁ ∧ Stand p l e R s m args below meth c B.U B.locs B.cells B.slots ∧ Post ⟨T.setVm vm₁, locs, cells, slots⟩ (Value.ref b :: argsL).toArray v B ∧
      ∀ target, Steps p.tables e below (B.U.setTop { g with pc := g.pc + 3, stack := v.toList ++ rest }) target → Steps p.tables e below (T.setTop g) target) ∨
    (∃ (q : Addr) (vm₁ : Vm) (B : Pt), s.WarmedH vm₁ ∧ Stand p l e R s m args below meth c B.U B.locs B.cells B.slots ∧ PostX ⟨T.setVm vm₁, locs, cells, slots⟩ (Value.ref b :: argsL).toArray q B ∧
      Steps p.tables e below (T.setTop g) ((B.U.setTop { g with stack := rest }).pushFrame (.throwing q))) := by
  obtain ⟨mk, methM, hnamed, hmethM, hstM, habM⟩ := Cond.instanceMethod_spec hinst
  obtain ⟨methM', cM, hmethM', -, -, -, -, -, -, hsigM⟩ := Cond.code_spec hnamed hcode
  cases hmethM.symm.trans hmethM'
  obtain ⟨c2, r2, m2, q1, q2, q3, q4, kP, hkP, hkPi⟩ := Cond.selects_spec hsel
  cases hcls.symm.trans q1
  cases (State.methodFound?_of_named hnamed hy).symm.trans q2
  cases hnamed.symm.trans q3
  have hselP : selectMethod e.platform s.vm cellB.cls mk = .method mk := by rw [Launch.admits_selectMethod X.admits]; exact q4
  obtain ⟨vm₁, X₁, hstep₁⟩ := X.invokevirtual hexec hown hlink hnamed hmethM hstM hkP hkPi hy (a := b) (cell := cellB) hcell
    (fun z h => by rw [h] at hobj; cases hobj) hselP hmethM habM hkP hkPi (g := g) hg (argsL := argsL) (rest := rest) (hlen _ hsigM) hstack hdg
  rcases hK m meth c ⟨T.setVm vm₁, locs, cells, slots⟩ { g with stack := rest } (.invokevirtual index) mk (Value.ref b :: argsL).toArray X₁ hg hsize hdg hW (X₁.named hnamed) (hpre vm₁ X₁.warmed) with ⟨v, B, X', hpost, hsteps⟩ | ⟨q, B, X', hpost, hsteps⟩
  · exact Or.inl ⟨v, vm₁, B, X₁.warmed, X', hpost, fun target h => hstep₁ _ fun acts => by rw [doInvoke_state]; exact hsteps.trans h⟩
  · exact Or.inr ⟨q, vm₁, B, X₁.warmed, X', hpost, hstep₁ _ fun acts => by rw [doInvoke_state]; exact hsteps⟩
theorem vx_callS (X : Stand p l e R s m args below meth c T locs cells slots) (hexec : p.tables.exec = Jvm.exec) {own : String} {index : Nat} {y : MethodName} {bytes : ByteArray} {maxL : Nat} {ret : Option FieldType}
    (hown : s.vm.findClass own = some m.cls) (hlink : (Cond.methodLink own index y).before args s = true) (hstat : (Cond.static y).before args s = true) (hinit : (Cond.initialized y.cls).before args s = true)
    (hcode : (Cond.code y bytes maxL ret).before args s = true) (hy : y.cls ≠ "java/lang/invoke/MethodHandle" ∧ y.cls ≠ "java/lang/invoke/VarHandle")
    {W9 : Nat} {Pre : Pt → Array Value → Prop} {Post : Pt → Array Value → Option Value → Pt → Prop} {PostX : Pt → Array Value → Addr → Pt → Prop} (hK : vx_Back l R p e below s args y 3 W9 Pre Post PostX)
    {g : JFrame} (hg : g.method = m) (hsize : g.locals.size = c.maxLocals) {argsL rest : List Value} (hlen : ∀ sig, parseMethodDescriptor y.desc = some sig → argsL.length = sig.parameters.length)
    (hstack : g.stack = argsL.reverse ++ rest) (hW : 2 * g.monitorRoom + (rest.map fun v => v.category).sum ≤ W9) (hdg : decode c.code g.pc = .ok (.invokestatic index, 3))
    (hpre : ∀ vm₁, s.WarmedH vm₁ → Pre ⟨T.setVm vm₁, locs, cells, slots⟩ argsL.toArray) :
    (∃ (v : Option Value) (vm₁ : Vm) (B : Pt), s.WarmedH vm₁ ∧ Stand p l e R s m args below meth c B.U B.locs B.cells B.slots ∧ Post ⟨T.setVm vm₁, locs, cells, slots⟩ argsL.toArray v B ∧
      ∀ target, Steps p.tables e below (B.U.setTop { g with pc := g.pc + 3, stack := v.toList ++ rest }) target → Steps p.tables e below (T.setTop g) target) ∨
    (∃ (q : Addr) (vm₁ : Vm) (B : Pt), s.WarmedH vm₁ ∧ Stand p l e R s m args below meth c B.U B.locs B.cells B.slots ∧ PostX ⟨T.setVm vm₁, locs, cells, slots⟩ argsL.toArray q B ∧
      Steps p.tables e below (T.setTop g) ((B.U.setTop { g with stack := rest }).pushFrame (.throwing q))) := by
  obtain ⟨mk, hnamed⟩ := Cond.code_named hcode
  obtain ⟨methM, cM, hmethM, -, -, -, -, -, -, hsigM⟩ := Cond.code_spec hnamed hcode
  have hstatic : methM.isStatic = true := Cond.static_spec hnamed hmethM hstat
  obtain ⟨kP, hkP, -⟩ := className_of_methodNamed hnamed
  have hinitP : kP.init = .initialized := Cond.initialized_spec (findClass_of_methodNamed hnamed) hkP hinit
  obtain ⟨vm₁, X₁, hstep₁⟩ := X.invokestatic hexec hown hlink hnamed hmethM hstatic hkP hinitP hy (g := g) hg (argsL := argsL) (rest := rest) (hlen _ hsigM) hstack hdg
  rcases hK m meth c ⟨T.setVm vm₁, locs, cells, slots⟩ { g with stack := rest } (.invokestatic index) mk argsL.toArray X₁ hg hsize hdg hW (X₁.named hnamed) (hpre vm₁ X₁.warmed) with ⟨v, B, X', hpost, hsteps⟩ | ⟨q, B, X', hpost, hsteps⟩
  · exact Or.inl ⟨v, vm₁, B, X₁.warmed, X', hpost, fun target h => hstep₁ _ fun acts => by rw [doInvoke_state]; exact hsteps.trans h⟩
  · exact Or.inr ⟨q, vm₁, B, X₁.warmed, X', hpost, hstep₁ _ fun acts => by rw [doInvoke_state]; exact hsteps⟩
end Calls
theorem vx_cls {s : State} {T : State} {vm₁ : Vm} {E : String} {k : ClassId} (hW : s.WarmedH vm₁) (h : (T.setVm vm₁).vm.findClass E = some k) : s.vm.findClass E = some k := by
  have h1 : vm₁.findClass E = some k := h
  rw [hW.alike.findClass] at h1
  exact h1
/-- the method's frame g, with q thrown over it -/
def vx_W (p : Program) (l : Launch) (e : Env) (R : Room) (s : State) (m : MethodId) (args : Array Value) (below : List Frame) (meth : Method) (c : Code) (H : Heap) (locs : List Loc) (cells slots : Nat) (Q : State → Prop) (g : JFrame) (q : Addr) : Prop :=
  ∀ T : State, T.heap = H → Stand p l e R s m args below meth c T locs cells slots → ∃ t, Steps p.tables e below ((T.setTop g).pushFrame (.throwing q)) t ∧ Q t
def vx_Run (p : Program) (l : Launch) (e : Env) (R : Room) (s : State) (m : MethodId) (args : Array Value) (below : List Frame) (meth : Method) (c : Code) (H : Heap) (locs : List Loc) (cells slots mc ms : Nat) (g : JFrame) (rest : List Value) (Qa : State → Outcome → State → Prop) (XC : String → State → State → Prop) (free : Addr → Prop) : Prop :=
  ∀ T : State, T.heap = H → Stand p l e R s m args below meth c T locs cells slots →
    (∃ (v : Option Value) (st₀ t T' : State) (L : List Loc), st₀.heap = H ∧ Stand p l e R s m args below meth c T' (locs ++ L) (cells + mc) (slots + ms) ∧ (∀ q ∈ L, free q.base) ∧ T'.heap = t.heap ∧ T'.vm = t.vm ∧ Qa st₀ (.returned v) t ∧
      Goes p e below T g T' { g with pc := g.pc + 3, stack := v.toList ++ rest }) ∨
    (∃ (q : Addr) (st₀ t T' : State) (L : List Loc) (E : String) (ce : Cell), st₀.heap = H ∧ Stand p l e R s m args below meth c T' (locs ++ L) (cells + mc) (slots + ms) ∧ (∀ z ∈ L, free z.base) ∧ T'.heap = t.heap ∧ T'.vm = t.vm ∧ XC E st₀ t ∧ t.heap[q]? = some ce ∧ ce.vm = .none ∧ s.vm.findClass E = some ce.cls ∧
      Steps p.tables e below (T.setTop g) ((T'.setTop { g with stack := rest }).pushFrame (.throwing q)))
def vx_X {S : Type} (px : S → Prop) (B : String → S → State → Prop) (A : Nat → Prop) : String → State → State → Prop := fun E st t => ∃ u : S, px u ∧ B E u t ∧ va_F A st t
section Runs
variable {p : Program} {l : Launch} {e : Env} {R : Room} {s : State} {m : MethodId} {args : Array Value} {below : List Frame} {meth : Method} {c : Code} {H : Heap} {locs : List Loc} {cells slots : Nat}
variable {y : MethodName} {bytes cc : ByteArray} {maxL nL mc ms n index : Nat} {ret : Option FieldType} {ws : List Cond} {rm : Room} {Pc : Array Value → State → Prop} {Qc : Array Value → State → Outcome → State → Prop} {XC : String → State → State → Prop} {free : Addr → Prop} {Ts : List Cond} {own C : String} {b : Addr} {As rest : List Value} {g : JFrame}
theorem vx_callBack (cb : CallB R s args own index y bytes maxL ret ws rm mc ms n) (hM : vx_Met l y ws rm Pc Qc XC mc ms free) (hbl : FrameBlind Pc) : vx_Back l R p e below s args y 3 8 (PreOf R mc ms Pc) (PostOf Qc mc ms free) (vx_Post XC mc ms free) := by
  obtain ⟨hrc, hrs, hfr, hlo, hws, hcw, -, hini, -⟩ := cb
  exact vx_back (bytes := bytes) (maxL := maxL) (ret := ret) hM hbl hrc hrs hfr hlo hws hcw (fun a' U hW => word_at hW (Or.inl (by first | rfl | simp [Cond.onTables, Cond.keeps, Cond.steady])) hini)
theorem vx_runV (S : CallFix p m c cc nL s args Ts own) (hM : vx_Met l y ws rm Pc Qc XC mc ms free) (cw : CallW R s args own C index y bytes maxL ret ws rm mc ms n) (hp : PreV s H C b Pc As)
    (hg : g.method = m) (hn : As.length = n) (hsize : g.locals.size = nL) (hstack : g.stack = As.reverse ++ .ref b :: rest) (hW : 2 * g.monitorRoom + (rest.map fun v => v.category).sum ≤ 8) (hdg : decode cc g.pc = .ok (.invokevirtual index, 3)) (hf : cells + mc ≤ R.cells ∧ slots + ms ≤ R.slots) :
    vx_Run p l e R s m args below meth c H locs cells slots mc ms g rest (Qc (Value.ref b :: As).toArray) XC free := by
  have hK : vx_Back l R p e below s args y 3 8 (PreOf R mc ms Pc) (PostOf Qc mc ms free) (vx_Post XC mc ms free) := vx_callBack cw.1 hM hp.1
  obtain ⟨⟨-, -, -, -, -, -, hcode, -, hy, hlen, hl⟩, hin, hse⟩ := cw
  obtain ⟨hx, hb, hml, ho, -⟩ := S
  obtain ⟨-, ⟨cellB, hcB, hoB, hclB⟩, hPc⟩ := hp
  intro T hT X
  rcases vx_callV X hx (C := C) (bytes := bytes) (maxL := maxL) (ret := ret) ho hl hin hse hcode hy hK (by rw [hT]; exact hcB) hoB hclB hg (hsize.trans hml.symm) (argsL := As) (rest := rest) (fun sig h => hn.trans (hlen sig h)) hstack hW (by rw [hb]; exact hdg)
    (fun vm₁ hW₁ => ⟨hf.1, hf.2, hPc (T.setVm vm₁) hT hW₁⟩) with ⟨v, vm₁, ⟨U', l2, c2, s2⟩, hW₁, X', ⟨g', mk, t, L, e1, e2, hq, h1, hL, h2, h3⟩, st⟩ | ⟨q, vm₁, ⟨U', l2, c2, s2⟩, hW₁, X', ⟨g', mk, t, L, E, ce, e1, e2, hq, hce, hcv, hcl, h1, hL, h2, h3⟩, st⟩
  · dsimp only [Pt.U, Pt.locs, Pt.cells, Pt.slots] at X' e1 e2 h1 h2 h3 st
    subst h1; subst h2; subst h3
    exact Or.inl ⟨v, (T.setVm vm₁).calling g' mk (Value.ref b :: As).toArray, t, U', L, hT, X', hL, e1, e2, hq, st⟩
  · dsimp only [Pt.U, Pt.locs, Pt.cells, Pt.slots] at X' e1 e2 h1 h2 h3 st hcl
    subst h1; subst h2; subst h3
    exact Or.inr ⟨q, (T.setVm vm₁).calling g' mk (Value.ref b :: As).toArray, t, U', L, E, ce, hT, X', hL, e1, e2, hq, hce, hcv, vx_cls hW₁ hcl, st⟩
theorem vx_runS (S : CallFix p m c cc nL s args Ts own) (hM : vx_Met l y ws rm Pc Qc XC mc ms free) (cw : CallB R s args own index y bytes maxL ret ws rm mc ms n ∧ (Cond.static y).before args s = true) (hp : PreS s H Pc As)
    (hg : g.method = m) (hn : As.length = n) (hsize : g.locals.size = nL) (hstack : g.stack = As.reverse ++ rest) (hW : 2 * g.monitorRoom + (rest.map fun v => v.category).sum ≤ 8) (hdg : decode cc g.pc = .ok (.invokestatic index, 3)) (hf : cells + mc ≤ R.cells ∧ slots + ms ≤ R.slots) :
    vx_Run p l e R s m args below meth c H locs cells slots mc ms g rest (Qc As.toArray) XC free := by
  have hK : vx_Back l R p e below s args y 3 8 (PreOf R mc ms Pc) (PostOf Qc mc ms free) (vx_Post XC mc ms free) := vx_callBack cw.1 hM hp.1
  obtain ⟨⟨-, -, -, -, -, -, hcode, hini, hy, hlen, hl⟩, hstt⟩ := cw
  obtain ⟨hx, hb, hml, ho, -⟩ := S
  intro T hT X
  rcases vx_callS X hx (bytes := bytes) (maxL := maxL) (ret := ret) ho hl hstt hini hcode hy hK hg (hsize.trans hml.symm) (argsL := As) (rest := rest) (fun sig h => hn.trans (hlen sig h)) hstack hW (by rw [hb]; exact hdg)
    (fun vm₁ hW₁ => ⟨hf.1, hf.2, hp.2 (T.setVm vm₁) hT hW₁⟩) with ⟨v, vm₁, ⟨U', l2, c2, s2⟩, hW₁, X', ⟨g', mk, t, L, e1, e2, hq, h1, hL, h2, h3⟩, st⟩ | ⟨q, vm₁, ⟨U', l2, c2, s2⟩, hW₁, X', ⟨g', mk, t, L, E, ce, e1, e2, hq, hce, hcv, hcl, h1, hL, h2, h3⟩, st⟩
  · dsimp only [Pt.U, Pt.locs, Pt.cells, Pt.slots] at X' e1 e2 h1 h2 h3 st
    subst h1; subst h2; subst h3
    exact Or.inl ⟨v, (T.setVm vm₁).calling g' mk As.toArray, t, U', L, hT, X', hL, e1, e2, hq, st⟩
  · dsimp only [Pt.U, Pt.locs, Pt.cells, Pt.slots] at X' e1 e2 h1 h2 h3 st hcl
    subst h1; subst h2; subst h3
    exact Or.inr ⟨q, (T.setVm vm₁).calling g' mk As.toArray, t, U', L, E, ce, hT, X', hL, e1, e2, hq, hce, hcv, vx_cls hW₁ hcl, st⟩
end Runs
section Rows
variable {p : Program} {l : Launch} {e : Env} {R : Room} {s : State} {m : MethodId} {args : Array Value} {below : List Frame} {meth : Method} {c : Code} {H : Heap} {locs : List Loc} {cells slots : Nat} {Q : State → Prop}
variable {mc ms : Nat} {free : Addr → Prop} {A0 A1 : Nat → Prop} {H0 : Heap} {a : Array Value} {pc : Nat} {ls : Array Slot} {st0 rest : List Value}
theorem vx_keep {st₀ t T' : State} {L : List Loc} (h0 : st₀.heap = H) (e1 : T'.heap = t.heap) (hS : va_S A0 H0 H locs) (hA : ∀ q, q < H.size → A1 q → A0 q) (hf : ∀ q, free q → A0 q) (hL : ∀ q ∈ L, free q.base) (hF : va_F A1 st₀ t) :
    H.size ≤ T'.heap.size ∧ (∀ q : Nat, q < H.size → ¬ A1 q → T'.heap[q]? = H[q]?) ∧ va_S A0 H0 T'.heap (locs ++ L) := by
  obtain ⟨hz, hk⟩ := hF
  rw [h0] at hz hk
  exact ⟨by rw [e1]; exact hz, fun q h1 h2 => by rw [e1]; exact hk q h1 h2,
    ⟨Nat.le_trans hS.1 (by rw [e1]; exact hz), fun q h1 h2 => by rw [e1, hk q (Nat.lt_of_lt_of_le h1 hS.1) (fun z => h2 (hA q (Nat.lt_of_lt_of_le h1 hS.1) z))]; exact hS.2.1 q h1 h2, fun q hq => by
      rcases List.mem_append.mp hq with h | h
      · exact hS.2.2 q h
      · exact hf _ (hL q h)⟩⟩
theorem vx_calli {S SX : Type} {post : Int32 → S → Prop} {px : SX → Prop} {B : S → State → Prop} {BX : String → SX → State → Prop} {AX : Nat → Prop} (hr : vx_Run p l e R s m args below meth c H locs cells slots mc ms (F0 m pc ls st0) rest (va_Qi post B A1 a) (vx_X px BX AX) free) (hS : va_S A0 H0 H locs) (hA : ∀ q, q < H.size → A1 q → A0 q) (hf : ∀ q, free q → A0 q) (hAX : ∀ q, q < H.size → AX q → A0 q)
    (kx : ∀ (E : String) (ce : Cell) (q9 : Addr) (u : SX) (t : State) (H1 : Heap) (locs1 : List Loc), t.heap = H1 → s.vm.Alike t.vm → px u → BX E u t → H.size ≤ H1.size → (∀ q : Nat, q < H.size → ¬ AX q → H1[q]? = H[q]?) → va_S A0 H0 H1 locs1 → H1[q9]? = some ce → ce.vm = .none → s.vm.findClass E = some ce.cls → vx_W p l e R s m args below meth c H1 locs1 (cells + mc) (slots + ms) Q (F0 m pc ls rest) q9)
    (kk : ∀ (r : Int32) (u : S) (t : State) (H1 : Heap) (locs1 : List Loc), t.heap = H1 → s.vm.Alike t.vm → post r u → B u t → H.size ≤ H1.size → (∀ q : Nat, q < H.size → ¬ A1 q → H1[q]? = H[q]?) → va_S A0 H0 H1 locs1 → W p l e R s m args below meth c H1 locs1 (cells + mc) (slots + ms) Q (F0 m (pc + 3) ls (.int r :: rest))) : W p l e R s m args below meth c H locs cells slots Q (F0 m pc ls st0) := by
  intro T hT X
  rcases hr T hT X with ⟨v, st₀, t, T', L, h0, X', hL, e1, e2, ⟨⟨r, u, hv, hp, hb⟩, hF⟩, st⟩ | ⟨q, st₀, t, T', L, E, ce, h0, X', hL, e1, e2, ⟨u, hp, hb, hF⟩, hce, hcv, hcl, st⟩
  · cases hv
    obtain ⟨k1, k2, k3⟩ := vx_keep h0 e1 hS hA hf hL hF
    obtain ⟨t2, a1, b1⟩ := kk r u t T'.heap (locs ++ L) e1.symm (by rw [← e2]; exact X'.warmed.alike) hp hb k1 k2 k3 T' rfl X'
    exact ⟨t2, st t2 a1, b1⟩
  · obtain ⟨k1, k2, k3⟩ := vx_keep h0 e1 hS hAX hf hL hF
    obtain ⟨t2, a1, b1⟩ := kx E ce q u t T'.heap (locs ++ L) e1.symm (by rw [← e2]; exact X'.warmed.alike) hp hb k1 k2 k3 (by rw [e1]; exact hce) hcv hcl T' rfl X'
    exact ⟨t2, st.trans a1, b1⟩
theorem vx_calll {S SX : Type} {post : Int64 → S → Prop} {px : SX → Prop} {B : S → State → Prop} {BX : String → SX → State → Prop} {AX : Nat → Prop} (hr : vx_Run p l e R s m args below meth c H locs cells slots mc ms (F0 m pc ls st0) rest (va_Ql post B A1 a) (vx_X px BX AX) free) (hS : va_S A0 H0 H locs) (hA : ∀ q, q < H.size → A1 q → A0 q) (hf : ∀ q, free q → A0 q) (hAX : ∀ q, q < H.size → AX q → A0 q)
    (kx : ∀ (E : String) (ce : Cell) (q9 : Addr) (u : SX) (t : State) (H1 : Heap) (locs1 : List Loc), t.heap = H1 → s.vm.Alike t.vm → px u → BX E u t → H.size ≤ H1.size → (∀ q : Nat, q < H.size → ¬ AX q → H1[q]? = H[q]?) → va_S A0 H0 H1 locs1 → H1[q9]? = some ce → ce.vm = .none → s.vm.findClass E = some ce.cls → vx_W p l e R s m args below meth c H1 locs1 (cells + mc) (slots + ms) Q (F0 m pc ls rest) q9)
    (kk : ∀ (r : Int64) (u : S) (t : State) (H1 : Heap) (locs1 : List Loc), t.heap = H1 → s.vm.Alike t.vm → post r u → B u t → H.size ≤ H1.size → (∀ q : Nat, q < H.size → ¬ A1 q → H1[q]? = H[q]?) → va_S A0 H0 H1 locs1 → W p l e R s m args below meth c H1 locs1 (cells + mc) (slots + ms) Q (F0 m (pc + 3) ls (.long r :: rest))) : W p l e R s m args below meth c H locs cells slots Q (F0 m pc ls st0) := by
  intro T hT X
  rcases hr T hT X with ⟨v, st₀, t, T', L, h0, X', hL, e1, e2, ⟨⟨r, u, hv, hp, hb⟩, hF⟩, st⟩ | ⟨q, st₀, t, T', L, E, ce, h0, X', hL, e1, e2, ⟨u, hp, hb, hF⟩, hce, hcv, hcl, st⟩
  · cases hv
    obtain ⟨k1, k2, k3⟩ := vx_keep h0 e1 hS hA hf hL hF
    obtain ⟨t2, a1, b1⟩ := kk r u t T'.heap (locs ++ L) e1.symm (by rw [← e2]; exact X'.warmed.alike) hp hb k1 k2 k3 T' rfl X'
    exact ⟨t2, st t2 a1, b1⟩
  · obtain ⟨k1, k2, k3⟩ := vx_keep h0 e1 hS hAX hf hL hF
    obtain ⟨t2, a1, b1⟩ := kx E ce q u t T'.heap (locs ++ L) e1.symm (by rw [← e2]; exact X'.warmed.alike) hp hb k1 k2 k3 (by rw [e1]; exact hce) hcv hcl T' rfl X'
    exact ⟨t2, st.trans a1, b1⟩
theorem vx_callf {S SX : Type} {post : UInt32 → S → Prop} {px : SX → Prop} {B : S → State → Prop} {BX : String → SX → State → Prop} {AX : Nat → Prop} (hr : vx_Run p l e R s m args below meth c H locs cells slots mc ms (F0 m pc ls st0) rest (va_Qf post B A1 a) (vx_X px BX AX) free) (hS : va_S A0 H0 H locs) (hA : ∀ q, q < H.size → A1 q → A0 q) (hf : ∀ q, free q → A0 q) (hAX : ∀ q, q < H.size → AX q → A0 q)
    (kx : ∀ (E : String) (ce : Cell) (q9 : Addr) (u : SX) (t : State) (H1 : Heap) (locs1 : List Loc), t.heap = H1 → s.vm.Alike t.vm → px u → BX E u t → H.size ≤ H1.size → (∀ q : Nat, q < H.size → ¬ AX q → H1[q]? = H[q]?) → va_S A0 H0 H1 locs1 → H1[q9]? = some ce → ce.vm = .none → s.vm.findClass E = some ce.cls → vx_W p l e R s m args below meth c H1 locs1 (cells + mc) (slots + ms) Q (F0 m pc ls rest) q9)
    (kk : ∀ (r : UInt32) (u : S) (t : State) (H1 : Heap) (locs1 : List Loc), t.heap = H1 → s.vm.Alike t.vm → post r u → B u t → H.size ≤ H1.size → (∀ q : Nat, q < H.size → ¬ A1 q → H1[q]? = H[q]?) → va_S A0 H0 H1 locs1 → W p l e R s m args below meth c H1 locs1 (cells + mc) (slots + ms) Q (F0 m (pc + 3) ls (.float r :: rest))) : W p l e R s m args below meth c H locs cells slots Q (F0 m pc ls st0) := by
  intro T hT X
  rcases hr T hT X with ⟨v, st₀, t, T', L, h0, X', hL, e1, e2, ⟨⟨r, u, hv, hp, hb⟩, hF⟩, st⟩ | ⟨q, st₀, t, T', L, E, ce, h0, X', hL, e1, e2, ⟨u, hp, hb, hF⟩, hce, hcv, hcl, st⟩
  · cases hv
    obtain ⟨k1, k2, k3⟩ := vx_keep h0 e1 hS hA hf hL hF
    obtain ⟨t2, a1, b1⟩ := kk r u t T'.heap (locs ++ L) e1.symm (by rw [← e2]; exact X'.warmed.alike) hp hb k1 k2 k3 T' rfl X'
    exact ⟨t2, st t2 a1, b1⟩
  · obtain ⟨k1, k2, k3⟩ := vx_keep h0 e1 hS hAX hf hL hF
    obtain ⟨t2, a1, b1⟩ := kx E ce q u t T'.heap (locs ++ L) e1.symm (by rw [← e2]; exact X'.warmed.alike) hp hb k1 k2 k3 (by rw [e1]; exact hce) hcv hcl T' rfl X'
    exact ⟨t2, st.trans a1, b1⟩
theorem vx_calld {S SX : Type} {post : UInt64 → S → Prop} {px : SX → Prop} {B : S → State → Prop} {BX : String → SX → State → Prop} {AX : Nat → Prop} (hr : vx_Run p l e R s m args below meth c H locs cells slots mc ms (F0 m pc ls st0) rest (va_Qd post B A1 a) (vx_X px BX AX) free) (hS : va_S A0 H0 H locs) (hA : ∀ q, q < H.size → A1 q → A0 q) (hf : ∀ q, free q → A0 q) (hAX : ∀ q, q < H.size → AX q → A0 q)
    (kx : ∀ (E : String) (ce : Cell) (q9 : Addr) (u : SX) (t : State) (H1 : Heap) (locs1 : List Loc), t.heap = H1 → s.vm.Alike t.vm → px u → BX E u t → H.size ≤ H1.size → (∀ q : Nat, q < H.size → ¬ AX q → H1[q]? = H[q]?) → va_S A0 H0 H1 locs1 → H1[q9]? = some ce → ce.vm = .none → s.vm.findClass E = some ce.cls → vx_W p l e R s m args below meth c H1 locs1 (cells + mc) (slots + ms) Q (F0 m pc ls rest) q9)
    (kk : ∀ (r : UInt64) (u : S) (t : State) (H1 : Heap) (locs1 : List Loc), t.heap = H1 → s.vm.Alike t.vm → post r u → B u t → H.size ≤ H1.size → (∀ q : Nat, q < H.size → ¬ A1 q → H1[q]? = H[q]?) → va_S A0 H0 H1 locs1 → W p l e R s m args below meth c H1 locs1 (cells + mc) (slots + ms) Q (F0 m (pc + 3) ls (.double r :: rest))) : W p l e R s m args below meth c H locs cells slots Q (F0 m pc ls st0) := by
  intro T hT X
  rcases hr T hT X with ⟨v, st₀, t, T', L, h0, X', hL, e1, e2, ⟨⟨r, u, hv, hp, hb⟩, hF⟩, st⟩ | ⟨q, st₀, t, T', L, E, ce, h0, X', hL, e1, e2, ⟨u, hp, hb, hF⟩, hce, hcv, hcl, st⟩
  · cases hv
    obtain ⟨k1, k2, k3⟩ := vx_keep h0 e1 hS hA hf hL hF
    obtain ⟨t2, a1, b1⟩ := kk r u t T'.heap (locs ++ L) e1.symm (by rw [← e2]; exact X'.warmed.alike) hp hb k1 k2 k3 T' rfl X'
    exact ⟨t2, st t2 a1, b1⟩
  · obtain ⟨k1, k2, k3⟩ := vx_keep h0 e1 hS hAX hf hL hF
    obtain ⟨t2, a1, b1⟩ := kx E ce q u t T'.heap (locs ++ L) e1.symm (by rw [← e2]; exact X'.warmed.alike) hp hb k1 k2 k3 (by rw [e1]; exact hce) hcv hcl T' rfl X'
    exact ⟨t2, st.trans a1, b1⟩
theorem vx_callv {S SX : Type} {post : S → Prop} {px : SX → Prop} {B : S → State → Prop} {BX : String → SX → State → Prop} {AX : Nat → Prop} (hr : vx_Run p l e R s m args below meth c H locs cells slots mc ms (F0 m pc ls st0) rest (va_Qv post B A1 a) (vx_X px BX AX) free) (hS : va_S A0 H0 H locs) (hA : ∀ q, q < H.size → A1 q → A0 q) (hf : ∀ q, free q → A0 q) (hAX : ∀ q, q < H.size → AX q → A0 q)
    (kx : ∀ (E : String) (ce : Cell) (q9 : Addr) (u : SX) (t : State) (H1 : Heap) (locs1 : List Loc), t.heap = H1 → s.vm.Alike t.vm → px u → BX E u t → H.size ≤ H1.size → (∀ q : Nat, q < H.size → ¬ AX q → H1[q]? = H[q]?) → va_S A0 H0 H1 locs1 → H1[q9]? = some ce → ce.vm = .none → s.vm.findClass E = some ce.cls → vx_W p l e R s m args below meth c H1 locs1 (cells + mc) (slots + ms) Q (F0 m pc ls rest) q9)
    (kk : ∀ (u : S) (t : State) (H1 : Heap) (locs1 : List Loc), t.heap = H1 → s.vm.Alike t.vm → post u → B u t → H.size ≤ H1.size → (∀ q : Nat, q < H.size → ¬ A1 q → H1[q]? = H[q]?) → va_S A0 H0 H1 locs1 → W p l e R s m args below meth c H1 locs1 (cells + mc) (slots + ms) Q (F0 m (pc + 3) ls (rest))) : W p l e R s m args below meth c H locs cells slots Q (F0 m pc ls st0) := by
  intro T hT X
  rcases hr T hT X with ⟨v, st₀, t, T', L, h0, X', hL, e1, e2, ⟨⟨u, hv, hp, hb⟩, hF⟩, st⟩ | ⟨q, st₀, t, T', L, E, ce, h0, X', hL, e1, e2, ⟨u, hp, hb, hF⟩, hce, hcv, hcl, st⟩
  · cases hv
    obtain ⟨k1, k2, k3⟩ := vx_keep h0 e1 hS hA hf hL hF
    obtain ⟨t2, a1, b1⟩ := kk u t T'.heap (locs ++ L) e1.symm (by rw [← e2]; exact X'.warmed.alike) hp hb k1 k2 k3 T' rfl X'
    exact ⟨t2, st t2 a1, b1⟩
  · obtain ⟨k1, k2, k3⟩ := vx_keep h0 e1 hS hAX hf hL hF
    obtain ⟨t2, a1, b1⟩ := kx E ce q u t T'.heap (locs ++ L) e1.symm (by rw [← e2]; exact X'.warmed.alike) hp hb k1 k2 k3 (by rw [e1]; exact hce) hcv hcl T' rfl X'
    exact ⟨t2, st.trans a1, b1⟩
/-- caught by the row x of this method's table; the rows ahead don't take it -/
theorem vx_catch {own name : String} {E : String} {ce : Cell} {q : Addr} (hown : s.vm.findClass own = some m.cls) (pre : List ExceptionTableEntry) (x : ExceptionTableEntry) (suf : List ExceptionTableEntry) (hsplit : c.exceptionTable.toList = pre ++ x :: suf)
    (hpass : ∀ z ∈ pre, covers z pc = false ∨ (z.catchType ≠ 0 ∧ ∃ nm : String, (Cond.classLink own z.catchType nm).before args s = true ∧ va_Nc E nm s)) (hx : covers x pc = true) (h0 : x.catchType ≠ 0)
    (hlink : (Cond.classLink own x.catchType name).before args s = true) (hcast : (Cond.castable E name).before args s = true) (hcell : H[q]? = some ce) (hv : ce.vm = .none) (hcl : s.vm.findClass E = some ce.cls)
    (kk : W p l e R s m args below meth c H locs cells slots Q (F0 m x.handlerPc ls [.ref q])) : vx_W p l e R s m args below meth c H locs cells slots Q (F0 m pc ls rest) q := by
  intro T hT X
  have hpl : e.platform.magicAccessors = ({} : Platform).magicAccessors := by rw [X.admits.platform]
  obtain ⟨c3, c4, hc3, hc4, hasg⟩ := Cond.castable_spec hcast
  cases Option.some.inj (hc3.symm.trans hcl)
  obtain ⟨c5, hc5, hcl5⟩ := Cond.classLink_spec hown hlink e.platform hpl
  cases Option.some.inj (hc4.symm.trans hc5)
  obtain ⟨vm', X', st⟩ := Stand.thenCaughtThrough X q (g := F0 m pc ls rest) rfl (Steps.refl _) (by rw [hT]; exact hcell) (by rw [hv]; rfl) (by obtain ⟨k9, h9, -⟩ := Vm.findClass_spec hcl; exact ⟨k9, h9⟩) pre x suf hsplit
    (fun z hz => by
      rcases hpass z hz with h | ⟨hz0, nm, hl1, hn1⟩
      · exact Or.inl h
      · obtain ⟨c6, hc6, hcl6⟩ := Cond.classLink_spec hown hl1 e.platform hpl
        obtain ⟨a8, b8, h1, h2, h3⟩ := hn1
        cases Option.some.inj (h1.symm.trans hcl)
        cases Option.some.inj (h2.symm.trans hc6)
        exact Or.inr ⟨hz0, _, hcl6, h3⟩) hx (Or.inr ⟨h0, c4, hcl5, hasg⟩)
  obtain ⟨t, a1, b1⟩ := kk (T.setVm vm') hT X'
  exact ⟨t, st.trans a1, b1⟩
end Rows
section Ends
variable {p : Program} {l : Launch} {e : Env} {R : Room} {s : State} {m : MethodId} {args : Array Value} {below : List Frame} {meth : Method} {c : Code} {H : Heap} {locs : List Loc} {cells slots : Nat} {Q : State → Prop}
variable {mc ms : Nat} {free : Addr → Prop} {A0 A1 : Nat → Prop} {H0 : Heap} {a : Array Value} {ls : Array Slot} {st0 rest : List Value}
variable {Qc : Array Value → State → Outcome → State → Prop} {XC : String → State → State → Prop}
/-- what a body that may throw owes at its end -/
def vx_MQ (below : List Frame) (Qc : Array Value → State → Outcome → State → Prop) (XC : String → State → State → Prop) (a : Array Value) (s : State) (mc ms : Nat) (free : Addr → Prop) : State → Prop := fun t =>
  ∃ o, t.status = .running ∧ Ended t below o ∧ vx_Q Qc XC mc ms free a s o t
theorem vx_ret {g : JFrame} {mc ms : Nat} (k : W p l e R s m args below meth c H locs cells slots (MQ below Qc args s mc ms free) g) : W p l e R s m args below meth c H locs cells slots (vx_MQ below Qc XC args s mc ms free) g := by
  intro T hT X
  obtain ⟨t, a1, o, b1, b2, b3, b4⟩ := k T hT X
  exact ⟨t, a1, o, b1, b2, Or.inl ⟨b3, b4⟩⟩
/-- not caught here: it goes on to the caller -/
theorem vx_widen {g : JFrame} {q : Addr} {k n : Nat} (h1 : cells ≤ k) (h2 : slots ≤ n) (kk : vx_W p l e R s m args below meth c H locs k n Q g q) : vx_W p l e R s m args below meth c H locs cells slots Q g q := fun T hT X => kk T hT (stand_widen X h1 h2)
theorem vx_out {pc : Nat} {E : String} {ce : Cell} {q : Addr} {mc ms : Nat} (hout : ∀ x ∈ c.exceptionTable.toList, covers x pc = false) (hlocks : meth.locks = false) (hcell : H[q]? = some ce) (hv : ce.vm = .none) (hcl : s.vm.findClass E = some ce.cls)
    (hx : ∀ t : State, t.heap = H → s.vm.Alike t.vm → XC E s t) (hf : ∀ z ∈ locs, free z.base) (hc : cells ≤ mc) (hs : slots ≤ ms) :
    vx_W p l e R s m args below meth c H locs cells slots (vx_MQ below Qc XC args s mc ms free) (F0 m pc ls rest) q := by
  intro T hT X
  obtain ⟨st1, hrun, hend, hW, hsm⟩ := X.leaveThrown q (g := F0 m pc ls rest) rfl rfl rfl hout hlocks
  have hcell9 : (T.setFrames (.throwing q :: below)).heap[q]? = some ce := by
    show T.heap[q]? = some ce
    rw [hT]; exact hcell
  exact ⟨_, st1, .threw q, hrun, hend, Or.inr ⟨q, rfl, E, ce, locs, hx _ hT hW.alike, hcell9, hv, hcl, hW, hsm.mono hc hs, hf⟩⟩
theorem vx_frame {U : State} {k n : Nat} (h : s.sameButNew ({ U with vm := s.vm } : State) locs k n) : s.heap.size ≤ U.heap.size ∧ ∀ q : Nat, q < s.heap.size → (∀ z ∈ locs, z.base ≠ q) → U.heap[q]? = s.heap[q]? := by
  obtain ⟨-, h2, -, -, -, h6⟩ := h
  refine ⟨h2, fun q hq hz => ?_⟩
  obtain ⟨c9, e1, e2, e3, e4⟩ := h6 q _ (Array.getElem?_eq_getElem hq)
  have hs : c9.slots = (s.heap[q]).slots := Array.ext_getElem? fun i => e4 i fun hm => hz _ hm rfl
  have h9 : c9 = s.heap[q] := by
    rw [hs] at e2
    exact e2
  have e5 : U.heap[q]? = some c9 := e1
  rw [e5, h9, Array.getElem?_eq_getElem hq]
/-- the words of a throw but the four that speak of the heap -/
def vx_no (w : Cond) : Bool := decide (w ≠ .isRef (.static Bundle.tN "UNASSIGNED_STACK" Bundle.steD)) && decide (w ≠ .isRef (.static Bundle.tN "SUPPRESSED_SENTINEL" Bundle.listD)) && decide (w ≠ .laysStatic Bundle.tN "UNASSIGNED_STACK" Bundle.steD) && decide (w ≠ .laysStatic Bundle.tN "SUPPRESSED_SENTINEL" Bundle.listD)
def vx_at0 (own : String) (ic : Nat) (X : String) (names : List String) : List Cond := (Bundle.ownAtoms0 own ic X names).filter vx_no
def vx_atS (own : String) (ic : Nat) (X : String) (names : List String) : List Cond := (Bundle.ownAtoms own ic X names).filter vx_no
/-- a word that the tables alone decide, or a good one -/
def vx_ot (w : Cond) : Bool := w.onTables || goodWord w
theorem vx_ot_at {args a' : Array Value} {s U : State} {w : Cond} (hW : s.WarmedH U.vm) (hvm : s.vm = U.vm) (hg : vx_ot w = true) (h : w.before args s = true) : w.before a' U = true := by
  simp only [vx_ot, Bool.or_eq_true] at hg
  rcases hg with hg | hg
  · exact va_tabs hg hvm h
  · exact word_at hW (good_of_word hg) h
/-- a list's words: the good ones out of the method's own list, the others by premises of their own -/
theorem vx_hat {args : Array Value} {s : State} {L B : List Cond} (h1 : ∀ w ∈ L.filter goodWord, w.before args s = true) (h2 : ∀ w ∈ L.filter (fun w => !goodWord w), w ∈ B) (h3 : ∀ w ∈ B, w.before args s = true) : ∀ w ∈ L, w.before args s = true := by
  intro w hw
  by_cases g : goodWord w = true
  · exact h1 w (List.mem_filter.mpr ⟨hw, g⟩)
  · refine h3 w (h2 w (List.mem_filter.mpr ⟨hw, ?_⟩))
    show (!goodWord w) = true
    cases hgw : goodWord w
    · rfl
    · exact absurd hgw g
theorem vx_c {args : Array Value} {s : State} {w : Cond} {B : List Cond} (h : w.before args s = true) (t : ∀ w ∈ B, w.before args s = true) : ∀ w' ∈ w :: B, w'.before args s = true := fun w' h' => (List.mem_cons.mp h').elim (fun e => by rw [e]; exact h) (t w')
theorem vx_n {args : Array Value} {s : State} : ∀ w ∈ ([] : List Cond), w.before args s = true := fun _ h => nomatch h
theorem vx_own {args : Array Value} {s : State} {L : List Cond} (h1 : ∀ w ∈ L.filter vx_no, w.before args s = true)
    (hU : (Cond.isRef (.static Bundle.tN "UNASSIGNED_STACK" Bundle.steD)).before args s = true) (hN : (Cond.isRef (.static Bundle.tN "SUPPRESSED_SENTINEL" Bundle.listD)).before args s = true)
    (lU : (Cond.laysStatic Bundle.tN "UNASSIGNED_STACK" Bundle.steD).before args s = true) (lN : (Cond.laysStatic Bundle.tN "SUPPRESSED_SENTINEL" Bundle.listD).before args s = true) : ∀ w ∈ L, w.before args s = true := by
  intro w hw
  by_cases e1 : w = .isRef (.static Bundle.tN "UNASSIGNED_STACK" Bundle.steD)
  · rw [e1]; exact hU
  · by_cases e2 : w = .isRef (.static Bundle.tN "SUPPRESSED_SENTINEL" Bundle.listD)
    · rw [e2]; exact hN
    · by_cases e3 : w = .laysStatic Bundle.tN "UNASSIGNED_STACK" Bundle.steD
      · rw [e3]; exact lU
      · by_cases e4 : w = .laysStatic Bundle.tN "SUPPRESSED_SENTINEL" Bundle.listD
        · rw [e4]; exact lN
        · exact h1 w (List.mem_filter.mpr ⟨hw, by unfold vx_no; rw [decide_eq_true e1, decide_eq_true e2, decide_eq_true e3, decide_eq_true e4]; rfl⟩)
/-- where a static field lies, its class's statics cell in H -/
def vx_L (C n d : String) (A : Nat → Prop) (U : State) (H : Heap) : Prop := ∃ (c : ClassId) (k : Class) (i : Nat) (f : Field) (a : Nat) (cell : Cell), U.vm.findClass C = some c ∧ U.fieldFound? C n d = some (c, k, i, f) ∧ f.isStatic = true ∧ k.statics = some a ∧ H[a]? = some cell ∧ cell.vm.isStatics = true ∧ cell.cls = c ∧ f.slot < cell.slots.size ∧ k.staticTypes[f.slot]? = some f.type ∧ ¬ A a
theorem vx_L.moved {C n d : String} {A : Nat → Prop} {u U : State} {H : Heap} (hvm : u.vm.Alike U.vm) (h : vx_L C n d A u H) : vx_L C n d A U H := by
  obtain ⟨c, k, i, f, a, cell, h1, h2, h3, h4, h5, h6, h7, h8, h9, h10⟩ := h
  obtain ⟨k', hi', he⟩ := State.fieldFound?_setVm hvm h2
  exact ⟨c, k', i, f, a, cell, by rw [hvm.findClass]; exact h1, hi', h3, by rw [he]; exact h4, h5, h6, h7, h8, by rw [he]; exact h9, h10⟩
theorem vx_L.kept {C n d : String} {A : Nat → Prop} {U : State} {H H1 : Heap} (h : vx_L C n d A U H) (hq : ∀ a : Nat, a < H.size → ¬ A a → H1[a]? = H[a]?) : vx_L C n d A U H1 := by
  obtain ⟨c, k, i, f, a, cell, h1, h2, h3, h4, h5, h6, h7, h8, h9, h10⟩ := h
  exact ⟨c, k, i, f, a, cell, h1, h2, h3, h4, by rw [hq a (Array.getElem?_eq_some_iff.mp h5).1 h10]; exact h5, h6, h7, h8, h9, h10⟩
theorem vx_L.narrow {C n d : String} {A B : Nat → Prop} {U : State} {H : Heap} (h : vx_L C n d A U H) (hAB : ∀ q, B q → A q) : vx_L C n d B U H := by
  obtain ⟨c, k, i, f, a, cell, h1, h2, h3, h4, h5, h6, h7, h8, h9, h10⟩ := h
  exact ⟨c, k, i, f, a, cell, h1, h2, h3, h4, h5, h6, h7, h8, h9, fun z => h10 (hAB _ z)⟩
theorem vx_L.word {C n d : String} {A : Nat → Prop} {s : State} {args : Array Value} (h : vx_L C n d A s s.heap) : (Cond.laysStatic C n d).before args s = true := by
  obtain ⟨c, k, i, f, a, cell, h1, h2, h3, h4, h5, h6, h7, h8, h9, -⟩ := h
  show (Cond.laysStatic C n d).holds args s none s [] = true
  exact Cond.laysStatic_of h1 h2 h3 h4 h5 h6 h7 h8 h9
/-- .. and what it holds: null or some reference -/
def vx_Zq (C n d : String) (A : Nat → Prop) (U : State) (H : Heap) : Prop := va_Zq C n d A U H ∧ vx_L C n d A U H
theorem vx_Zq.moved {C n d : String} {A : Nat → Prop} {u U : State} {H : Heap} (hvm : u.vm.Alike U.vm) (h : vx_Zq C n d A u H) : vx_Zq C n d A U H := ⟨va_Zq.moved hvm h.1, vx_L.moved hvm h.2⟩
theorem vx_Zq.kept {C n d : String} {A : Nat → Prop} {U : State} {H H1 : Heap} (h : vx_Zq C n d A U H) (hq : ∀ a : Nat, a < H.size → ¬ A a → H1[a]? = H[a]?) : vx_Zq C n d A U H1 := ⟨va_Zq.kept h.1 hq, vx_L.kept h.2 hq⟩
theorem vx_Zq.narrow {C n d : String} {A B : Nat → Prop} {U : State} {H : Heap} (h : vx_Zq C n d A U H) (hAB : ∀ q, B q → A q) : vx_Zq C n d B U H := ⟨va_Zq.narrow h.1 hAB, vx_L.narrow h.2 hAB⟩
theorem vx_Zqof {args : Array Value} {s : State} {C n d : String} {A : Nat → Prop} (hl : (Cond.laysStatic C n d).before args s = true) (hini : (Cond.initialized C).before args s = true) (h : (Cond.isRef (.static C n d)).before args s = true) (hA : ∀ a : Nat, a < s.heap.size → ¬ A a) : vx_Zq C n d A s s.heap := by
  refine ⟨va_Zqof hl hini h hA, ?_⟩
  obtain ⟨c, k, i, f, a, cell, h1, h2, h3, h4, h5, h6, h7, h8, h9⟩ := Cond.laysStatic_spec hl
  exact ⟨c, k, i, f, a, cell, h1, h2, h3, h4, h5, h6, h7, h8, h9, hA a (Array.getElem?_eq_some_iff.mp h5).1⟩
theorem vx_isRef {C n d : String} {v : Value} {A : Nat → Prop} {s : State} {args : Array Value} (h : va_Z C n d v A s s.heap) (hv : v.isRef = true) : (Cond.isRef (.static C n d)).before args s = true := by
  obtain ⟨cf, kf, fi, f, a, cell, h1, h2, h3, h4, h5, h6, h7, -⟩ := h
  have he : (Term.static C n d).eval args s none [] s = some v := by
    simp [Term.eval, State.fieldNamed?, h1, h2, h4, h5, h6, h7]
  simp only [Cond.before, Cond.holds, Cond.value, he]
  cases v <;> simp_all [Value.isRef]
theorem vx_isRefq {C n d : String} {A : Nat → Prop} {s : State} {args : Array Value} (h : va_Zq C n d A s s.heap) : (Cond.isRef (.static C n d)).before args s = true := by
  rcases h with h | ⟨t, h⟩
  · exact vx_isRef h rfl
  · exact vx_isRef h rfl
/-- the same frame, seen from here: as if the method were called anew in this heap -/
theorem vx_rebase {T : State} (X : Stand p l e R s m args below meth c T locs cells slots) {R' : Room} (hf : R'.frames ≤ R.frames) (hl : R'.locals ≤ R.locals) (hc : cells + R'.cells ≤ R.cells) (hs : slots + R'.slots ≤ R.slots) :
    Stand p l e R' ((T.setVm s.vm).setFrames (.invoking m args :: below)) m args below meth c T [] 0 0 := by
  have htop : (T.setVm s.vm).topJava?.isSome := X.here.top
  have hF : ((T.setVm s.vm).setFrames (.invoking m args :: below)).frames = .invoking m args :: below := State.frames_setFrames _ (State.cur_lt_of_top htop)
  obtain ⟨g₀, hg0⟩ := Option.isSome_iff_exists.mp htop
  obtain ⟨r, hr⟩ := State.topJava?_eq_some.mp hg0
  have hl9 : e.platform.stackLimits (T.setVm s.vm).me = e.platform.stackLimits s.me := X.limits
  have hb9 : (T.setVm s.vm).me.stackBytes = s.me.stackBytes := X.bytes
  refine ⟨X.admits, X.cas, X.clock, hF, ?_, X.hears, X.method, X.code, X.here, X.tail, X.warmed, ?_, ?_, ?_⟩
  · have h := X.room
    have hU : ((T.setVm s.vm).setFrames (.invoking m args :: below)).localsInUse = s.localsInUse := by
      rw [State.localsInUse_invoking hF (meth := meth) (c := c) X.method X.code, State.localsInUse_invoking X.frames X.method X.code]
    simp only [State.hasRoom, Bool.and_eq_true, decide_eq_true_eq] at h ⊢
    obtain ⟨⟨⟨⟨h1, h2, h3, h4, h5, h6⟩, h7⟩, h8⟩, h9⟩ := h
    rw [X.frames, List.length_cons] at h2 h3
    have q1 := X.heapSize
    have q2 := X.used
    simp only [hF, hU, List.length_cons, State.stackLimits_setFrames, State.stackBytes_setFrames, hl9, hb9]
    refine ⟨⟨⟨⟨by omega, by omega, by omega, by omega, by omega, h6⟩, ?_⟩, ?_⟩, X.book⟩
    · show T.heap.size + R'.cells ≤ e.platform.maxCells
      omega
    · show T.slotsUsed + R'.slots ≤ e.platform.maxSlots
      omega
  · rw [State.stackLimits_setFrames]; rfl
  · rw [State.stackBytes_setFrames]; rfl
  · refine ⟨?_, Nat.le_refl _, Nat.le_refl _, ?_, ?_, fun a c9 h9 => ⟨c9, h9, rfl, rfl, fun _ _ => rfl⟩⟩
    · obtain ⟨t, ht, -⟩ := State.frames_cons hr
      show T.setVm s.vm = { ((T.setVm s.vm).setFrames (.invoking m args :: below)).setFrames (T.setVm s.vm).frames with heap := T.heap, slotsUsed := T.slotsUsed }
      rw [State.setFrames_setFrames, State.setFrames_self ht]
      rfl
    · show T.slotsUsed = T.slotsUsed + ((T.heap.toList.drop T.heap.size).map (·.slots.size)).sum
      rw [List.drop_eq_nil_of_le (Nat.le_of_eq Array.length_toList)]
      rfl
    · show ((T.heap.toList.drop T.heap.size).map (·.slots.size)).sum ≤ 0
      rw [List.drop_eq_nil_of_le (Nat.le_of_eq Array.length_toList)]
      exact Nat.le_refl _
/-- 'throw new E()': new; dup; invokespecial; athrow -/
theorem vx_throw0 {cc : ByteArray} {pc : Nat} (hexec : p.tables.exec = Jvm.exec) (hb : c.code = cc) (hl : l.stackTraces = false) {own cls : String} {names : List String} {ik ic mc ms : Nat} {A : Nat → Prop}
    (hown : s.vm.findClass own = some m.cls) (hcls : Bundle.fit cls = true) (hnames : ∀ n ∈ names, Bundle.fit n = true)
    (hk : (Cond.classLink own ik cls).before args s = true) (hini : (Cond.initialized cls).before args s = true) (hat : ∀ w ∈ vx_at0 own ic cls names, w.before args s = true)
    (hgood : ∀ w ∈ Cond.classLink own ik cls :: Cond.initialized cls :: vx_at0 own ic cls names, vx_ot w = true)
    (hU : vx_Zq Bundle.tN "UNASSIGNED_STACK" Bundle.steD A s s.heap) (hN : vx_Zq Bundle.tN "SUPPRESSED_SENTINEL" Bundle.listD A s s.heap) (hS : va_S A s.heap H locs) (hsize : ls.size = c.maxLocals)
    (d0 : decode cc pc = .ok (.new ik, 3)) (d3 : decode cc (pc + 3) = .ok (.dup, 1)) (d4 : decode cc (pc + 4) = .ok (.invokespecial ic, 3)) (d7 : decode cc (pc + 7) = .ok (.athrow, 1))
    (hout : ∀ x ∈ c.exceptionTable.toList, covers x (pc + 7) = false)
    (hRframes : names.length + 3 < R.frames) (hRlocals : (rest.map fun v => v.category).sum + (13 * (names.length + 1) + 42) ≤ R.locals) (hRcells : cells + 1 ≤ R.cells) (hRslots : slots + 6 ≤ R.slots) (hlocks : meth.locks = false)
    (hx : ∀ t : State, s.vm.Alike t.vm → H.size ≤ t.heap.size → (∀ q : Nat, q < H.size → t.heap[q]? = H[q]?) → XC cls s t)
    (hf : ∀ z ∈ locs, free z.base) (hc : cells + 1 ≤ mc) (hs : slots + 6 ≤ ms) :
    W p l e R s m args below meth c H locs cells slots (vx_MQ below Qc XC args s mc ms free) (F0 m pc ls rest) := by
  intro T hT X
  have htr : e.platform.stackTraces = false := (show e.platform.stackTraces = l.stackTraces by rw [X.admits.platform]).trans hl
  have Y := vx_rebase X (R' := { frames := R.frames, locals := R.locals, cells := 1, slots := 6 }) (Nat.le_refl _) (Nat.le_refl _) hRcells hRslots
  obtain ⟨s', hA⟩ : ∃ z, z = (T.setVm s.vm).setFrames (.invoking m args :: below) := ⟨_, rfl⟩
  rw [← hA] at Y
  have hvm : s'.vm = s.vm := by rw [hA]; rfl
  have hhp : s'.heap = H := by rw [hA]; exact hT
  have hW0 : s.WarmedH s'.vm := by rw [hvm]; exact State.WarmedH.refl s
  have hat' : ∀ w ∈ vx_at0 own ic cls names, w.before args s' = true := fun w hw => vx_ot_at hW0 hvm.symm (hgood w (List.mem_cons_of_mem _ (List.mem_cons_of_mem _ hw))) (hat w hw)
  have hk' : (Cond.classLink own ik cls).before args s' = true := vx_ot_at hW0 hvm.symm (hgood _ List.mem_cons_self) hk
  have hini' : (Cond.initialized cls).before args s' = true := vx_ot_at hW0 hvm.symm (hgood _ (List.mem_cons_of_mem _ List.mem_cons_self)) hini
  have hU' : vx_Zq Bundle.tN "UNASSIGNED_STACK" Bundle.steD A s' s'.heap := by rw [hhp]; exact vx_Zq.moved hW0.alike (hU.kept hS.2.1)
  have hN' : vx_Zq Bundle.tN "SUPPRESSED_SENTINEL" Bundle.listD A s' s'.heap := by rw [hhp]; exact vx_Zq.moved hW0.alike (hN.kept hS.2.1)
  have h : ∀ w ∈ Bundle.ownAtoms0 own ic cls names, w.before args s' = true := vx_own hat' (vx_isRefq hU'.1) (vx_isRefq hN'.1) hU'.2.word hN'.2.word
  have hown' : s'.vm.findClass own = some m.cls := by rw [hvm]; exact hown
  have hins : (Cond.instantiable cls 6).before args s' = true := h _ (by simp [Bundle.ownAtoms0])
  obtain ⟨vm₁, cX, kX, hfX, hkX, -, -, X₁, st1⟩ := Y.newCold hexec (own := own) (C := cls) (index := ik) (n := 6) hown' hk' hins hini'
    (g := F0 m pc ls rest) rfl (by rw [hb]; exact d0) (Nat.le_refl _) (Nat.le_refl _)
  generalize hT1 : (T.setVm vm₁).pushCell { cls := cX, slots := kX.instanceTypes.map defaultValue, vm := .none } = T1 at X₁ st1
  have hcat : (Value.ref T.heap.size).category = 1 := rfl
  have hcellA : T1.heap[T.heap.size]? = some (freshCell cX kX) := by rw [← hT1]; exact State.heap_pushCell_size _ _
  have d3' : decode c.code (pc + 3) = .ok (.dup, 1) := by rw [hb]; exact d3
  obtain ⟨U, hsteps, hrun, hend, hW, hsame, ce, hce, hO⟩ := X₁.ctorThrow0 hexec htr (own := own) (cls := cls) (names := names) (ic := ic) hown' hcls hnames h (fun x hx => nomatch hx) hfX hkX hcellA (by rw [hhp, hT]; exact Nat.le_refl _)
    (g := { method := m, pc := pc + 4, locals := ls, stack := .ref T.heap.size :: .ref T.heap.size :: rest, locked := none }) rfl hsize rfl rfl (rest := rest) rfl
    (by rw [hb]; exact d4) (by rw [hb]; exact d7) hout hRframes (by simp only [List.map_cons, List.sum_cons, hcat]; omega) hlocks
  obtain ⟨f1, f2⟩ := vx_frame hsame
  rw [hhp] at f1 f2
  have hWs : s.WarmedH U.vm := State.WarmedH.trans hW0 hW
  have hcl : s.vm.findClass cls = some ce.cls := by
    have h9 := hO.cls
    rw [hvm] at h9
    exact h9
  have hall : s.sameButNew ({ U with vm := s.vm } : State) locs mc ms := by
    subst hA
    obtain ⟨e1, e2⟩ := hsame
    rw [State.setFrames_setFrames] at e1
    have h2 : (T.setVm s.vm).sameButNew ({ U with vm := s.vm } : State) [] (0 + 1) (0 + 6) := ⟨e1, e2⟩
    have h3 := X.same.trans h2
    rw [List.append_nil] at h3
    exact h3.mono hc hs
  refine ⟨U, ?_, .threw T.heap.size, hrun, hend, Or.inr ⟨T.heap.size, rfl, cls, ce, locs, hx U hWs.alike f1 (fun q hq => f2 q hq (fun z hz => nomatch hz)), hce, hO.vm, hcl, hWs, hall, hf⟩⟩
  refine st1 _ ?_
  show Steps p.tables e below (T1.setTop { method := m, pc := pc + 3, locals := ls, stack := .ref T.heap.size :: rest, locked := none }) _
  jvm_step X₁.here [X₁.here.top, hexec, d3', Value.category]
  exact hsteps
/-- 'throw new E("text")': new; dup; ldc; invokespecial; athrow -/
theorem vx_throwS {cc : ByteArray} {pc : Nat} (hexec : p.tables.exec = Jvm.exec) (hb : c.code = cc) (hl : l.stackTraces = false) {own cls text : String} {names : List String} {ik is ic mc ms sa : Nat} {A : Nat → Prop}
    (hown : s.vm.findClass own = some m.cls) (hcls : Bundle.fit cls = true) (hnames : ∀ n ∈ names, Bundle.fit n = true)
    (hk : (Cond.classLink own ik cls).before args s = true) (hini : (Cond.initialized cls).before args s = true) (hstr : vk_R own is text sa s) (hat : ∀ w ∈ vx_atS own ic cls names, w.before args s = true)
    (hgood : ∀ w ∈ Cond.classLink own ik cls :: Cond.initialized cls :: vx_atS own ic cls names, vx_ot w = true)
    (hU : vx_Zq Bundle.tN "UNASSIGNED_STACK" Bundle.steD A s s.heap) (hN : vx_Zq Bundle.tN "SUPPRESSED_SENTINEL" Bundle.listD A s s.heap) (hS : va_S A s.heap H locs) (hsize : ls.size = c.maxLocals)
    (d0 : decode cc pc = .ok (.new ik, 3)) (d3 : decode cc (pc + 3) = .ok (.dup, 1)) (d4 : decode cc (pc + 4) = .ok (.ldc is, 2)) (d6 : decode cc (pc + 6) = .ok (.invokespecial ic, 3)) (d9 : decode cc (pc + 9) = .ok (.athrow, 1))
    (hout : ∀ x ∈ c.exceptionTable.toList, covers x (pc + 9) = false)
    (hRframes : names.length + 3 < R.frames) (hRlocals : (rest.map fun v => v.category).sum + (13 * (names.length + 1) + 43) ≤ R.locals) (hRcells : cells + 1 ≤ R.cells) (hRslots : slots + 6 ≤ R.slots) (hlocks : meth.locks = false)
    (hx : ∀ t : State, s.vm.Alike t.vm → H.size ≤ t.heap.size → (∀ q : Nat, q < H.size → t.heap[q]? = H[q]?) → XC cls s t)
    (hf : ∀ z ∈ locs, free z.base) (hc : cells + 1 ≤ mc) (hs : slots + 6 ≤ ms) :
    W p l e R s m args below meth c H locs cells slots (vx_MQ below Qc XC args s mc ms free) (F0 m pc ls rest) := by
  intro T hT X
  have htr : e.platform.stackTraces = false := (show e.platform.stackTraces = l.stackTraces by rw [X.admits.platform]).trans hl
  have Y := vx_rebase X (R' := { frames := R.frames, locals := R.locals, cells := 1, slots := 6 }) (Nat.le_refl _) (Nat.le_refl _) hRcells hRslots
  obtain ⟨s', hA⟩ : ∃ z, z = (T.setVm s.vm).setFrames (.invoking m args :: below) := ⟨_, rfl⟩
  rw [← hA] at Y
  have hvm : s'.vm = s.vm := by rw [hA]; rfl
  have hhp : s'.heap = H := by rw [hA]; exact hT
  have hW0 : s.WarmedH s'.vm := by rw [hvm]; exact State.WarmedH.refl s
  have hat' : ∀ w ∈ vx_atS own ic cls names, w.before args s' = true := fun w hw => vx_ot_at hW0 hvm.symm (hgood w (List.mem_cons_of_mem _ (List.mem_cons_of_mem _ hw))) (hat w hw)
  have hk' : (Cond.classLink own ik cls).before args s' = true := vx_ot_at hW0 hvm.symm (hgood _ List.mem_cons_self) hk
  have hini' : (Cond.initialized cls).before args s' = true := vx_ot_at hW0 hvm.symm (hgood _ (List.mem_cons_of_mem _ List.mem_cons_self)) hini
  have hU' : vx_Zq Bundle.tN "UNASSIGNED_STACK" Bundle.steD A s' s'.heap := by rw [hhp]; exact vx_Zq.moved hW0.alike (hU.kept hS.2.1)
  have hN' : vx_Zq Bundle.tN "SUPPRESSED_SENTINEL" Bundle.listD A s' s'.heap := by rw [hhp]; exact vx_Zq.moved hW0.alike (hN.kept hS.2.1)
  have h : ∀ w ∈ Bundle.ownAtoms own ic cls names, w.before args s' = true := vx_own hat' (vx_isRefq hU'.1) (vx_isRefq hN'.1) hU'.2.word hN'.2.word
  have hown' : s'.vm.findClass own = some m.cls := by rw [hvm]; exact hown
  have hins : (Cond.instantiable cls 6).before args s' = true := h _ (by simp [Bundle.ownAtoms])
  obtain ⟨vm₁, cX, kX, hfX, hkX, -, -, X₁, st1⟩ := Y.newCold hexec (own := own) (C := cls) (index := ik) (n := 6) hown' hk' hins hini'
    (g := F0 m pc ls rest) rfl (by rw [hb]; exact d0) (Nat.le_refl _) (Nat.le_refl _)
  generalize hT1 : (T.setVm vm₁).pushCell { cls := cX, slots := kX.instanceTypes.map defaultValue, vm := .none } = T1 at X₁ st1
  have hcat : (Value.ref T.heap.size).category = 1 := rfl
  have hcellA : T1.heap[T.heap.size]? = some (freshCell cX kX) := by rw [← hT1]; exact State.heap_pushCell_size _ _
  have d3' : decode c.code (pc + 3) = .ok (.dup, 1) := by rw [hb]; exact d3
  have d4' : decode c.code (pc + 4) = .ok (.ldc is, 2) := by rw [hb]; exact d4
  have hstr' : vk_R own is text sa s' := vk_R.warm hW0 hstr
  obtain ⟨U, hsteps, hrun, hend, hW, hsame, ce, hce, hO⟩ := X₁.ctorThrowS hexec htr (own := own) (cls := cls) (names := names) (ic := ic) hown' hcls hnames h (fun x hx => nomatch hx) hfX hkX hcellA (by rw [hhp, hT]; exact Nat.le_refl _) (msg := .ref sa) rfl
    (g := { method := m, pc := pc + 6, locals := ls, stack := .ref sa :: .ref T.heap.size :: .ref T.heap.size :: rest, locked := none }) rfl hsize rfl rfl (rest := rest) rfl
    (by rw [hb]; exact d6) (by rw [hb]; exact d9) hout hRframes (by simp only [List.map_cons, List.sum_cons, hcat]; omega) hlocks
  obtain ⟨f1, f2⟩ := vx_frame hsame
  rw [hhp] at f1 f2
  have hWs : s.WarmedH U.vm := State.WarmedH.trans hW0 hW
  have hcl : s.vm.findClass cls = some ce.cls := by
    have h9 := hO.cls
    rw [hvm] at h9
    exact h9
  have hall : s.sameButNew ({ U with vm := s.vm } : State) locs mc ms := by
    subst hA
    obtain ⟨e1, e2⟩ := hsame
    rw [State.setFrames_setFrames] at e1
    have h2 : (T.setVm s.vm).sameButNew ({ U with vm := s.vm } : State) [] (0 + 1) (0 + 6) := ⟨e1, e2⟩
    have h3 := X.same.trans h2
    rw [List.append_nil] at h3
    exact h3.mono hc hs
  refine ⟨U, ?_, .threw T.heap.size, hrun, hend, Or.inr ⟨T.heap.size, rfl, cls, ce, locs, hx U hWs.alike f1 (fun q hq => f2 q hq (fun z hz => nomatch hz)), hce, hO.vm, hcl, hWs, hall, hf⟩⟩
  refine st1 _ ?_
  show Steps p.tables e below (T1.setTop { method := m, pc := pc + 3, locals := ls, stack := .ref T.heap.size :: rest, locked := none }) _
  jvm_step X₁.here [X₁.here.top, hexec, d3', Value.category]
  exact X₁.ldcString hexec (own := own) (text := text) (index := is) (a := sa) hown' hstr'.1 hstr'.2
    (g := { method := m, pc := pc + 4, locals := ls, stack := .ref T.heap.size :: .ref T.heap.size :: rest, locked := none }) rfl d4' _ hsteps
/-- 'throw new E("text")', the text by a wide index -/
theorem vx_throwSW {cc : ByteArray} {pc : Nat} (hexec : p.tables.exec = Jvm.exec) (hb : c.code = cc) (hl : l.stackTraces = false) {own cls text : String} {names : List String} {ik is ic mc ms sa : Nat} {A : Nat → Prop}
    (hown : s.vm.findClass own = some m.cls) (hcls : Bundle.fit cls = true) (hnames : ∀ n ∈ names, Bundle.fit n = true)
    (hk : (Cond.classLink own ik cls).before args s = true) (hini : (Cond.initialized cls).before args s = true) (hstr : vk_R own is text sa s) (hat : ∀ w ∈ vx_atS own ic cls names, w.before args s = true)
    (hgood : ∀ w ∈ Cond.classLink own ik cls :: Cond.initialized cls :: vx_atS own ic cls names, vx_ot w = true)
    (hU : vx_Zq Bundle.tN "UNASSIGNED_STACK" Bundle.steD A s s.heap) (hN : vx_Zq Bundle.tN "SUPPRESSED_SENTINEL" Bundle.listD A s s.heap) (hS : va_S A s.heap H locs) (hsize : ls.size = c.maxLocals)
    (d0 : decode cc pc = .ok (.new ik, 3)) (d3 : decode cc (pc + 3) = .ok (.dup, 1)) (d4 : decode cc (pc + 4) = .ok (.ldc_w is, 3)) (d7 : decode cc (pc + 7) = .ok (.invokespecial ic, 3)) (d10 : decode cc (pc + 10) = .ok (.athrow, 1))
    (hout : ∀ x ∈ c.exceptionTable.toList, covers x (pc + 10) = false)
    (hRframes : names.length + 3 < R.frames) (hRlocals : (rest.map fun v => v.category).sum + (13 * (names.length + 1) + 43) ≤ R.locals) (hRcells : cells + 1 ≤ R.cells) (hRslots : slots + 6 ≤ R.slots) (hlocks : meth.locks = false)
    (hx : ∀ t : State, s.vm.Alike t.vm → H.size ≤ t.heap.size → (∀ q : Nat, q < H.size → t.heap[q]? = H[q]?) → XC cls s t)
    (hf : ∀ z ∈ locs, free z.base) (hc : cells + 1 ≤ mc) (hs : slots + 6 ≤ ms) :
    W p l e R s m args below meth c H locs cells slots (vx_MQ below Qc XC args s mc ms free) (F0 m pc ls rest) := by
  intro T hT X
  have htr : e.platform.stackTraces = false := (show e.platform.stackTraces = l.stackTraces by rw [X.admits.platform]).trans hl
  have Y := vx_rebase X (R' := { frames := R.frames, locals := R.locals, cells := 1, slots := 6 }) (Nat.le_refl _) (Nat.le_refl _) hRcells hRslots
  obtain ⟨s', hA⟩ : ∃ z, z = (T.setVm s.vm).setFrames (.invoking m args :: below) := ⟨_, rfl⟩
  rw [← hA] at Y
  have hvm : s'.vm = s.vm := by rw [hA]; rfl
  have hhp : s'.heap = H := by rw [hA]; exact hT
  have hW0 : s.WarmedH s'.vm := by rw [hvm]; exact State.WarmedH.refl s
  have hat' : ∀ w ∈ vx_atS own ic cls names, w.before args s' = true := fun w hw => vx_ot_at hW0 hvm.symm (hgood w (List.mem_cons_of_mem _ (List.mem_cons_of_mem _ hw))) (hat w hw)
  have hk' : (Cond.classLink own ik cls).before args s' = true := vx_ot_at hW0 hvm.symm (hgood _ List.mem_cons_self) hk
  have hini' : (Cond.initialized cls).before args s' = true := vx_ot_at hW0 hvm.symm (hgood _ (List.mem_cons_of_mem _ List.mem_cons_self)) hini
  have hU' : vx_Zq Bundle.tN "UNASSIGNED_STACK" Bundle.steD A s' s'.heap := by rw [hhp]; exact vx_Zq.moved hW0.alike (hU.kept hS.2.1)
  have hN' : vx_Zq Bundle.tN "SUPPRESSED_SENTINEL" Bundle.listD A s' s'.heap := by rw [hhp]; exact vx_Zq.moved hW0.alike (hN.kept hS.2.1)
  have h : ∀ w ∈ Bundle.ownAtoms own ic cls names, w.before args s' = true := vx_own hat' (vx_isRefq hU'.1) (vx_isRefq hN'.1) hU'.2.word hN'.2.word
  have hown' : s'.vm.findClass own = some m.cls := by rw [hvm]; exact hown
  have hins : (Cond.instantiable cls 6).before args s' = true := h _ (by simp [Bundle.ownAtoms])
  obtain ⟨vm₁, cX, kX, hfX, hkX, -, -, X₁, st1⟩ := Y.newCold hexec (own := own) (C := cls) (index := ik) (n := 6) hown' hk' hins hini'
    (g := F0 m pc ls rest) rfl (by rw [hb]; exact d0) (Nat.le_refl _) (Nat.le_refl _)
  generalize hT1 : (T.setVm vm₁).pushCell { cls := cX, slots := kX.instanceTypes.map defaultValue, vm := .none } = T1 at X₁ st1
  have hcat : (Value.ref T.heap.size).category = 1 := rfl
  have hcellA : T1.heap[T.heap.size]? = some (freshCell cX kX) := by rw [← hT1]; exact State.heap_pushCell_size _ _
  have d3' : decode c.code (pc + 3) = .ok (.dup, 1) := by rw [hb]; exact d3
  have d4' : decode c.code (pc + 4) = .ok (.ldc_w is, 3) := by rw [hb]; exact d4
  have hstr' : vk_R own is text sa s' := vk_R.warm hW0 hstr
  obtain ⟨U, hsteps, hrun, hend, hW, hsame, ce, hce, hO⟩ := X₁.ctorThrowS hexec htr (own := own) (cls := cls) (names := names) (ic := ic) hown' hcls hnames h (fun x hx => nomatch hx) hfX hkX hcellA (by rw [hhp, hT]; exact Nat.le_refl _) (msg := .ref sa) rfl
    (g := { method := m, pc := pc + 7, locals := ls, stack := .ref sa :: .ref T.heap.size :: .ref T.heap.size :: rest, locked := none }) rfl hsize rfl rfl (rest := rest) rfl
    (by rw [hb]; exact d7) (by rw [hb]; exact d10) hout hRframes (by simp only [List.map_cons, List.sum_cons, hcat]; omega) hlocks
  obtain ⟨f1, f2⟩ := vx_frame hsame
  rw [hhp] at f1 f2
  have hWs : s.WarmedH U.vm := State.WarmedH.trans hW0 hW
  have hcl : s.vm.findClass cls = some ce.cls := by
    have h9 := hO.cls
    rw [hvm] at h9
    exact h9
  have hall : s.sameButNew ({ U with vm := s.vm } : State) locs mc ms := by
    subst hA
    obtain ⟨e1, e2⟩ := hsame
    rw [State.setFrames_setFrames] at e1
    have h2 : (T.setVm s.vm).sameButNew ({ U with vm := s.vm } : State) [] (0 + 1) (0 + 6) := ⟨e1, e2⟩
    have h3 := X.same.trans h2
    rw [List.append_nil] at h3
    exact h3.mono hc hs
  refine ⟨U, ?_, .threw T.heap.size, hrun, hend, Or.inr ⟨T.heap.size, rfl, cls, ce, locs, hx U hWs.alike f1 (fun q hq => f2 q hq (fun z hz => nomatch hz)), hce, hO.vm, hcl, hWs, hall, hf⟩⟩
  refine st1 _ ?_
  show Steps p.tables e below (T1.setTop { method := m, pc := pc + 3, locals := ls, stack := .ref T.heap.size :: rest, locked := none }) _
  jvm_step X₁.here [X₁.here.top, hexec, d3', Value.category]
  exact X₁.ldcStringW hexec (own := own) (text := text) (index := is) (a := sa) hown' hstr'.1 hstr'.2
    (g := { method := m, pc := pc + 4, locals := ls, stack := .ref T.heap.size :: .ref T.heap.size :: rest, locked := none }) rfl d4' _ hsteps
end Ends
section Bodies
variable {l : Launch}
theorem vx_ofW {y : MethodName} {ws ws' : List Cond} {rm : Room} {Pc : Array Value → State → Prop} {Qc : Array Value → State → Outcome → State → Prop} {XC : String → State → State → Prop} {mc ms : Nat} {free : Addr → Prop} {cc : ByteArray} {maxL : Nat} {ret : Option FieldType}
    (hy : plainName y.cls = true) (hw : ws = Cond.code y cc maxL ret :: ws')
    (body : ∀ p e s m args below meth c s₁, BodyLoose p l y (headSpec ws rm) cc maxL ret e s m args below meth c s₁ → c.maxLocals = maxL → (∀ x ∈ c.exceptionTable.toList, False) → Pc args s →
      W p l e (headSpec ws rm).room s m args below meth c s.heap [] 0 0 (vx_MQ below Qc XC args s mc ms free) (entryFrame m args maxL)) : vx_Met l y ws rm Pc Qc XC mc ms free := by
  refine MetFree.of_bodyS (code := cc) (maxLocals := maxL) (ret := ret) hy ?_ ?_
  · intro args s m h hn
    obtain ⟨meth, c, h1, h2, h3, h4, h5, h6, -, -⟩ := Cond.code_spec hn (atoms_spec (ws := ws) h _ (by rw [hw]; exact List.mem_cons_self))
    exact ⟨meth, c, h1, h2, h3, h4, h5, h6⟩
  · intro p e s m args below meth c s₁ B hml hP _
    have hh0 : s₁.heap = s.heap := by rw [B.state]; rfl
    have ht : ∀ x ∈ c.exceptionTable.toList, False := by
      obtain ⟨meth9, c9, h1, h2, -, -, -, -, h7, -⟩ := Cond.code_spec B.named (atoms_spec (ws := ws) B.pre _ (by rw [hw]; exact List.mem_cons_self))
      cases Option.some.inj (h1.symm.trans B.method)
      cases Option.some.inj (h2.symm.trans (Stand.of_body B).code)
      intro x hx
      rw [Array.isEmpty_iff.mp h7] at hx
      cases hx
    obtain ⟨t, a1, o, b1, b2, b3⟩ := body p e s m args below meth c s₁ B hml ht hP s₁ hh0 (Stand.of_body B)
    exact ⟨t, o, a1, b1, b2, b3⟩
/-- the table of a body with handlers -/
theorem vx_table {p : Program} {x y : MethodName} {S : Spec} {cc bytes : ByteArray} {maxL maxL' : Nat} {ret ret' : Option FieldType} {e : Env} {s s₁ : State} {m : MethodId} {args : Array Value} {below : List Frame} {meth : Method} {c : Code} {hh : List (Nat × Nat × Nat × Nat)}
    (B : BodyLoose p l y S cc maxL ret e s m args below meth c s₁) (h : (Cond.codeWith y bytes maxL' ret' hh).before args s = true) : c.exceptionTable.toList = tableOf hh := by
  obtain ⟨m9, meth9, c9, hn9, h1, h2, -, -, h6, -⟩ := Cond.codeWith_spec h
  cases Option.some.inj (hn9.symm.trans B.named)
  cases Option.some.inj (h1.symm.trans B.method)
  cases Option.some.inj (h2.symm.trans (Stand.of_body B).code)
  rw [← h6, table_eq]
end Bodies
end VXA
/-! ===== END ===== -/
/-! ===== BEGIN a static call of a method with an exception table ===== -/
section VXS
variable {p : Program} {l : Launch} {e : Env} {R : Room} {s : State} {m : MethodId} {args : Array Value} {below : List Frame} {meth : Method} {c : Code} {T : State} {H : Heap} {locs : List Loc} {cells slots : Nat}
abbrev vx_CSW (R : Room) (s : State) (args : Array Value) (own : String) (index : Nat) (y : MethodName) (bytes : ByteArray) (maxL : Nat) (ret : Option FieldType) (hh : List (Nat × Nat × Nat × Nat)) (ws : List Cond) (rm : Room) (mc ms n : Nat) : Prop :=
  (rm.cells = mc ∧ rm.slots = ms ∧ rm.frames + 1 ≤ R.frames ∧ 8 + (maxL + 11) + rm.locals ≤ R.locals ∧ (∀ w ∈ ws, ∀ (a' : Array Value) (U : State), s.WarmedH U.vm → w.before a' U = true) ∧ Cond.codeWith y bytes maxL ret hh ∈ ws) ∧
  (Cond.codeWith y bytes maxL ret hh).before args s = true ∧ (Cond.initialized y.cls).before args s = true ∧ (y.cls ≠ "java/lang/invoke/MethodHandle" ∧ y.cls ≠ "java/lang/invoke/VarHandle") ∧
  (∀ sig, parseMethodDescriptor y.desc = some sig → n = sig.parameters.length) ∧ (Cond.methodLink own index y).before args s = true ∧ (Cond.static y).before args s = true
theorem vx_cwSW {own : String} {index maxL mc ms : Nat} {y : MethodName} {bytes : ByteArray} {ret : Option FieldType} {hh : List (Nat × Nat × Nat × Nat)} {Ts ws ws' : List Cond} {rm : Room} (n : Nat) (ht : ∀ w ∈ Ts, w.before args s = true) (hT : GoodIn Ts (va_wsS own index y ws)) (hw : ws = Cond.codeWith y bytes maxL ret hh :: ws') (hrc : rm.cells = mc) (hrs : rm.slots = ms)
    (hd : y.cls ≠ "java/lang/invoke/MethodHandle" ∧ y.cls ≠ "java/lang/invoke/VarHandle" ∧ (parseMethodDescriptor y.desc).map (fun d => d.parameters.length) = some n) (hR : rm.frames + 1 ≤ R.frames ∧ 8 + (maxL + 11) + rm.locals ≤ R.locals) :
    vx_CSW R s args own index y bytes maxL ret hh ws rm mc ms n := by
  have ok : ∀ w ∈ va_wsS own index y ws, w.before args s = true := fun w h => ht w (hT w h).1
  have hG : GoodIn Ts ws := fun w h => hT w (by unfold va_wsS; exact List.mem_append_right _ h)
  have hc : Cond.codeWith y bytes maxL ret hh ∈ ws := by rw [hw]; exact List.mem_cons_self
  refine ⟨⟨hrc, hrs, hR.1, hR.2, pay_in ht hG, hc⟩, ht _ (hG _ hc).1, ok _ (by simp [va_wsS]), ⟨hd.1, hd.2.1⟩, fun sig h => ?_, ok _ (by simp [va_wsS]), ok _ (by simp [va_wsS])⟩
  have h2 := hd.2.2
  rw [h] at h2
  exact (Option.some.inj h2).symm
theorem vx_callSW (X : Stand p l e R s m args below meth c T locs cells slots) (hexec : p.tables.exec = Jvm.exec) {own : String} {index : Nat} {y : MethodName} {bytes : ByteArray} {maxL : Nat} {ret : Option FieldType} {hh : List (Nat × Nat × Nat × Nat)}
    (hown : s.vm.findClass own = some m.cls) (hlink : (Cond.methodLink own index y).before args s = true) (hstat : (Cond.static y).before args s = true) (hinit : (Cond.initialized y.cls).before args s = true)
    (hcode : (Cond.codeWith y bytes maxL ret hh).before args s = true) (hy : y.cls ≠ "java/lang/invoke/MethodHandle" ∧ y.cls ≠ "java/lang/invoke/VarHandle")
    {W9 : Nat} {Pre : Pt → Array Value → Prop} {Post : Pt → Array Value → Option Value → Pt → Prop} (hK : Back l R p e below s args y 3 W9 Pre Post)
    {g : JFrame} (hg : g.method = m) (hsize : g.locals.size = c.maxLocals) {argsL rest : List Value} (hlen : ∀ sig, parseMethodDescriptor y.desc = some sig → argsL.length = sig.parameters.length)
    (hstack : g.stack = argsL.reverse ++ rest) (hW : 2 * g.monitorRoom + (rest.map fun v => v.category).sum ≤ W9) (hdg : decode c.code g.pc = .ok (.invokestatic index, 3))
    (hpre : ∀ vm₁, s.WarmedH vm₁ → Pre ⟨T.setVm vm₁, locs, cells, slots⟩ argsL.toArray) :
    ∃ (v : Option Value) (vm₁ : Vm) (B : Pt), s.WarmedH vm₁ ∧ Stand p l e R s m args below meth c B.U B.locs B.cells B.slots ∧ Post ⟨T.setVm vm₁, locs, cells, slots⟩ argsL.toArray v B ∧
      ∀ target, Steps p.tables e below (B.U.setTop { g with pc := g.pc + 3, stack := v.toList ++ rest }) target → Steps p.tables e below (T.setTop g) target := by
  obtain ⟨mk, methM, cM, hnamed, hmethM, -, -, -, -, -, -, hsigM⟩ := Cond.codeWith_spec hcode
  have hstatic : methM.isStatic = true := Cond.static_spec hnamed hmethM hstat
  obtain ⟨kP, hkP, -⟩ := className_of_methodNamed hnamed
  have hinitP : kP.init = .initialized := Cond.initialized_spec (findClass_of_methodNamed hnamed) hkP hinit
  obtain ⟨vm₁, X₁, hstep₁⟩ := X.invokestatic hexec hown hlink hnamed hmethM hstatic hkP hinitP hy (g := g) hg (argsL := argsL) (rest := rest) (hlen _ hsigM) hstack hdg
  obtain ⟨v, B, X', hpost, hsteps⟩ := hK m meth c ⟨T.setVm vm₁, locs, cells, slots⟩ { g with stack := rest } (.invokestatic index) mk argsL.toArray X₁ hg hsize hdg hW (X₁.named hnamed) (hpre vm₁ X₁.warmed)
  exact ⟨v, vm₁, B, X₁.warmed, X', hpost, fun target h => hstep₁ _ fun acts => by rw [doInvoke_state]; exact hsteps.trans h⟩
theorem vx_runSW {y : MethodName} {bytes cc : ByteArray} {maxL nL mc ms n index : Nat} {ret : Option FieldType} {hh : List (Nat × Nat × Nat × Nat)} {ws : List Cond} {rm : Room} {Pc : Array Value → State → Prop} {Qc : Array Value → State → Outcome → State → Prop} {free : Addr → Prop} {Ts : List Cond} {own : String} {As rest : List Value} {g : JFrame}
    (S : CallFix p m c cc nL s args Ts own) (hM : Met l y ws rm Pc Qc mc ms free) (cw : vx_CSW R s args own index y bytes maxL ret hh ws rm mc ms n) (hp : PreS s H Pc As)
    (hg : g.method = m) (hn : As.length = n) (hsize : g.locals.size = nL) (hstack : g.stack = As.reverse ++ rest) (hW : 2 * g.monitorRoom + (rest.map fun v => v.category).sum ≤ 8) (hdg : decode cc g.pc = .ok (.invokestatic index, 3)) (hf : cells + mc ≤ R.cells ∧ slots + ms ≤ R.slots) :
    va_Run p l e R s m args below meth c H locs cells slots mc ms g rest (Qc As.toArray) (free) := by
  obtain ⟨⟨hrc, hrs, hfr, hlo, hws, hcw⟩, hcode, hini, hy, hlen, hl, hstt⟩ := cw
  have hK : Back l R p e below s args y 3 8 (PreOf R mc ms Pc) (PostOf Qc mc ms free) := va_backW (hh := hh) (bytes := bytes) (maxL := maxL) (ret := ret) hM hp.1 hrc hrs hfr hlo hws hcw (fun a' U hW => word_at hW (Or.inl (by first | rfl | simp [Cond.onTables, Cond.keeps, Cond.steady])) hini)
  obtain ⟨hx, hb, hml, ho, -⟩ := S
  intro T hT X
  obtain ⟨v, vm₁, ⟨U', l2, c2, s2⟩, hW₁, X', ⟨g', mk, t, L, e1, e2, hq, h1, hL, h2, h3⟩, st⟩ := vx_callSW X hx (hh := hh) (bytes := bytes) (maxL := maxL) (ret := ret) ho hl hstt hini hcode hy hK hg (hsize.trans hml.symm) (argsL := As) (rest := rest) (fun sig h => hn.trans (hlen sig h)) hstack hW (by rw [hb]; exact hdg)
    (fun vm₁ hW₁ => ⟨hf.1, hf.2, hp.2 (T.setVm vm₁) hT hW₁⟩)
  dsimp only [Pt.U, Pt.locs, Pt.cells, Pt.slots] at X' e1 e2 h1 h2 h3 st
  subst h1; subst h2; subst h3
  exact ⟨v, (T.setVm vm₁).calling g' mk As.toArray, t, U', L, hT, X', hL, e1, e2, hq, st⟩
/-- not caught here, past rows that name other classes: it goes on to the caller -/
theorem vx_outP {p : Program} {l : Launch} {e : Env} {R : Room} {s : State} {m : MethodId} {args : Array Value} {below : List Frame} {meth : Method} {c : Code} {H : Heap} {locs : List Loc} {cells slots : Nat} {free : Addr → Prop} {ls : Array Slot} {rest : List Value} {Qc : Array Value → State → Outcome → State → Prop} {XC : String → State → State → Prop}
    {pc : Nat} {own E : String} {ce : Cell} {q : Addr} {mc ms : Nat} (hown : s.vm.findClass own = some m.cls) (hlocks : meth.locks = false)
    (hpass : ∀ z ∈ c.exceptionTable.toList, covers z pc = false ∨ (z.catchType ≠ 0 ∧ ∃ nm : String, (Cond.classLink own z.catchType nm).before args s = true ∧ va_Nc E nm s)) (hcell : H[q]? = some ce) (hv : ce.vm = .none) (hcl : s.vm.findClass E = some ce.cls)
    (hx : ∀ t : State, t.heap = H → s.vm.Alike t.vm → XC E s t) (hf : ∀ z ∈ locs, free z.base) (hc : cells ≤ mc) (hs : slots ≤ ms) :
    vx_W p l e R s m args below meth c H locs cells slots (vx_MQ below Qc XC args s mc ms free) (F0 m pc ls rest) q := by
  intro T hT X
  have hpl : e.platform.magicAccessors = ({} : Platform).magicAccessors := by rw [X.admits.platform]
  obtain ⟨vm', hW', X', st⟩ := Stand.outThrough X hlocks q (g := F0 m pc ls rest) rfl rfl rfl (cell := ce) (by rw [hT]; exact hcell) (by rw [hv]; rfl)
    (by obtain ⟨k9, h9, -⟩ := Vm.findClass_spec hcl; exact ⟨k9, h9⟩) (fun z hz => by
      rcases hpass z hz with h | ⟨hz0, nm, hl1, hn1⟩
      · exact Or.inl h
      · obtain ⟨c6, hc6, hcl6⟩ := Cond.classLink_spec hown hl1 e.platform hpl
        obtain ⟨a8, b8, h1, h2, h3⟩ := hn1
        cases Option.some.inj (h1.symm.trans hcl)
        cases Option.some.inj (h2.symm.trans hc6)
        exact Or.inr ⟨hz0, _, hcl6, h3⟩)
  obtain ⟨g₀, hfr⟩ := X'.frames_eq
  have hcell9 : ((T.setVm vm').setFrames (.throwing q :: below)).heap[q]? = some ce := by
    show T.heap[q]? = some ce
    rw [hT]; exact hcell
  have hend : Ended ((T.setVm vm').setFrames (.throwing q :: below)) below (.threw q) := State.frames_setFrames _ (State.cur_lt_of_frames hfr)
  refine ⟨(T.setVm vm').setFrames (.throwing q :: below), ?_, .threw q, X'.here.running, hend, Or.inr ⟨q, rfl, E, ce, locs, hx _ hT (X'.ends _).1.alike, hcell9, hv, hcl, (X'.ends _).1, (X'.ends _).2.mono hc hs, hf⟩⟩
  rw [X.pushThrowing_eq]
  exact st
/-- a thing of a world lies in the heap -/
theorem vx_lt {D : va_G} {cl : List vw_C} {ws : va_W} {H1 : Heap} (h : va_P D cl ws H1) {k : Nat} {q : Nat × va_E} (hk : ws[k]? = some q) : q.1 < H1.size := (h k q hk).lt
end VXS
/-! ===== END ===== -/
/-! ===== BEGIN methods with a table of their own: called by a name, returning or throwing ===== -/
section VXH
/-! vx_backW, vx_callVX, vx_callSX, vx_callVW, vx_runVW, vx_runVX, vx_runSX, vx_ofWH follow the same proofs as their sisters above (Free/Laws.lean, Shelf42/LK1.lean); vx_outP calls Shelf42/NT130.lean (outThrough). -/
section
variable {l : Launch} {R : Room} {p : Program} {e : Env} {below : List Frame} {s : State} {sargs : Array Value} {y : MethodName} {len W9 : Nat}
theorem vx_backW {ws : List Cond} {rm : Room} {Pc : Array Value → State → Prop} {Qc : Array Value → State → Outcome → State → Prop} {XC : String → State → State → Prop} {mc ms : Nat} {free : Addr → Prop} {bytes : ByteArray} {maxL : Nat} {ret : Option FieldType} {hh : List (Nat × Nat × Nat × Nat)}
    (hM : vx_Met l y ws rm Pc Qc XC mc ms free) (hblind : FrameBlind Pc) (hrc : rm.cells = mc) (hrs : rm.slots = ms)
    (hframes : rm.frames + 1 ≤ R.frames) (hlocals : W9 + (maxL + 11) + rm.locals ≤ R.locals)
    (hws : ∀ w ∈ ws, ∀ a' U, s.WarmedH U.vm → w.before a' U = true) (hcode : Cond.codeWith y bytes maxL ret hh ∈ ws) (hinit : ∀ a' U, s.WarmedH U.vm → (Cond.initialized y.cls).before a' U = true) :
    vx_Back l R p e below s sargs y len W9 (PreOf R mc ms Pc) (PostOf Qc mc ms free) (vx_Post XC mc ms free) := by
  intro m meth c A g ig mk a X hg hsize hdg hW hn hp
  have h1 : (headSpec ws rm).pre.before a A.U = true := atoms_intro fun w hw => hws w hw _ _ X.warmed
  have h2 : (Cond.codeWith y bytes maxL ret hh).before a A.U = true := hws _ hcode _ _ X.warmed
  have h3 : (Cond.initialized y.cls).before a A.U = true := hinit _ _ X.warmed
  have h4 : A.cells + (headSpec ws rm).room.cells ≤ R.cells := by rw [show (headSpec ws rm).room.cells = mc from hrc]; exact hp.1
  have h5 : A.slots + (headSpec ws rm).room.slots ≤ R.slots := by rw [show (headSpec ws rm).room.slots = ms from hrs]; exact hp.2.1
  have hPc : Pc a (A.U.calling g mk a) := hblind _ _ _ _ hp.2.2
  obtain ⟨U, Ls, c0, s0⟩ := A
  dsimp only [Pt.U, Pt.locs, Pt.cells, Pt.slots] at h1 h2 h3 h4 h5 X hn hPc ⊢
  obtain ⟨m9, methY, cY, hn9, hmY, hcY, -, hlY, -⟩ := Cond.codeWith_spec h2
  cases Option.some.inj (hn9.symm.trans hn)
  obtain ⟨kY, hkY, -⟩ := className_of_methodNamed hn
  have hinitY : kY.init = .initialized := Cond.initialized_spec (findClass_of_methodNamed hn) hkY h3
  have h : At U g.method c below := by rw [hg]; exact X.here
  have hlocals9 : W9 + (maxL + 11) + (headSpec ws rm).room.locals ≤ R.locals := hlocals
  have happ : (headSpec ws rm).appliesLoose y e.platform (U.calling g mk a) = true :=
    Spec.appliesLoose_calling (g := g) h hdg hn hkY hinitY
      (X.room_calling (g := g) (R' := (headSpec ws rm).room) hsize hmY hcY hframes (by rw [hlY]; omega) h4 h5) h1
  obtain ⟨mid, hmid⟩ := h.above
  have hfr : (U.setTop g).frames = (.java g :: mid) ++ below := by rw [State.frames_setTop' g h.top, hmid]; rfl
  obtain ⟨o, s₂, hsteps, -, hend, hq⟩ := Steps.callFree hM p X.admits X.cas X.clock (acts := []) hfr happ hPc trivial
  have hq' : vx_Q Qc XC mc ms free a (U.calling g mk a) o s₂ := hq
  rw [State.frames_setTop' g h.top] at hend
  obtain ⟨g₀, hg0⟩ := Option.isSome_iff_exists.mp h.top
  obtain ⟨r, hr⟩ := State.topJava?_eq_some.mp hg0
  have hr' : (({ U with heap := s₂.heap, slotsUsed := s₂.slotsUsed } : State).setVm s₂.vm).frames = .java g₀ :: r := hr
  rcases hq' with ⟨hqc, L, hfe, hL⟩ | ⟨q, rfl, E, ce, L, hx, hce, hcv, hcl, hW₂, hsm, hL⟩
  · obtain ⟨⟨v, rfl⟩, hW₂, e2, q2, q3, q4, q5, q6⟩ := id hfe
    have e3 : s₂ = ({ (U.calling g mk a).setFrames s₂.frames with heap := s₂.heap, slotsUsed := s₂.slotsUsed } : State).setVm s₂.vm := by
      have : s₂ = ({ s₂ with vm := (U.calling g mk a).vm } : State).setVm s₂.vm := rfl
      rw [e2] at this
      exact this
    obtain ⟨c₂, i₂, len₂, hc₂, hd₂, hf₂⟩ := hend
    have hW' : U.WarmedH s₂.vm := hW₂
    have hcc : c₂ = c := by
      have h1 : s₂.code? g.method = U.code? g.method := by
        rw [State.code?_eq, State.code?_eq, hW'.alike.method?]
      exact Option.some.inj (hc₂.symm.trans (h1.trans h.code))
    subst hcc
    have hlen : len₂ = len := by rw [hdg] at hd₂; cases hd₂; rfl
    subst hlen
    have hs₂ : s₂ = (({ U with heap := s₂.heap, slotsUsed := s₂.slotsUsed } : State).setVm s₂.vm).setTop { g with pc := g.pc + len₂, stack := v.toList ++ g.stack } := by
      refine e3.trans ?_
      rw [hf₂, State.calling_eq h.top, State.setFrames_setFrames, State.setTop_of_frames _ hr', hr]
      rfl
    have hsame : U.sameButNew ({ U with heap := s₂.heap, slotsUsed := s₂.slotsUsed } : State) L mc ms := by
      refine ⟨?_, q2, q3, q4, q5, q6⟩
      obtain ⟨t, ht, -⟩ := State.frames_cons hr
      show ({ U with heap := s₂.heap, slotsUsed := s₂.slotsUsed } : State) = { U.setFrames U.frames with heap := s₂.heap, slotsUsed := s₂.slotsUsed }
      rw [State.setFrames_self ht]
    subst hg
    refine Or.inl ⟨v, ⟨(({ U with heap := s₂.heap, slotsUsed := s₂.slotsUsed } : State).setVm s₂.vm), Ls ++ L, c0 + mc, s0 + ms⟩,
      ⟨X.admits, X.cas, X.clock, X.frames, X.room, X.hears, X.method, X.code, (X.here.setHeapUsed s₂.heap s₂.slotsUsed).setVm hW'.alike, X.tail, State.WarmedH.trans X.warmed hW', X.limits, X.bytes, X.same.trans (hsame.setVm s.vm)⟩,
      ⟨g, mk, s₂, L, rfl, rfl, hqc, rfl, hL, rfl, rfl⟩, ?_⟩
    show Steps p.tables e below _ ((({ U with heap := s₂.heap, slotsUsed := s₂.slotsUsed } : State).setVm s₂.vm).setTop { g with pc := g.pc + len₂, stack := v.toList ++ g.stack })
    rw [← hs₂]
    exact hsteps
  · obtain ⟨e2, q2, q3, q4, q5, q6⟩ := id hsm
    have e3 : s₂ = ({ (U.calling g mk a).setFrames s₂.frames with heap := s₂.heap, slotsUsed := s₂.slotsUsed } : State).setVm s₂.vm := by
      have : s₂ = ({ s₂ with vm := (U.calling g mk a).vm } : State).setVm s₂.vm := rfl
      rw [e2] at this
      exact this
    have hf₂ : s₂.frames = .throwing q :: .java g :: U.frames.tail := hend
    have hW' : U.WarmedH s₂.vm := hW₂
    have hs₂ : s₂ = ((({ U with heap := s₂.heap, slotsUsed := s₂.slotsUsed } : State).setVm s₂.vm).setTop g).pushFrame (.throwing q) := by
      refine e3.trans ?_
      rw [hf₂, State.calling_eq h.top, State.setFrames_setFrames, State.pushFrame, State.frames_setTop _ hr', State.setTop_of_frames _ hr', State.setFrames_setFrames, hr]
      rfl
    have hsame : U.sameButNew ({ U with heap := s₂.heap, slotsUsed := s₂.slotsUsed } : State) L mc ms := by
      refine ⟨?_, q2, q3, q4, q5, q6⟩
      obtain ⟨t, ht, -⟩ := State.frames_cons hr
      show ({ U with heap := s₂.heap, slotsUsed := s₂.slotsUsed } : State) = { U.setFrames U.frames with heap := s₂.heap, slotsUsed := s₂.slotsUsed }
      rw [State.setFrames_self ht]
    subst hg
    refine Or.inr ⟨q, ⟨(({ U with heap := s₂.heap, slotsUsed := s₂.slotsUsed } : State).setVm s₂.vm), Ls ++ L, c0 + mc, s0 + ms⟩,
      ⟨X.admits, X.cas, X.clock, X.frames, X.room, X.hears, X.method, X.code, (X.here.setHeapUsed s₂.heap s₂.slotsUsed).setVm hW'.alike, X.tail, State.WarmedH.trans X.warmed hW', X.limits, X.bytes, X.same.trans (hsame.setVm s.vm)⟩,
      ⟨g, mk, s₂, L, E, ce, rfl, rfl, hx, hce, hcv, hcl, rfl, hL, rfl, rfl⟩, ?_⟩
    show Steps p.tables e below _ (((({ U with heap := s₂.heap, slotsUsed := s₂.slotsUsed } : State).setVm s₂.vm).setTop g).pushFrame (.throwing q))
    rw [← hs₂]
    exact hsteps
end
variable {p : Program} {l : Launch} {e : Env} {R : Room} {s : State} {m : MethodId} {args : Array Value} {below : List Frame} {meth : Method} {c : Code} {T : State} {H : Heap} {locs : List Loc} {cells slots : Nat}
theorem vx_callVX (X : Stand p l e R s m args below meth c T locs cells slots) (hexec : p.tables.exec = Jvm.exec) {own C : String} {index : Nat} {y : MethodName} {bytes : ByteArray} {maxL : Nat} {ret : Option FieldType} {hh : List (Nat × Nat × Nat × Nat)}
    (hown : s.vm.findClass own = some m.cls) (hlink : (Cond.methodLink own index y).before args s = true) (hinst : (Cond.instanceMethod y).before args s = true) (hsel : (Cond.selects C y y).before args s = true)
    (hcode : (Cond.codeWith y bytes maxL ret hh).before args s = true) (hy : y.cls ≠ "java/lang/invoke/MethodHandle" ∧ y.cls ≠ "java/lang/invoke/VarHandle")
    {W9 : Nat} {Pre : Pt → Array Value → Prop} {Post : Pt → Array Value → Option Value → Pt → Prop} {PostX : Pt → Array Value → Addr → Pt → Prop} (hK : vx_Back l R p e below s args y 3 W9 Pre Post PostX)
    {b : Addr} {cellB : Cell} (hcell : T.heap[b]? = some cellB) (hobj : cellB.vm.isStatics = false) (hcls : s.vm.findClass C = some cellB.cls)
    {g : JFrame} (hg : g.method = m) (hsize : g.locals.size = c.maxLocals) {argsL rest : List Value} (hlen : ∀ sig, parseMethodDescriptor y.desc = some sig → argsL.length = sig.parameters.length)
    (hstack : g.stack = argsL.reverse ++ .ref b :: rest) (hW : 2 * g.monitorRoom + (rest.map fun v => v.category).sum ≤ W9) (hdg : decode c.code g.pc = .ok (.invokevirtual index, 3))
    (hpre : ∀ vm₁, s.WarmedH vm₁ → Pre ⟨T.setVm vm₁, locs, cells, slots⟩ (Value.ref b :: argsL).toArray) :
    (∃ (v : Option Value) (vm₁ : Vm) (B : Pt), s.WarmedH vm₁ ∧ Stand p l e R s m args below meth c B.U B.locs B.cells B.slots ∧ Post ⟨T.setVm vm₁, locs, cells, slots⟩ (Value.ref b :: argsL).toArray v B ∧
      ∀ target, Steps p.tables e below (B.U.setTop { g with pc := g.pc + 3, stack := v.toList ++ rest }) target → Steps p.tables e below (T.setTop g) target) ∨
    (∃ (q : Addr) (vm₁ : Vm) (B : Pt), s.WarmedH vm₁ ∧ Stand p l e R s m args below meth c B.U B.locs B.cells B.slots ∧ PostX ⟨T.setVm vm₁, locs, cells, slots⟩ (Value.ref b :: argsL).toArray q B ∧
      Steps p.tables e below (T.setTop g) ((B.U.setTop { g with stack := rest }).pushFrame (.throwing q))) := by
  obtain ⟨mk, methM, hnamed, hmethM, hstM, habM⟩ := Cond.instanceMethod_spec hinst
  obtain ⟨m8, methM', cM, hn8, hmethM', -, -, -, -, -, -, hsigM⟩ := Cond.codeWith_spec hcode
  cases Option.some.inj (hn8.symm.trans hnamed)
  cases hmethM.symm.trans hmethM'
  obtain ⟨c2, r2, m2, q1, q2, q3, q4, kP, hkP, hkPi⟩ := Cond.selects_spec hsel
  cases hcls.symm.trans q1
  cases (State.methodFound?_of_named hnamed hy).symm.trans q2
  cases hnamed.symm.trans q3
  have hselP : selectMethod e.platform s.vm cellB.cls mk = .method mk := by rw [Launch.admits_selectMethod X.admits]; exact q4
  obtain ⟨vm₁, X₁, hstep₁⟩ := X.invokevirtual hexec hown hlink hnamed hmethM hstM hkP hkPi hy (a := b) (cell := cellB) hcell
    (fun z h => by rw [h] at hobj; cases hobj) hselP hmethM habM hkP hkPi (g := g) hg (argsL := argsL) (rest := rest) (hlen _ hsigM) hstack hdg
  rcases hK m meth c ⟨T.setVm vm₁, locs, cells, slots⟩ { g with stack := rest } (.invokevirtual index) mk (Value.ref b :: argsL).toArray X₁ hg hsize hdg hW (X₁.named hnamed) (hpre vm₁ X₁.warmed) with ⟨v, B, X', hpost, hsteps⟩ | ⟨q, B, X', hpost, hsteps⟩
  · exact Or.inl ⟨v, vm₁, B, X₁.warmed, X', hpost, fun target h => hstep₁ _ fun acts => by rw [doInvoke_state]; exact hsteps.trans h⟩
  · exact Or.inr ⟨q, vm₁, B, X₁.warmed, X', hpost, hstep₁ _ fun acts => by rw [doInvoke_state]; exact hsteps⟩
theorem vx_callSX (X : Stand p l e R s m args below meth c T locs cells slots) (hexec : p.tables.exec = Jvm.exec) {own : String} {index : Nat} {y : MethodName} {bytes : ByteArray} {maxL : Nat} {ret : Option FieldType} {hh : List (Nat × Nat × Nat × Nat)}
    (hown : s.vm.findClass own = some m.cls) (hlink : (Cond.methodLink own index y).before args s = true) (hstat : (Cond.static y).before args s = true) (hinit : (Cond.initialized y.cls).before args s = true)
    (hcode : (Cond.codeWith y bytes maxL ret hh).before args s = true) (hy : y.cls ≠ "java/lang/invoke/MethodHandle" ∧ y.cls ≠ "java/lang/invoke/VarHandle")
    {W9 : Nat} {Pre : Pt → Array Value → Prop} {Post : Pt → Array Value → Option Value → Pt → Prop} {PostX : Pt → Array Value → Addr → Pt → Prop} (hK : vx_Back l R p e below s args y 3 W9 Pre Post PostX)
    {g : JFrame} (hg : g.method = m) (hsize : g.locals.size = c.maxLocals) {argsL rest : List Value} (hlen : ∀ sig, parseMethodDescriptor y.desc = some sig → argsL.length = sig.parameters.length)
    (hstack : g.stack = argsL.reverse ++ rest) (hW : 2 * g.monitorRoom + (rest.map fun v => v.category).sum ≤ W9) (hdg : decode c.code g.pc = .ok (.invokestatic index, 3))
    (hpre : ∀ vm₁, s.WarmedH vm₁ → Pre ⟨T.setVm vm₁, locs, cells, slots⟩ argsL.toArray) :
    (∃ (v : Option Value) (vm₁ : Vm) (B : Pt), s.WarmedH vm₁ ∧ Stand p l e R s m args below meth c B.U B.locs B.cells B.slots ∧ Post ⟨T.setVm vm₁, locs, cells, slots⟩ argsL.toArray v B ∧
      ∀ target, Steps p.tables e below (B.U.setTop { g with pc := g.pc + 3, stack := v.toList ++ rest }) target → Steps p.tables e below (T.setTop g) target) ∨
    (∃ (q : Addr) (vm₁ : Vm) (B : Pt), s.WarmedH vm₁ ∧ Stand p l e R s m args below meth c B.U B.locs B.cells B.slots ∧ PostX ⟨T.setVm vm₁, locs, cells, slots⟩ argsL.toArray q B ∧
      Steps p.tables e below (T.setTop g) ((B.U.setTop { g with stack := rest }).pushFrame (.throwing q))) := by
  obtain ⟨mk, methM, cM, hnamed, hmethM, -, -, -, -, -, -, hsigM⟩ := Cond.codeWith_spec hcode
  have hstatic : methM.isStatic = true := Cond.static_spec hnamed hmethM hstat
  obtain ⟨kP, hkP, -⟩ := className_of_methodNamed hnamed
  have hinitP : kP.init = .initialized := Cond.initialized_spec (findClass_of_methodNamed hnamed) hkP hinit
  obtain ⟨vm₁, X₁, hstep₁⟩ := X.invokestatic hexec hown hlink hnamed hmethM hstatic hkP hinitP hy (g := g) hg (argsL := argsL) (rest := rest) (hlen _ hsigM) hstack hdg
  rcases hK m meth c ⟨T.setVm vm₁, locs, cells, slots⟩ { g with stack := rest } (.invokestatic index) mk argsL.toArray X₁ hg hsize hdg hW (X₁.named hnamed) (hpre vm₁ X₁.warmed) with ⟨v, B, X', hpost, hsteps⟩ | ⟨q, B, X', hpost, hsteps⟩
  · exact Or.inl ⟨v, vm₁, B, X₁.warmed, X', hpost, fun target h => hstep₁ _ fun acts => by rw [doInvoke_state]; exact hsteps.trans h⟩
  · exact Or.inr ⟨q, vm₁, B, X₁.warmed, X', hpost, hstep₁ _ fun acts => by rw [doInvoke_state]; exact hsteps⟩
theorem vx_callVW (X : Stand p l e R s m args below meth c T locs cells slots) (hexec : p.tables.exec = Jvm.exec) {own C : String} {index : Nat} {y : MethodName} {bytes : ByteArray} {maxL : Nat} {ret : Option FieldType} {hh : List (Nat × Nat × Nat × Nat)}
    (hown : s.vm.findClass own = some m.cls) (hlink : (Cond.methodLink own index y).before args s = true) (hinst : (Cond.instanceMethod y).before args s = true) (hsel : (Cond.selects C y y).before args s = true)
    (hcode : (Cond.codeWith y bytes maxL ret hh).before args s = true) (hy : y.cls ≠ "java/lang/invoke/MethodHandle" ∧ y.cls ≠ "java/lang/invoke/VarHandle")
    {W9 : Nat} {Pre : Pt → Array Value → Prop} {Post : Pt → Array Value → Option Value → Pt → Prop} (hK : Back l R p e below s args y 3 W9 Pre Post)
    {b : Addr} {cellB : Cell} (hcell : T.heap[b]? = some cellB) (hobj : cellB.vm.isStatics = false) (hcls : s.vm.findClass C = some cellB.cls)
    {g : JFrame} (hg : g.method = m) (hsize : g.locals.size = c.maxLocals) {argsL rest : List Value} (hlen : ∀ sig, parseMethodDescriptor y.desc = some sig → argsL.length = sig.parameters.length)
    (hstack : g.stack = argsL.reverse ++ .ref b :: rest) (hW : 2 * g.monitorRoom + (rest.map fun v => v.category).sum ≤ W9) (hdg : decode c.code g.pc = .ok (.invokevirtual index, 3))
    (hpre : ∀ vm₁, s.WarmedH vm₁ → Pre ⟨T.setVm vm₁, locs, cells, slots⟩ (Value.ref b :: argsL).toArray) :
    ∃ (v : Option Value) (vm₁ : Vm) (B : Pt), s.WarmedH vm₁ ∧ Stand p l e R s m args below meth c B.U B.locs B.cells B.slots ∧ Post ⟨T.setVm vm₁, locs, cells, slots⟩ (Value.ref b :: argsL).toArray v B ∧
      ∀ target, Steps p.tables e below (B.U.setTop { g with pc := g.pc + 3, stack := v.toList ++ rest }) target → Steps p.tables e below (T.setTop g) target := by
  obtain ⟨mk, methM, hnamed, hmethM, hstM, habM⟩ := Cond.instanceMethod_spec hinst
  obtain ⟨m8, methM', cM, hn8, hmethM', -, -, -, -, -, -, hsigM⟩ := Cond.codeWith_spec hcode
  cases Option.some.inj (hn8.symm.trans hnamed)
  cases hmethM.symm.trans hmethM'
  obtain ⟨c2, r2, m2, q1, q2, q3, q4, kP, hkP, hkPi⟩ := Cond.selects_spec hsel
  cases hcls.symm.trans q1
  cases (State.methodFound?_of_named hnamed hy).symm.trans q2
  cases hnamed.symm.trans q3
  have hselP : selectMethod e.platform s.vm cellB.cls mk = .method mk := by rw [Launch.admits_selectMethod X.admits]; exact q4
  obtain ⟨vm₁, X₁, hstep₁⟩ := X.invokevirtual hexec hown hlink hnamed hmethM hstM hkP hkPi hy (a := b) (cell := cellB) hcell
    (fun z h => by rw [h] at hobj; cases hobj) hselP hmethM habM hkP hkPi (g := g) hg (argsL := argsL) (rest := rest) (hlen _ hsigM) hstack hdg
  obtain ⟨v, B, X', hpost, hsteps⟩ := hK m meth c ⟨T.setVm vm₁, locs, cells, slots⟩ { g with stack := rest } (.invokevirtual index) mk (Value.ref b :: argsL).toArray X₁ hg hsize hdg hW (X₁.named hnamed) (hpre vm₁ X₁.warmed)
  exact ⟨v, vm₁, B, X₁.warmed, X', hpost, fun target h => hstep₁ _ fun acts => by rw [doInvoke_state]; exact hsteps.trans h⟩
abbrev vx_CVW (R : Room) (s : State) (args : Array Value) (own C : String) (index : Nat) (y : MethodName) (bytes : ByteArray) (maxL : Nat) (ret : Option FieldType) (hh : List (Nat × Nat × Nat × Nat)) (ws : List Cond) (rm : Room) (mc ms n : Nat) : Prop :=
  (rm.cells = mc ∧ rm.slots = ms ∧ rm.frames + 1 ≤ R.frames ∧ 8 + (maxL + 11) + rm.locals ≤ R.locals ∧ (∀ w ∈ ws, ∀ (a' : Array Value) (U : State), s.WarmedH U.vm → w.before a' U = true) ∧ Cond.codeWith y bytes maxL ret hh ∈ ws) ∧
  (Cond.codeWith y bytes maxL ret hh).before args s = true ∧ (Cond.initialized y.cls).before args s = true ∧ (y.cls ≠ "java/lang/invoke/MethodHandle" ∧ y.cls ≠ "java/lang/invoke/VarHandle") ∧
  (∀ sig, parseMethodDescriptor y.desc = some sig → n = sig.parameters.length) ∧ (Cond.methodLink own index y).before args s = true ∧ (Cond.instanceMethod y).before args s = true ∧ (Cond.selects C y y).before args s = true
theorem vx_cwVW {own C : String} {index maxL mc ms : Nat} {y : MethodName} {bytes : ByteArray} {ret : Option FieldType} {hh : List (Nat × Nat × Nat × Nat)} {Ts ws ws' : List Cond} {rm : Room} (n : Nat) (ht : ∀ w ∈ Ts, w.before args s = true) (hT : GoodIn Ts (wsV own index C y ws)) (hw : ws = Cond.codeWith y bytes maxL ret hh :: ws') (hrc : rm.cells = mc) (hrs : rm.slots = ms)
    (hd : y.cls = C ∧ y.cls ≠ "java/lang/invoke/MethodHandle" ∧ y.cls ≠ "java/lang/invoke/VarHandle" ∧ (parseMethodDescriptor y.desc).map (fun d => d.parameters.length) = some n) (hR : rm.frames + 1 ≤ R.frames ∧ 8 + (maxL + 11) + rm.locals ≤ R.locals) :
    vx_CVW R s args own C index y bytes maxL ret hh ws rm mc ms n := by
  obtain ⟨hC, hd⟩ := hd
  subst hC
  have ok : ∀ w ∈ wsV own index y.cls y ws, w.before args s = true := fun w h => ht w (hT w h).1
  have hG : GoodIn Ts ws := fun w h => hT w (by unfold wsV; exact List.mem_append_right _ h)
  have hc : Cond.codeWith y bytes maxL ret hh ∈ ws := by rw [hw]; exact List.mem_cons_self
  refine ⟨⟨hrc, hrs, hR.1, hR.2, pay_in ht hG, hc⟩, ht _ (hG _ hc).1, ok _ (by simp [wsV]), ⟨hd.1, hd.2.1⟩, fun sig h => ?_, ok _ (by simp [wsV]), ok _ (by simp [wsV]), ok _ (by simp [wsV])⟩
  have h2 := hd.2.2
  rw [h] at h2
  exact (Option.some.inj h2).symm
theorem vx_runVW {y : MethodName} {bytes cc : ByteArray} {maxL nL mc ms n index : Nat} {ret : Option FieldType} {hh : List (Nat × Nat × Nat × Nat)} {ws : List Cond} {rm : Room} {Pc : Array Value → State → Prop} {Qc : Array Value → State → Outcome → State → Prop} {free : Addr → Prop} {Ts : List Cond} {own C : String} {b : Addr} {As rest : List Value} {g : JFrame}
    (S : CallFix p m c cc nL s args Ts own) (hM : Met l y ws rm Pc Qc mc ms free) (cw : vx_CVW R s args own C index y bytes maxL ret hh ws rm mc ms n) (hp : PreV s H C b Pc As)
    (hg : g.method = m) (hn : As.length = n) (hsize : g.locals.size = nL) (hstack : g.stack = As.reverse ++ .ref b :: rest) (hW : 2 * g.monitorRoom + (rest.map fun v => v.category).sum ≤ 8) (hdg : decode cc g.pc = .ok (.invokevirtual index, 3)) (hf : cells + mc ≤ R.cells ∧ slots + ms ≤ R.slots) :
    va_Run p l e R s m args below meth c H locs cells slots mc ms g rest (Qc (Value.ref b :: As).toArray) free := by
  obtain ⟨⟨hrc, hrs, hfr, hlo, hws, hcw⟩, hcode, hini, hy, hlen, hl, hin, hse⟩ := cw
  have hK : Back l R p e below s args y 3 8 (PreOf R mc ms Pc) (PostOf Qc mc ms free) := va_backW (hh := hh) (bytes := bytes) (maxL := maxL) (ret := ret) hM hp.1 hrc hrs hfr hlo hws hcw (fun a' U hW => word_at hW (Or.inl (by first | rfl | simp [Cond.onTables, Cond.keeps, Cond.steady])) hini)
  obtain ⟨hx, hb, hml, ho, -⟩ := S
  obtain ⟨-, ⟨cellB, hcB, hoB, hclB⟩, hPc⟩ := hp
  intro T hT X
  obtain ⟨v, vm₁, ⟨U', l2, c2, s2⟩, hW₁, X', ⟨g', mk, t, L, e1, e2, hq, h1, hL, h2, h3⟩, st⟩ := vx_callVW X hx (C := C) (hh := hh) (bytes := bytes) (maxL := maxL) (ret := ret) ho hl hin hse hcode hy hK (by rw [hT]; exact hcB) hoB hclB hg (hsize.trans hml.symm) (argsL := As) (rest := rest) (fun sig h => hn.trans (hlen sig h)) hstack hW (by rw [hb]; exact hdg)
    (fun vm₁ hW₁ => ⟨hf.1, hf.2, hPc (T.setVm vm₁) hT hW₁⟩)
  dsimp only [Pt.U, Pt.locs, Pt.cells, Pt.slots] at X' e1 e2 h1 h2 h3 st
  subst h1; subst h2; subst h3
  exact ⟨v, (T.setVm vm₁).calling g' mk (Value.ref b :: As).toArray, t, U', L, hT, X', hL, e1, e2, hq, st⟩
section
variable {y : MethodName} {bytes cc : ByteArray} {maxL nL mc ms n index : Nat} {ret : Option FieldType} {ws : List Cond} {rm : Room} {Pc : Array Value → State → Prop} {Qc : Array Value → State → Outcome → State → Prop} {XC : String → State → State → Prop} {free : Addr → Prop} {Ts : List Cond} {own C : String} {b : Addr} {As rest : List Value} {g : JFrame}
theorem vx_runVX {hh : List (Nat × Nat × Nat × Nat)} (S : CallFix p m c cc nL s args Ts own) (hM : vx_Met l y ws rm Pc Qc XC mc ms free) (cw : vx_CVW R s args own C index y bytes maxL ret hh ws rm mc ms n) (hp : PreV s H C b Pc As)
    (hg : g.method = m) (hn : As.length = n) (hsize : g.locals.size = nL) (hstack : g.stack = As.reverse ++ .ref b :: rest) (hW : 2 * g.monitorRoom + (rest.map fun v => v.category).sum ≤ 8) (hdg : decode cc g.pc = .ok (.invokevirtual index, 3)) (hf : cells + mc ≤ R.cells ∧ slots + ms ≤ R.slots) :
    vx_Run p l e R s m args below meth c H locs cells slots mc ms g rest (Qc (Value.ref b :: As).toArray) XC free := by
  obtain ⟨⟨hrc, hrs, hfr, hlo, hws, hcw⟩, hcode, hini, hy, hlen, hl, hin, hse⟩ := cw
  have hK : vx_Back l R p e below s args y 3 8 (PreOf R mc ms Pc) (PostOf Qc mc ms free) (vx_Post XC mc ms free) := vx_backW (hh := hh) (bytes := bytes) (maxL := maxL) (ret := ret) hM hp.1 hrc hrs hfr hlo hws hcw (fun a' U hW => word_at hW (Or.inl (by first | rfl | simp [Cond.onTables, Cond.keeps, Cond.steady])) hini)
  obtain ⟨hx, hb, hml, ho, -⟩ := S
  obtain ⟨-, ⟨cellB, hcB, hoB, hclB⟩, hPc⟩ := hp
  intro T hT X
  rcases vx_callVX X hx (C := C) (hh := hh) (bytes := bytes) (maxL := maxL) (ret := ret) ho hl hin hse hcode hy hK (by rw [hT]; exact hcB) hoB hclB hg (hsize.trans hml.symm) (argsL := As) (rest := rest) (fun sig h => hn.trans (hlen sig h)) hstack hW (by rw [hb]; exact hdg)
    (fun vm₁ hW₁ => ⟨hf.1, hf.2, hPc (T.setVm vm₁) hT hW₁⟩) with ⟨v, vm₁, ⟨U', l2, c2, s2⟩, hW₁, X', ⟨g', mk, t, L, e1, e2, hq, h1, hL, h2, h3⟩, st⟩ | ⟨q, vm₁, ⟨U', l2, c2, s2⟩, hW₁, X', ⟨g', mk, t, L, E, ce, e1, e2, hq, hce, hcv, hcl, h1, hL, h2, h3⟩, st⟩
  · dsimp only [Pt.U, Pt.locs, Pt.cells, Pt.slots] at X' e1 e2 h1 h2 h3 st
    subst h1; subst h2; subst h3
    exact Or.inl ⟨v, (T.setVm vm₁).calling g' mk (Value.ref b :: As).toArray, t, U', L, hT, X', hL, e1, e2, hq, st⟩
  · dsimp only [Pt.U, Pt.locs, Pt.cells, Pt.slots] at X' e1 e2 h1 h2 h3 st hcl
    subst h1; subst h2; subst h3
    exact Or.inr ⟨q, (T.setVm vm₁).calling g' mk (Value.ref b :: As).toArray, t, U', L, E, ce, hT, X', hL, e1, e2, hq, hce, hcv, vx_cls hW₁ hcl, st⟩
theorem vx_runSX {hh : List (Nat × Nat × Nat × Nat)} (S : CallFix p m c cc nL s args Ts own) (hM : vx_Met l y ws rm Pc Qc XC mc ms free) (cw : vx_CSW R s args own index y bytes maxL ret hh ws rm mc ms n) (hp : PreS s H Pc As)
    (hg : g.method = m) (hn : As.length = n) (hsize : g.locals.size = nL) (hstack : g.stack = As.reverse ++ rest) (hW : 2 * g.monitorRoom + (rest.map fun v => v.category).sum ≤ 8) (hdg : decode cc g.pc = .ok (.invokestatic index, 3)) (hf : cells + mc ≤ R.cells ∧ slots + ms ≤ R.slots) :
    vx_Run p l e R s m args below meth c H locs cells slots mc ms g rest (Qc As.toArray) XC free := by
  obtain ⟨⟨hrc, hrs, hfr, hlo, hws, hcw⟩, hcode, hini, hy, hlen, hl, hstt⟩ := cw
  have hK : vx_Back l R p e below s args y 3 8 (PreOf R mc ms Pc) (PostOf Qc mc ms free) (vx_Post XC mc ms free) := vx_backW (hh := hh) (bytes := bytes) (maxL := maxL) (ret := ret) hM hp.1 hrc hrs hfr hlo hws hcw (fun a' U hW => word_at hW (Or.inl (by first | rfl | simp [Cond.onTables, Cond.keeps, Cond.steady])) hini)
  obtain ⟨hx, hb, hml, ho, -⟩ := S
  intro T hT X
  rcases vx_callSX X hx (hh := hh) (bytes := bytes) (maxL := maxL) (ret := ret) ho hl hstt hini hcode hy hK hg (hsize.trans hml.symm) (argsL := As) (rest := rest) (fun sig h => hn.trans (hlen sig h)) hstack hW (by rw [hb]; exact hdg)
    (fun vm₁ hW₁ => ⟨hf.1, hf.2, hp.2 (T.setVm vm₁) hT hW₁⟩) with ⟨v, vm₁, ⟨U', l2, c2, s2⟩, hW₁, X', ⟨g', mk, t, L, e1, e2, hq, h1, hL, h2, h3⟩, st⟩ | ⟨q, vm₁, ⟨U', l2, c2, s2⟩, hW₁, X', ⟨g', mk, t, L, E, ce, e1, e2, hq, hce, hcv, hcl, h1, hL, h2, h3⟩, st⟩
  · dsimp only [Pt.U, Pt.locs, Pt.cells, Pt.slots] at X' e1 e2 h1 h2 h3 st
    subst h1; subst h2; subst h3
    exact Or.inl ⟨v, (T.setVm vm₁).calling g' mk As.toArray, t, U', L, hT, X', hL, e1, e2, hq, st⟩
  · dsimp only [Pt.U, Pt.locs, Pt.cells, Pt.slots] at X' e1 e2 h1 h2 h3 st hcl
    subst h1; subst h2; subst h3
    exact Or.inr ⟨q, (T.setVm vm₁).calling g' mk As.toArray, t, U', L, E, ce, hT, X', hL, e1, e2, hq, hce, hcv, vx_cls hW₁ hcl, st⟩
end
end VXH
theorem vx_ofWH {l : Launch} {y : MethodName} {ws ws' : List Cond} {rm : Room} {Pc : Array Value → State → Prop} {Qc : Array Value → State → Outcome → State → Prop} {XC : String → State → State → Prop} {mc ms : Nat} {free : Addr → Prop} {cc : ByteArray} {maxL : Nat} {ret : Option FieldType} {hh : List (Nat × Nat × Nat × Nat)}
    (hy : plainName y.cls = true) (hw : ws = Cond.codeWith y cc maxL ret hh :: ws')
    (body : ∀ p e s m args below meth c s₁, BodyLoose p l y (headSpec ws rm) cc maxL ret e s m args below meth c s₁ → c.maxLocals = maxL → Pc args s →
      W p l e (headSpec ws rm).room s m args below meth c s.heap [] 0 0 (vx_MQ below Qc XC args s mc ms free) (entryFrame m args maxL)) : vx_Met l y ws rm Pc Qc XC mc ms free := by
  refine MetFree.of_bodyS (code := cc) (maxLocals := maxL) (ret := ret) hy ?_ ?_
  · intro args s m h hn
    obtain ⟨m9, meth, c, hn9, h1, h2, h3, h4, -, h5, h6, -⟩ := Cond.codeWith_spec (atoms_spec (ws := ws) h _ (by rw [hw]; exact List.mem_cons_self))
    cases hn.symm.trans hn9
    exact ⟨meth, c, h1, h2, h3, h4, h5, h6⟩
  · intro p e s m args below meth c s₁ B hml hP _
    have hh0 : s₁.heap = s.heap := by rw [B.state]; rfl
    obtain ⟨t, a1, o, b1, b2, b3⟩ := body p e s m args below meth c s₁ B hml hP s₁ hh0 (Stand.of_body B)
    exact ⟨t, o, a1, b1, b2, b3⟩
/-! ===== END ===== -/
end
section
def RX0 : String := "FormulaPages$Alterations"
def TX0 : u_T := fun k => match k with
  | 0 => ("FormulaPages$Alterations", "masks", "LFormulaPages$Row;", true)
  | _ => ("FormulaPages$Alterations", "alteredBytes", "I", false)
def tyX0 : Nat → FieldType := fun k => match k with
  | 0 => .object "FormulaPages$Row"
  | _ => .int
abbrev wsX00 : List Cond := u_ws RX0 TX0 2
theorem nmX0 : ∀ a, a < 2 → ∀ b, b < 2 → a ≠ b → (TX0 a).2.1 ≠ (TX0 b).2.1 := by decide +kernel
theorem tyX0_ok : ∀ k, k < 2 → parseFieldDescriptor (TX0 k).2.2.1 = some (tyX0 k) := by decide +kernel
abbrev cX0_init : ByteArray := prog_2_method_1_code
def yX0_init : MethodName := ⟨RX0, "<init>", "(I)V"⟩
abbrev cX0_maskOf : ByteArray := prog_2_method_2_code
def yX0_maskOf : MethodName := ⟨RX0, "maskOf", "(II)I"⟩
abbrev cX0_flip : ByteArray := prog_2_method_3_code
def yX0_flip : MethodName := ⟨RX0, "flip", "(III)V"⟩
abbrev cX0_any : ByteArray := prog_2_method_4_code
def yX0_any : MethodName := ⟨RX0, "any", "()Z"⟩
abbrev cX0_clear : ByteArray := prog_2_method_5_code
def yX0_clear : MethodName := ⟨RX0, "clear", "()V"⟩
def RX1 : String := "FormulaPages$Journal"
def TX1 : u_T := fun k => match k with
  | 0 => ("FormulaPages$Journal", "row", "LFormulaPages$Row;", true)
  | _ => ("FormulaPages$Journal", "length", "I", false)
def tyX1 : Nat → FieldType := fun k => match k with
  | 0 => .object "FormulaPages$Row"
  | _ => .int
abbrev wsX10 : List Cond := u_ws RX1 TX1 2
theorem nmX1 : ∀ a, a < 2 → ∀ b, b < 2 → a ≠ b → (TX1 a).2.1 ≠ (TX1 b).2.1 := by decide +kernel
theorem tyX1_ok : ∀ k, k < 2 → parseFieldDescriptor (TX1 k).2.2.1 = some (tyX1 k) := by decide +kernel
abbrev cX1_init : ByteArray := prog_3_method_1_code
def yX1_init : MethodName := ⟨RX1, "<init>", "()V"⟩
abbrev cX1_length : ByteArray := prog_3_method_2_code
def yX1_length : MethodName := ⟨RX1, "length", "()I"⟩
abbrev cX1_cutTo : ByteArray := prog_3_method_3_code
def yX1_cutTo : MethodName := ⟨RX1, "cutTo", "(I)V"⟩
abbrev cX1_hasRoomFor : ByteArray := prog_3_method_4_code
def yX1_hasRoomFor : MethodName := ⟨RX1, "hasRoomFor", "(LFormulaPages$Name;)Z"⟩
abbrev cX1_append : ByteArray := prog_3_method_5_code
def yX1_append : MethodName := ⟨RX1, "append", "(LFormulaPages$Name;I)V"⟩
abbrev cX1_flip : ByteArray := prog_3_method_6_code
def yX1_flip : MethodName := ⟨RX1, "flip", "(II)V"⟩
abbrev cX1_isWholeAt : ByteArray := prog_3_method_7_code
def yX1_isWholeAt : MethodName := ⟨RX1, "isWholeAt", "(I)Z"⟩
abbrev cX1_actSizeAt : ByteArray := prog_3_method_8_code
def yX1_actSizeAt : MethodName := ⟨RX1, "actSizeAt", "(I)I"⟩
abbrev cX1_readName : ByteArray := prog_3_method_9_code
def yX1_readName : MethodName := ⟨RX1, "readName", "(ILFormulaPages$Name;)V"⟩
abbrev cX1_numberAt : ByteArray := prog_3_method_10_code
def yX1_numberAt : MethodName := ⟨RX1, "numberAt", "(I)I"⟩
abbrev cX1_checkByte : ByteArray := prog_3_method_11_code
def yX1_checkByte : MethodName := ⟨RX1, "checkByte", "(II)I"⟩
def RX2 : String := "FormulaPages$Name"
def TX2 : u_T := fun k => match k with
  | 0 => ("FormulaPages$Name", "bytes", "LFormulaPages$Row;", true)
  | _ => ("FormulaPages$Name", "length", "I", false)
def tyX2 : Nat → FieldType := fun k => match k with
  | 0 => .object "FormulaPages$Row"
  | _ => .int
abbrev wsX20 : List Cond := u_ws RX2 TX2 2
theorem nmX2 : ∀ a, a < 2 → ∀ b, b < 2 → a ≠ b → (TX2 a).2.1 ≠ (TX2 b).2.1 := by decide +kernel
theorem tyX2_ok : ∀ k, k < 2 → parseFieldDescriptor (TX2 k).2.2.1 = some (tyX2 k) := by decide +kernel
abbrev cX2_init : ByteArray := prog_4_method_1_code
def yX2_init : MethodName := ⟨RX2, "<init>", "()V"⟩
abbrev cX2_recordSizeOf : ByteArray := prog_4_method_2_code
def yX2_recordSizeOf : MethodName := ⟨RX2, "recordSizeOf", "(I)I"⟩
abbrev cX2_length : ByteArray := prog_4_method_3_code
def yX2_length : MethodName := ⟨RX2, "length", "()I"⟩
abbrev cX2_recordSize : ByteArray := prog_4_method_4_code
def yX2_recordSize : MethodName := ⟨RX2, "recordSize", "()I"⟩
abbrev cX2_hash : ByteArray := prog_4_method_5_code
def yX2_hash : MethodName := ⟨RX2, "hash", "()I"⟩
abbrev cX2_extend : ByteArray := prog_4_method_6_code
def yX2_extend : MethodName := ⟨RX2, "extend", "(I)Z"⟩
abbrev cX2_clear : ByteArray := prog_4_method_7_code
def yX2_clear : MethodName := ⟨RX2, "clear", "()V"⟩
abbrev cX2_isAt : ByteArray := prog_4_method_8_code
def yX2_isAt : MethodName := ⟨RX2, "isAt", "(LFormulaPages$Row;I)Z"⟩
abbrev cX2_writeRecord : ByteArray := prog_4_method_9_code
def yX2_writeRecord : MethodName := ⟨RX2, "writeRecord", "(LFormulaPages$Row;II)V"⟩
abbrev cX2_readRecord : ByteArray := prog_4_method_10_code
def yX2_readRecord : MethodName := ⟨RX2, "readRecord", "(LFormulaPages$Row;I)V"⟩
def RX3 : String := "FormulaPages$Page"
def TX3 : u_T := fun k => match k with
  | 0 => ("FormulaPages$Page", "row", "LFormulaPages$Row;", true)
  | _ => ("FormulaPages$Page", "end", "I", false)
def tyX3 : Nat → FieldType := fun k => match k with
  | 0 => .object "FormulaPages$Row"
  | _ => .int
abbrev wsX30 : List Cond := u_ws RX3 TX3 2
theorem nmX3 : ∀ a, a < 2 → ∀ b, b < 2 → a ≠ b → (TX3 a).2.1 ≠ (TX3 b).2.1 := by decide +kernel
theorem tyX3_ok : ∀ k, k < 2 → parseFieldDescriptor (TX3 k).2.2.1 = some (tyX3 k) := by decide +kernel
abbrev cX3_init : ByteArray := prog_5_method_1_code
def yX3_init : MethodName := ⟨RX3, "<init>", "()V"⟩
abbrev cX3_byteOf : ByteArray := prog_5_method_2_code
def yX3_byteOf : MethodName := ⟨RX3, "byteOf", "(I)I"⟩
abbrev cX3_flip : ByteArray := prog_5_method_3_code
def yX3_flip : MethodName := ⟨RX3, "flip", "(II)V"⟩
abbrev cX3_isBad : ByteArray := prog_5_method_4_code
def yX3_isBad : MethodName := ⟨RX3, "isBad", "()Z"⟩
abbrev cX3_depth : ByteArray := prog_5_method_5_code
def yX3_depth : MethodName := ⟨RX3, "depth", "()I"⟩
abbrev cX3_records : ByteArray := prog_5_method_6_code
def yX3_records : MethodName := ⟨RX3, "records", "()I"⟩
abbrev cX3_placeOf : ByteArray := prog_5_method_7_code
def yX3_placeOf : MethodName := ⟨RX3, "placeOf", "(LFormulaPages$Name;)I"⟩
abbrev cX3_numberAt : ByteArray := prog_5_method_8_code
def yX3_numberAt : MethodName := ⟨RX3, "numberAt", "(I)I"⟩
abbrev cX3_renumber : ByteArray := prog_5_method_9_code
def yX3_renumber : MethodName := ⟨RX3, "renumber", "(II)V"⟩
abbrev cX3_bytesOfKin : ByteArray := prog_5_method_10_code
def yX3_bytesOfKin : MethodName := ⟨RX3, "bytesOfKin", "(II)I"⟩
abbrev cX3_append : ByteArray := prog_5_method_11_code
def yX3_append : MethodName := ⟨RX3, "append", "(LFormulaPages$Name;I)V"⟩
abbrev cX3_dealTo : ByteArray := prog_5_method_12_code
def yX3_dealTo : MethodName := ⟨RX3, "dealTo", "(LFormulaPages$Page;LFormulaPages$Page;I)V"⟩
abbrev cX3_empty : ByteArray := prog_5_method_13_code
def yX3_empty : MethodName := ⟨RX3, "empty", "(I)V"⟩
abbrev cX3_copyFrom : ByteArray := prog_5_method_14_code
def yX3_copyFrom : MethodName := ⟨RX3, "copyFrom", "(LFormulaPages$Page;)V"⟩
abbrev cX3_seal : ByteArray := prog_5_method_15_code
def yX3_seal : MethodName := ⟨RX3, "seal", "()V"⟩
abbrev cX3_countRecord : ByteArray := prog_5_method_16_code
def yX3_countRecord : MethodName := ⟨RX3, "countRecord", "(I)V"⟩
abbrev cX3_recordSizeAt : ByteArray := prog_5_method_17_code
def yX3_recordSizeAt : MethodName := ⟨RX3, "recordSizeAt", "(I)I"⟩
abbrev cX3_numberPlace : ByteArray := prog_5_method_18_code
def yX3_numberPlace : MethodName := ⟨RX3, "numberPlace", "(I)I"⟩
abbrev cX3_hashAt : ByteArray := prog_5_method_19_code
def yX3_hashAt : MethodName := ⟨RX3, "hashAt", "(I)I"⟩
def RX4 : String := "FormulaPages$Row"
def TX4 : u_T := fun k => match k with
  | _ => ("FormulaPages$Row", "cells", "[I", true)
def tyX4 : Nat → FieldType := fun k => match k with
  | _ => .array .int
abbrev wsX40 : List Cond := u_ws RX4 TX4 1
theorem nmX4 : ∀ a, a < 1 → ∀ b, b < 1 → a ≠ b → (TX4 a).2.1 ≠ (TX4 b).2.1 := by decide +kernel
theorem tyX4_ok : ∀ k, k < 1 → parseFieldDescriptor (TX4 k).2.2.1 = some (tyX4 k) := by decide +kernel
abbrev cX4_init : ByteArray := prog_6_method_1_code
def yX4_init : MethodName := ⟨RX4, "<init>", "(I)V"⟩
abbrev cX4_get : ByteArray := prog_6_method_2_code
def yX4_get : MethodName := ⟨RX4, "get", "(I)I"⟩
abbrev cX4_set : ByteArray := prog_6_method_3_code
def yX4_set : MethodName := ⟨RX4, "set", "(II)V"⟩
abbrev cX4_flip : ByteArray := prog_6_method_4_code
def yX4_flip : MethodName := ⟨RX4, "flip", "(II)V"⟩
abbrev cX4_sum : ByteArray := prog_6_method_5_code
def yX4_sum : MethodName := ⟨RX4, "sum", "(II)I"⟩
abbrev cX4_number : ByteArray := prog_6_method_6_code
def yX4_number : MethodName := ⟨RX4, "number", "(I)I"⟩
abbrev cX4_setNumber : ByteArray := prog_6_method_7_code
def yX4_setNumber : MethodName := ⟨RX4, "setNumber", "(II)V"⟩
abbrev cX4_isSame : ByteArray := prog_6_method_8_code
def yX4_isSame : MethodName := ⟨RX4, "isSame", "(ILFormulaPages$Row;II)Z"⟩
abbrev cX4_copyPart : ByteArray := prog_6_method_9_code
def yX4_copyPart : MethodName := ⟨RX4, "copyPart", "(ILFormulaPages$Row;II)V"⟩
abbrev cX4_copyFrom : ByteArray := prog_6_method_10_code
def yX4_copyFrom : MethodName := ⟨RX4, "copyFrom", "(LFormulaPages$Row;)V"⟩
abbrev cX4_clear : ByteArray := prog_6_method_11_code
def yX4_clear : MethodName := ⟨RX4, "clear", "()V"⟩
def RX5 : String := "FormulaPages$Shelf"
def TX5 : u_T := fun k => match k with
  | 0 => ("FormulaPages$Shelf", "pages", "[LFormulaPages$Page;", true)
  | 1 => ("FormulaPages$Shelf", "spare", "LFormulaPages$Page;", true)
  | 2 => ("FormulaPages$Shelf", "table", "LFormulaPages$Row;", true)
  | 3 => ("FormulaPages$Shelf", "depth", "I", false)
  | 4 => ("FormulaPages$Shelf", "used", "I", false)
  | _ => ("FormulaPages$Shelf", "acts", "I", false)
def tyX5 : Nat → FieldType := fun k => match k with
  | 0 => .array (.object "FormulaPages$Page")
  | 1 => .object "FormulaPages$Page"
  | 2 => .object "FormulaPages$Row"
  | 3 => .int
  | 4 => .int
  | _ => .int
abbrev wsX50 : List Cond := u_ws RX5 TX5 6
theorem nmX5 : ∀ a, a < 6 → ∀ b, b < 6 → a ≠ b → (TX5 a).2.1 ≠ (TX5 b).2.1 := by decide +kernel
theorem tyX5_ok : ∀ k, k < 6 → parseFieldDescriptor (TX5 k).2.2.1 = some (tyX5 k) := by decide +kernel
abbrev cX5_init : ByteArray := prog_7_method_1_code
def yX5_init : MethodName := ⟨RX5, "<init>", "(I)V"⟩
abbrev cX5_size : ByteArray := prog_7_method_2_code
def yX5_size : MethodName := ⟨RX5, "size", "()I"⟩
abbrev cX5_depth : ByteArray := prog_7_method_3_code
def yX5_depth : MethodName := ⟨RX5, "depth", "()I"⟩
abbrev cX5_used : ByteArray := prog_7_method_4_code
def yX5_used : MethodName := ⟨RX5, "used", "()I"⟩
abbrev cX5_acts : ByteArray := prog_7_method_5_code
def yX5_acts : MethodName := ⟨RX5, "acts", "()I"⟩
abbrev cX5_entries : ByteArray := prog_7_method_6_code
def yX5_entries : MethodName := ⟨RX5, "entries", "()I"⟩
abbrev cX5_pageAtEntry : ByteArray := prog_7_method_7_code
def yX5_pageAtEntry : MethodName := ⟨RX5, "pageAtEntry", "(I)I"⟩
abbrev cX5_page : ByteArray := prog_7_method_8_code
def yX5_page : MethodName := ⟨RX5, "page", "(I)LFormulaPages$Page;"⟩
abbrev cX5_names : ByteArray := prog_7_method_9_code
def yX5_names : MethodName := ⟨RX5, "names", "()I"⟩
abbrev cX5_holds : ByteArray := prog_7_method_10_code
def yX5_holds : MethodName := ⟨RX5, "holds", "(LFormulaPages$Name;)Z"⟩
abbrev cX5_numberOf : ByteArray := prog_7_method_11_code
def yX5_numberOf : MethodName := ⟨RX5, "numberOf", "(LFormulaPages$Name;)I"⟩
abbrev cX5_accept : ByteArray := prog_7_method_12_code
def yX5_accept : MethodName := ⟨RX5, "accept", "(LFormulaPages$Name;I)Z"⟩
abbrev cX5_copyFrom : ByteArray := prog_7_method_13_code
def yX5_copyFrom : MethodName := ⟨RX5, "copyFrom", "(LFormulaPages$Shelf;)V"⟩
abbrev cX5_pageNumberFor : ByteArray := prog_7_method_14_code
def yX5_pageNumberFor : MethodName := ⟨RX5, "pageNumberFor", "(I)I"⟩
abbrev cX5_pageFor : ByteArray := prog_7_method_15_code
def yX5_pageFor : MethodName := ⟨RX5, "pageFor", "(I)LFormulaPages$Page;"⟩
abbrev cX5_splitsFor : ByteArray := prog_7_method_16_code
def yX5_splitsFor : MethodName := ⟨RX5, "splitsFor", "(LFormulaPages$Page;II)I"⟩
abbrev cX5_split : ByteArray := prog_7_method_17_code
def yX5_split : MethodName := ⟨RX5, "split", "(I)V"⟩
abbrev cX5_doubleTable : ByteArray := prog_7_method_18_code
def yX5_doubleTable : MethodName := ⟨RX5, "doubleTable", "()V"⟩
abbrev cX5_redirect : ByteArray := prog_7_method_19_code
def yX5_redirect : MethodName := ⟨RX5, "redirect", "(III)V"⟩
def RX6 : String := "FormulaPages"
def TX6 : u_T := fun k => match k with
  | 0 => ("FormulaPages", "live", "LFormulaPages$Shelf;", true)
  | 1 => ("FormulaPages", "saved", "LFormulaPages$Shelf;", true)
  | 2 => ("FormulaPages", "alterations", "LFormulaPages$Alterations;", true)
  | 3 => ("FormulaPages", "journal", "LFormulaPages$Journal;", true)
  | 4 => ("FormulaPages", "fed", "LFormulaPages$Name;", true)
  | _ => ("FormulaPages", "replayed", "LFormulaPages$Name;", true)
def tyX6 : Nat → FieldType := fun k => match k with
  | 0 => .object "FormulaPages$Shelf"
  | 1 => .object "FormulaPages$Shelf"
  | 2 => .object "FormulaPages$Alterations"
  | 3 => .object "FormulaPages$Journal"
  | 4 => .object "FormulaPages$Name"
  | _ => .object "FormulaPages$Name"
abbrev wsX60 : List Cond := u_ws RX6 TX6 6
theorem nmX6 : ∀ a, a < 6 → ∀ b, b < 6 → a ≠ b → (TX6 a).2.1 ≠ (TX6 b).2.1 := by decide +kernel
theorem tyX6_ok : ∀ k, k < 6 → parseFieldDescriptor (TX6 k).2.2.1 = some (tyX6 k) := by decide +kernel
abbrev cX6_init : ByteArray := prog_1_method_1_code
def yX6_init : MethodName := ⟨RX6, "<init>", "(I)V"⟩
abbrev cX6_feed : ByteArray := prog_1_method_2_code
def yX6_feed : MethodName := ⟨RX6, "feed", "(I)Z"⟩
abbrev cX6_put : ByteArray := prog_1_method_3_code
def yX6_put : MethodName := ⟨RX6, "put", "(I)I"⟩
abbrev cX6_has : ByteArray := prog_1_method_4_code
def yX6_has : MethodName := ⟨RX6, "has", "()Z"⟩
abbrev cX6_find : ByteArray := prog_1_method_5_code
def yX6_find : MethodName := ⟨RX6, "find", "()I"⟩
abbrev cX6_save : ByteArray := prog_1_method_6_code
def yX6_save : MethodName := ⟨RX6, "save", "()I"⟩
abbrev cX6_crash : ByteArray := prog_1_method_7_code
def yX6_crash : MethodName := ⟨RX6, "crash", "(I)I"⟩
abbrev cX6_poke : ByteArray := prog_1_method_8_code
def yX6_poke : MethodName := ⟨RX6, "poke", "(III)V"⟩
abbrev cX6_pokeJournal : ByteArray := prog_1_method_9_code
def yX6_pokeJournal : MethodName := ⟨RX6, "pokeJournal", "(II)V"⟩
abbrev cX6_badAt : ByteArray := prog_1_method_10_code
def yX6_badAt : MethodName := ⟨RX6, "badAt", "()I"⟩
abbrev cX6_byteAt : ByteArray := prog_1_method_11_code
def yX6_byteAt : MethodName := ⟨RX6, "byteAt", "(II)I"⟩
abbrev cX6_entry : ByteArray := prog_1_method_12_code
def yX6_entry : MethodName := ⟨RX6, "entry", "(I)I"⟩
abbrev cX6_count : ByteArray := prog_1_method_13_code
def yX6_count : MethodName := ⟨RX6, "count", "(I)I"⟩
abbrev cX6_requireSound : ByteArray := prog_1_method_14_code
def yX6_requireSound : MethodName := ⟨RX6, "requireSound", "()V"⟩
abbrev cX6_requireSoundAndFed : ByteArray := prog_1_method_15_code
def yX6_requireSoundAndFed : MethodName := ⟨RX6, "requireSoundAndFed", "()V"⟩
abbrev cX6_requirePageByte : ByteArray := prog_1_method_16_code
def yX6_requirePageByte : MethodName := ⟨RX6, "requirePageByte", "(II)V"⟩
abbrev cX6_requireMask : ByteArray := prog_1_method_17_code
def yX6_requireMask : MethodName := ⟨RX6, "requireMask", "(I)V"⟩
abbrev cX6_act : ByteArray := prog_1_method_18_code
def yX6_act : MethodName := ⟨RX6, "act", "(I)I"⟩
abbrev cX6_replay : ByteArray := prog_1_method_19_code
def yX6_replay : MethodName := ⟨RX6, "replay", "()I"⟩
def RX7 : String := "FormulaPagesModel"
def TX7 : u_T := fun k => match k with
  | 0 => ("FormulaPagesModel", "code", "I", false)
  | 1 => ("FormulaPagesModel", "pages", "I", true)
  | 2 => ("FormulaPagesModel", "names", "[I", true)
  | 3 => ("FormulaPagesModel", "size", "[I", true)
  | 4 => ("FormulaPagesModel", "bytes", "[I", true)
  | 5 => ("FormulaPagesModel", "number", "[I", true)
  | 6 => ("FormulaPagesModel", "hash", "[I", true)
  | 7 => ("FormulaPagesModel", "depth", "[I", true)
  | 8 => ("FormulaPagesModel", "used", "[Z", true)
  | 9 => ("FormulaPagesModel", "many", "[I", true)
  | 10 => ("FormulaPagesModel", "which", "[I", true)
  | 11 => ("FormulaPagesModel", "wide", "[I", true)
  | 12 => ("FormulaPagesModel", "table", "[I", true)
  | 13 => ("FormulaPagesModel", "acts", "[I", true)
  | 14 => ("FormulaPagesModel", "masks", "[I", true)
  | 15 => ("FormulaPagesModel", "journal", "I", false)
  | 16 => ("FormulaPagesModel", "lines", "[I", true)
  | 17 => ("FormulaPagesModel", "fed", "I", false)
  | 18 => ("FormulaPagesModel", "name", "[I", true)
  | _ => ("FormulaPagesModel", "page", "[I", true)
def tyX7 : Nat → FieldType := fun k => match k with
  | 0 => .int
  | 1 => .int
  | 2 => .array .int
  | 3 => .array .int
  | 4 => .array .int
  | 5 => .array .int
  | 6 => .array .int
  | 7 => .array .int
  | 8 => .array .boolean
  | 9 => .array .int
  | 10 => .array .int
  | 11 => .array .int
  | 12 => .array .int
  | 13 => .array .int
  | 14 => .array .int
  | 15 => .int
  | 16 => .array .int
  | 17 => .int
  | 18 => .array .int
  | _ => .array .int
abbrev wsX70 : List Cond := u_ws RX7 TX7 20
theorem nmX7 : ∀ a, a < 20 → ∀ b, b < 20 → a ≠ b → (TX7 a).2.1 ≠ (TX7 b).2.1 := by decide +kernel
theorem tyX7_ok : ∀ k, k < 20 → parseFieldDescriptor (TX7 k).2.2.1 = some (tyX7 k) := by decide +kernel
abbrev cX7_init : ByteArray := prog_9_method_1_code
def yX7_init : MethodName := ⟨RX7, "<init>", "(I)V"⟩
abbrev cX7_thrown : ByteArray := prog_9_method_2_code
def yX7_thrown : MethodName := ⟨RX7, "thrown", "()I"⟩
abbrev cX7_raise : ByteArray := prog_9_method_3_code
def yX7_raise : MethodName := ⟨RX7, "raise", "(I)I"⟩
abbrev cX7_in : ByteArray := prog_9_method_4_code
def yX7_in : MethodName := ⟨RX7, "in", "(III)Z"⟩
abbrev cX7_more : ByteArray := prog_9_method_5_code
def yX7_more : MethodName := ⟨RX7, "more", "(II)I"⟩
abbrev cX7_copy : ByteArray := prog_9_method_6_code
def yX7_copy : MethodName := ⟨RX7, "copy", "(II)V"⟩
abbrev cX7_feed : ByteArray := prog_9_method_7_code
def yX7_feed : MethodName := ⟨RX7, "feed", "(I)Z"⟩
abbrev cX7_isAltered : ByteArray := prog_9_method_8_code
def yX7_isAltered : MethodName := ⟨RX7, "isAltered", "()Z"⟩
abbrev cX7_may : ByteArray := prog_9_method_9_code
def yX7_may : MethodName := ⟨RX7, "may", "()Z"⟩
abbrev cX7_hashOf : ByteArray := prog_9_method_10_code
def yX7_hashOf : MethodName := ⟨RX7, "hashOf", "()I"⟩
abbrev cX7_look : ByteArray := prog_9_method_11_code
def yX7_look : MethodName := ⟨RX7, "look", "()I"⟩
abbrev cX7_length : ByteArray := prog_9_method_12_code
def yX7_length : MethodName := ⟨RX7, "length", "(I)I"⟩
abbrev cX7_comes : ByteArray := prog_9_method_13_code
def yX7_comes : MethodName := ⟨RX7, "comes", "(I)Z"⟩
abbrev cX7_splits : ByteArray := prog_9_method_14_code
def yX7_splits : MethodName := ⟨RX7, "splits", "(I)Z"⟩
abbrev cX7_write : ByteArray := prog_9_method_15_code
def yX7_write : MethodName := ⟨RX7, "write", "(II)I"⟩
abbrev cX7_put : ByteArray := prog_9_method_16_code
def yX7_put : MethodName := ⟨RX7, "put", "(I)I"⟩
abbrev cX7_has : ByteArray := prog_9_method_17_code
def yX7_has : MethodName := ⟨RX7, "has", "()Z"⟩
abbrev cX7_find : ByteArray := prog_9_method_18_code
def yX7_find : MethodName := ⟨RX7, "find", "()I"⟩
abbrev cX7_save : ByteArray := prog_9_method_19_code
def yX7_save : MethodName := ⟨RX7, "save", "()I"⟩
abbrev cX7_crash : ByteArray := prog_9_method_20_code
def yX7_crash : MethodName := ⟨RX7, "crash", "(I)I"⟩
abbrev cX7_replays : ByteArray := prog_9_method_21_code
def yX7_replays : MethodName := ⟨RX7, "replays", "(II)Z"⟩
abbrev cX7_poke : ByteArray := prog_9_method_22_code
def yX7_poke : MethodName := ⟨RX7, "poke", "(III)V"⟩
abbrev cX7_pokeJournal : ByteArray := prog_9_method_23_code
def yX7_pokeJournal : MethodName := ⟨RX7, "pokeJournal", "(II)V"⟩
abbrev cX7_fill : ByteArray := prog_9_method_24_code
def yX7_fill : MethodName := ⟨RX7, "fill", "(I)V"⟩
abbrev cX7_badAt : ByteArray := prog_9_method_25_code
def yX7_badAt : MethodName := ⟨RX7, "badAt", "()I"⟩
abbrev cX7_byteAt : ByteArray := prog_9_method_26_code
def yX7_byteAt : MethodName := ⟨RX7, "byteAt", "(II)I"⟩
abbrev cX7_entry : ByteArray := prog_9_method_27_code
def yX7_entry : MethodName := ⟨RX7, "entry", "(I)I"⟩
abbrev cX7_count : ByteArray := prog_9_method_28_code
def yX7_count : MethodName := ⟨RX7, "count", "(I)I"⟩
def RJ9 : String := "java/lang/Math"
def TJ9 : u_T := fun k => match k with
  | _ => ("", "", "", false)
def tyJ9 : Nat → FieldType := fun k => match k with
  | _ => .int
abbrev wsJ90 : List Cond := u_ws RJ9 TJ9 0
theorem nmJ9 : ∀ a, a < 0 → ∀ b, b < 0 → a ≠ b → (TJ9 a).2.1 ≠ (TJ9 b).2.1 := by decide +kernel
theorem tyJ9_ok : ∀ k, k < 0 → parseFieldDescriptor (TJ9 k).2.2.1 = some (tyJ9 k) := by decide +kernel
abbrev cJ9_max_7cf53 : ByteArray := prog_15_method_65_code
def yJ9_max_7cf53 : MethodName := ⟨RJ9, "max", "(II)I"⟩
abbrev cJ9_min_7cf53 : ByteArray := prog_15_method_69_code
def yJ9_min_7cf53 : MethodName := ⟨RJ9, "min", "(II)I"⟩
def RJ7 : String := "java/util/Arrays"
def TJ7 : u_T := fun k => match k with
  | _ => ("", "", "", false)
def tyJ7 : Nat → FieldType := fun k => match k with
  | _ => .int
abbrev wsJ70 : List Cond := u_ws RJ7 TJ7 0
theorem nmJ7 : ∀ a, a < 0 → ∀ b, b < 0 → a ≠ b → (TJ7 a).2.1 ≠ (TJ7 b).2.1 := by decide +kernel
theorem tyJ7_ok : ∀ k, k < 0 → parseFieldDescriptor (TJ7 k).2.2.1 = some (tyJ7 k) := by decide +kernel
abbrev cJ7_fill_53178 : ByteArray := prog_20_method_103_code
def yJ7_fill_53178 : MethodName := ⟨RJ7, "fill", "([II)V"⟩
def RL : String := "FormulaPagesLaw"
abbrev cL_cell : ByteArray := method_2_code
def yL_cell : MethodName := ⟨RL, "cell", "([II)I"⟩
abbrev cL_feed : ByteArray := method_3_code
def yL_feed : MethodName := ⟨RL, "feed", "(LFormulaPages;I[J)I"⟩
abbrev cL_put : ByteArray := method_4_code
def yL_put : MethodName := ⟨RL, "put", "(LFormulaPages;I[J)I"⟩
abbrev cL_has : ByteArray := method_5_code
def yL_has : MethodName := ⟨RL, "has", "(LFormulaPages;[J)I"⟩
abbrev cL_find : ByteArray := method_6_code
def yL_find : MethodName := ⟨RL, "find", "(LFormulaPages;[J)I"⟩
abbrev cL_save : ByteArray := method_7_code
def yL_save : MethodName := ⟨RL, "save", "(LFormulaPages;[J)I"⟩
abbrev cL_crash : ByteArray := method_8_code
def yL_crash : MethodName := ⟨RL, "crash", "(LFormulaPages;I[J)I"⟩
abbrev cL_poke : ByteArray := method_9_code
def yL_poke : MethodName := ⟨RL, "poke", "(LFormulaPages;III)I"⟩
abbrev cL_pokeJournal : ByteArray := method_10_code
def yL_pokeJournal : MethodName := ⟨RL, "pokeJournal", "(LFormulaPages;II)I"⟩
abbrev cL_byteAt : ByteArray := method_11_code
def yL_byteAt : MethodName := ⟨RL, "byteAt", "(LFormulaPages;II[J)I"⟩
abbrev cL_entry : ByteArray := method_12_code
def yL_entry : MethodName := ⟨RL, "entry", "(LFormulaPages;I[J)I"⟩
abbrev cL_count : ByteArray := method_13_code
def yL_count : MethodName := ⟨RL, "count", "(LFormulaPages;I[J)I"⟩
abbrev cL_law : ByteArray := code
def yL_law : MethodName := ⟨RL, "law", "([I)Z"⟩
theorem inX0 : ∀ w ∈ wsX00, w ∈ lw_tbl := by decide +kernel
theorem inX1 : ∀ w ∈ wsX10, w ∈ lw_tbl := by decide +kernel
theorem inX2 : ∀ w ∈ wsX20, w ∈ lw_tbl := by decide +kernel
theorem inX3 : ∀ w ∈ wsX30, w ∈ lw_tbl := by decide +kernel
theorem inX4 : ∀ w ∈ wsX40, w ∈ lw_tbl := by decide +kernel
theorem inX5 : ∀ w ∈ wsX50, w ∈ lw_tbl := by decide +kernel
theorem inX6 : ∀ w ∈ wsX60, w ∈ lw_tbl := by decide +kernel
theorem inX7 : ∀ w ∈ wsX70, w ∈ lw_tbl := by decide +kernel
theorem inJ9 : ∀ w ∈ wsJ90, w ∈ lw_tbl := by decide +kernel
theorem inJ7 : ∀ w ∈ wsJ70, w ∈ lw_tbl := by decide +kernel
abbrev amCl : List vw_C := [(RX0, TX0, 2), (RX1, TX1, 2), (RX2, TX2, 2), (RX3, TX3, 2), (RX4, TX4, 1), (RX5, TX5, 6), (RX6, TX6, 6), (RX7, TX7, 20)]
end
section
theorem dX0_init_0 : decode cX0_init 0 = .ok (.aload_n 0, 1) := by decide +kernel
theorem dX0_init_1 : decode cX0_init 1 = .ok (.invokespecial 3, 3) := by decide +kernel
theorem dX0_init_4 : decode cX0_init 4 = .ok (.aload_n 0, 1) := by decide +kernel
theorem dX0_init_5 : decode cX0_init 5 = .ok (.iconst 0, 1) := by decide +kernel
theorem dX0_init_6 : decode cX0_init 6 = .ok (.putfield 9, 3) := by decide +kernel
theorem dX0_init_9 : decode cX0_init 9 = .ok (.aload_n 0, 1) := by decide +kernel
theorem dX0_init_10 : decode cX0_init 10 = .ok (.new 15, 3) := by decide +kernel
theorem dX0_init_13 : decode cX0_init 13 = .ok (.dup, 1) := by decide +kernel
theorem dX0_init_14 : decode cX0_init 14 = .ok (.iload_n 1, 1) := by decide +kernel
theorem dX0_init_15 : decode cX0_init 15 = .ok (.bipush 64, 2) := by decide +kernel
theorem dX0_init_17 : decode cX0_init 17 = .ok (.imul, 1) := by decide +kernel
theorem dX0_init_18 : decode cX0_init 18 = .ok (.invokespecial 17, 3) := by decide +kernel
theorem dX0_init_21 : decode cX0_init 21 = .ok (.putfield 20, 3) := by decide +kernel
theorem dX0_init_24 : decode cX0_init 24 = .ok (.return_, 1) := by decide +kernel
theorem dX0_maskOf_0 : decode cX0_maskOf 0 = .ok (.aload_n 0, 1) := by decide +kernel
theorem dX0_maskOf_1 : decode cX0_maskOf 1 = .ok (.getfield 20, 3) := by decide +kernel
theorem dX0_maskOf_4 : decode cX0_maskOf 4 = .ok (.iload_n 1, 1) := by decide +kernel
theorem dX0_maskOf_5 : decode cX0_maskOf 5 = .ok (.bipush 64, 2) := by decide +kernel
theorem dX0_maskOf_7 : decode cX0_maskOf 7 = .ok (.imul, 1) := by decide +kernel
theorem dX0_maskOf_8 : decode cX0_maskOf 8 = .ok (.iload_n 2, 1) := by decide +kernel
theorem dX0_maskOf_9 : decode cX0_maskOf 9 = .ok (.iadd, 1) := by decide +kernel
theorem dX0_maskOf_10 : decode cX0_maskOf 10 = .ok (.invokevirtual 24, 3) := by decide +kernel
theorem dX0_maskOf_13 : decode cX0_maskOf 13 = .ok (.ireturn, 1) := by decide +kernel
theorem dX0_flip_0 : decode cX0_flip 0 = .ok (.aload_n 0, 1) := by decide +kernel
theorem dX0_flip_1 : decode cX0_flip 1 = .ok (.iload_n 1, 1) := by decide +kernel
theorem dX0_flip_2 : decode cX0_flip 2 = .ok (.iload_n 2, 1) := by decide +kernel
theorem dX0_flip_3 : decode cX0_flip 3 = .ok (.invokevirtual 28, 3) := by decide +kernel
theorem dX0_flip_6 : decode cX0_flip 6 = .ok (.istore 4, 2) := by decide +kernel
theorem dX0_flip_8 : decode cX0_flip 8 = .ok (.iload 4, 2) := by decide +kernel
theorem dX0_flip_10 : decode cX0_flip 10 = .ok (.iload_n 3, 1) := by decide +kernel
theorem dX0_flip_11 : decode cX0_flip 11 = .ok (.ixor, 1) := by decide +kernel
theorem dX0_flip_12 : decode cX0_flip 12 = .ok (.istore 5, 2) := by decide +kernel
theorem dX0_flip_14 : decode cX0_flip 14 = .ok (.aload_n 0, 1) := by decide +kernel
theorem dX0_flip_15 : decode cX0_flip 15 = .ok (.getfield 20, 3) := by decide +kernel
theorem dX0_flip_18 : decode cX0_flip 18 = .ok (.iload_n 1, 1) := by decide +kernel
theorem dX0_flip_19 : decode cX0_flip 19 = .ok (.bipush 64, 2) := by decide +kernel
theorem dX0_flip_21 : decode cX0_flip 21 = .ok (.imul, 1) := by decide +kernel
theorem dX0_flip_22 : decode cX0_flip 22 = .ok (.iload_n 2, 1) := by decide +kernel
theorem dX0_flip_23 : decode cX0_flip 23 = .ok (.iadd, 1) := by decide +kernel
theorem dX0_flip_24 : decode cX0_flip 24 = .ok (.iload 5, 2) := by decide +kernel
theorem dX0_flip_26 : decode cX0_flip 26 = .ok (.invokevirtual 32, 3) := by decide +kernel
theorem dX0_flip_29 : decode cX0_flip 29 = .ok (.aload_n 0, 1) := by decide +kernel
theorem dX0_flip_30 : decode cX0_flip 30 = .ok (.dup, 1) := by decide +kernel
theorem dX0_flip_31 : decode cX0_flip 31 = .ok (.getfield 9, 3) := by decide +kernel
theorem dX0_flip_34 : decode cX0_flip 34 = .ok (.iload 5, 2) := by decide +kernel
theorem dX0_flip_36 : decode cX0_flip 36 = .ok (.ifCond .ne 7, 3) := by decide +kernel
theorem dX0_flip_39 : decode cX0_flip 39 = .ok (.iconst 0, 1) := by decide +kernel
theorem dX0_flip_40 : decode cX0_flip 40 = .ok (.goto 4, 3) := by decide +kernel
theorem dX0_flip_43 : decode cX0_flip 43 = .ok (.iconst 1, 1) := by decide +kernel
theorem dX0_flip_44 : decode cX0_flip 44 = .ok (.iload 4, 2) := by decide +kernel
theorem dX0_flip_46 : decode cX0_flip 46 = .ok (.ifCond .ne 7, 3) := by decide +kernel
theorem dX0_flip_49 : decode cX0_flip 49 = .ok (.iconst 0, 1) := by decide +kernel
theorem dX0_flip_50 : decode cX0_flip 50 = .ok (.goto 4, 3) := by decide +kernel
theorem dX0_flip_53 : decode cX0_flip 53 = .ok (.iconst 1, 1) := by decide +kernel
theorem dX0_flip_54 : decode cX0_flip 54 = .ok (.isub, 1) := by decide +kernel
theorem dX0_flip_55 : decode cX0_flip 55 = .ok (.iadd, 1) := by decide +kernel
theorem dX0_flip_56 : decode cX0_flip 56 = .ok (.putfield 9, 3) := by decide +kernel
theorem dX0_flip_59 : decode cX0_flip 59 = .ok (.return_, 1) := by decide +kernel
theorem dX0_any_0 : decode cX0_any 0 = .ok (.aload_n 0, 1) := by decide +kernel
theorem dX0_any_1 : decode cX0_any 1 = .ok (.getfield 9, 3) := by decide +kernel
theorem dX0_any_4 : decode cX0_any 4 = .ok (.ifCond .eq 7, 3) := by decide +kernel
theorem dX0_any_7 : decode cX0_any 7 = .ok (.iconst 1, 1) := by decide +kernel
theorem dX0_any_8 : decode cX0_any 8 = .ok (.goto 4, 3) := by decide +kernel
theorem dX0_any_11 : decode cX0_any 11 = .ok (.iconst 0, 1) := by decide +kernel
theorem dX0_any_12 : decode cX0_any 12 = .ok (.ireturn, 1) := by decide +kernel
theorem dX0_clear_0 : decode cX0_clear 0 = .ok (.aload_n 0, 1) := by decide +kernel
theorem dX0_clear_1 : decode cX0_clear 1 = .ok (.getfield 20, 3) := by decide +kernel
theorem dX0_clear_4 : decode cX0_clear 4 = .ok (.invokevirtual 36, 3) := by decide +kernel
theorem dX0_clear_7 : decode cX0_clear 7 = .ok (.aload_n 0, 1) := by decide +kernel
theorem dX0_clear_8 : decode cX0_clear 8 = .ok (.iconst 0, 1) := by decide +kernel
theorem dX0_clear_9 : decode cX0_clear 9 = .ok (.putfield 9, 3) := by decide +kernel
theorem dX0_clear_12 : decode cX0_clear 12 = .ok (.return_, 1) := by decide +kernel
theorem dX1_init_0 : decode cX1_init 0 = .ok (.aload_n 0, 1) := by decide +kernel
theorem dX1_init_1 : decode cX1_init 1 = .ok (.invokespecial 3, 3) := by decide +kernel
theorem dX1_init_4 : decode cX1_init 4 = .ok (.aload_n 0, 1) := by decide +kernel
theorem dX1_init_5 : decode cX1_init 5 = .ok (.new 9, 3) := by decide +kernel
theorem dX1_init_8 : decode cX1_init 8 = .ok (.dup, 1) := by decide +kernel
theorem dX1_init_9 : decode cX1_init 9 = .ok (.sipush 600, 3) := by decide +kernel
theorem dX1_init_12 : decode cX1_init 12 = .ok (.invokespecial 11, 3) := by decide +kernel
theorem dX1_init_15 : decode cX1_init 15 = .ok (.putfield 14, 3) := by decide +kernel
theorem dX1_init_18 : decode cX1_init 18 = .ok (.aload_n 0, 1) := by decide +kernel
theorem dX1_init_19 : decode cX1_init 19 = .ok (.iconst 0, 1) := by decide +kernel
theorem dX1_init_20 : decode cX1_init 20 = .ok (.putfield 20, 3) := by decide +kernel
theorem dX1_init_23 : decode cX1_init 23 = .ok (.return_, 1) := by decide +kernel
theorem dX1_length_0 : decode cX1_length 0 = .ok (.aload_n 0, 1) := by decide +kernel
theorem dX1_length_1 : decode cX1_length 1 = .ok (.getfield 20, 3) := by decide +kernel
theorem dX1_length_4 : decode cX1_length 4 = .ok (.ireturn, 1) := by decide +kernel
theorem dX1_cutTo_0 : decode cX1_cutTo 0 = .ok (.aload_n 0, 1) := by decide +kernel
theorem dX1_cutTo_1 : decode cX1_cutTo 1 = .ok (.iload_n 1, 1) := by decide +kernel
theorem dX1_cutTo_2 : decode cX1_cutTo 2 = .ok (.putfield 20, 3) := by decide +kernel
theorem dX1_cutTo_5 : decode cX1_cutTo 5 = .ok (.return_, 1) := by decide +kernel
theorem dX1_hasRoomFor_0 : decode cX1_hasRoomFor 0 = .ok (.aload_n 0, 1) := by decide +kernel
theorem dX1_hasRoomFor_1 : decode cX1_hasRoomFor 1 = .ok (.getfield 20, 3) := by decide +kernel
theorem dX1_hasRoomFor_4 : decode cX1_hasRoomFor 4 = .ok (.aload_n 1, 1) := by decide +kernel
theorem dX1_hasRoomFor_5 : decode cX1_hasRoomFor 5 = .ok (.invokevirtual 24, 3) := by decide +kernel
theorem dX1_hasRoomFor_8 : decode cX1_hasRoomFor 8 = .ok (.iadd, 1) := by decide +kernel
theorem dX1_hasRoomFor_9 : decode cX1_hasRoomFor 9 = .ok (.iconst 1, 1) := by decide +kernel
theorem dX1_hasRoomFor_10 : decode cX1_hasRoomFor 10 = .ok (.iadd, 1) := by decide +kernel
theorem dX1_hasRoomFor_11 : decode cX1_hasRoomFor 11 = .ok (.sipush 600, 3) := by decide +kernel
theorem dX1_hasRoomFor_14 : decode cX1_hasRoomFor 14 = .ok (.if_icmp .gt 7, 3) := by decide +kernel
theorem dX1_hasRoomFor_17 : decode cX1_hasRoomFor 17 = .ok (.iconst 1, 1) := by decide +kernel
theorem dX1_hasRoomFor_18 : decode cX1_hasRoomFor 18 = .ok (.goto 4, 3) := by decide +kernel
theorem dX1_hasRoomFor_21 : decode cX1_hasRoomFor 21 = .ok (.iconst 0, 1) := by decide +kernel
theorem dX1_hasRoomFor_22 : decode cX1_hasRoomFor 22 = .ok (.ireturn, 1) := by decide +kernel
theorem dX1_append_0 : decode cX1_append 0 = .ok (.aload_n 1, 1) := by decide +kernel
theorem dX1_append_1 : decode cX1_append 1 = .ok (.aload_n 0, 1) := by decide +kernel
theorem dX1_append_2 : decode cX1_append 2 = .ok (.getfield 14, 3) := by decide +kernel
theorem dX1_append_5 : decode cX1_append 5 = .ok (.aload_n 0, 1) := by decide +kernel
theorem dX1_append_6 : decode cX1_append 6 = .ok (.getfield 20, 3) := by decide +kernel
theorem dX1_append_9 : decode cX1_append 9 = .ok (.iload_n 2, 1) := by decide +kernel
theorem dX1_append_10 : decode cX1_append 10 = .ok (.invokevirtual 30, 3) := by decide +kernel
theorem dX1_append_13 : decode cX1_append 13 = .ok (.aload_n 0, 1) := by decide +kernel
theorem dX1_append_14 : decode cX1_append 14 = .ok (.getfield 14, 3) := by decide +kernel
theorem dX1_append_17 : decode cX1_append 17 = .ok (.aload_n 0, 1) := by decide +kernel
theorem dX1_append_18 : decode cX1_append 18 = .ok (.getfield 20, 3) := by decide +kernel
theorem dX1_append_21 : decode cX1_append 21 = .ok (.aload_n 1, 1) := by decide +kernel
theorem dX1_append_22 : decode cX1_append 22 = .ok (.invokevirtual 24, 3) := by decide +kernel
theorem dX1_append_25 : decode cX1_append 25 = .ok (.iadd, 1) := by decide +kernel
theorem dX1_append_26 : decode cX1_append 26 = .ok (.aload_n 0, 1) := by decide +kernel
theorem dX1_append_27 : decode cX1_append 27 = .ok (.aload_n 0, 1) := by decide +kernel
theorem dX1_append_28 : decode cX1_append 28 = .ok (.getfield 20, 3) := by decide +kernel
theorem dX1_append_31 : decode cX1_append 31 = .ok (.aload_n 1, 1) := by decide +kernel
theorem dX1_append_32 : decode cX1_append 32 = .ok (.invokevirtual 24, 3) := by decide +kernel
theorem dX1_append_35 : decode cX1_append 35 = .ok (.invokevirtual 34, 3) := by decide +kernel
theorem dX1_append_38 : decode cX1_append 38 = .ok (.invokevirtual 38, 3) := by decide +kernel
theorem dX1_append_41 : decode cX1_append 41 = .ok (.aload_n 0, 1) := by decide +kernel
theorem dX1_append_42 : decode cX1_append 42 = .ok (.dup, 1) := by decide +kernel
theorem dX1_append_43 : decode cX1_append 43 = .ok (.getfield 20, 3) := by decide +kernel
theorem dX1_append_46 : decode cX1_append 46 = .ok (.aload_n 1, 1) := by decide +kernel
theorem dX1_append_47 : decode cX1_append 47 = .ok (.invokevirtual 24, 3) := by decide +kernel
theorem dX1_append_50 : decode cX1_append 50 = .ok (.iconst 1, 1) := by decide +kernel
theorem dX1_append_51 : decode cX1_append 51 = .ok (.iadd, 1) := by decide +kernel
theorem dX1_append_52 : decode cX1_append 52 = .ok (.iadd, 1) := by decide +kernel
theorem dX1_append_53 : decode cX1_append 53 = .ok (.putfield 20, 3) := by decide +kernel
theorem dX1_append_56 : decode cX1_append 56 = .ok (.return_, 1) := by decide +kernel
theorem dX1_flip_0 : decode cX1_flip 0 = .ok (.aload_n 0, 1) := by decide +kernel
theorem dX1_flip_1 : decode cX1_flip 1 = .ok (.getfield 14, 3) := by decide +kernel
theorem dX1_flip_4 : decode cX1_flip 4 = .ok (.iload_n 1, 1) := by decide +kernel
theorem dX1_flip_5 : decode cX1_flip 5 = .ok (.iload_n 2, 1) := by decide +kernel
theorem dX1_flip_6 : decode cX1_flip 6 = .ok (.invokevirtual 42, 3) := by decide +kernel
theorem dX1_flip_9 : decode cX1_flip 9 = .ok (.return_, 1) := by decide +kernel
theorem dX1_isWholeAt_0 : decode cX1_isWholeAt 0 = .ok (.iload_n 1, 1) := by decide +kernel
theorem dX1_isWholeAt_1 : decode cX1_isWholeAt 1 = .ok (.aload_n 0, 1) := by decide +kernel
theorem dX1_isWholeAt_2 : decode cX1_isWholeAt 2 = .ok (.getfield 20, 3) := by decide +kernel
theorem dX1_isWholeAt_5 : decode cX1_isWholeAt 5 = .ok (.if_icmp .lt 5, 3) := by decide +kernel
theorem dX1_isWholeAt_8 : decode cX1_isWholeAt 8 = .ok (.iconst 0, 1) := by decide +kernel
theorem dX1_isWholeAt_9 : decode cX1_isWholeAt 9 = .ok (.ireturn, 1) := by decide +kernel
theorem dX1_isWholeAt_10 : decode cX1_isWholeAt 10 = .ok (.aload_n 0, 1) := by decide +kernel
theorem dX1_isWholeAt_11 : decode cX1_isWholeAt 11 = .ok (.getfield 14, 3) := by decide +kernel
theorem dX1_isWholeAt_14 : decode cX1_isWholeAt 14 = .ok (.iload_n 1, 1) := by decide +kernel
theorem dX1_isWholeAt_15 : decode cX1_isWholeAt 15 = .ok (.invokevirtual 45, 3) := by decide +kernel
theorem dX1_isWholeAt_18 : decode cX1_isWholeAt 18 = .ok (.istore_n 2, 1) := by decide +kernel
theorem dX1_isWholeAt_19 : decode cX1_isWholeAt 19 = .ok (.iload_n 2, 1) := by decide +kernel
theorem dX1_isWholeAt_20 : decode cX1_isWholeAt 20 = .ok (.iconst 1, 1) := by decide +kernel
theorem dX1_isWholeAt_21 : decode cX1_isWholeAt 21 = .ok (.if_icmp .lt 23, 3) := by decide +kernel
theorem dX1_isWholeAt_24 : decode cX1_isWholeAt 24 = .ok (.iload_n 2, 1) := by decide +kernel
theorem dX1_isWholeAt_25 : decode cX1_isWholeAt 25 = .ok (.bipush 12, 2) := by decide +kernel
theorem dX1_isWholeAt_27 : decode cX1_isWholeAt 27 = .ok (.if_icmp .gt 17, 3) := by decide +kernel
theorem dX1_isWholeAt_30 : decode cX1_isWholeAt 30 = .ok (.iload_n 1, 1) := by decide +kernel
theorem dX1_isWholeAt_31 : decode cX1_isWholeAt 31 = .ok (.aload_n 0, 1) := by decide +kernel
theorem dX1_isWholeAt_32 : decode cX1_isWholeAt 32 = .ok (.iload_n 1, 1) := by decide +kernel
theorem dX1_isWholeAt_33 : decode cX1_isWholeAt 33 = .ok (.invokevirtual 49, 3) := by decide +kernel
theorem dX1_isWholeAt_36 : decode cX1_isWholeAt 36 = .ok (.iadd, 1) := by decide +kernel
theorem dX1_isWholeAt_37 : decode cX1_isWholeAt 37 = .ok (.aload_n 0, 1) := by decide +kernel
theorem dX1_isWholeAt_38 : decode cX1_isWholeAt 38 = .ok (.getfield 20, 3) := by decide +kernel
theorem dX1_isWholeAt_41 : decode cX1_isWholeAt 41 = .ok (.if_icmp .le 5, 3) := by decide +kernel
theorem dX1_isWholeAt_44 : decode cX1_isWholeAt 44 = .ok (.iconst 0, 1) := by decide +kernel
theorem dX1_isWholeAt_45 : decode cX1_isWholeAt 45 = .ok (.ireturn, 1) := by decide +kernel
theorem dX1_isWholeAt_46 : decode cX1_isWholeAt 46 = .ok (.iload_n 2, 1) := by decide +kernel
theorem dX1_isWholeAt_47 : decode cX1_isWholeAt 47 = .ok (.invokestatic 52, 3) := by decide +kernel
theorem dX1_isWholeAt_50 : decode cX1_isWholeAt 50 = .ok (.istore_n 3, 1) := by decide +kernel
theorem dX1_isWholeAt_51 : decode cX1_isWholeAt 51 = .ok (.aload_n 0, 1) := by decide +kernel
theorem dX1_isWholeAt_52 : decode cX1_isWholeAt 52 = .ok (.getfield 14, 3) := by decide +kernel
theorem dX1_isWholeAt_55 : decode cX1_isWholeAt 55 = .ok (.iload_n 1, 1) := by decide +kernel
theorem dX1_isWholeAt_56 : decode cX1_isWholeAt 56 = .ok (.iload_n 3, 1) := by decide +kernel
theorem dX1_isWholeAt_57 : decode cX1_isWholeAt 57 = .ok (.iadd, 1) := by decide +kernel
theorem dX1_isWholeAt_58 : decode cX1_isWholeAt 58 = .ok (.invokevirtual 45, 3) := by decide +kernel
theorem dX1_isWholeAt_61 : decode cX1_isWholeAt 61 = .ok (.aload_n 0, 1) := by decide +kernel
theorem dX1_isWholeAt_62 : decode cX1_isWholeAt 62 = .ok (.iload_n 1, 1) := by decide +kernel
theorem dX1_isWholeAt_63 : decode cX1_isWholeAt 63 = .ok (.iload_n 3, 1) := by decide +kernel
theorem dX1_isWholeAt_64 : decode cX1_isWholeAt 64 = .ok (.invokevirtual 34, 3) := by decide +kernel
theorem dX1_isWholeAt_67 : decode cX1_isWholeAt 67 = .ok (.if_icmp .ne 7, 3) := by decide +kernel
theorem dX1_isWholeAt_70 : decode cX1_isWholeAt 70 = .ok (.iconst 1, 1) := by decide +kernel
theorem dX1_isWholeAt_71 : decode cX1_isWholeAt 71 = .ok (.goto 4, 3) := by decide +kernel
theorem dX1_isWholeAt_74 : decode cX1_isWholeAt 74 = .ok (.iconst 0, 1) := by decide +kernel
theorem dX1_isWholeAt_75 : decode cX1_isWholeAt 75 = .ok (.ireturn, 1) := by decide +kernel
theorem dX1_actSizeAt_0 : decode cX1_actSizeAt 0 = .ok (.aload_n 0, 1) := by decide +kernel
theorem dX1_actSizeAt_1 : decode cX1_actSizeAt 1 = .ok (.getfield 14, 3) := by decide +kernel
theorem dX1_actSizeAt_4 : decode cX1_actSizeAt 4 = .ok (.iload_n 1, 1) := by decide +kernel
theorem dX1_actSizeAt_5 : decode cX1_actSizeAt 5 = .ok (.invokevirtual 45, 3) := by decide +kernel
theorem dX1_actSizeAt_8 : decode cX1_actSizeAt 8 = .ok (.invokestatic 52, 3) := by decide +kernel
theorem dX1_actSizeAt_11 : decode cX1_actSizeAt 11 = .ok (.iconst 1, 1) := by decide +kernel
theorem dX1_actSizeAt_12 : decode cX1_actSizeAt 12 = .ok (.iadd, 1) := by decide +kernel
theorem dX1_actSizeAt_13 : decode cX1_actSizeAt 13 = .ok (.ireturn, 1) := by decide +kernel
theorem dX1_readName_0 : decode cX1_readName 0 = .ok (.aload_n 2, 1) := by decide +kernel
theorem dX1_readName_1 : decode cX1_readName 1 = .ok (.aload_n 0, 1) := by decide +kernel
theorem dX1_readName_2 : decode cX1_readName 2 = .ok (.getfield 14, 3) := by decide +kernel
theorem dX1_readName_5 : decode cX1_readName 5 = .ok (.iload_n 1, 1) := by decide +kernel
theorem dX1_readName_6 : decode cX1_readName 6 = .ok (.invokevirtual 55, 3) := by decide +kernel
theorem dX1_readName_9 : decode cX1_readName 9 = .ok (.return_, 1) := by decide +kernel
theorem dX1_numberAt_0 : decode cX1_numberAt 0 = .ok (.aload_n 0, 1) := by decide +kernel
theorem dX1_numberAt_1 : decode cX1_numberAt 1 = .ok (.getfield 14, 3) := by decide +kernel
theorem dX1_numberAt_4 : decode cX1_numberAt 4 = .ok (.iload_n 1, 1) := by decide +kernel
theorem dX1_numberAt_5 : decode cX1_numberAt 5 = .ok (.iconst 1, 1) := by decide +kernel
theorem dX1_numberAt_6 : decode cX1_numberAt 6 = .ok (.iadd, 1) := by decide +kernel
theorem dX1_numberAt_7 : decode cX1_numberAt 7 = .ok (.aload_n 0, 1) := by decide +kernel
theorem dX1_numberAt_8 : decode cX1_numberAt 8 = .ok (.getfield 14, 3) := by decide +kernel
theorem dX1_numberAt_11 : decode cX1_numberAt 11 = .ok (.iload_n 1, 1) := by decide +kernel
theorem dX1_numberAt_12 : decode cX1_numberAt 12 = .ok (.invokevirtual 45, 3) := by decide +kernel
theorem dX1_numberAt_15 : decode cX1_numberAt 15 = .ok (.iadd, 1) := by decide +kernel
theorem dX1_numberAt_16 : decode cX1_numberAt 16 = .ok (.invokevirtual 59, 3) := by decide +kernel
theorem dX1_numberAt_19 : decode cX1_numberAt 19 = .ok (.ireturn, 1) := by decide +kernel
theorem dX1_checkByte_0 : decode cX1_checkByte 0 = .ok (.aload_n 0, 1) := by decide +kernel
theorem dX1_checkByte_1 : decode cX1_checkByte 1 = .ok (.getfield 14, 3) := by decide +kernel
theorem dX1_checkByte_4 : decode cX1_checkByte 4 = .ok (.iload_n 1, 1) := by decide +kernel
theorem dX1_checkByte_5 : decode cX1_checkByte 5 = .ok (.iload_n 2, 1) := by decide +kernel
theorem dX1_checkByte_6 : decode cX1_checkByte 6 = .ok (.invokevirtual 62, 3) := by decide +kernel
theorem dX1_checkByte_9 : decode cX1_checkByte 9 = .ok (.sipush 255, 3) := by decide +kernel
theorem dX1_checkByte_12 : decode cX1_checkByte 12 = .ok (.iand, 1) := by decide +kernel
theorem dX1_checkByte_13 : decode cX1_checkByte 13 = .ok (.ireturn, 1) := by decide +kernel
theorem dX2_init_0 : decode cX2_init 0 = .ok (.aload_n 0, 1) := by decide +kernel
theorem dX2_init_1 : decode cX2_init 1 = .ok (.invokespecial 3, 3) := by decide +kernel
theorem dX2_init_4 : decode cX2_init 4 = .ok (.aload_n 0, 1) := by decide +kernel
theorem dX2_init_5 : decode cX2_init 5 = .ok (.new 9, 3) := by decide +kernel
theorem dX2_init_8 : decode cX2_init 8 = .ok (.dup, 1) := by decide +kernel
theorem dX2_init_9 : decode cX2_init 9 = .ok (.bipush 12, 2) := by decide +kernel
theorem dX2_init_11 : decode cX2_init 11 = .ok (.invokespecial 11, 3) := by decide +kernel
theorem dX2_init_14 : decode cX2_init 14 = .ok (.putfield 14, 3) := by decide +kernel
theorem dX2_init_17 : decode cX2_init 17 = .ok (.aload_n 0, 1) := by decide +kernel
theorem dX2_init_18 : decode cX2_init 18 = .ok (.iconst 0, 1) := by decide +kernel
theorem dX2_init_19 : decode cX2_init 19 = .ok (.putfield 20, 3) := by decide +kernel
theorem dX2_init_22 : decode cX2_init 22 = .ok (.return_, 1) := by decide +kernel
theorem dX2_recordSizeOf_0 : decode cX2_recordSizeOf 0 = .ok (.iconst 1, 1) := by decide +kernel
theorem dX2_recordSizeOf_1 : decode cX2_recordSizeOf 1 = .ok (.iload_n 0, 1) := by decide +kernel
theorem dX2_recordSizeOf_2 : decode cX2_recordSizeOf 2 = .ok (.iadd, 1) := by decide +kernel
theorem dX2_recordSizeOf_3 : decode cX2_recordSizeOf 3 = .ok (.iconst 4, 1) := by decide +kernel
theorem dX2_recordSizeOf_4 : decode cX2_recordSizeOf 4 = .ok (.iadd, 1) := by decide +kernel
theorem dX2_recordSizeOf_5 : decode cX2_recordSizeOf 5 = .ok (.ireturn, 1) := by decide +kernel
theorem dX2_length_0 : decode cX2_length 0 = .ok (.aload_n 0, 1) := by decide +kernel
theorem dX2_length_1 : decode cX2_length 1 = .ok (.getfield 20, 3) := by decide +kernel
theorem dX2_length_4 : decode cX2_length 4 = .ok (.ireturn, 1) := by decide +kernel
theorem dX2_recordSize_0 : decode cX2_recordSize 0 = .ok (.aload_n 0, 1) := by decide +kernel
theorem dX2_recordSize_1 : decode cX2_recordSize 1 = .ok (.getfield 20, 3) := by decide +kernel
theorem dX2_recordSize_4 : decode cX2_recordSize 4 = .ok (.invokestatic 24, 3) := by decide +kernel
theorem dX2_recordSize_7 : decode cX2_recordSize 7 = .ok (.ireturn, 1) := by decide +kernel
theorem dX2_hash_0 : decode cX2_hash 0 = .ok (.aload_n 0, 1) := by decide +kernel
theorem dX2_hash_1 : decode cX2_hash 1 = .ok (.getfield 14, 3) := by decide +kernel
theorem dX2_hash_4 : decode cX2_hash 4 = .ok (.iconst 0, 1) := by decide +kernel
theorem dX2_hash_5 : decode cX2_hash 5 = .ok (.aload_n 0, 1) := by decide +kernel
theorem dX2_hash_6 : decode cX2_hash 6 = .ok (.getfield 20, 3) := by decide +kernel
theorem dX2_hash_9 : decode cX2_hash 9 = .ok (.invokevirtual 28, 3) := by decide +kernel
theorem dX2_hash_12 : decode cX2_hash 12 = .ok (.ireturn, 1) := by decide +kernel
theorem dX2_extend_0 : decode cX2_extend 0 = .ok (.aload_n 0, 1) := by decide +kernel
theorem dX2_extend_1 : decode cX2_extend 1 = .ok (.getfield 20, 3) := by decide +kernel
theorem dX2_extend_4 : decode cX2_extend 4 = .ok (.bipush 12, 2) := by decide +kernel
theorem dX2_extend_6 : decode cX2_extend 6 = .ok (.if_icmp .lt 5, 3) := by decide +kernel
theorem dX2_extend_9 : decode cX2_extend 9 = .ok (.iconst 0, 1) := by decide +kernel
theorem dX2_extend_10 : decode cX2_extend 10 = .ok (.ireturn, 1) := by decide +kernel
theorem dX2_extend_11 : decode cX2_extend 11 = .ok (.aload_n 0, 1) := by decide +kernel
theorem dX2_extend_12 : decode cX2_extend 12 = .ok (.getfield 14, 3) := by decide +kernel
theorem dX2_extend_15 : decode cX2_extend 15 = .ok (.aload_n 0, 1) := by decide +kernel
theorem dX2_extend_16 : decode cX2_extend 16 = .ok (.getfield 20, 3) := by decide +kernel
theorem dX2_extend_19 : decode cX2_extend 19 = .ok (.iload_n 1, 1) := by decide +kernel
theorem dX2_extend_20 : decode cX2_extend 20 = .ok (.invokevirtual 32, 3) := by decide +kernel
theorem dX2_extend_23 : decode cX2_extend 23 = .ok (.aload_n 0, 1) := by decide +kernel
theorem dX2_extend_24 : decode cX2_extend 24 = .ok (.dup, 1) := by decide +kernel
theorem dX2_extend_25 : decode cX2_extend 25 = .ok (.getfield 20, 3) := by decide +kernel
theorem dX2_extend_28 : decode cX2_extend 28 = .ok (.iconst 1, 1) := by decide +kernel
theorem dX2_extend_29 : decode cX2_extend 29 = .ok (.iadd, 1) := by decide +kernel
theorem dX2_extend_30 : decode cX2_extend 30 = .ok (.putfield 20, 3) := by decide +kernel
theorem dX2_extend_33 : decode cX2_extend 33 = .ok (.iconst 1, 1) := by decide +kernel
theorem dX2_extend_34 : decode cX2_extend 34 = .ok (.ireturn, 1) := by decide +kernel
theorem dX2_clear_0 : decode cX2_clear 0 = .ok (.aload_n 0, 1) := by decide +kernel
theorem dX2_clear_1 : decode cX2_clear 1 = .ok (.iconst 0, 1) := by decide +kernel
theorem dX2_clear_2 : decode cX2_clear 2 = .ok (.putfield 20, 3) := by decide +kernel
theorem dX2_clear_5 : decode cX2_clear 5 = .ok (.return_, 1) := by decide +kernel
theorem dX2_isAt_0 : decode cX2_isAt 0 = .ok (.aload_n 1, 1) := by decide +kernel
theorem dX2_isAt_1 : decode cX2_isAt 1 = .ok (.iload_n 2, 1) := by decide +kernel
theorem dX2_isAt_2 : decode cX2_isAt 2 = .ok (.invokevirtual 36, 3) := by decide +kernel
theorem dX2_isAt_5 : decode cX2_isAt 5 = .ok (.aload_n 0, 1) := by decide +kernel
theorem dX2_isAt_6 : decode cX2_isAt 6 = .ok (.getfield 20, 3) := by decide +kernel
theorem dX2_isAt_9 : decode cX2_isAt 9 = .ok (.if_icmp .ne 26, 3) := by decide +kernel
theorem dX2_isAt_12 : decode cX2_isAt 12 = .ok (.aload_n 1, 1) := by decide +kernel
theorem dX2_isAt_13 : decode cX2_isAt 13 = .ok (.iload_n 2, 1) := by decide +kernel
theorem dX2_isAt_14 : decode cX2_isAt 14 = .ok (.iconst 1, 1) := by decide +kernel
theorem dX2_isAt_15 : decode cX2_isAt 15 = .ok (.iadd, 1) := by decide +kernel
theorem dX2_isAt_16 : decode cX2_isAt 16 = .ok (.aload_n 0, 1) := by decide +kernel
theorem dX2_isAt_17 : decode cX2_isAt 17 = .ok (.getfield 14, 3) := by decide +kernel
theorem dX2_isAt_20 : decode cX2_isAt 20 = .ok (.iconst 0, 1) := by decide +kernel
theorem dX2_isAt_21 : decode cX2_isAt 21 = .ok (.aload_n 0, 1) := by decide +kernel
theorem dX2_isAt_22 : decode cX2_isAt 22 = .ok (.getfield 20, 3) := by decide +kernel
theorem dX2_isAt_25 : decode cX2_isAt 25 = .ok (.invokevirtual 39, 3) := by decide +kernel
theorem dX2_isAt_28 : decode cX2_isAt 28 = .ok (.ifCond .eq 7, 3) := by decide +kernel
theorem dX2_isAt_31 : decode cX2_isAt 31 = .ok (.iconst 1, 1) := by decide +kernel
theorem dX2_isAt_32 : decode cX2_isAt 32 = .ok (.goto 4, 3) := by decide +kernel
theorem dX2_isAt_35 : decode cX2_isAt 35 = .ok (.iconst 0, 1) := by decide +kernel
theorem dX2_isAt_36 : decode cX2_isAt 36 = .ok (.ireturn, 1) := by decide +kernel
theorem dX2_writeRecord_0 : decode cX2_writeRecord 0 = .ok (.aload_n 1, 1) := by decide +kernel
theorem dX2_writeRecord_1 : decode cX2_writeRecord 1 = .ok (.iload_n 2, 1) := by decide +kernel
theorem dX2_writeRecord_2 : decode cX2_writeRecord 2 = .ok (.aload_n 0, 1) := by decide +kernel
theorem dX2_writeRecord_3 : decode cX2_writeRecord 3 = .ok (.getfield 20, 3) := by decide +kernel
theorem dX2_writeRecord_6 : decode cX2_writeRecord 6 = .ok (.invokevirtual 32, 3) := by decide +kernel
theorem dX2_writeRecord_9 : decode cX2_writeRecord 9 = .ok (.aload_n 1, 1) := by decide +kernel
theorem dX2_writeRecord_10 : decode cX2_writeRecord 10 = .ok (.iload_n 2, 1) := by decide +kernel
theorem dX2_writeRecord_11 : decode cX2_writeRecord 11 = .ok (.iconst 1, 1) := by decide +kernel
theorem dX2_writeRecord_12 : decode cX2_writeRecord 12 = .ok (.iadd, 1) := by decide +kernel
theorem dX2_writeRecord_13 : decode cX2_writeRecord 13 = .ok (.aload_n 0, 1) := by decide +kernel
theorem dX2_writeRecord_14 : decode cX2_writeRecord 14 = .ok (.getfield 14, 3) := by decide +kernel
theorem dX2_writeRecord_17 : decode cX2_writeRecord 17 = .ok (.iconst 0, 1) := by decide +kernel
theorem dX2_writeRecord_18 : decode cX2_writeRecord 18 = .ok (.aload_n 0, 1) := by decide +kernel
theorem dX2_writeRecord_19 : decode cX2_writeRecord 19 = .ok (.getfield 20, 3) := by decide +kernel
theorem dX2_writeRecord_22 : decode cX2_writeRecord 22 = .ok (.invokevirtual 43, 3) := by decide +kernel
theorem dX2_writeRecord_25 : decode cX2_writeRecord 25 = .ok (.aload_n 1, 1) := by decide +kernel
theorem dX2_writeRecord_26 : decode cX2_writeRecord 26 = .ok (.iload_n 2, 1) := by decide +kernel
theorem dX2_writeRecord_27 : decode cX2_writeRecord 27 = .ok (.iconst 1, 1) := by decide +kernel
theorem dX2_writeRecord_28 : decode cX2_writeRecord 28 = .ok (.iadd, 1) := by decide +kernel
theorem dX2_writeRecord_29 : decode cX2_writeRecord 29 = .ok (.aload_n 0, 1) := by decide +kernel
theorem dX2_writeRecord_30 : decode cX2_writeRecord 30 = .ok (.getfield 20, 3) := by decide +kernel
theorem dX2_writeRecord_33 : decode cX2_writeRecord 33 = .ok (.iadd, 1) := by decide +kernel
theorem dX2_writeRecord_34 : decode cX2_writeRecord 34 = .ok (.iload_n 3, 1) := by decide +kernel
theorem dX2_writeRecord_35 : decode cX2_writeRecord 35 = .ok (.invokevirtual 47, 3) := by decide +kernel
theorem dX2_writeRecord_38 : decode cX2_writeRecord 38 = .ok (.return_, 1) := by decide +kernel
theorem dX2_readRecord_0 : decode cX2_readRecord 0 = .ok (.aload_n 0, 1) := by decide +kernel
theorem dX2_readRecord_1 : decode cX2_readRecord 1 = .ok (.iconst 0, 1) := by decide +kernel
theorem dX2_readRecord_2 : decode cX2_readRecord 2 = .ok (.aload_n 1, 1) := by decide +kernel
theorem dX2_readRecord_3 : decode cX2_readRecord 3 = .ok (.iload_n 2, 1) := by decide +kernel
theorem dX2_readRecord_4 : decode cX2_readRecord 4 = .ok (.invokevirtual 36, 3) := by decide +kernel
theorem dX2_readRecord_7 : decode cX2_readRecord 7 = .ok (.bipush 12, 2) := by decide +kernel
theorem dX2_readRecord_9 : decode cX2_readRecord 9 = .ok (.invokestatic 50, 3) := by decide +kernel
theorem dX2_readRecord_12 : decode cX2_readRecord 12 = .ok (.invokestatic 55, 3) := by decide +kernel
theorem dX2_readRecord_15 : decode cX2_readRecord 15 = .ok (.putfield 20, 3) := by decide +kernel
theorem dX2_readRecord_18 : decode cX2_readRecord 18 = .ok (.aload_n 0, 1) := by decide +kernel
theorem dX2_readRecord_19 : decode cX2_readRecord 19 = .ok (.getfield 14, 3) := by decide +kernel
theorem dX2_readRecord_22 : decode cX2_readRecord 22 = .ok (.iconst 0, 1) := by decide +kernel
theorem dX2_readRecord_23 : decode cX2_readRecord 23 = .ok (.aload_n 1, 1) := by decide +kernel
theorem dX2_readRecord_24 : decode cX2_readRecord 24 = .ok (.iload_n 2, 1) := by decide +kernel
theorem dX2_readRecord_25 : decode cX2_readRecord 25 = .ok (.iconst 1, 1) := by decide +kernel
theorem dX2_readRecord_26 : decode cX2_readRecord 26 = .ok (.iadd, 1) := by decide +kernel
theorem dX2_readRecord_27 : decode cX2_readRecord 27 = .ok (.aload_n 0, 1) := by decide +kernel
theorem dX2_readRecord_28 : decode cX2_readRecord 28 = .ok (.getfield 20, 3) := by decide +kernel
theorem dX2_readRecord_31 : decode cX2_readRecord 31 = .ok (.invokevirtual 43, 3) := by decide +kernel
theorem dX2_readRecord_34 : decode cX2_readRecord 34 = .ok (.return_, 1) := by decide +kernel
theorem dX3_init_0 : decode cX3_init 0 = .ok (.aload_n 0, 1) := by decide +kernel
theorem dX3_init_1 : decode cX3_init 1 = .ok (.invokespecial 3, 3) := by decide +kernel
theorem dX3_init_4 : decode cX3_init 4 = .ok (.aload_n 0, 1) := by decide +kernel
theorem dX3_init_5 : decode cX3_init 5 = .ok (.new 9, 3) := by decide +kernel
theorem dX3_init_8 : decode cX3_init 8 = .ok (.dup, 1) := by decide +kernel
theorem dX3_init_9 : decode cX3_init 9 = .ok (.bipush 64, 2) := by decide +kernel
theorem dX3_init_11 : decode cX3_init 11 = .ok (.invokespecial 11, 3) := by decide +kernel
theorem dX3_init_14 : decode cX3_init 14 = .ok (.putfield 14, 3) := by decide +kernel
theorem dX3_init_17 : decode cX3_init 17 = .ok (.aload_n 0, 1) := by decide +kernel
theorem dX3_init_18 : decode cX3_init 18 = .ok (.iconst 2, 1) := by decide +kernel
theorem dX3_init_19 : decode cX3_init 19 = .ok (.putfield 20, 3) := by decide +kernel
theorem dX3_init_22 : decode cX3_init 22 = .ok (.return_, 1) := by decide +kernel
theorem dX3_byteOf_0 : decode cX3_byteOf 0 = .ok (.aload_n 0, 1) := by decide +kernel
theorem dX3_byteOf_1 : decode cX3_byteOf 1 = .ok (.getfield 14, 3) := by decide +kernel
theorem dX3_byteOf_4 : decode cX3_byteOf 4 = .ok (.iload_n 1, 1) := by decide +kernel
theorem dX3_byteOf_5 : decode cX3_byteOf 5 = .ok (.invokevirtual 24, 3) := by decide +kernel
theorem dX3_byteOf_8 : decode cX3_byteOf 8 = .ok (.ireturn, 1) := by decide +kernel
theorem dX3_flip_0 : decode cX3_flip 0 = .ok (.aload_n 0, 1) := by decide +kernel
theorem dX3_flip_1 : decode cX3_flip 1 = .ok (.getfield 14, 3) := by decide +kernel
theorem dX3_flip_4 : decode cX3_flip 4 = .ok (.iload_n 1, 1) := by decide +kernel
theorem dX3_flip_5 : decode cX3_flip 5 = .ok (.iload_n 2, 1) := by decide +kernel
theorem dX3_flip_6 : decode cX3_flip 6 = .ok (.invokevirtual 28, 3) := by decide +kernel
theorem dX3_flip_9 : decode cX3_flip 9 = .ok (.return_, 1) := by decide +kernel
theorem dX3_isBad_0 : decode cX3_isBad 0 = .ok (.aload_n 0, 1) := by decide +kernel
theorem dX3_isBad_1 : decode cX3_isBad 1 = .ok (.getfield 14, 3) := by decide +kernel
theorem dX3_isBad_4 : decode cX3_isBad 4 = .ok (.iconst 0, 1) := by decide +kernel
theorem dX3_isBad_5 : decode cX3_isBad 5 = .ok (.bipush 60, 2) := by decide +kernel
theorem dX3_isBad_7 : decode cX3_isBad 7 = .ok (.invokevirtual 32, 3) := by decide +kernel
theorem dX3_isBad_10 : decode cX3_isBad 10 = .ok (.aload_n 0, 1) := by decide +kernel
theorem dX3_isBad_11 : decode cX3_isBad 11 = .ok (.getfield 14, 3) := by decide +kernel
theorem dX3_isBad_14 : decode cX3_isBad 14 = .ok (.bipush 60, 2) := by decide +kernel
theorem dX3_isBad_16 : decode cX3_isBad 16 = .ok (.invokevirtual 36, 3) := by decide +kernel
theorem dX3_isBad_19 : decode cX3_isBad 19 = .ok (.if_icmp .eq 7, 3) := by decide +kernel
theorem dX3_isBad_22 : decode cX3_isBad 22 = .ok (.iconst 1, 1) := by decide +kernel
theorem dX3_isBad_23 : decode cX3_isBad 23 = .ok (.goto 4, 3) := by decide +kernel
theorem dX3_isBad_26 : decode cX3_isBad 26 = .ok (.iconst 0, 1) := by decide +kernel
theorem dX3_isBad_27 : decode cX3_isBad 27 = .ok (.ireturn, 1) := by decide +kernel
theorem dX3_depth_0 : decode cX3_depth 0 = .ok (.aload_n 0, 1) := by decide +kernel
theorem dX3_depth_1 : decode cX3_depth 1 = .ok (.getfield 14, 3) := by decide +kernel
theorem dX3_depth_4 : decode cX3_depth 4 = .ok (.iconst 0, 1) := by decide +kernel
theorem dX3_depth_5 : decode cX3_depth 5 = .ok (.invokevirtual 24, 3) := by decide +kernel
theorem dX3_depth_8 : decode cX3_depth 8 = .ok (.ireturn, 1) := by decide +kernel
theorem dX3_records_0 : decode cX3_records 0 = .ok (.aload_n 0, 1) := by decide +kernel
theorem dX3_records_1 : decode cX3_records 1 = .ok (.getfield 14, 3) := by decide +kernel
theorem dX3_records_4 : decode cX3_records 4 = .ok (.iconst 1, 1) := by decide +kernel
theorem dX3_records_5 : decode cX3_records 5 = .ok (.invokevirtual 24, 3) := by decide +kernel
theorem dX3_records_8 : decode cX3_records 8 = .ok (.ireturn, 1) := by decide +kernel
theorem dX3_placeOf_0 : decode cX3_placeOf 0 = .ok (.aload_n 0, 1) := by decide +kernel
theorem dX3_placeOf_1 : decode cX3_placeOf 1 = .ok (.invokevirtual 39, 3) := by decide +kernel
theorem dX3_placeOf_4 : decode cX3_placeOf 4 = .ok (.istore_n 2, 1) := by decide +kernel
theorem dX3_placeOf_5 : decode cX3_placeOf 5 = .ok (.iconst 2, 1) := by decide +kernel
theorem dX3_placeOf_6 : decode cX3_placeOf 6 = .ok (.istore_n 3, 1) := by decide +kernel
theorem dX3_placeOf_7 : decode cX3_placeOf 7 = .ok (.iconst 0, 1) := by decide +kernel
theorem dX3_placeOf_8 : decode cX3_placeOf 8 = .ok (.istore 4, 2) := by decide +kernel
theorem dX3_placeOf_10 : decode cX3_placeOf 10 = .ok (.iload 4, 2) := by decide +kernel
theorem dX3_placeOf_12 : decode cX3_placeOf 12 = .ok (.iload_n 2, 1) := by decide +kernel
theorem dX3_placeOf_13 : decode cX3_placeOf 13 = .ok (.if_icmp .ge 31, 3) := by decide +kernel
theorem dX3_placeOf_16 : decode cX3_placeOf 16 = .ok (.aload_n 1, 1) := by decide +kernel
theorem dX3_placeOf_17 : decode cX3_placeOf 17 = .ok (.aload_n 0, 1) := by decide +kernel
theorem dX3_placeOf_18 : decode cX3_placeOf 18 = .ok (.getfield 14, 3) := by decide +kernel
theorem dX3_placeOf_21 : decode cX3_placeOf 21 = .ok (.iload_n 3, 1) := by decide +kernel
theorem dX3_placeOf_22 : decode cX3_placeOf 22 = .ok (.invokevirtual 43, 3) := by decide +kernel
theorem dX3_placeOf_25 : decode cX3_placeOf 25 = .ok (.ifCond .eq 5, 3) := by decide +kernel
theorem dX3_placeOf_28 : decode cX3_placeOf 28 = .ok (.iload_n 3, 1) := by decide +kernel
theorem dX3_placeOf_29 : decode cX3_placeOf 29 = .ok (.ireturn, 1) := by decide +kernel
theorem dX3_placeOf_30 : decode cX3_placeOf 30 = .ok (.iload_n 3, 1) := by decide +kernel
theorem dX3_placeOf_31 : decode cX3_placeOf 31 = .ok (.aload_n 0, 1) := by decide +kernel
theorem dX3_placeOf_32 : decode cX3_placeOf 32 = .ok (.iload_n 3, 1) := by decide +kernel
theorem dX3_placeOf_33 : decode cX3_placeOf 33 = .ok (.invokevirtual 49, 3) := by decide +kernel
theorem dX3_placeOf_36 : decode cX3_placeOf 36 = .ok (.iadd, 1) := by decide +kernel
theorem dX3_placeOf_37 : decode cX3_placeOf 37 = .ok (.istore_n 3, 1) := by decide +kernel
theorem dX3_placeOf_38 : decode cX3_placeOf 38 = .ok (.iinc 4 1, 3) := by decide +kernel
theorem dX3_placeOf_41 : decode cX3_placeOf 41 = .ok (.goto (-31), 3) := by decide +kernel
theorem dX3_placeOf_44 : decode cX3_placeOf 44 = .ok (.iconst (-1), 1) := by decide +kernel
theorem dX3_placeOf_45 : decode cX3_placeOf 45 = .ok (.ireturn, 1) := by decide +kernel
theorem dX3_numberAt_0 : decode cX3_numberAt 0 = .ok (.aload_n 0, 1) := by decide +kernel
theorem dX3_numberAt_1 : decode cX3_numberAt 1 = .ok (.getfield 14, 3) := by decide +kernel
theorem dX3_numberAt_4 : decode cX3_numberAt 4 = .ok (.aload_n 0, 1) := by decide +kernel
theorem dX3_numberAt_5 : decode cX3_numberAt 5 = .ok (.iload_n 1, 1) := by decide +kernel
theorem dX3_numberAt_6 : decode cX3_numberAt 6 = .ok (.invokevirtual 52, 3) := by decide +kernel
theorem dX3_numberAt_9 : decode cX3_numberAt 9 = .ok (.invokevirtual 36, 3) := by decide +kernel
theorem dX3_numberAt_12 : decode cX3_numberAt 12 = .ok (.ireturn, 1) := by decide +kernel
theorem dX3_renumber_0 : decode cX3_renumber 0 = .ok (.aload_n 0, 1) := by decide +kernel
theorem dX3_renumber_1 : decode cX3_renumber 1 = .ok (.getfield 14, 3) := by decide +kernel
theorem dX3_renumber_4 : decode cX3_renumber 4 = .ok (.aload_n 0, 1) := by decide +kernel
theorem dX3_renumber_5 : decode cX3_renumber 5 = .ok (.iload_n 1, 1) := by decide +kernel
theorem dX3_renumber_6 : decode cX3_renumber 6 = .ok (.invokevirtual 52, 3) := by decide +kernel
theorem dX3_renumber_9 : decode cX3_renumber 9 = .ok (.iload_n 2, 1) := by decide +kernel
theorem dX3_renumber_10 : decode cX3_renumber 10 = .ok (.invokevirtual 55, 3) := by decide +kernel
theorem dX3_renumber_13 : decode cX3_renumber 13 = .ok (.aload_n 0, 1) := by decide +kernel
theorem dX3_renumber_14 : decode cX3_renumber 14 = .ok (.invokevirtual 58, 3) := by decide +kernel
theorem dX3_renumber_17 : decode cX3_renumber 17 = .ok (.return_, 1) := by decide +kernel
theorem dX3_bytesOfKin_0 : decode cX3_bytesOfKin 0 = .ok (.iconst 1, 1) := by decide +kernel
theorem dX3_bytesOfKin_1 : decode cX3_bytesOfKin 1 = .ok (.iload_n 2, 1) := by decide +kernel
theorem dX3_bytesOfKin_2 : decode cX3_bytesOfKin 2 = .ok (.ishl, 1) := by decide +kernel
theorem dX3_bytesOfKin_3 : decode cX3_bytesOfKin 3 = .ok (.iconst 1, 1) := by decide +kernel
theorem dX3_bytesOfKin_4 : decode cX3_bytesOfKin 4 = .ok (.isub, 1) := by decide +kernel
theorem dX3_bytesOfKin_5 : decode cX3_bytesOfKin 5 = .ok (.istore_n 3, 1) := by decide +kernel
theorem dX3_bytesOfKin_6 : decode cX3_bytesOfKin 6 = .ok (.aload_n 0, 1) := by decide +kernel
theorem dX3_bytesOfKin_7 : decode cX3_bytesOfKin 7 = .ok (.invokevirtual 39, 3) := by decide +kernel
theorem dX3_bytesOfKin_10 : decode cX3_bytesOfKin 10 = .ok (.istore 4, 2) := by decide +kernel
theorem dX3_bytesOfKin_12 : decode cX3_bytesOfKin 12 = .ok (.iconst 0, 1) := by decide +kernel
theorem dX3_bytesOfKin_13 : decode cX3_bytesOfKin 13 = .ok (.istore 5, 2) := by decide +kernel
theorem dX3_bytesOfKin_15 : decode cX3_bytesOfKin 15 = .ok (.iconst 2, 1) := by decide +kernel
theorem dX3_bytesOfKin_16 : decode cX3_bytesOfKin 16 = .ok (.istore 6, 2) := by decide +kernel
theorem dX3_bytesOfKin_18 : decode cX3_bytesOfKin 18 = .ok (.iconst 0, 1) := by decide +kernel
theorem dX3_bytesOfKin_19 : decode cX3_bytesOfKin 19 = .ok (.istore 7, 2) := by decide +kernel
theorem dX3_bytesOfKin_21 : decode cX3_bytesOfKin 21 = .ok (.iload 7, 2) := by decide +kernel
theorem dX3_bytesOfKin_23 : decode cX3_bytesOfKin 23 = .ok (.iload 4, 2) := by decide +kernel
theorem dX3_bytesOfKin_25 : decode cX3_bytesOfKin 25 = .ok (.if_icmp .ge 44, 3) := by decide +kernel
theorem dX3_bytesOfKin_28 : decode cX3_bytesOfKin 28 = .ok (.aload_n 0, 1) := by decide +kernel
theorem dX3_bytesOfKin_29 : decode cX3_bytesOfKin 29 = .ok (.iload 6, 2) := by decide +kernel
theorem dX3_bytesOfKin_31 : decode cX3_bytesOfKin 31 = .ok (.invokevirtual 61, 3) := by decide +kernel
theorem dX3_bytesOfKin_34 : decode cX3_bytesOfKin 34 = .ok (.iload_n 1, 1) := by decide +kernel
theorem dX3_bytesOfKin_35 : decode cX3_bytesOfKin 35 = .ok (.ixor, 1) := by decide +kernel
theorem dX3_bytesOfKin_36 : decode cX3_bytesOfKin 36 = .ok (.iload_n 3, 1) := by decide +kernel
theorem dX3_bytesOfKin_37 : decode cX3_bytesOfKin 37 = .ok (.iand, 1) := by decide +kernel
theorem dX3_bytesOfKin_38 : decode cX3_bytesOfKin 38 = .ok (.ifCond .ne 14, 3) := by decide +kernel
theorem dX3_bytesOfKin_41 : decode cX3_bytesOfKin 41 = .ok (.iload 5, 2) := by decide +kernel
theorem dX3_bytesOfKin_43 : decode cX3_bytesOfKin 43 = .ok (.aload_n 0, 1) := by decide +kernel
theorem dX3_bytesOfKin_44 : decode cX3_bytesOfKin 44 = .ok (.iload 6, 2) := by decide +kernel
theorem dX3_bytesOfKin_46 : decode cX3_bytesOfKin 46 = .ok (.invokevirtual 49, 3) := by decide +kernel
theorem dX3_bytesOfKin_49 : decode cX3_bytesOfKin 49 = .ok (.iadd, 1) := by decide +kernel
theorem dX3_bytesOfKin_50 : decode cX3_bytesOfKin 50 = .ok (.istore 5, 2) := by decide +kernel
theorem dX3_bytesOfKin_52 : decode cX3_bytesOfKin 52 = .ok (.iload 6, 2) := by decide +kernel
theorem dX3_bytesOfKin_54 : decode cX3_bytesOfKin 54 = .ok (.aload_n 0, 1) := by decide +kernel
theorem dX3_bytesOfKin_55 : decode cX3_bytesOfKin 55 = .ok (.iload 6, 2) := by decide +kernel
theorem dX3_bytesOfKin_57 : decode cX3_bytesOfKin 57 = .ok (.invokevirtual 49, 3) := by decide +kernel
theorem dX3_bytesOfKin_60 : decode cX3_bytesOfKin 60 = .ok (.iadd, 1) := by decide +kernel
theorem dX3_bytesOfKin_61 : decode cX3_bytesOfKin 61 = .ok (.istore 6, 2) := by decide +kernel
theorem dX3_bytesOfKin_63 : decode cX3_bytesOfKin 63 = .ok (.iinc 7 1, 3) := by decide +kernel
theorem dX3_bytesOfKin_66 : decode cX3_bytesOfKin 66 = .ok (.goto (-45), 3) := by decide +kernel
theorem dX3_bytesOfKin_69 : decode cX3_bytesOfKin 69 = .ok (.iload 5, 2) := by decide +kernel
theorem dX3_bytesOfKin_71 : decode cX3_bytesOfKin 71 = .ok (.ireturn, 1) := by decide +kernel
theorem dX3_append_0 : decode cX3_append 0 = .ok (.aload_n 1, 1) := by decide +kernel
theorem dX3_append_1 : decode cX3_append 1 = .ok (.aload_n 0, 1) := by decide +kernel
theorem dX3_append_2 : decode cX3_append 2 = .ok (.getfield 14, 3) := by decide +kernel
theorem dX3_append_5 : decode cX3_append 5 = .ok (.aload_n 0, 1) := by decide +kernel
theorem dX3_append_6 : decode cX3_append 6 = .ok (.getfield 20, 3) := by decide +kernel
theorem dX3_append_9 : decode cX3_append 9 = .ok (.iload_n 2, 1) := by decide +kernel
theorem dX3_append_10 : decode cX3_append 10 = .ok (.invokevirtual 64, 3) := by decide +kernel
theorem dX3_append_13 : decode cX3_append 13 = .ok (.aload_n 0, 1) := by decide +kernel
theorem dX3_append_14 : decode cX3_append 14 = .ok (.aload_n 1, 1) := by decide +kernel
theorem dX3_append_15 : decode cX3_append 15 = .ok (.invokevirtual 68, 3) := by decide +kernel
theorem dX3_append_18 : decode cX3_append 18 = .ok (.invokevirtual 71, 3) := by decide +kernel
theorem dX3_append_21 : decode cX3_append 21 = .ok (.aload_n 0, 1) := by decide +kernel
theorem dX3_append_22 : decode cX3_append 22 = .ok (.invokevirtual 58, 3) := by decide +kernel
theorem dX3_append_25 : decode cX3_append 25 = .ok (.return_, 1) := by decide +kernel
theorem dX3_dealTo_0 : decode cX3_dealTo 0 = .ok (.aload_n 0, 1) := by decide +kernel
theorem dX3_dealTo_1 : decode cX3_dealTo 1 = .ok (.invokevirtual 39, 3) := by decide +kernel
theorem dX3_dealTo_4 : decode cX3_dealTo 4 = .ok (.istore 4, 2) := by decide +kernel
theorem dX3_dealTo_6 : decode cX3_dealTo 6 = .ok (.iconst 2, 1) := by decide +kernel
theorem dX3_dealTo_7 : decode cX3_dealTo 7 = .ok (.istore 5, 2) := by decide +kernel
theorem dX3_dealTo_9 : decode cX3_dealTo 9 = .ok (.iconst 0, 1) := by decide +kernel
theorem dX3_dealTo_10 : decode cX3_dealTo 10 = .ok (.istore 6, 2) := by decide +kernel
theorem dX3_dealTo_12 : decode cX3_dealTo 12 = .ok (.iload 6, 2) := by decide +kernel
theorem dX3_dealTo_14 : decode cX3_dealTo 14 = .ok (.iload 4, 2) := by decide +kernel
theorem dX3_dealTo_16 : decode cX3_dealTo 16 = .ok (.if_icmp .ge 72, 3) := by decide +kernel
theorem dX3_dealTo_19 : decode cX3_dealTo 19 = .ok (.aload_n 0, 1) := by decide +kernel
theorem dX3_dealTo_20 : decode cX3_dealTo 20 = .ok (.iload 5, 2) := by decide +kernel
theorem dX3_dealTo_22 : decode cX3_dealTo 22 = .ok (.invokevirtual 61, 3) := by decide +kernel
theorem dX3_dealTo_25 : decode cX3_dealTo 25 = .ok (.iload_n 3, 1) := by decide +kernel
theorem dX3_dealTo_26 : decode cX3_dealTo 26 = .ok (.iushr, 1) := by decide +kernel
theorem dX3_dealTo_27 : decode cX3_dealTo 27 = .ok (.iconst 1, 1) := by decide +kernel
theorem dX3_dealTo_28 : decode cX3_dealTo 28 = .ok (.iand, 1) := by decide +kernel
theorem dX3_dealTo_29 : decode cX3_dealTo 29 = .ok (.ifCond .ne 7, 3) := by decide +kernel
theorem dX3_dealTo_32 : decode cX3_dealTo 32 = .ok (.aload_n 1, 1) := by decide +kernel
theorem dX3_dealTo_33 : decode cX3_dealTo 33 = .ok (.goto 4, 3) := by decide +kernel
theorem dX3_dealTo_36 : decode cX3_dealTo 36 = .ok (.aload_n 2, 1) := by decide +kernel
theorem dX3_dealTo_37 : decode cX3_dealTo 37 = .ok (.astore 7, 2) := by decide +kernel
theorem dX3_dealTo_39 : decode cX3_dealTo 39 = .ok (.aload_n 0, 1) := by decide +kernel
theorem dX3_dealTo_40 : decode cX3_dealTo 40 = .ok (.iload 5, 2) := by decide +kernel
theorem dX3_dealTo_42 : decode cX3_dealTo 42 = .ok (.invokevirtual 49, 3) := by decide +kernel
theorem dX3_dealTo_45 : decode cX3_dealTo 45 = .ok (.istore 8, 2) := by decide +kernel
theorem dX3_dealTo_47 : decode cX3_dealTo 47 = .ok (.aload 7, 2) := by decide +kernel
theorem dX3_dealTo_49 : decode cX3_dealTo 49 = .ok (.getfield 14, 3) := by decide +kernel
theorem dX3_dealTo_52 : decode cX3_dealTo 52 = .ok (.aload 7, 2) := by decide +kernel
theorem dX3_dealTo_54 : decode cX3_dealTo 54 = .ok (.getfield 20, 3) := by decide +kernel
theorem dX3_dealTo_57 : decode cX3_dealTo 57 = .ok (.aload_n 0, 1) := by decide +kernel
theorem dX3_dealTo_58 : decode cX3_dealTo 58 = .ok (.getfield 14, 3) := by decide +kernel
theorem dX3_dealTo_61 : decode cX3_dealTo 61 = .ok (.iload 5, 2) := by decide +kernel
theorem dX3_dealTo_63 : decode cX3_dealTo 63 = .ok (.iload 8, 2) := by decide +kernel
theorem dX3_dealTo_65 : decode cX3_dealTo 65 = .ok (.invokevirtual 74, 3) := by decide +kernel
theorem dX3_dealTo_68 : decode cX3_dealTo 68 = .ok (.aload 7, 2) := by decide +kernel
theorem dX3_dealTo_70 : decode cX3_dealTo 70 = .ok (.iload 8, 2) := by decide +kernel
theorem dX3_dealTo_72 : decode cX3_dealTo 72 = .ok (.invokevirtual 71, 3) := by decide +kernel
theorem dX3_dealTo_75 : decode cX3_dealTo 75 = .ok (.iload 5, 2) := by decide +kernel
theorem dX3_dealTo_77 : decode cX3_dealTo 77 = .ok (.iload 8, 2) := by decide +kernel
theorem dX3_dealTo_79 : decode cX3_dealTo 79 = .ok (.iadd, 1) := by decide +kernel
theorem dX3_dealTo_80 : decode cX3_dealTo 80 = .ok (.istore 5, 2) := by decide +kernel
theorem dX3_dealTo_82 : decode cX3_dealTo 82 = .ok (.iinc 6 1, 3) := by decide +kernel
theorem dX3_dealTo_85 : decode cX3_dealTo 85 = .ok (.goto (-73), 3) := by decide +kernel
theorem dX3_dealTo_88 : decode cX3_dealTo 88 = .ok (.return_, 1) := by decide +kernel
theorem dX3_empty_0 : decode cX3_empty 0 = .ok (.aload_n 0, 1) := by decide +kernel
theorem dX3_empty_1 : decode cX3_empty 1 = .ok (.getfield 14, 3) := by decide +kernel
theorem dX3_empty_4 : decode cX3_empty 4 = .ok (.invokevirtual 78, 3) := by decide +kernel
theorem dX3_empty_7 : decode cX3_empty 7 = .ok (.aload_n 0, 1) := by decide +kernel
theorem dX3_empty_8 : decode cX3_empty 8 = .ok (.getfield 14, 3) := by decide +kernel
theorem dX3_empty_11 : decode cX3_empty 11 = .ok (.iconst 0, 1) := by decide +kernel
theorem dX3_empty_12 : decode cX3_empty 12 = .ok (.iload_n 1, 1) := by decide +kernel
theorem dX3_empty_13 : decode cX3_empty 13 = .ok (.invokevirtual 81, 3) := by decide +kernel
theorem dX3_empty_16 : decode cX3_empty 16 = .ok (.aload_n 0, 1) := by decide +kernel
theorem dX3_empty_17 : decode cX3_empty 17 = .ok (.iconst 2, 1) := by decide +kernel
theorem dX3_empty_18 : decode cX3_empty 18 = .ok (.putfield 20, 3) := by decide +kernel
theorem dX3_empty_21 : decode cX3_empty 21 = .ok (.return_, 1) := by decide +kernel
theorem dX3_copyFrom_0 : decode cX3_copyFrom 0 = .ok (.aload_n 0, 1) := by decide +kernel
theorem dX3_copyFrom_1 : decode cX3_copyFrom 1 = .ok (.getfield 14, 3) := by decide +kernel
theorem dX3_copyFrom_4 : decode cX3_copyFrom 4 = .ok (.aload_n 1, 1) := by decide +kernel
theorem dX3_copyFrom_5 : decode cX3_copyFrom 5 = .ok (.getfield 14, 3) := by decide +kernel
theorem dX3_copyFrom_8 : decode cX3_copyFrom 8 = .ok (.invokevirtual 84, 3) := by decide +kernel
theorem dX3_copyFrom_11 : decode cX3_copyFrom 11 = .ok (.aload_n 0, 1) := by decide +kernel
theorem dX3_copyFrom_12 : decode cX3_copyFrom 12 = .ok (.aload_n 1, 1) := by decide +kernel
theorem dX3_copyFrom_13 : decode cX3_copyFrom 13 = .ok (.getfield 20, 3) := by decide +kernel
theorem dX3_copyFrom_16 : decode cX3_copyFrom 16 = .ok (.putfield 20, 3) := by decide +kernel
theorem dX3_copyFrom_19 : decode cX3_copyFrom 19 = .ok (.return_, 1) := by decide +kernel
theorem dX3_seal_0 : decode cX3_seal 0 = .ok (.aload_n 0, 1) := by decide +kernel
theorem dX3_seal_1 : decode cX3_seal 1 = .ok (.getfield 14, 3) := by decide +kernel
theorem dX3_seal_4 : decode cX3_seal 4 = .ok (.bipush 60, 2) := by decide +kernel
theorem dX3_seal_6 : decode cX3_seal 6 = .ok (.aload_n 0, 1) := by decide +kernel
theorem dX3_seal_7 : decode cX3_seal 7 = .ok (.getfield 14, 3) := by decide +kernel
theorem dX3_seal_10 : decode cX3_seal 10 = .ok (.iconst 0, 1) := by decide +kernel
theorem dX3_seal_11 : decode cX3_seal 11 = .ok (.bipush 60, 2) := by decide +kernel
theorem dX3_seal_13 : decode cX3_seal 13 = .ok (.invokevirtual 32, 3) := by decide +kernel
theorem dX3_seal_16 : decode cX3_seal 16 = .ok (.invokevirtual 55, 3) := by decide +kernel
theorem dX3_seal_19 : decode cX3_seal 19 = .ok (.return_, 1) := by decide +kernel
theorem dX3_countRecord_0 : decode cX3_countRecord 0 = .ok (.aload_n 0, 1) := by decide +kernel
theorem dX3_countRecord_1 : decode cX3_countRecord 1 = .ok (.getfield 14, 3) := by decide +kernel
theorem dX3_countRecord_4 : decode cX3_countRecord 4 = .ok (.iconst 1, 1) := by decide +kernel
theorem dX3_countRecord_5 : decode cX3_countRecord 5 = .ok (.aload_n 0, 1) := by decide +kernel
theorem dX3_countRecord_6 : decode cX3_countRecord 6 = .ok (.invokevirtual 39, 3) := by decide +kernel
theorem dX3_countRecord_9 : decode cX3_countRecord 9 = .ok (.iconst 1, 1) := by decide +kernel
theorem dX3_countRecord_10 : decode cX3_countRecord 10 = .ok (.iadd, 1) := by decide +kernel
theorem dX3_countRecord_11 : decode cX3_countRecord 11 = .ok (.invokevirtual 81, 3) := by decide +kernel
theorem dX3_countRecord_14 : decode cX3_countRecord 14 = .ok (.aload_n 0, 1) := by decide +kernel
theorem dX3_countRecord_15 : decode cX3_countRecord 15 = .ok (.dup, 1) := by decide +kernel
theorem dX3_countRecord_16 : decode cX3_countRecord 16 = .ok (.getfield 20, 3) := by decide +kernel
theorem dX3_countRecord_19 : decode cX3_countRecord 19 = .ok (.iload_n 1, 1) := by decide +kernel
theorem dX3_countRecord_20 : decode cX3_countRecord 20 = .ok (.iadd, 1) := by decide +kernel
theorem dX3_countRecord_21 : decode cX3_countRecord 21 = .ok (.putfield 20, 3) := by decide +kernel
theorem dX3_countRecord_24 : decode cX3_countRecord 24 = .ok (.return_, 1) := by decide +kernel
theorem dX3_recordSizeAt_0 : decode cX3_recordSizeAt 0 = .ok (.aload_n 0, 1) := by decide +kernel
theorem dX3_recordSizeAt_1 : decode cX3_recordSizeAt 1 = .ok (.getfield 14, 3) := by decide +kernel
theorem dX3_recordSizeAt_4 : decode cX3_recordSizeAt 4 = .ok (.iload_n 1, 1) := by decide +kernel
theorem dX3_recordSizeAt_5 : decode cX3_recordSizeAt 5 = .ok (.invokevirtual 24, 3) := by decide +kernel
theorem dX3_recordSizeAt_8 : decode cX3_recordSizeAt 8 = .ok (.invokestatic 88, 3) := by decide +kernel
theorem dX3_recordSizeAt_11 : decode cX3_recordSizeAt 11 = .ok (.ireturn, 1) := by decide +kernel
theorem dX3_numberPlace_0 : decode cX3_numberPlace 0 = .ok (.iload_n 1, 1) := by decide +kernel
theorem dX3_numberPlace_1 : decode cX3_numberPlace 1 = .ok (.iconst 1, 1) := by decide +kernel
theorem dX3_numberPlace_2 : decode cX3_numberPlace 2 = .ok (.iadd, 1) := by decide +kernel
theorem dX3_numberPlace_3 : decode cX3_numberPlace 3 = .ok (.aload_n 0, 1) := by decide +kernel
theorem dX3_numberPlace_4 : decode cX3_numberPlace 4 = .ok (.getfield 14, 3) := by decide +kernel
theorem dX3_numberPlace_7 : decode cX3_numberPlace 7 = .ok (.iload_n 1, 1) := by decide +kernel
theorem dX3_numberPlace_8 : decode cX3_numberPlace 8 = .ok (.invokevirtual 24, 3) := by decide +kernel
theorem dX3_numberPlace_11 : decode cX3_numberPlace 11 = .ok (.iadd, 1) := by decide +kernel
theorem dX3_numberPlace_12 : decode cX3_numberPlace 12 = .ok (.ireturn, 1) := by decide +kernel
theorem dX3_hashAt_0 : decode cX3_hashAt 0 = .ok (.aload_n 0, 1) := by decide +kernel
theorem dX3_hashAt_1 : decode cX3_hashAt 1 = .ok (.getfield 14, 3) := by decide +kernel
theorem dX3_hashAt_4 : decode cX3_hashAt 4 = .ok (.iload_n 1, 1) := by decide +kernel
theorem dX3_hashAt_5 : decode cX3_hashAt 5 = .ok (.iconst 1, 1) := by decide +kernel
theorem dX3_hashAt_6 : decode cX3_hashAt 6 = .ok (.iadd, 1) := by decide +kernel
theorem dX3_hashAt_7 : decode cX3_hashAt 7 = .ok (.aload_n 0, 1) := by decide +kernel
theorem dX3_hashAt_8 : decode cX3_hashAt 8 = .ok (.getfield 14, 3) := by decide +kernel
theorem dX3_hashAt_11 : decode cX3_hashAt 11 = .ok (.iload_n 1, 1) := by decide +kernel
theorem dX3_hashAt_12 : decode cX3_hashAt 12 = .ok (.invokevirtual 24, 3) := by decide +kernel
theorem dX3_hashAt_15 : decode cX3_hashAt 15 = .ok (.invokevirtual 32, 3) := by decide +kernel
theorem dX3_hashAt_18 : decode cX3_hashAt 18 = .ok (.ireturn, 1) := by decide +kernel
theorem dX4_init_0 : decode cX4_init 0 = .ok (.aload_n 0, 1) := by decide +kernel
theorem dX4_init_1 : decode cX4_init 1 = .ok (.invokespecial 3, 3) := by decide +kernel
theorem dX4_init_4 : decode cX4_init 4 = .ok (.aload_n 0, 1) := by decide +kernel
theorem dX4_init_5 : decode cX4_init 5 = .ok (.iconst 0, 1) := by decide +kernel
theorem dX4_init_6 : decode cX4_init 6 = .ok (.iload_n 1, 1) := by decide +kernel
theorem dX4_init_7 : decode cX4_init 7 = .ok (.invokestatic 9, 3) := by decide +kernel
theorem dX4_init_10 : decode cX4_init 10 = .ok (.newarray .int, 2) := by decide +kernel
theorem dX4_init_12 : decode cX4_init 12 = .ok (.putfield 15, 3) := by decide +kernel
theorem dX4_init_15 : decode cX4_init 15 = .ok (.return_, 1) := by decide +kernel
theorem dX4_get_0 : decode cX4_get 0 = .ok (.iload_n 1, 1) := by decide +kernel
theorem dX4_get_1 : decode cX4_get 1 = .ok (.ifCond .lt 21, 3) := by decide +kernel
theorem dX4_get_4 : decode cX4_get 4 = .ok (.iload_n 1, 1) := by decide +kernel
theorem dX4_get_5 : decode cX4_get 5 = .ok (.aload_n 0, 1) := by decide +kernel
theorem dX4_get_6 : decode cX4_get 6 = .ok (.getfield 15, 3) := by decide +kernel
theorem dX4_get_9 : decode cX4_get 9 = .ok (.arraylength, 1) := by decide +kernel
theorem dX4_get_10 : decode cX4_get 10 = .ok (.if_icmp .ge 12, 3) := by decide +kernel
theorem dX4_get_13 : decode cX4_get 13 = .ok (.aload_n 0, 1) := by decide +kernel
theorem dX4_get_14 : decode cX4_get 14 = .ok (.getfield 15, 3) := by decide +kernel
theorem dX4_get_17 : decode cX4_get 17 = .ok (.iload_n 1, 1) := by decide +kernel
theorem dX4_get_18 : decode cX4_get 18 = .ok (.iaload, 1) := by decide +kernel
theorem dX4_get_19 : decode cX4_get 19 = .ok (.goto 4, 3) := by decide +kernel
theorem dX4_get_22 : decode cX4_get 22 = .ok (.iconst 0, 1) := by decide +kernel
theorem dX4_get_23 : decode cX4_get 23 = .ok (.ireturn, 1) := by decide +kernel
theorem dX4_set_0 : decode cX4_set 0 = .ok (.iload_n 1, 1) := by decide +kernel
theorem dX4_set_1 : decode cX4_set 1 = .ok (.ifCond .lt 19, 3) := by decide +kernel
theorem dX4_set_4 : decode cX4_set 4 = .ok (.iload_n 1, 1) := by decide +kernel
theorem dX4_set_5 : decode cX4_set 5 = .ok (.aload_n 0, 1) := by decide +kernel
theorem dX4_set_6 : decode cX4_set 6 = .ok (.getfield 15, 3) := by decide +kernel
theorem dX4_set_9 : decode cX4_set 9 = .ok (.arraylength, 1) := by decide +kernel
theorem dX4_set_10 : decode cX4_set 10 = .ok (.if_icmp .ge 10, 3) := by decide +kernel
theorem dX4_set_13 : decode cX4_set 13 = .ok (.aload_n 0, 1) := by decide +kernel
theorem dX4_set_14 : decode cX4_set 14 = .ok (.getfield 15, 3) := by decide +kernel
theorem dX4_set_17 : decode cX4_set 17 = .ok (.iload_n 1, 1) := by decide +kernel
theorem dX4_set_18 : decode cX4_set 18 = .ok (.iload_n 2, 1) := by decide +kernel
theorem dX4_set_19 : decode cX4_set 19 = .ok (.iastore, 1) := by decide +kernel
theorem dX4_set_20 : decode cX4_set 20 = .ok (.return_, 1) := by decide +kernel
theorem dX4_flip_0 : decode cX4_flip 0 = .ok (.aload_n 0, 1) := by decide +kernel
theorem dX4_flip_1 : decode cX4_flip 1 = .ok (.iload_n 1, 1) := by decide +kernel
theorem dX4_flip_2 : decode cX4_flip 2 = .ok (.aload_n 0, 1) := by decide +kernel
theorem dX4_flip_3 : decode cX4_flip 3 = .ok (.iload_n 1, 1) := by decide +kernel
theorem dX4_flip_4 : decode cX4_flip 4 = .ok (.invokevirtual 21, 3) := by decide +kernel
theorem dX4_flip_7 : decode cX4_flip 7 = .ok (.iload_n 2, 1) := by decide +kernel
theorem dX4_flip_8 : decode cX4_flip 8 = .ok (.ixor, 1) := by decide +kernel
theorem dX4_flip_9 : decode cX4_flip 9 = .ok (.invokevirtual 25, 3) := by decide +kernel
theorem dX4_flip_12 : decode cX4_flip 12 = .ok (.return_, 1) := by decide +kernel
theorem dX4_sum_0 : decode cX4_sum 0 = .ok (.iconst 0, 1) := by decide +kernel
theorem dX4_sum_1 : decode cX4_sum 1 = .ok (.istore_n 3, 1) := by decide +kernel
theorem dX4_sum_2 : decode cX4_sum 2 = .ok (.iload_n 1, 1) := by decide +kernel
theorem dX4_sum_3 : decode cX4_sum 3 = .ok (.istore 4, 2) := by decide +kernel
theorem dX4_sum_5 : decode cX4_sum 5 = .ok (.iload 4, 2) := by decide +kernel
theorem dX4_sum_7 : decode cX4_sum 7 = .ok (.iload_n 1, 1) := by decide +kernel
theorem dX4_sum_8 : decode cX4_sum 8 = .ok (.iload_n 2, 1) := by decide +kernel
theorem dX4_sum_9 : decode cX4_sum 9 = .ok (.iadd, 1) := by decide +kernel
theorem dX4_sum_10 : decode cX4_sum 10 = .ok (.if_icmp .ge 58, 3) := by decide +kernel
theorem dX4_sum_13 : decode cX4_sum 13 = .ok (.iload 4, 2) := by decide +kernel
theorem dX4_sum_15 : decode cX4_sum 15 = .ok (.ifCond .lt 23, 3) := by decide +kernel
theorem dX4_sum_18 : decode cX4_sum 18 = .ok (.iload 4, 2) := by decide +kernel
theorem dX4_sum_20 : decode cX4_sum 20 = .ok (.aload_n 0, 1) := by decide +kernel
theorem dX4_sum_21 : decode cX4_sum 21 = .ok (.getfield 15, 3) := by decide +kernel
theorem dX4_sum_24 : decode cX4_sum 24 = .ok (.arraylength, 1) := by decide +kernel
theorem dX4_sum_25 : decode cX4_sum 25 = .ok (.if_icmp .ge 13, 3) := by decide +kernel
theorem dX4_sum_28 : decode cX4_sum 28 = .ok (.aload_n 0, 1) := by decide +kernel
theorem dX4_sum_29 : decode cX4_sum 29 = .ok (.getfield 15, 3) := by decide +kernel
theorem dX4_sum_32 : decode cX4_sum 32 = .ok (.iload 4, 2) := by decide +kernel
theorem dX4_sum_34 : decode cX4_sum 34 = .ok (.iaload, 1) := by decide +kernel
theorem dX4_sum_35 : decode cX4_sum 35 = .ok (.goto 4, 3) := by decide +kernel
theorem dX4_sum_38 : decode cX4_sum 38 = .ok (.iconst 0, 1) := by decide +kernel
theorem dX4_sum_39 : decode cX4_sum 39 = .ok (.istore 5, 2) := by decide +kernel
theorem dX4_sum_41 : decode cX4_sum 41 = .ok (.iload_n 3, 1) := by decide +kernel
theorem dX4_sum_42 : decode cX4_sum 42 = .ok (.iload 5, 2) := by decide +kernel
theorem dX4_sum_44 : decode cX4_sum 44 = .ok (.ixor, 1) := by decide +kernel
theorem dX4_sum_45 : decode cX4_sum 45 = .ok (.istore 6, 2) := by decide +kernel
theorem dX4_sum_47 : decode cX4_sum 47 = .ok (.iload 6, 2) := by decide +kernel
theorem dX4_sum_49 : decode cX4_sum 49 = .ok (.bipush 11, 2) := by decide +kernel
theorem dX4_sum_51 : decode cX4_sum 51 = .ok (.ishl, 1) := by decide +kernel
theorem dX4_sum_52 : decode cX4_sum 52 = .ok (.iload 6, 2) := by decide +kernel
theorem dX4_sum_54 : decode cX4_sum 54 = .ok (.bipush 21, 2) := by decide +kernel
theorem dX4_sum_56 : decode cX4_sum 56 = .ok (.iushr, 1) := by decide +kernel
theorem dX4_sum_57 : decode cX4_sum 57 = .ok (.ior, 1) := by decide +kernel
theorem dX4_sum_58 : decode cX4_sum 58 = .ok (.ldc 29, 2) := by decide +kernel
theorem dX4_sum_60 : decode cX4_sum 60 = .ok (.imul, 1) := by decide +kernel
theorem dX4_sum_61 : decode cX4_sum 61 = .ok (.istore_n 3, 1) := by decide +kernel
theorem dX4_sum_62 : decode cX4_sum 62 = .ok (.iinc 4 1, 3) := by decide +kernel
theorem dX4_sum_65 : decode cX4_sum 65 = .ok (.goto (-60), 3) := by decide +kernel
theorem dX4_sum_68 : decode cX4_sum 68 = .ok (.iload_n 3, 1) := by decide +kernel
theorem dX4_sum_69 : decode cX4_sum 69 = .ok (.ireturn, 1) := by decide +kernel
theorem dX4_number_0 : decode cX4_number 0 = .ok (.iconst 0, 1) := by decide +kernel
theorem dX4_number_1 : decode cX4_number 1 = .ok (.istore_n 2, 1) := by decide +kernel
theorem dX4_number_2 : decode cX4_number 2 = .ok (.iconst 0, 1) := by decide +kernel
theorem dX4_number_3 : decode cX4_number 3 = .ok (.istore_n 3, 1) := by decide +kernel
theorem dX4_number_4 : decode cX4_number 4 = .ok (.iload_n 3, 1) := by decide +kernel
theorem dX4_number_5 : decode cX4_number 5 = .ok (.iconst 4, 1) := by decide +kernel
theorem dX4_number_6 : decode cX4_number 6 = .ok (.if_icmp .ge 22, 3) := by decide +kernel
theorem dX4_number_9 : decode cX4_number 9 = .ok (.iload_n 2, 1) := by decide +kernel
theorem dX4_number_10 : decode cX4_number 10 = .ok (.bipush 8, 2) := by decide +kernel
theorem dX4_number_12 : decode cX4_number 12 = .ok (.ishl, 1) := by decide +kernel
theorem dX4_number_13 : decode cX4_number 13 = .ok (.aload_n 0, 1) := by decide +kernel
theorem dX4_number_14 : decode cX4_number 14 = .ok (.iload_n 1, 1) := by decide +kernel
theorem dX4_number_15 : decode cX4_number 15 = .ok (.iload_n 3, 1) := by decide +kernel
theorem dX4_number_16 : decode cX4_number 16 = .ok (.iadd, 1) := by decide +kernel
theorem dX4_number_17 : decode cX4_number 17 = .ok (.invokevirtual 21, 3) := by decide +kernel
theorem dX4_number_20 : decode cX4_number 20 = .ok (.ior, 1) := by decide +kernel
theorem dX4_number_21 : decode cX4_number 21 = .ok (.istore_n 2, 1) := by decide +kernel
theorem dX4_number_22 : decode cX4_number 22 = .ok (.iinc 3 1, 3) := by decide +kernel
theorem dX4_number_25 : decode cX4_number 25 = .ok (.goto (-21), 3) := by decide +kernel
theorem dX4_number_28 : decode cX4_number 28 = .ok (.iload_n 2, 1) := by decide +kernel
theorem dX4_number_29 : decode cX4_number 29 = .ok (.ireturn, 1) := by decide +kernel
theorem dX4_setNumber_0 : decode cX4_setNumber 0 = .ok (.iconst 0, 1) := by decide +kernel
theorem dX4_setNumber_1 : decode cX4_setNumber 1 = .ok (.istore_n 3, 1) := by decide +kernel
theorem dX4_setNumber_2 : decode cX4_setNumber 2 = .ok (.iload_n 3, 1) := by decide +kernel
theorem dX4_setNumber_3 : decode cX4_setNumber 3 = .ok (.iconst 4, 1) := by decide +kernel
theorem dX4_setNumber_4 : decode cX4_setNumber 4 = .ok (.if_icmp .ge 28, 3) := by decide +kernel
theorem dX4_setNumber_7 : decode cX4_setNumber 7 = .ok (.aload_n 0, 1) := by decide +kernel
theorem dX4_setNumber_8 : decode cX4_setNumber 8 = .ok (.iload_n 1, 1) := by decide +kernel
theorem dX4_setNumber_9 : decode cX4_setNumber 9 = .ok (.iload_n 3, 1) := by decide +kernel
theorem dX4_setNumber_10 : decode cX4_setNumber 10 = .ok (.iadd, 1) := by decide +kernel
theorem dX4_setNumber_11 : decode cX4_setNumber 11 = .ok (.iload_n 2, 1) := by decide +kernel
theorem dX4_setNumber_12 : decode cX4_setNumber 12 = .ok (.bipush 8, 2) := by decide +kernel
theorem dX4_setNumber_14 : decode cX4_setNumber 14 = .ok (.iconst 3, 1) := by decide +kernel
theorem dX4_setNumber_15 : decode cX4_setNumber 15 = .ok (.iload_n 3, 1) := by decide +kernel
theorem dX4_setNumber_16 : decode cX4_setNumber 16 = .ok (.isub, 1) := by decide +kernel
theorem dX4_setNumber_17 : decode cX4_setNumber 17 = .ok (.imul, 1) := by decide +kernel
theorem dX4_setNumber_18 : decode cX4_setNumber 18 = .ok (.iushr, 1) := by decide +kernel
theorem dX4_setNumber_19 : decode cX4_setNumber 19 = .ok (.sipush 255, 3) := by decide +kernel
theorem dX4_setNumber_22 : decode cX4_setNumber 22 = .ok (.iand, 1) := by decide +kernel
theorem dX4_setNumber_23 : decode cX4_setNumber 23 = .ok (.invokevirtual 25, 3) := by decide +kernel
theorem dX4_setNumber_26 : decode cX4_setNumber 26 = .ok (.iinc 3 1, 3) := by decide +kernel
theorem dX4_setNumber_29 : decode cX4_setNumber 29 = .ok (.goto (-27), 3) := by decide +kernel
theorem dX4_setNumber_32 : decode cX4_setNumber 32 = .ok (.return_, 1) := by decide +kernel
theorem dX4_isSame_0 : decode cX4_isSame 0 = .ok (.iconst 0, 1) := by decide +kernel
theorem dX4_isSame_1 : decode cX4_isSame 1 = .ok (.istore 5, 2) := by decide +kernel
theorem dX4_isSame_3 : decode cX4_isSame 3 = .ok (.iload 5, 2) := by decide +kernel
theorem dX4_isSame_5 : decode cX4_isSame 5 = .ok (.iload 4, 2) := by decide +kernel
theorem dX4_isSame_7 : decode cX4_isSame 7 = .ok (.if_icmp .ge 30, 3) := by decide +kernel
theorem dX4_isSame_10 : decode cX4_isSame 10 = .ok (.aload_n 0, 1) := by decide +kernel
theorem dX4_isSame_11 : decode cX4_isSame 11 = .ok (.iload_n 1, 1) := by decide +kernel
theorem dX4_isSame_12 : decode cX4_isSame 12 = .ok (.iload 5, 2) := by decide +kernel
theorem dX4_isSame_14 : decode cX4_isSame 14 = .ok (.iadd, 1) := by decide +kernel
theorem dX4_isSame_15 : decode cX4_isSame 15 = .ok (.invokevirtual 21, 3) := by decide +kernel
theorem dX4_isSame_18 : decode cX4_isSame 18 = .ok (.aload_n 2, 1) := by decide +kernel
theorem dX4_isSame_19 : decode cX4_isSame 19 = .ok (.iload_n 3, 1) := by decide +kernel
theorem dX4_isSame_20 : decode cX4_isSame 20 = .ok (.iload 5, 2) := by decide +kernel
theorem dX4_isSame_22 : decode cX4_isSame 22 = .ok (.iadd, 1) := by decide +kernel
theorem dX4_isSame_23 : decode cX4_isSame 23 = .ok (.invokevirtual 21, 3) := by decide +kernel
theorem dX4_isSame_26 : decode cX4_isSame 26 = .ok (.if_icmp .eq 5, 3) := by decide +kernel
theorem dX4_isSame_29 : decode cX4_isSame 29 = .ok (.iconst 0, 1) := by decide +kernel
theorem dX4_isSame_30 : decode cX4_isSame 30 = .ok (.ireturn, 1) := by decide +kernel
theorem dX4_isSame_31 : decode cX4_isSame 31 = .ok (.iinc 5 1, 3) := by decide +kernel
theorem dX4_isSame_34 : decode cX4_isSame 34 = .ok (.goto (-31), 3) := by decide +kernel
theorem dX4_isSame_37 : decode cX4_isSame 37 = .ok (.iconst 1, 1) := by decide +kernel
theorem dX4_isSame_38 : decode cX4_isSame 38 = .ok (.ireturn, 1) := by decide +kernel
theorem dX4_copyPart_0 : decode cX4_copyPart 0 = .ok (.iconst 0, 1) := by decide +kernel
theorem dX4_copyPart_1 : decode cX4_copyPart 1 = .ok (.istore 5, 2) := by decide +kernel
theorem dX4_copyPart_3 : decode cX4_copyPart 3 = .ok (.iload 5, 2) := by decide +kernel
theorem dX4_copyPart_5 : decode cX4_copyPart 5 = .ok (.iload 4, 2) := by decide +kernel
theorem dX4_copyPart_7 : decode cX4_copyPart 7 = .ok (.if_icmp .ge 25, 3) := by decide +kernel
theorem dX4_copyPart_10 : decode cX4_copyPart 10 = .ok (.aload_n 0, 1) := by decide +kernel
theorem dX4_copyPart_11 : decode cX4_copyPart 11 = .ok (.iload_n 1, 1) := by decide +kernel
theorem dX4_copyPart_12 : decode cX4_copyPart 12 = .ok (.iload 5, 2) := by decide +kernel
theorem dX4_copyPart_14 : decode cX4_copyPart 14 = .ok (.iadd, 1) := by decide +kernel
theorem dX4_copyPart_15 : decode cX4_copyPart 15 = .ok (.aload_n 2, 1) := by decide +kernel
theorem dX4_copyPart_16 : decode cX4_copyPart 16 = .ok (.iload_n 3, 1) := by decide +kernel
theorem dX4_copyPart_17 : decode cX4_copyPart 17 = .ok (.iload 5, 2) := by decide +kernel
theorem dX4_copyPart_19 : decode cX4_copyPart 19 = .ok (.iadd, 1) := by decide +kernel
theorem dX4_copyPart_20 : decode cX4_copyPart 20 = .ok (.invokevirtual 21, 3) := by decide +kernel
theorem dX4_copyPart_23 : decode cX4_copyPart 23 = .ok (.invokevirtual 25, 3) := by decide +kernel
theorem dX4_copyPart_26 : decode cX4_copyPart 26 = .ok (.iinc 5 1, 3) := by decide +kernel
theorem dX4_copyPart_29 : decode cX4_copyPart 29 = .ok (.goto (-26), 3) := by decide +kernel
theorem dX4_copyPart_32 : decode cX4_copyPart 32 = .ok (.return_, 1) := by decide +kernel
theorem dX4_copyFrom_0 : decode cX4_copyFrom 0 = .ok (.aload_n 1, 1) := by decide +kernel
theorem dX4_copyFrom_1 : decode cX4_copyFrom 1 = .ok (.getfield 15, 3) := by decide +kernel
theorem dX4_copyFrom_4 : decode cX4_copyFrom 4 = .ok (.iconst 0, 1) := by decide +kernel
theorem dX4_copyFrom_5 : decode cX4_copyFrom 5 = .ok (.aload_n 0, 1) := by decide +kernel
theorem dX4_copyFrom_6 : decode cX4_copyFrom 6 = .ok (.getfield 15, 3) := by decide +kernel
theorem dX4_copyFrom_9 : decode cX4_copyFrom 9 = .ok (.iconst 0, 1) := by decide +kernel
theorem dX4_copyFrom_10 : decode cX4_copyFrom 10 = .ok (.aload_n 0, 1) := by decide +kernel
theorem dX4_copyFrom_11 : decode cX4_copyFrom 11 = .ok (.getfield 15, 3) := by decide +kernel
theorem dX4_copyFrom_14 : decode cX4_copyFrom 14 = .ok (.arraylength, 1) := by decide +kernel
theorem dX4_copyFrom_15 : decode cX4_copyFrom 15 = .ok (.aload_n 1, 1) := by decide +kernel
theorem dX4_copyFrom_16 : decode cX4_copyFrom 16 = .ok (.getfield 15, 3) := by decide +kernel
theorem dX4_copyFrom_19 : decode cX4_copyFrom 19 = .ok (.arraylength, 1) := by decide +kernel
theorem dX4_copyFrom_20 : decode cX4_copyFrom 20 = .ok (.invokestatic 30, 3) := by decide +kernel
theorem dX4_copyFrom_23 : decode cX4_copyFrom 23 = .ok (.invokestatic 33, 3) := by decide +kernel
theorem dX4_copyFrom_26 : decode cX4_copyFrom 26 = .ok (.return_, 1) := by decide +kernel
theorem dX4_clear_0 : decode cX4_clear 0 = .ok (.aload_n 0, 1) := by decide +kernel
theorem dX4_clear_1 : decode cX4_clear 1 = .ok (.getfield 15, 3) := by decide +kernel
theorem dX4_clear_4 : decode cX4_clear 4 = .ok (.iconst 0, 1) := by decide +kernel
theorem dX4_clear_5 : decode cX4_clear 5 = .ok (.invokestatic 39, 3) := by decide +kernel
theorem dX4_clear_8 : decode cX4_clear 8 = .ok (.return_, 1) := by decide +kernel
theorem dX5_init_0 : decode cX5_init 0 = .ok (.aload_n 0, 1) := by decide +kernel
theorem dX5_init_1 : decode cX5_init 1 = .ok (.invokespecial 3, 3) := by decide +kernel
theorem dX5_init_4 : decode cX5_init 4 = .ok (.aload_n 0, 1) := by decide +kernel
theorem dX5_init_5 : decode cX5_init 5 = .ok (.new 9, 3) := by decide +kernel
theorem dX5_init_8 : decode cX5_init 8 = .ok (.dup, 1) := by decide +kernel
theorem dX5_init_9 : decode cX5_init 9 = .ok (.invokespecial 11, 3) := by decide +kernel
theorem dX5_init_12 : decode cX5_init 12 = .ok (.putfield 12, 3) := by decide +kernel
theorem dX5_init_15 : decode cX5_init 15 = .ok (.aload_n 0, 1) := by decide +kernel
theorem dX5_init_16 : decode cX5_init 16 = .ok (.new 18, 3) := by decide +kernel
theorem dX5_init_19 : decode cX5_init 19 = .ok (.dup, 1) := by decide +kernel
theorem dX5_init_20 : decode cX5_init 20 = .ok (.bipush 32, 2) := by decide +kernel
theorem dX5_init_22 : decode cX5_init 22 = .ok (.invokespecial 20, 3) := by decide +kernel
theorem dX5_init_25 : decode cX5_init 25 = .ok (.putfield 23, 3) := by decide +kernel
theorem dX5_init_28 : decode cX5_init 28 = .ok (.aload_n 0, 1) := by decide +kernel
theorem dX5_init_29 : decode cX5_init 29 = .ok (.iconst 0, 1) := by decide +kernel
theorem dX5_init_30 : decode cX5_init 30 = .ok (.putfield 27, 3) := by decide +kernel
theorem dX5_init_33 : decode cX5_init 33 = .ok (.aload_n 0, 1) := by decide +kernel
theorem dX5_init_34 : decode cX5_init 34 = .ok (.iconst 1, 1) := by decide +kernel
theorem dX5_init_35 : decode cX5_init 35 = .ok (.putfield 31, 3) := by decide +kernel
theorem dX5_init_38 : decode cX5_init 38 = .ok (.aload_n 0, 1) := by decide +kernel
theorem dX5_init_39 : decode cX5_init 39 = .ok (.iconst 0, 1) := by decide +kernel
theorem dX5_init_40 : decode cX5_init 40 = .ok (.putfield 34, 3) := by decide +kernel
theorem dX5_init_43 : decode cX5_init 43 = .ok (.aload_n 0, 1) := by decide +kernel
theorem dX5_init_44 : decode cX5_init 44 = .ok (.iconst 1, 1) := by decide +kernel
theorem dX5_init_45 : decode cX5_init 45 = .ok (.iload_n 1, 1) := by decide +kernel
theorem dX5_init_46 : decode cX5_init 46 = .ok (.invokestatic 37, 3) := by decide +kernel
theorem dX5_init_49 : decode cX5_init 49 = .ok (.anewarray 9, 3) := by decide +kernel
theorem dX5_init_52 : decode cX5_init 52 = .ok (.putfield 43, 3) := by decide +kernel
theorem dX5_init_55 : decode cX5_init 55 = .ok (.iconst 0, 1) := by decide +kernel
theorem dX5_init_56 : decode cX5_init 56 = .ok (.istore_n 2, 1) := by decide +kernel
theorem dX5_init_57 : decode cX5_init 57 = .ok (.iload_n 2, 1) := by decide +kernel
theorem dX5_init_58 : decode cX5_init 58 = .ok (.aload_n 0, 1) := by decide +kernel
theorem dX5_init_59 : decode cX5_init 59 = .ok (.getfield 43, 3) := by decide +kernel
theorem dX5_init_62 : decode cX5_init 62 = .ok (.arraylength, 1) := by decide +kernel
theorem dX5_init_63 : decode cX5_init 63 = .ok (.if_icmp .ge 22, 3) := by decide +kernel
theorem dX5_init_66 : decode cX5_init 66 = .ok (.aload_n 0, 1) := by decide +kernel
theorem dX5_init_67 : decode cX5_init 67 = .ok (.getfield 43, 3) := by decide +kernel
theorem dX5_init_70 : decode cX5_init 70 = .ok (.iload_n 2, 1) := by decide +kernel
theorem dX5_init_71 : decode cX5_init 71 = .ok (.new 9, 3) := by decide +kernel
theorem dX5_init_74 : decode cX5_init 74 = .ok (.dup, 1) := by decide +kernel
theorem dX5_init_75 : decode cX5_init 75 = .ok (.invokespecial 11, 3) := by decide +kernel
theorem dX5_init_78 : decode cX5_init 78 = .ok (.aastore, 1) := by decide +kernel
theorem dX5_init_79 : decode cX5_init 79 = .ok (.iinc 2 1, 3) := by decide +kernel
theorem dX5_init_82 : decode cX5_init 82 = .ok (.goto (-25), 3) := by decide +kernel
theorem dX5_init_85 : decode cX5_init 85 = .ok (.return_, 1) := by decide +kernel
theorem dX5_size_0 : decode cX5_size 0 = .ok (.aload_n 0, 1) := by decide +kernel
theorem dX5_size_1 : decode cX5_size 1 = .ok (.getfield 43, 3) := by decide +kernel
theorem dX5_size_4 : decode cX5_size 4 = .ok (.arraylength, 1) := by decide +kernel
theorem dX5_size_5 : decode cX5_size 5 = .ok (.ireturn, 1) := by decide +kernel
theorem dX5_depth_0 : decode cX5_depth 0 = .ok (.aload_n 0, 1) := by decide +kernel
theorem dX5_depth_1 : decode cX5_depth 1 = .ok (.getfield 27, 3) := by decide +kernel
theorem dX5_depth_4 : decode cX5_depth 4 = .ok (.ireturn, 1) := by decide +kernel
theorem dX5_used_0 : decode cX5_used 0 = .ok (.aload_n 0, 1) := by decide +kernel
theorem dX5_used_1 : decode cX5_used 1 = .ok (.getfield 31, 3) := by decide +kernel
theorem dX5_used_4 : decode cX5_used 4 = .ok (.ireturn, 1) := by decide +kernel
theorem dX5_acts_0 : decode cX5_acts 0 = .ok (.aload_n 0, 1) := by decide +kernel
theorem dX5_acts_1 : decode cX5_acts 1 = .ok (.getfield 34, 3) := by decide +kernel
theorem dX5_acts_4 : decode cX5_acts 4 = .ok (.ireturn, 1) := by decide +kernel
theorem dX5_entries_0 : decode cX5_entries 0 = .ok (.iconst 1, 1) := by decide +kernel
theorem dX5_entries_1 : decode cX5_entries 1 = .ok (.aload_n 0, 1) := by decide +kernel
theorem dX5_entries_2 : decode cX5_entries 2 = .ok (.getfield 27, 3) := by decide +kernel
theorem dX5_entries_5 : decode cX5_entries 5 = .ok (.ishl, 1) := by decide +kernel
theorem dX5_entries_6 : decode cX5_entries 6 = .ok (.ireturn, 1) := by decide +kernel
theorem dX5_pageAtEntry_0 : decode cX5_pageAtEntry 0 = .ok (.aload_n 0, 1) := by decide +kernel
theorem dX5_pageAtEntry_1 : decode cX5_pageAtEntry 1 = .ok (.getfield 23, 3) := by decide +kernel
theorem dX5_pageAtEntry_4 : decode cX5_pageAtEntry 4 = .ok (.iload_n 1, 1) := by decide +kernel
theorem dX5_pageAtEntry_5 : decode cX5_pageAtEntry 5 = .ok (.invokevirtual 47, 3) := by decide +kernel
theorem dX5_pageAtEntry_8 : decode cX5_pageAtEntry 8 = .ok (.ireturn, 1) := by decide +kernel
theorem dX5_page_0 : decode cX5_page 0 = .ok (.iload_n 1, 1) := by decide +kernel
theorem dX5_page_1 : decode cX5_page 1 = .ok (.ifCond .lt 21, 3) := by decide +kernel
theorem dX5_page_4 : decode cX5_page 4 = .ok (.iload_n 1, 1) := by decide +kernel
theorem dX5_page_5 : decode cX5_page 5 = .ok (.aload_n 0, 1) := by decide +kernel
theorem dX5_page_6 : decode cX5_page 6 = .ok (.getfield 43, 3) := by decide +kernel
theorem dX5_page_9 : decode cX5_page 9 = .ok (.arraylength, 1) := by decide +kernel
theorem dX5_page_10 : decode cX5_page 10 = .ok (.if_icmp .ge 12, 3) := by decide +kernel
theorem dX5_page_13 : decode cX5_page 13 = .ok (.aload_n 0, 1) := by decide +kernel
theorem dX5_page_14 : decode cX5_page 14 = .ok (.getfield 43, 3) := by decide +kernel
theorem dX5_page_17 : decode cX5_page 17 = .ok (.iload_n 1, 1) := by decide +kernel
theorem dX5_page_18 : decode cX5_page 18 = .ok (.aaload, 1) := by decide +kernel
theorem dX5_page_19 : decode cX5_page 19 = .ok (.goto 7, 3) := by decide +kernel
theorem dX5_page_22 : decode cX5_page 22 = .ok (.aload_n 0, 1) := by decide +kernel
theorem dX5_page_23 : decode cX5_page 23 = .ok (.getfield 12, 3) := by decide +kernel
theorem dX5_page_26 : decode cX5_page 26 = .ok (.areturn, 1) := by decide +kernel
theorem dX5_names_0 : decode cX5_names 0 = .ok (.iconst 0, 1) := by decide +kernel
theorem dX5_names_1 : decode cX5_names 1 = .ok (.istore_n 1, 1) := by decide +kernel
theorem dX5_names_2 : decode cX5_names 2 = .ok (.iconst 0, 1) := by decide +kernel
theorem dX5_names_3 : decode cX5_names 3 = .ok (.istore_n 2, 1) := by decide +kernel
theorem dX5_names_4 : decode cX5_names 4 = .ok (.iload_n 2, 1) := by decide +kernel
theorem dX5_names_5 : decode cX5_names 5 = .ok (.aload_n 0, 1) := by decide +kernel
theorem dX5_names_6 : decode cX5_names 6 = .ok (.getfield 43, 3) := by decide +kernel
theorem dX5_names_9 : decode cX5_names 9 = .ok (.arraylength, 1) := by decide +kernel
theorem dX5_names_10 : decode cX5_names 10 = .ok (.if_icmp .ge 21, 3) := by decide +kernel
theorem dX5_names_13 : decode cX5_names 13 = .ok (.iload_n 1, 1) := by decide +kernel
theorem dX5_names_14 : decode cX5_names 14 = .ok (.aload_n 0, 1) := by decide +kernel
theorem dX5_names_15 : decode cX5_names 15 = .ok (.getfield 43, 3) := by decide +kernel
theorem dX5_names_18 : decode cX5_names 18 = .ok (.iload_n 2, 1) := by decide +kernel
theorem dX5_names_19 : decode cX5_names 19 = .ok (.aaload, 1) := by decide +kernel
theorem dX5_names_20 : decode cX5_names 20 = .ok (.invokevirtual 51, 3) := by decide +kernel
theorem dX5_names_23 : decode cX5_names 23 = .ok (.iadd, 1) := by decide +kernel
theorem dX5_names_24 : decode cX5_names 24 = .ok (.istore_n 1, 1) := by decide +kernel
theorem dX5_names_25 : decode cX5_names 25 = .ok (.iinc 2 1, 3) := by decide +kernel
theorem dX5_names_28 : decode cX5_names 28 = .ok (.goto (-24), 3) := by decide +kernel
theorem dX5_names_31 : decode cX5_names 31 = .ok (.iload_n 1, 1) := by decide +kernel
theorem dX5_names_32 : decode cX5_names 32 = .ok (.ireturn, 1) := by decide +kernel
theorem dX5_holds_0 : decode cX5_holds 0 = .ok (.aload_n 0, 1) := by decide +kernel
theorem dX5_holds_1 : decode cX5_holds 1 = .ok (.aload_n 1, 1) := by decide +kernel
theorem dX5_holds_2 : decode cX5_holds 2 = .ok (.invokevirtual 55, 3) := by decide +kernel
theorem dX5_holds_5 : decode cX5_holds 5 = .ok (.invokevirtual 60, 3) := by decide +kernel
theorem dX5_holds_8 : decode cX5_holds 8 = .ok (.aload_n 1, 1) := by decide +kernel
theorem dX5_holds_9 : decode cX5_holds 9 = .ok (.invokevirtual 64, 3) := by decide +kernel
theorem dX5_holds_12 : decode cX5_holds 12 = .ok (.iconst (-1), 1) := by decide +kernel
theorem dX5_holds_13 : decode cX5_holds 13 = .ok (.if_icmp .eq 7, 3) := by decide +kernel
theorem dX5_holds_16 : decode cX5_holds 16 = .ok (.iconst 1, 1) := by decide +kernel
theorem dX5_holds_17 : decode cX5_holds 17 = .ok (.goto 4, 3) := by decide +kernel
theorem dX5_holds_20 : decode cX5_holds 20 = .ok (.iconst 0, 1) := by decide +kernel
theorem dX5_holds_21 : decode cX5_holds 21 = .ok (.ireturn, 1) := by decide +kernel
theorem dX5_numberOf_0 : decode cX5_numberOf 0 = .ok (.aload_n 0, 1) := by decide +kernel
theorem dX5_numberOf_1 : decode cX5_numberOf 1 = .ok (.aload_n 1, 1) := by decide +kernel
theorem dX5_numberOf_2 : decode cX5_numberOf 2 = .ok (.invokevirtual 55, 3) := by decide +kernel
theorem dX5_numberOf_5 : decode cX5_numberOf 5 = .ok (.invokevirtual 60, 3) := by decide +kernel
theorem dX5_numberOf_8 : decode cX5_numberOf 8 = .ok (.astore_n 2, 1) := by decide +kernel
theorem dX5_numberOf_9 : decode cX5_numberOf 9 = .ok (.aload_n 2, 1) := by decide +kernel
theorem dX5_numberOf_10 : decode cX5_numberOf 10 = .ok (.aload_n 1, 1) := by decide +kernel
theorem dX5_numberOf_11 : decode cX5_numberOf 11 = .ok (.invokevirtual 64, 3) := by decide +kernel
theorem dX5_numberOf_14 : decode cX5_numberOf 14 = .ok (.istore_n 3, 1) := by decide +kernel
theorem dX5_numberOf_15 : decode cX5_numberOf 15 = .ok (.iload_n 3, 1) := by decide +kernel
theorem dX5_numberOf_16 : decode cX5_numberOf 16 = .ok (.iconst (-1), 1) := by decide +kernel
theorem dX5_numberOf_17 : decode cX5_numberOf 17 = .ok (.if_icmp .ne 7, 3) := by decide +kernel
theorem dX5_numberOf_20 : decode cX5_numberOf 20 = .ok (.iconst 0, 1) := by decide +kernel
theorem dX5_numberOf_21 : decode cX5_numberOf 21 = .ok (.goto 8, 3) := by decide +kernel
theorem dX5_numberOf_24 : decode cX5_numberOf 24 = .ok (.aload_n 2, 1) := by decide +kernel
theorem dX5_numberOf_25 : decode cX5_numberOf 25 = .ok (.iload_n 3, 1) := by decide +kernel
theorem dX5_numberOf_26 : decode cX5_numberOf 26 = .ok (.invokevirtual 68, 3) := by decide +kernel
theorem dX5_numberOf_29 : decode cX5_numberOf 29 = .ok (.ireturn, 1) := by decide +kernel
theorem dX5_accept_0 : decode cX5_accept 0 = .ok (.aload_n 1, 1) := by decide +kernel
theorem dX5_accept_1 : decode cX5_accept 1 = .ok (.invokevirtual 55, 3) := by decide +kernel
theorem dX5_accept_4 : decode cX5_accept 4 = .ok (.istore_n 3, 1) := by decide +kernel
theorem dX5_accept_5 : decode cX5_accept 5 = .ok (.aload_n 0, 1) := by decide +kernel
theorem dX5_accept_6 : decode cX5_accept 6 = .ok (.iload_n 3, 1) := by decide +kernel
theorem dX5_accept_7 : decode cX5_accept 7 = .ok (.invokevirtual 60, 3) := by decide +kernel
theorem dX5_accept_10 : decode cX5_accept 10 = .ok (.astore 4, 2) := by decide +kernel
theorem dX5_accept_12 : decode cX5_accept 12 = .ok (.aload 4, 2) := by decide +kernel
theorem dX5_accept_14 : decode cX5_accept 14 = .ok (.aload_n 1, 1) := by decide +kernel
theorem dX5_accept_15 : decode cX5_accept 15 = .ok (.invokevirtual 64, 3) := by decide +kernel
theorem dX5_accept_18 : decode cX5_accept 18 = .ok (.istore 5, 2) := by decide +kernel
end
section
theorem dX5_accept_20 : decode cX5_accept 20 = .ok (.iload 5, 2) := by decide +kernel
theorem dX5_accept_22 : decode cX5_accept 22 = .ok (.iconst (-1), 1) := by decide +kernel
theorem dX5_accept_23 : decode cX5_accept 23 = .ok (.if_icmp .eq 23, 3) := by decide +kernel
theorem dX5_accept_26 : decode cX5_accept 26 = .ok (.aload 4, 2) := by decide +kernel
theorem dX5_accept_28 : decode cX5_accept 28 = .ok (.iload 5, 2) := by decide +kernel
theorem dX5_accept_30 : decode cX5_accept 30 = .ok (.iload_n 2, 1) := by decide +kernel
theorem dX5_accept_31 : decode cX5_accept 31 = .ok (.invokevirtual 71, 3) := by decide +kernel
theorem dX5_accept_34 : decode cX5_accept 34 = .ok (.aload_n 0, 1) := by decide +kernel
theorem dX5_accept_35 : decode cX5_accept 35 = .ok (.dup, 1) := by decide +kernel
theorem dX5_accept_36 : decode cX5_accept 36 = .ok (.getfield 34, 3) := by decide +kernel
theorem dX5_accept_39 : decode cX5_accept 39 = .ok (.iconst 1, 1) := by decide +kernel
theorem dX5_accept_40 : decode cX5_accept 40 = .ok (.iadd, 1) := by decide +kernel
theorem dX5_accept_41 : decode cX5_accept 41 = .ok (.putfield 34, 3) := by decide +kernel
theorem dX5_accept_44 : decode cX5_accept 44 = .ok (.iconst 1, 1) := by decide +kernel
theorem dX5_accept_45 : decode cX5_accept 45 = .ok (.ireturn, 1) := by decide +kernel
theorem dX5_accept_46 : decode cX5_accept 46 = .ok (.aload_n 0, 1) := by decide +kernel
theorem dX5_accept_47 : decode cX5_accept 47 = .ok (.aload 4, 2) := by decide +kernel
theorem dX5_accept_49 : decode cX5_accept 49 = .ok (.iload_n 3, 1) := by decide +kernel
theorem dX5_accept_50 : decode cX5_accept 50 = .ok (.aload_n 1, 1) := by decide +kernel
theorem dX5_accept_51 : decode cX5_accept 51 = .ok (.invokevirtual 75, 3) := by decide +kernel
theorem dX5_accept_54 : decode cX5_accept 54 = .ok (.invokevirtual 78, 3) := by decide +kernel
theorem dX5_accept_57 : decode cX5_accept 57 = .ok (.istore 6, 2) := by decide +kernel
theorem dX5_accept_59 : decode cX5_accept 59 = .ok (.iload 6, 2) := by decide +kernel
theorem dX5_accept_61 : decode cX5_accept 61 = .ok (.iconst (-1), 1) := by decide +kernel
theorem dX5_accept_62 : decode cX5_accept 62 = .ok (.if_icmp .ne 5, 3) := by decide +kernel
theorem dX5_accept_65 : decode cX5_accept 65 = .ok (.iconst 0, 1) := by decide +kernel
theorem dX5_accept_66 : decode cX5_accept 66 = .ok (.ireturn, 1) := by decide +kernel
theorem dX5_accept_67 : decode cX5_accept 67 = .ok (.iconst 0, 1) := by decide +kernel
theorem dX5_accept_68 : decode cX5_accept 68 = .ok (.istore 7, 2) := by decide +kernel
theorem dX5_accept_70 : decode cX5_accept 70 = .ok (.iload 7, 2) := by decide +kernel
theorem dX5_accept_72 : decode cX5_accept 72 = .ok (.iload 6, 2) := by decide +kernel
theorem dX5_accept_74 : decode cX5_accept 74 = .ok (.if_icmp .ge 18, 3) := by decide +kernel
theorem dX5_accept_77 : decode cX5_accept 77 = .ok (.aload_n 0, 1) := by decide +kernel
theorem dX5_accept_78 : decode cX5_accept 78 = .ok (.aload_n 0, 1) := by decide +kernel
theorem dX5_accept_79 : decode cX5_accept 79 = .ok (.iload_n 3, 1) := by decide +kernel
theorem dX5_accept_80 : decode cX5_accept 80 = .ok (.invokevirtual 82, 3) := by decide +kernel
theorem dX5_accept_83 : decode cX5_accept 83 = .ok (.invokevirtual 85, 3) := by decide +kernel
theorem dX5_accept_86 : decode cX5_accept 86 = .ok (.iinc 7 1, 3) := by decide +kernel
theorem dX5_accept_89 : decode cX5_accept 89 = .ok (.goto (-19), 3) := by decide +kernel
theorem dX5_accept_92 : decode cX5_accept 92 = .ok (.aload_n 0, 1) := by decide +kernel
theorem dX5_accept_93 : decode cX5_accept 93 = .ok (.iload_n 3, 1) := by decide +kernel
theorem dX5_accept_94 : decode cX5_accept 94 = .ok (.invokevirtual 60, 3) := by decide +kernel
theorem dX5_accept_97 : decode cX5_accept 97 = .ok (.aload_n 1, 1) := by decide +kernel
theorem dX5_accept_98 : decode cX5_accept 98 = .ok (.iload_n 2, 1) := by decide +kernel
theorem dX5_accept_99 : decode cX5_accept 99 = .ok (.invokevirtual 88, 3) := by decide +kernel
theorem dX5_accept_102 : decode cX5_accept 102 = .ok (.aload_n 0, 1) := by decide +kernel
theorem dX5_accept_103 : decode cX5_accept 103 = .ok (.dup, 1) := by decide +kernel
theorem dX5_accept_104 : decode cX5_accept 104 = .ok (.getfield 34, 3) := by decide +kernel
theorem dX5_accept_107 : decode cX5_accept 107 = .ok (.iconst 1, 1) := by decide +kernel
theorem dX5_accept_108 : decode cX5_accept 108 = .ok (.iadd, 1) := by decide +kernel
theorem dX5_accept_109 : decode cX5_accept 109 = .ok (.putfield 34, 3) := by decide +kernel
theorem dX5_accept_112 : decode cX5_accept 112 = .ok (.iconst 1, 1) := by decide +kernel
theorem dX5_accept_113 : decode cX5_accept 113 = .ok (.ireturn, 1) := by decide +kernel
theorem dX5_copyFrom_0 : decode cX5_copyFrom 0 = .ok (.iconst 0, 1) := by decide +kernel
theorem dX5_copyFrom_1 : decode cX5_copyFrom 1 = .ok (.istore_n 2, 1) := by decide +kernel
theorem dX5_copyFrom_2 : decode cX5_copyFrom 2 = .ok (.iload_n 2, 1) := by decide +kernel
theorem dX5_copyFrom_3 : decode cX5_copyFrom 3 = .ok (.aload_n 0, 1) := by decide +kernel
theorem dX5_copyFrom_4 : decode cX5_copyFrom 4 = .ok (.getfield 43, 3) := by decide +kernel
theorem dX5_copyFrom_7 : decode cX5_copyFrom 7 = .ok (.arraylength, 1) := by decide +kernel
theorem dX5_copyFrom_8 : decode cX5_copyFrom 8 = .ok (.if_icmp .ge 23, 3) := by decide +kernel
theorem dX5_copyFrom_11 : decode cX5_copyFrom 11 = .ok (.aload_n 0, 1) := by decide +kernel
theorem dX5_copyFrom_12 : decode cX5_copyFrom 12 = .ok (.getfield 43, 3) := by decide +kernel
theorem dX5_copyFrom_15 : decode cX5_copyFrom 15 = .ok (.iload_n 2, 1) := by decide +kernel
theorem dX5_copyFrom_16 : decode cX5_copyFrom 16 = .ok (.aaload, 1) := by decide +kernel
theorem dX5_copyFrom_17 : decode cX5_copyFrom 17 = .ok (.aload_n 1, 1) := by decide +kernel
theorem dX5_copyFrom_18 : decode cX5_copyFrom 18 = .ok (.iload_n 2, 1) := by decide +kernel
theorem dX5_copyFrom_19 : decode cX5_copyFrom 19 = .ok (.invokevirtual 92, 3) := by decide +kernel
theorem dX5_copyFrom_22 : decode cX5_copyFrom 22 = .ok (.invokevirtual 95, 3) := by decide +kernel
theorem dX5_copyFrom_25 : decode cX5_copyFrom 25 = .ok (.iinc 2 1, 3) := by decide +kernel
theorem dX5_copyFrom_28 : decode cX5_copyFrom 28 = .ok (.goto (-26), 3) := by decide +kernel
theorem dX5_copyFrom_31 : decode cX5_copyFrom 31 = .ok (.aload_n 0, 1) := by decide +kernel
theorem dX5_copyFrom_32 : decode cX5_copyFrom 32 = .ok (.getfield 23, 3) := by decide +kernel
theorem dX5_copyFrom_35 : decode cX5_copyFrom 35 = .ok (.aload_n 1, 1) := by decide +kernel
theorem dX5_copyFrom_36 : decode cX5_copyFrom 36 = .ok (.getfield 23, 3) := by decide +kernel
theorem dX5_copyFrom_39 : decode cX5_copyFrom 39 = .ok (.invokevirtual 99, 3) := by decide +kernel
theorem dX5_copyFrom_42 : decode cX5_copyFrom 42 = .ok (.aload_n 0, 1) := by decide +kernel
theorem dX5_copyFrom_43 : decode cX5_copyFrom 43 = .ok (.aload_n 1, 1) := by decide +kernel
theorem dX5_copyFrom_44 : decode cX5_copyFrom 44 = .ok (.getfield 27, 3) := by decide +kernel
theorem dX5_copyFrom_47 : decode cX5_copyFrom 47 = .ok (.putfield 27, 3) := by decide +kernel
theorem dX5_copyFrom_50 : decode cX5_copyFrom 50 = .ok (.aload_n 0, 1) := by decide +kernel
theorem dX5_copyFrom_51 : decode cX5_copyFrom 51 = .ok (.aload_n 1, 1) := by decide +kernel
theorem dX5_copyFrom_52 : decode cX5_copyFrom 52 = .ok (.getfield 31, 3) := by decide +kernel
theorem dX5_copyFrom_55 : decode cX5_copyFrom 55 = .ok (.putfield 31, 3) := by decide +kernel
theorem dX5_copyFrom_58 : decode cX5_copyFrom 58 = .ok (.aload_n 0, 1) := by decide +kernel
theorem dX5_copyFrom_59 : decode cX5_copyFrom 59 = .ok (.aload_n 1, 1) := by decide +kernel
theorem dX5_copyFrom_60 : decode cX5_copyFrom 60 = .ok (.getfield 34, 3) := by decide +kernel
theorem dX5_copyFrom_63 : decode cX5_copyFrom 63 = .ok (.putfield 34, 3) := by decide +kernel
theorem dX5_copyFrom_66 : decode cX5_copyFrom 66 = .ok (.return_, 1) := by decide +kernel
theorem dX5_pageNumberFor_0 : decode cX5_pageNumberFor 0 = .ok (.aload_n 0, 1) := by decide +kernel
theorem dX5_pageNumberFor_1 : decode cX5_pageNumberFor 1 = .ok (.getfield 23, 3) := by decide +kernel
theorem dX5_pageNumberFor_4 : decode cX5_pageNumberFor 4 = .ok (.iload_n 1, 1) := by decide +kernel
theorem dX5_pageNumberFor_5 : decode cX5_pageNumberFor 5 = .ok (.aload_n 0, 1) := by decide +kernel
theorem dX5_pageNumberFor_6 : decode cX5_pageNumberFor 6 = .ok (.invokevirtual 102, 3) := by decide +kernel
theorem dX5_pageNumberFor_9 : decode cX5_pageNumberFor 9 = .ok (.iconst 1, 1) := by decide +kernel
theorem dX5_pageNumberFor_10 : decode cX5_pageNumberFor 10 = .ok (.isub, 1) := by decide +kernel
theorem dX5_pageNumberFor_11 : decode cX5_pageNumberFor 11 = .ok (.iand, 1) := by decide +kernel
theorem dX5_pageNumberFor_12 : decode cX5_pageNumberFor 12 = .ok (.invokevirtual 47, 3) := by decide +kernel
theorem dX5_pageNumberFor_15 : decode cX5_pageNumberFor 15 = .ok (.ireturn, 1) := by decide +kernel
theorem dX5_pageFor_0 : decode cX5_pageFor 0 = .ok (.aload_n 0, 1) := by decide +kernel
theorem dX5_pageFor_1 : decode cX5_pageFor 1 = .ok (.aload_n 0, 1) := by decide +kernel
theorem dX5_pageFor_2 : decode cX5_pageFor 2 = .ok (.iload_n 1, 1) := by decide +kernel
theorem dX5_pageFor_3 : decode cX5_pageFor 3 = .ok (.invokevirtual 82, 3) := by decide +kernel
theorem dX5_pageFor_6 : decode cX5_pageFor 6 = .ok (.invokevirtual 92, 3) := by decide +kernel
theorem dX5_pageFor_9 : decode cX5_pageFor 9 = .ok (.areturn, 1) := by decide +kernel
theorem dX5_splitsFor_0 : decode cX5_splitsFor 0 = .ok (.aload_n 1, 1) := by decide +kernel
theorem dX5_splitsFor_1 : decode cX5_splitsFor 1 = .ok (.invokevirtual 105, 3) := by decide +kernel
theorem dX5_splitsFor_4 : decode cX5_splitsFor 4 = .ok (.istore 4, 2) := by decide +kernel
theorem dX5_splitsFor_6 : decode cX5_splitsFor 6 = .ok (.iconst 0, 1) := by decide +kernel
theorem dX5_splitsFor_7 : decode cX5_splitsFor 7 = .ok (.istore 5, 2) := by decide +kernel
theorem dX5_splitsFor_9 : decode cX5_splitsFor 9 = .ok (.iload 4, 2) := by decide +kernel
theorem dX5_splitsFor_11 : decode cX5_splitsFor 11 = .ok (.iload 5, 2) := by decide +kernel
theorem dX5_splitsFor_13 : decode cX5_splitsFor 13 = .ok (.iadd, 1) := by decide +kernel
theorem dX5_splitsFor_14 : decode cX5_splitsFor 14 = .ok (.iconst 5, 1) := by decide +kernel
theorem dX5_splitsFor_15 : decode cX5_splitsFor 15 = .ok (.if_icmp .gt 52, 3) := by decide +kernel
theorem dX5_splitsFor_18 : decode cX5_splitsFor 18 = .ok (.aload_n 0, 1) := by decide +kernel
theorem dX5_splitsFor_19 : decode cX5_splitsFor 19 = .ok (.getfield 31, 3) := by decide +kernel
theorem dX5_splitsFor_22 : decode cX5_splitsFor 22 = .ok (.iload 5, 2) := by decide +kernel
theorem dX5_splitsFor_24 : decode cX5_splitsFor 24 = .ok (.iadd, 1) := by decide +kernel
theorem dX5_splitsFor_25 : decode cX5_splitsFor 25 = .ok (.aload_n 0, 1) := by decide +kernel
theorem dX5_splitsFor_26 : decode cX5_splitsFor 26 = .ok (.getfield 43, 3) := by decide +kernel
theorem dX5_splitsFor_29 : decode cX5_splitsFor 29 = .ok (.arraylength, 1) := by decide +kernel
theorem dX5_splitsFor_30 : decode cX5_splitsFor 30 = .ok (.if_icmp .le 5, 3) := by decide +kernel
theorem dX5_splitsFor_33 : decode cX5_splitsFor 33 = .ok (.iconst (-1), 1) := by decide +kernel
theorem dX5_splitsFor_34 : decode cX5_splitsFor 34 = .ok (.ireturn, 1) := by decide +kernel
theorem dX5_splitsFor_35 : decode cX5_splitsFor 35 = .ok (.aload_n 1, 1) := by decide +kernel
theorem dX5_splitsFor_36 : decode cX5_splitsFor 36 = .ok (.iload_n 2, 1) := by decide +kernel
theorem dX5_splitsFor_37 : decode cX5_splitsFor 37 = .ok (.iload 4, 2) := by decide +kernel
theorem dX5_splitsFor_39 : decode cX5_splitsFor 39 = .ok (.iload 5, 2) := by decide +kernel
theorem dX5_splitsFor_41 : decode cX5_splitsFor 41 = .ok (.iadd, 1) := by decide +kernel
theorem dX5_splitsFor_42 : decode cX5_splitsFor 42 = .ok (.invokevirtual 107, 3) := by decide +kernel
theorem dX5_splitsFor_45 : decode cX5_splitsFor 45 = .ok (.istore 6, 2) := by decide +kernel
theorem dX5_splitsFor_47 : decode cX5_splitsFor 47 = .ok (.iconst 2, 1) := by decide +kernel
theorem dX5_splitsFor_48 : decode cX5_splitsFor 48 = .ok (.iload 6, 2) := by decide +kernel
theorem dX5_splitsFor_50 : decode cX5_splitsFor 50 = .ok (.iadd, 1) := by decide +kernel
theorem dX5_splitsFor_51 : decode cX5_splitsFor 51 = .ok (.iload_n 3, 1) := by decide +kernel
theorem dX5_splitsFor_52 : decode cX5_splitsFor 52 = .ok (.iadd, 1) := by decide +kernel
theorem dX5_splitsFor_53 : decode cX5_splitsFor 53 = .ok (.bipush 60, 2) := by decide +kernel
theorem dX5_splitsFor_55 : decode cX5_splitsFor 55 = .ok (.if_icmp .gt 6, 3) := by decide +kernel
theorem dX5_splitsFor_58 : decode cX5_splitsFor 58 = .ok (.iload 5, 2) := by decide +kernel
theorem dX5_splitsFor_60 : decode cX5_splitsFor 60 = .ok (.ireturn, 1) := by decide +kernel
theorem dX5_splitsFor_61 : decode cX5_splitsFor 61 = .ok (.iinc 5 1, 3) := by decide +kernel
theorem dX5_splitsFor_64 : decode cX5_splitsFor 64 = .ok (.goto (-55), 3) := by decide +kernel
theorem dX5_splitsFor_67 : decode cX5_splitsFor 67 = .ok (.iconst (-1), 1) := by decide +kernel
theorem dX5_splitsFor_68 : decode cX5_splitsFor 68 = .ok (.ireturn, 1) := by decide +kernel
theorem dX5_split_0 : decode cX5_split 0 = .ok (.aload_n 0, 1) := by decide +kernel
theorem dX5_split_1 : decode cX5_split 1 = .ok (.iload_n 1, 1) := by decide +kernel
theorem dX5_split_2 : decode cX5_split 2 = .ok (.invokevirtual 92, 3) := by decide +kernel
theorem dX5_split_5 : decode cX5_split 5 = .ok (.astore_n 2, 1) := by decide +kernel
theorem dX5_split_6 : decode cX5_split 6 = .ok (.aload_n 2, 1) := by decide +kernel
theorem dX5_split_7 : decode cX5_split 7 = .ok (.invokevirtual 105, 3) := by decide +kernel
theorem dX5_split_10 : decode cX5_split 10 = .ok (.istore_n 3, 1) := by decide +kernel
theorem dX5_split_11 : decode cX5_split 11 = .ok (.iload_n 3, 1) := by decide +kernel
theorem dX5_split_12 : decode cX5_split 12 = .ok (.aload_n 0, 1) := by decide +kernel
theorem dX5_split_13 : decode cX5_split 13 = .ok (.getfield 27, 3) := by decide +kernel
theorem dX5_split_16 : decode cX5_split 16 = .ok (.if_icmp .ne 7, 3) := by decide +kernel
theorem dX5_split_19 : decode cX5_split 19 = .ok (.aload_n 0, 1) := by decide +kernel
theorem dX5_split_20 : decode cX5_split 20 = .ok (.invokevirtual 110, 3) := by decide +kernel
theorem dX5_split_23 : decode cX5_split 23 = .ok (.aload_n 0, 1) := by decide +kernel
theorem dX5_split_24 : decode cX5_split 24 = .ok (.getfield 31, 3) := by decide +kernel
theorem dX5_split_27 : decode cX5_split 27 = .ok (.istore 4, 2) := by decide +kernel
theorem dX5_split_29 : decode cX5_split 29 = .ok (.aload_n 0, 1) := by decide +kernel
theorem dX5_split_30 : decode cX5_split 30 = .ok (.iload 4, 2) := by decide +kernel
theorem dX5_split_32 : decode cX5_split 32 = .ok (.invokevirtual 92, 3) := by decide +kernel
theorem dX5_split_35 : decode cX5_split 35 = .ok (.astore 5, 2) := by decide +kernel
theorem dX5_split_37 : decode cX5_split 37 = .ok (.aload_n 0, 1) := by decide +kernel
theorem dX5_split_38 : decode cX5_split 38 = .ok (.dup, 1) := by decide +kernel
theorem dX5_split_39 : decode cX5_split 39 = .ok (.getfield 31, 3) := by decide +kernel
theorem dX5_split_42 : decode cX5_split 42 = .ok (.iconst 1, 1) := by decide +kernel
theorem dX5_split_43 : decode cX5_split 43 = .ok (.iadd, 1) := by decide +kernel
theorem dX5_split_44 : decode cX5_split 44 = .ok (.putfield 31, 3) := by decide +kernel
theorem dX5_split_47 : decode cX5_split 47 = .ok (.aload_n 0, 1) := by decide +kernel
theorem dX5_split_48 : decode cX5_split 48 = .ok (.getfield 12, 3) := by decide +kernel
theorem dX5_split_51 : decode cX5_split 51 = .ok (.aload_n 2, 1) := by decide +kernel
theorem dX5_split_52 : decode cX5_split 52 = .ok (.invokevirtual 95, 3) := by decide +kernel
theorem dX5_split_55 : decode cX5_split 55 = .ok (.aload_n 2, 1) := by decide +kernel
theorem dX5_split_56 : decode cX5_split 56 = .ok (.iload_n 3, 1) := by decide +kernel
theorem dX5_split_57 : decode cX5_split 57 = .ok (.iconst 1, 1) := by decide +kernel
theorem dX5_split_58 : decode cX5_split 58 = .ok (.iadd, 1) := by decide +kernel
theorem dX5_split_59 : decode cX5_split 59 = .ok (.invokevirtual 113, 3) := by decide +kernel
theorem dX5_split_62 : decode cX5_split 62 = .ok (.aload 5, 2) := by decide +kernel
theorem dX5_split_64 : decode cX5_split 64 = .ok (.iload_n 3, 1) := by decide +kernel
theorem dX5_split_65 : decode cX5_split 65 = .ok (.iconst 1, 1) := by decide +kernel
theorem dX5_split_66 : decode cX5_split 66 = .ok (.iadd, 1) := by decide +kernel
theorem dX5_split_67 : decode cX5_split 67 = .ok (.invokevirtual 113, 3) := by decide +kernel
theorem dX5_split_70 : decode cX5_split 70 = .ok (.aload_n 0, 1) := by decide +kernel
theorem dX5_split_71 : decode cX5_split 71 = .ok (.getfield 12, 3) := by decide +kernel
theorem dX5_split_74 : decode cX5_split 74 = .ok (.aload_n 2, 1) := by decide +kernel
theorem dX5_split_75 : decode cX5_split 75 = .ok (.aload 5, 2) := by decide +kernel
theorem dX5_split_77 : decode cX5_split 77 = .ok (.iload_n 3, 1) := by decide +kernel
theorem dX5_split_78 : decode cX5_split 78 = .ok (.invokevirtual 116, 3) := by decide +kernel
theorem dX5_split_81 : decode cX5_split 81 = .ok (.aload_n 2, 1) := by decide +kernel
theorem dX5_split_82 : decode cX5_split 82 = .ok (.invokevirtual 120, 3) := by decide +kernel
theorem dX5_split_85 : decode cX5_split 85 = .ok (.aload 5, 2) := by decide +kernel
theorem dX5_split_87 : decode cX5_split 87 = .ok (.invokevirtual 120, 3) := by decide +kernel
theorem dX5_split_90 : decode cX5_split 90 = .ok (.aload_n 0, 1) := by decide +kernel
theorem dX5_split_91 : decode cX5_split 91 = .ok (.iload_n 1, 1) := by decide +kernel
theorem dX5_split_92 : decode cX5_split 92 = .ok (.iload 4, 2) := by decide +kernel
theorem dX5_split_94 : decode cX5_split 94 = .ok (.iload_n 3, 1) := by decide +kernel
theorem dX5_split_95 : decode cX5_split 95 = .ok (.invokevirtual 123, 3) := by decide +kernel
theorem dX5_split_98 : decode cX5_split 98 = .ok (.return_, 1) := by decide +kernel
theorem dX5_doubleTable_0 : decode cX5_doubleTable 0 = .ok (.aload_n 0, 1) := by decide +kernel
theorem dX5_doubleTable_1 : decode cX5_doubleTable 1 = .ok (.getfield 23, 3) := by decide +kernel
theorem dX5_doubleTable_4 : decode cX5_doubleTable 4 = .ok (.aload_n 0, 1) := by decide +kernel
theorem dX5_doubleTable_5 : decode cX5_doubleTable 5 = .ok (.invokevirtual 102, 3) := by decide +kernel
theorem dX5_doubleTable_8 : decode cX5_doubleTable 8 = .ok (.aload_n 0, 1) := by decide +kernel
theorem dX5_doubleTable_9 : decode cX5_doubleTable 9 = .ok (.getfield 23, 3) := by decide +kernel
theorem dX5_doubleTable_12 : decode cX5_doubleTable 12 = .ok (.iconst 0, 1) := by decide +kernel
theorem dX5_doubleTable_13 : decode cX5_doubleTable 13 = .ok (.aload_n 0, 1) := by decide +kernel
theorem dX5_doubleTable_14 : decode cX5_doubleTable 14 = .ok (.invokevirtual 102, 3) := by decide +kernel
theorem dX5_doubleTable_17 : decode cX5_doubleTable 17 = .ok (.invokevirtual 127, 3) := by decide +kernel
theorem dX5_doubleTable_20 : decode cX5_doubleTable 20 = .ok (.aload_n 0, 1) := by decide +kernel
theorem dX5_doubleTable_21 : decode cX5_doubleTable 21 = .ok (.dup, 1) := by decide +kernel
theorem dX5_doubleTable_22 : decode cX5_doubleTable 22 = .ok (.getfield 27, 3) := by decide +kernel
theorem dX5_doubleTable_25 : decode cX5_doubleTable 25 = .ok (.iconst 1, 1) := by decide +kernel
theorem dX5_doubleTable_26 : decode cX5_doubleTable 26 = .ok (.iadd, 1) := by decide +kernel
theorem dX5_doubleTable_27 : decode cX5_doubleTable 27 = .ok (.putfield 27, 3) := by decide +kernel
theorem dX5_doubleTable_30 : decode cX5_doubleTable 30 = .ok (.return_, 1) := by decide +kernel
theorem dX5_redirect_0 : decode cX5_redirect 0 = .ok (.iconst 0, 1) := by decide +kernel
theorem dX5_redirect_1 : decode cX5_redirect 1 = .ok (.istore 4, 2) := by decide +kernel
theorem dX5_redirect_3 : decode cX5_redirect 3 = .ok (.iload 4, 2) := by decide +kernel
theorem dX5_redirect_5 : decode cX5_redirect 5 = .ok (.aload_n 0, 1) := by decide +kernel
theorem dX5_redirect_6 : decode cX5_redirect 6 = .ok (.invokevirtual 102, 3) := by decide +kernel
theorem dX5_redirect_9 : decode cX5_redirect 9 = .ok (.if_icmp .ge 42, 3) := by decide +kernel
theorem dX5_redirect_12 : decode cX5_redirect 12 = .ok (.aload_n 0, 1) := by decide +kernel
theorem dX5_redirect_13 : decode cX5_redirect 13 = .ok (.getfield 23, 3) := by decide +kernel
theorem dX5_redirect_16 : decode cX5_redirect 16 = .ok (.iload 4, 2) := by decide +kernel
theorem dX5_redirect_18 : decode cX5_redirect 18 = .ok (.invokevirtual 47, 3) := by decide +kernel
theorem dX5_redirect_21 : decode cX5_redirect 21 = .ok (.iload_n 1, 1) := by decide +kernel
theorem dX5_redirect_22 : decode cX5_redirect 22 = .ok (.if_icmp .ne 23, 3) := by decide +kernel
theorem dX5_redirect_25 : decode cX5_redirect 25 = .ok (.iload 4, 2) := by decide +kernel
theorem dX5_redirect_27 : decode cX5_redirect 27 = .ok (.iload_n 3, 1) := by decide +kernel
theorem dX5_redirect_28 : decode cX5_redirect 28 = .ok (.iushr, 1) := by decide +kernel
theorem dX5_redirect_29 : decode cX5_redirect 29 = .ok (.iconst 1, 1) := by decide +kernel
theorem dX5_redirect_30 : decode cX5_redirect 30 = .ok (.iand, 1) := by decide +kernel
theorem dX5_redirect_31 : decode cX5_redirect 31 = .ok (.iconst 1, 1) := by decide +kernel
theorem dX5_redirect_32 : decode cX5_redirect 32 = .ok (.if_icmp .ne 13, 3) := by decide +kernel
theorem dX5_redirect_35 : decode cX5_redirect 35 = .ok (.aload_n 0, 1) := by decide +kernel
theorem dX5_redirect_36 : decode cX5_redirect 36 = .ok (.getfield 23, 3) := by decide +kernel
theorem dX5_redirect_39 : decode cX5_redirect 39 = .ok (.iload 4, 2) := by decide +kernel
theorem dX5_redirect_41 : decode cX5_redirect 41 = .ok (.iload_n 2, 1) := by decide +kernel
theorem dX5_redirect_42 : decode cX5_redirect 42 = .ok (.invokevirtual 131, 3) := by decide +kernel
theorem dX5_redirect_45 : decode cX5_redirect 45 = .ok (.iinc 4 1, 3) := by decide +kernel
theorem dX5_redirect_48 : decode cX5_redirect 48 = .ok (.goto (-45), 3) := by decide +kernel
theorem dX5_redirect_51 : decode cX5_redirect 51 = .ok (.return_, 1) := by decide +kernel
theorem dX6_init_0 : decode cX6_init 0 = .ok (.aload_n 0, 1) := by decide +kernel
theorem dX6_init_1 : decode cX6_init 1 = .ok (.invokespecial 1, 3) := by decide +kernel
theorem dX6_init_4 : decode cX6_init 4 = .ok (.aload_n 0, 1) := by decide +kernel
theorem dX6_init_5 : decode cX6_init 5 = .ok (.new 7, 3) := by decide +kernel
theorem dX6_init_8 : decode cX6_init 8 = .ok (.dup, 1) := by decide +kernel
theorem dX6_init_9 : decode cX6_init 9 = .ok (.invokespecial 9, 3) := by decide +kernel
theorem dX6_init_12 : decode cX6_init 12 = .ok (.putfield 10, 3) := by decide +kernel
theorem dX6_init_15 : decode cX6_init 15 = .ok (.aload_n 0, 1) := by decide +kernel
theorem dX6_init_16 : decode cX6_init 16 = .ok (.new 16, 3) := by decide +kernel
theorem dX6_init_19 : decode cX6_init 19 = .ok (.dup, 1) := by decide +kernel
theorem dX6_init_20 : decode cX6_init 20 = .ok (.invokespecial 18, 3) := by decide +kernel
theorem dX6_init_23 : decode cX6_init 23 = .ok (.putfield 19, 3) := by decide +kernel
theorem dX6_init_26 : decode cX6_init 26 = .ok (.aload_n 0, 1) := by decide +kernel
theorem dX6_init_27 : decode cX6_init 27 = .ok (.new 16, 3) := by decide +kernel
theorem dX6_init_30 : decode cX6_init 30 = .ok (.dup, 1) := by decide +kernel
theorem dX6_init_31 : decode cX6_init 31 = .ok (.invokespecial 18, 3) := by decide +kernel
theorem dX6_init_34 : decode cX6_init 34 = .ok (.putfield 23, 3) := by decide +kernel
theorem dX6_init_37 : decode cX6_init 37 = .ok (.iconst 1, 1) := by decide +kernel
theorem dX6_init_38 : decode cX6_init 38 = .ok (.iload_n 1, 1) := by decide +kernel
theorem dX6_init_39 : decode cX6_init 39 = .ok (.bipush 40, 2) := by decide +kernel
theorem dX6_init_41 : decode cX6_init 41 = .ok (.invokestatic 26, 3) := by decide +kernel
theorem dX6_init_44 : decode cX6_init 44 = .ok (.invokestatic 32, 3) := by decide +kernel
theorem dX6_init_47 : decode cX6_init 47 = .ok (.istore_n 2, 1) := by decide +kernel
theorem dX6_init_48 : decode cX6_init 48 = .ok (.aload_n 0, 1) := by decide +kernel
theorem dX6_init_49 : decode cX6_init 49 = .ok (.new 35, 3) := by decide +kernel
theorem dX6_init_52 : decode cX6_init 52 = .ok (.dup, 1) := by decide +kernel
theorem dX6_init_53 : decode cX6_init 53 = .ok (.iload_n 2, 1) := by decide +kernel
theorem dX6_init_54 : decode cX6_init 54 = .ok (.invokespecial 37, 3) := by decide +kernel
theorem dX6_init_57 : decode cX6_init 57 = .ok (.putfield 40, 3) := by decide +kernel
theorem dX6_init_60 : decode cX6_init 60 = .ok (.aload_n 0, 1) := by decide +kernel
theorem dX6_init_61 : decode cX6_init 61 = .ok (.new 35, 3) := by decide +kernel
theorem dX6_init_64 : decode cX6_init 64 = .ok (.dup, 1) := by decide +kernel
theorem dX6_init_65 : decode cX6_init 65 = .ok (.iload_n 2, 1) := by decide +kernel
theorem dX6_init_66 : decode cX6_init 66 = .ok (.invokespecial 37, 3) := by decide +kernel
theorem dX6_init_69 : decode cX6_init 69 = .ok (.putfield 44, 3) := by decide +kernel
theorem dX6_init_72 : decode cX6_init 72 = .ok (.aload_n 0, 1) := by decide +kernel
theorem dX6_init_73 : decode cX6_init 73 = .ok (.new 47, 3) := by decide +kernel
theorem dX6_init_76 : decode cX6_init 76 = .ok (.dup, 1) := by decide +kernel
theorem dX6_init_77 : decode cX6_init 77 = .ok (.iload_n 2, 1) := by decide +kernel
theorem dX6_init_78 : decode cX6_init 78 = .ok (.invokespecial 49, 3) := by decide +kernel
theorem dX6_init_81 : decode cX6_init 81 = .ok (.putfield 50, 3) := by decide +kernel
theorem dX6_init_84 : decode cX6_init 84 = .ok (.return_, 1) := by decide +kernel
theorem dX6_feed_0 : decode cX6_feed 0 = .ok (.iload_n 1, 1) := by decide +kernel
theorem dX6_feed_1 : decode cX6_feed 1 = .ok (.ifCond .lt 10, 3) := by decide +kernel
theorem dX6_feed_4 : decode cX6_feed 4 = .ok (.iload_n 1, 1) := by decide +kernel
theorem dX6_feed_5 : decode cX6_feed 5 = .ok (.sipush 255, 3) := by decide +kernel
theorem dX6_feed_8 : decode cX6_feed 8 = .ok (.if_icmp .le 13, 3) := by decide +kernel
theorem dX6_feed_11 : decode cX6_feed 11 = .ok (.new 54, 3) := by decide +kernel
theorem dX6_feed_14 : decode cX6_feed 14 = .ok (.dup, 1) := by decide +kernel
theorem dX6_feed_15 : decode cX6_feed 15 = .ok (.ldc 56, 2) := by decide +kernel
theorem dX6_feed_17 : decode cX6_feed 17 = .ok (.invokespecial 58, 3) := by decide +kernel
theorem dX6_feed_20 : decode cX6_feed 20 = .ok (.athrow, 1) := by decide +kernel
theorem dX6_feed_21 : decode cX6_feed 21 = .ok (.aload_n 0, 1) := by decide +kernel
theorem dX6_feed_22 : decode cX6_feed 22 = .ok (.getfield 19, 3) := by decide +kernel
theorem dX6_feed_25 : decode cX6_feed 25 = .ok (.iload_n 1, 1) := by decide +kernel
theorem dX6_feed_26 : decode cX6_feed 26 = .ok (.invokevirtual 61, 3) := by decide +kernel
theorem dX6_feed_29 : decode cX6_feed 29 = .ok (.ireturn, 1) := by decide +kernel
theorem dX6_put_0 : decode cX6_put 0 = .ok (.aload_n 0, 1) := by decide +kernel
theorem dX6_put_1 : decode cX6_put 1 = .ok (.invokevirtual 65, 3) := by decide +kernel
theorem dX6_put_4 : decode cX6_put 4 = .ok (.aload_n 0, 1) := by decide +kernel
theorem dX6_put_5 : decode cX6_put 5 = .ok (.iload_n 1, 1) := by decide +kernel
theorem dX6_put_6 : decode cX6_put 6 = .ok (.invokevirtual 68, 3) := by decide +kernel
theorem dX6_put_9 : decode cX6_put 9 = .ok (.istore_n 2, 1) := by decide +kernel
theorem dX6_put_10 : decode cX6_put 10 = .ok (.aload_n 0, 1) := by decide +kernel
theorem dX6_put_11 : decode cX6_put 11 = .ok (.getfield 19, 3) := by decide +kernel
theorem dX6_put_14 : decode cX6_put 14 = .ok (.invokevirtual 72, 3) := by decide +kernel
theorem dX6_put_17 : decode cX6_put 17 = .ok (.iload_n 2, 1) := by decide +kernel
theorem dX6_put_18 : decode cX6_put 18 = .ok (.ireturn, 1) := by decide +kernel
theorem dX6_has_0 : decode cX6_has 0 = .ok (.aload_n 0, 1) := by decide +kernel
theorem dX6_has_1 : decode cX6_has 1 = .ok (.invokevirtual 65, 3) := by decide +kernel
theorem dX6_has_4 : decode cX6_has 4 = .ok (.aload_n 0, 1) := by decide +kernel
theorem dX6_has_5 : decode cX6_has 5 = .ok (.getfield 40, 3) := by decide +kernel
theorem dX6_has_8 : decode cX6_has 8 = .ok (.aload_n 0, 1) := by decide +kernel
theorem dX6_has_9 : decode cX6_has 9 = .ok (.getfield 19, 3) := by decide +kernel
theorem dX6_has_12 : decode cX6_has 12 = .ok (.invokevirtual 75, 3) := by decide +kernel
theorem dX6_has_15 : decode cX6_has 15 = .ok (.istore_n 1, 1) := by decide +kernel
theorem dX6_has_16 : decode cX6_has 16 = .ok (.aload_n 0, 1) := by decide +kernel
theorem dX6_has_17 : decode cX6_has 17 = .ok (.getfield 19, 3) := by decide +kernel
theorem dX6_has_20 : decode cX6_has 20 = .ok (.invokevirtual 72, 3) := by decide +kernel
theorem dX6_has_23 : decode cX6_has 23 = .ok (.iload_n 1, 1) := by decide +kernel
theorem dX6_has_24 : decode cX6_has 24 = .ok (.ireturn, 1) := by decide +kernel
theorem dX6_find_0 : decode cX6_find 0 = .ok (.aload_n 0, 1) := by decide +kernel
theorem dX6_find_1 : decode cX6_find 1 = .ok (.invokevirtual 65, 3) := by decide +kernel
theorem dX6_find_4 : decode cX6_find 4 = .ok (.aload_n 0, 1) := by decide +kernel
theorem dX6_find_5 : decode cX6_find 5 = .ok (.getfield 40, 3) := by decide +kernel
theorem dX6_find_8 : decode cX6_find 8 = .ok (.aload_n 0, 1) := by decide +kernel
theorem dX6_find_9 : decode cX6_find 9 = .ok (.getfield 19, 3) := by decide +kernel
theorem dX6_find_12 : decode cX6_find 12 = .ok (.invokevirtual 79, 3) := by decide +kernel
theorem dX6_find_15 : decode cX6_find 15 = .ok (.istore_n 1, 1) := by decide +kernel
theorem dX6_find_16 : decode cX6_find 16 = .ok (.aload_n 0, 1) := by decide +kernel
theorem dX6_find_17 : decode cX6_find 17 = .ok (.getfield 19, 3) := by decide +kernel
theorem dX6_find_20 : decode cX6_find 20 = .ok (.invokevirtual 72, 3) := by decide +kernel
theorem dX6_find_23 : decode cX6_find 23 = .ok (.iload_n 1, 1) := by decide +kernel
theorem dX6_find_24 : decode cX6_find 24 = .ok (.ireturn, 1) := by decide +kernel
theorem dX6_save_0 : decode cX6_save 0 = .ok (.aload_n 0, 1) := by decide +kernel
theorem dX6_save_1 : decode cX6_save 1 = .ok (.invokevirtual 83, 3) := by decide +kernel
theorem dX6_save_4 : decode cX6_save 4 = .ok (.aload_n 0, 1) := by decide +kernel
theorem dX6_save_5 : decode cX6_save 5 = .ok (.getfield 44, 3) := by decide +kernel
theorem dX6_save_8 : decode cX6_save 8 = .ok (.aload_n 0, 1) := by decide +kernel
theorem dX6_save_9 : decode cX6_save 9 = .ok (.getfield 40, 3) := by decide +kernel
theorem dX6_save_12 : decode cX6_save 12 = .ok (.invokevirtual 86, 3) := by decide +kernel
theorem dX6_save_15 : decode cX6_save 15 = .ok (.aload_n 0, 1) := by decide +kernel
theorem dX6_save_16 : decode cX6_save 16 = .ok (.getfield 10, 3) := by decide +kernel
theorem dX6_save_19 : decode cX6_save 19 = .ok (.iconst 0, 1) := by decide +kernel
theorem dX6_save_20 : decode cX6_save 20 = .ok (.invokevirtual 90, 3) := by decide +kernel
theorem dX6_save_23 : decode cX6_save 23 = .ok (.aload_n 0, 1) := by decide +kernel
theorem dX6_save_24 : decode cX6_save 24 = .ok (.getfield 40, 3) := by decide +kernel
theorem dX6_save_27 : decode cX6_save 27 = .ok (.invokevirtual 93, 3) := by decide +kernel
theorem dX6_save_30 : decode cX6_save 30 = .ok (.ireturn, 1) := by decide +kernel
theorem dX6_crash_0 : decode cX6_crash 0 = .ok (.iload_n 1, 1) := by decide +kernel
theorem dX6_crash_1 : decode cX6_crash 1 = .ok (.ifCond .lt 14, 3) := by decide +kernel
theorem dX6_crash_4 : decode cX6_crash 4 = .ok (.iload_n 1, 1) := by decide +kernel
theorem dX6_crash_5 : decode cX6_crash 5 = .ok (.aload_n 0, 1) := by decide +kernel
theorem dX6_crash_6 : decode cX6_crash 6 = .ok (.getfield 10, 3) := by decide +kernel
theorem dX6_crash_9 : decode cX6_crash 9 = .ok (.invokevirtual 97, 3) := by decide +kernel
theorem dX6_crash_12 : decode cX6_crash 12 = .ok (.if_icmp .le 13, 3) := by decide +kernel
theorem dX6_crash_15 : decode cX6_crash 15 = .ok (.new 54, 3) := by decide +kernel
theorem dX6_crash_18 : decode cX6_crash 18 = .ok (.dup, 1) := by decide +kernel
theorem dX6_crash_19 : decode cX6_crash 19 = .ok (.ldc 100, 2) := by decide +kernel
theorem dX6_crash_21 : decode cX6_crash 21 = .ok (.invokespecial 58, 3) := by decide +kernel
theorem dX6_crash_24 : decode cX6_crash 24 = .ok (.athrow, 1) := by decide +kernel
theorem dX6_crash_25 : decode cX6_crash 25 = .ok (.aload_n 0, 1) := by decide +kernel
theorem dX6_crash_26 : decode cX6_crash 26 = .ok (.getfield 19, 3) := by decide +kernel
theorem dX6_crash_29 : decode cX6_crash 29 = .ok (.invokevirtual 72, 3) := by decide +kernel
theorem dX6_crash_32 : decode cX6_crash 32 = .ok (.aload_n 0, 1) := by decide +kernel
theorem dX6_crash_33 : decode cX6_crash 33 = .ok (.getfield 50, 3) := by decide +kernel
theorem dX6_crash_36 : decode cX6_crash 36 = .ok (.invokevirtual 102, 3) := by decide +kernel
theorem dX6_crash_39 : decode cX6_crash 39 = .ok (.aload_n 0, 1) := by decide +kernel
theorem dX6_crash_40 : decode cX6_crash 40 = .ok (.getfield 40, 3) := by decide +kernel
theorem dX6_crash_43 : decode cX6_crash 43 = .ok (.aload_n 0, 1) := by decide +kernel
theorem dX6_crash_44 : decode cX6_crash 44 = .ok (.getfield 44, 3) := by decide +kernel
theorem dX6_crash_47 : decode cX6_crash 47 = .ok (.invokevirtual 86, 3) := by decide +kernel
theorem dX6_crash_50 : decode cX6_crash 50 = .ok (.aload_n 0, 1) := by decide +kernel
theorem dX6_crash_51 : decode cX6_crash 51 = .ok (.getfield 10, 3) := by decide +kernel
theorem dX6_crash_54 : decode cX6_crash 54 = .ok (.iload_n 1, 1) := by decide +kernel
theorem dX6_crash_55 : decode cX6_crash 55 = .ok (.invokevirtual 90, 3) := by decide +kernel
theorem dX6_crash_58 : decode cX6_crash 58 = .ok (.aload_n 0, 1) := by decide +kernel
theorem dX6_crash_59 : decode cX6_crash 59 = .ok (.getfield 10, 3) := by decide +kernel
theorem dX6_crash_62 : decode cX6_crash 62 = .ok (.aload_n 0, 1) := by decide +kernel
theorem dX6_crash_63 : decode cX6_crash 63 = .ok (.invokevirtual 103, 3) := by decide +kernel
theorem dX6_crash_66 : decode cX6_crash 66 = .ok (.invokevirtual 90, 3) := by decide +kernel
theorem dX6_crash_69 : decode cX6_crash 69 = .ok (.aload_n 0, 1) := by decide +kernel
theorem dX6_crash_70 : decode cX6_crash 70 = .ok (.getfield 40, 3) := by decide +kernel
theorem dX6_crash_73 : decode cX6_crash 73 = .ok (.invokevirtual 93, 3) := by decide +kernel
theorem dX6_crash_76 : decode cX6_crash 76 = .ok (.ireturn, 1) := by decide +kernel
theorem dX6_poke_0 : decode cX6_poke 0 = .ok (.aload_n 0, 1) := by decide +kernel
theorem dX6_poke_1 : decode cX6_poke 1 = .ok (.iload_n 1, 1) := by decide +kernel
theorem dX6_poke_2 : decode cX6_poke 2 = .ok (.iload_n 2, 1) := by decide +kernel
theorem dX6_poke_3 : decode cX6_poke 3 = .ok (.invokevirtual 106, 3) := by decide +kernel
theorem dX6_poke_6 : decode cX6_poke 6 = .ok (.aload_n 0, 1) := by decide +kernel
theorem dX6_poke_7 : decode cX6_poke 7 = .ok (.iload_n 3, 1) := by decide +kernel
theorem dX6_poke_8 : decode cX6_poke 8 = .ok (.invokevirtual 110, 3) := by decide +kernel
theorem dX6_poke_11 : decode cX6_poke 11 = .ok (.aload_n 0, 1) := by decide +kernel
theorem dX6_poke_12 : decode cX6_poke 12 = .ok (.getfield 40, 3) := by decide +kernel
theorem dX6_poke_15 : decode cX6_poke 15 = .ok (.iload_n 1, 1) := by decide +kernel
theorem dX6_poke_16 : decode cX6_poke 16 = .ok (.invokevirtual 113, 3) := by decide +kernel
theorem dX6_poke_19 : decode cX6_poke 19 = .ok (.iload_n 2, 1) := by decide +kernel
theorem dX6_poke_20 : decode cX6_poke 20 = .ok (.iload_n 3, 1) := by decide +kernel
theorem dX6_poke_21 : decode cX6_poke 21 = .ok (.invokevirtual 117, 3) := by decide +kernel
theorem dX6_poke_24 : decode cX6_poke 24 = .ok (.aload_n 0, 1) := by decide +kernel
theorem dX6_poke_25 : decode cX6_poke 25 = .ok (.getfield 50, 3) := by decide +kernel
theorem dX6_poke_28 : decode cX6_poke 28 = .ok (.iload_n 1, 1) := by decide +kernel
theorem dX6_poke_29 : decode cX6_poke 29 = .ok (.iload_n 2, 1) := by decide +kernel
theorem dX6_poke_30 : decode cX6_poke 30 = .ok (.iload_n 3, 1) := by decide +kernel
theorem dX6_poke_31 : decode cX6_poke 31 = .ok (.invokevirtual 122, 3) := by decide +kernel
theorem dX6_poke_34 : decode cX6_poke 34 = .ok (.return_, 1) := by decide +kernel
theorem dX6_pokeJournal_0 : decode cX6_pokeJournal 0 = .ok (.iload_n 1, 1) := by decide +kernel
theorem dX6_pokeJournal_1 : decode cX6_pokeJournal 1 = .ok (.ifCond .lt 10, 3) := by decide +kernel
theorem dX6_pokeJournal_4 : decode cX6_pokeJournal 4 = .ok (.iload_n 1, 1) := by decide +kernel
theorem dX6_pokeJournal_5 : decode cX6_pokeJournal 5 = .ok (.sipush 600, 3) := by decide +kernel
theorem dX6_pokeJournal_8 : decode cX6_pokeJournal 8 = .ok (.if_icmp .lt 13, 3) := by decide +kernel
theorem dX6_pokeJournal_11 : decode cX6_pokeJournal 11 = .ok (.new 125, 3) := by decide +kernel
theorem dX6_pokeJournal_14 : decode cX6_pokeJournal 14 = .ok (.dup, 1) := by decide +kernel
theorem dX6_pokeJournal_15 : decode cX6_pokeJournal 15 = .ok (.ldc 127, 2) := by decide +kernel
theorem dX6_pokeJournal_17 : decode cX6_pokeJournal 17 = .ok (.invokespecial 129, 3) := by decide +kernel
theorem dX6_pokeJournal_20 : decode cX6_pokeJournal 20 = .ok (.athrow, 1) := by decide +kernel
theorem dX6_pokeJournal_21 : decode cX6_pokeJournal 21 = .ok (.aload_n 0, 1) := by decide +kernel
theorem dX6_pokeJournal_22 : decode cX6_pokeJournal 22 = .ok (.iload_n 2, 1) := by decide +kernel
theorem dX6_pokeJournal_23 : decode cX6_pokeJournal 23 = .ok (.invokevirtual 110, 3) := by decide +kernel
theorem dX6_pokeJournal_26 : decode cX6_pokeJournal 26 = .ok (.aload_n 0, 1) := by decide +kernel
theorem dX6_pokeJournal_27 : decode cX6_pokeJournal 27 = .ok (.getfield 10, 3) := by decide +kernel
theorem dX6_pokeJournal_30 : decode cX6_pokeJournal 30 = .ok (.iload_n 1, 1) := by decide +kernel
theorem dX6_pokeJournal_31 : decode cX6_pokeJournal 31 = .ok (.iload_n 2, 1) := by decide +kernel
theorem dX6_pokeJournal_32 : decode cX6_pokeJournal 32 = .ok (.invokevirtual 130, 3) := by decide +kernel
theorem dX6_pokeJournal_35 : decode cX6_pokeJournal 35 = .ok (.return_, 1) := by decide +kernel
theorem dX6_badAt_0 : decode cX6_badAt 0 = .ok (.iconst 0, 1) := by decide +kernel
theorem dX6_badAt_1 : decode cX6_badAt 1 = .ok (.istore_n 1, 1) := by decide +kernel
theorem dX6_badAt_2 : decode cX6_badAt 2 = .ok (.iload_n 1, 1) := by decide +kernel
theorem dX6_badAt_3 : decode cX6_badAt 3 = .ok (.aload_n 0, 1) := by decide +kernel
theorem dX6_badAt_4 : decode cX6_badAt 4 = .ok (.getfield 40, 3) := by decide +kernel
theorem dX6_badAt_7 : decode cX6_badAt 7 = .ok (.invokevirtual 131, 3) := by decide +kernel
theorem dX6_badAt_10 : decode cX6_badAt 10 = .ok (.if_icmp .ge 25, 3) := by decide +kernel
theorem dX6_badAt_13 : decode cX6_badAt 13 = .ok (.aload_n 0, 1) := by decide +kernel
theorem dX6_badAt_14 : decode cX6_badAt 14 = .ok (.getfield 40, 3) := by decide +kernel
theorem dX6_badAt_17 : decode cX6_badAt 17 = .ok (.iload_n 1, 1) := by decide +kernel
theorem dX6_badAt_18 : decode cX6_badAt 18 = .ok (.invokevirtual 113, 3) := by decide +kernel
theorem dX6_badAt_21 : decode cX6_badAt 21 = .ok (.invokevirtual 134, 3) := by decide +kernel
theorem dX6_badAt_24 : decode cX6_badAt 24 = .ok (.ifCond .eq 5, 3) := by decide +kernel
theorem dX6_badAt_27 : decode cX6_badAt 27 = .ok (.iload_n 1, 1) := by decide +kernel
theorem dX6_badAt_28 : decode cX6_badAt 28 = .ok (.ireturn, 1) := by decide +kernel
theorem dX6_badAt_29 : decode cX6_badAt 29 = .ok (.iinc 1 1, 3) := by decide +kernel
theorem dX6_badAt_32 : decode cX6_badAt 32 = .ok (.goto (-30), 3) := by decide +kernel
theorem dX6_badAt_35 : decode cX6_badAt 35 = .ok (.iconst (-1), 1) := by decide +kernel
theorem dX6_badAt_36 : decode cX6_badAt 36 = .ok (.ireturn, 1) := by decide +kernel
theorem dX6_byteAt_0 : decode cX6_byteAt 0 = .ok (.aload_n 0, 1) := by decide +kernel
theorem dX6_byteAt_1 : decode cX6_byteAt 1 = .ok (.iload_n 1, 1) := by decide +kernel
theorem dX6_byteAt_2 : decode cX6_byteAt 2 = .ok (.iload_n 2, 1) := by decide +kernel
theorem dX6_byteAt_3 : decode cX6_byteAt 3 = .ok (.invokevirtual 106, 3) := by decide +kernel
theorem dX6_byteAt_6 : decode cX6_byteAt 6 = .ok (.aload_n 0, 1) := by decide +kernel
theorem dX6_byteAt_7 : decode cX6_byteAt 7 = .ok (.getfield 40, 3) := by decide +kernel
theorem dX6_byteAt_10 : decode cX6_byteAt 10 = .ok (.iload_n 1, 1) := by decide +kernel
theorem dX6_byteAt_11 : decode cX6_byteAt 11 = .ok (.invokevirtual 113, 3) := by decide +kernel
theorem dX6_byteAt_14 : decode cX6_byteAt 14 = .ok (.iload_n 2, 1) := by decide +kernel
theorem dX6_byteAt_15 : decode cX6_byteAt 15 = .ok (.invokevirtual 138, 3) := by decide +kernel
theorem dX6_byteAt_18 : decode cX6_byteAt 18 = .ok (.ireturn, 1) := by decide +kernel
theorem dX6_entry_0 : decode cX6_entry 0 = .ok (.iload_n 1, 1) := by decide +kernel
theorem dX6_entry_1 : decode cX6_entry 1 = .ok (.ifCond .lt 14, 3) := by decide +kernel
theorem dX6_entry_4 : decode cX6_entry 4 = .ok (.iload_n 1, 1) := by decide +kernel
theorem dX6_entry_5 : decode cX6_entry 5 = .ok (.aload_n 0, 1) := by decide +kernel
theorem dX6_entry_6 : decode cX6_entry 6 = .ok (.getfield 40, 3) := by decide +kernel
theorem dX6_entry_9 : decode cX6_entry 9 = .ok (.invokevirtual 141, 3) := by decide +kernel
theorem dX6_entry_12 : decode cX6_entry 12 = .ok (.if_icmp .lt 13, 3) := by decide +kernel
theorem dX6_entry_15 : decode cX6_entry 15 = .ok (.new 125, 3) := by decide +kernel
theorem dX6_entry_18 : decode cX6_entry 18 = .ok (.dup, 1) := by decide +kernel
theorem dX6_entry_19 : decode cX6_entry 19 = .ok (.ldc 144, 2) := by decide +kernel
theorem dX6_entry_21 : decode cX6_entry 21 = .ok (.invokespecial 129, 3) := by decide +kernel
theorem dX6_entry_24 : decode cX6_entry 24 = .ok (.athrow, 1) := by decide +kernel
theorem dX6_entry_25 : decode cX6_entry 25 = .ok (.aload_n 0, 1) := by decide +kernel
theorem dX6_entry_26 : decode cX6_entry 26 = .ok (.getfield 40, 3) := by decide +kernel
theorem dX6_entry_29 : decode cX6_entry 29 = .ok (.iload_n 1, 1) := by decide +kernel
theorem dX6_entry_30 : decode cX6_entry 30 = .ok (.invokevirtual 146, 3) := by decide +kernel
theorem dX6_entry_33 : decode cX6_entry 33 = .ok (.ireturn, 1) := by decide +kernel
theorem dX6_count_0 : decode cX6_count 0 = .ok (.iload_n 1, 1) := by decide +kernel
theorem dX6_count_1 : decode cX6_count 1 = .ok (.tableswitch 91 0 5 #[39, 47, 55, 67, 75, 83], 39) := by decide +kernel
theorem dX6_count_40 : decode cX6_count 40 = .ok (.aload_n 0, 1) := by decide +kernel
theorem dX6_count_41 : decode cX6_count 41 = .ok (.getfield 40, 3) := by decide +kernel
theorem dX6_count_44 : decode cX6_count 44 = .ok (.invokevirtual 149, 3) := by decide +kernel
theorem dX6_count_47 : decode cX6_count 47 = .ok (.ireturn, 1) := by decide +kernel
theorem dX6_count_48 : decode cX6_count 48 = .ok (.aload_n 0, 1) := by decide +kernel
theorem dX6_count_49 : decode cX6_count 49 = .ok (.getfield 40, 3) := by decide +kernel
theorem dX6_count_52 : decode cX6_count 52 = .ok (.invokevirtual 152, 3) := by decide +kernel
theorem dX6_count_55 : decode cX6_count 55 = .ok (.ireturn, 1) := by decide +kernel
theorem dX6_count_56 : decode cX6_count 56 = .ok (.aload_n 0, 1) := by decide +kernel
theorem dX6_count_57 : decode cX6_count 57 = .ok (.invokevirtual 83, 3) := by decide +kernel
theorem dX6_count_60 : decode cX6_count 60 = .ok (.aload_n 0, 1) := by decide +kernel
theorem dX6_count_61 : decode cX6_count 61 = .ok (.getfield 40, 3) := by decide +kernel
theorem dX6_count_64 : decode cX6_count 64 = .ok (.invokevirtual 155, 3) := by decide +kernel
theorem dX6_count_67 : decode cX6_count 67 = .ok (.ireturn, 1) := by decide +kernel
theorem dX6_count_68 : decode cX6_count 68 = .ok (.aload_n 0, 1) := by decide +kernel
theorem dX6_count_69 : decode cX6_count 69 = .ok (.getfield 40, 3) := by decide +kernel
theorem dX6_count_72 : decode cX6_count 72 = .ok (.invokevirtual 93, 3) := by decide +kernel
theorem dX6_count_75 : decode cX6_count 75 = .ok (.ireturn, 1) := by decide +kernel
theorem dX6_count_76 : decode cX6_count 76 = .ok (.aload_n 0, 1) := by decide +kernel
theorem dX6_count_77 : decode cX6_count 77 = .ok (.getfield 10, 3) := by decide +kernel
theorem dX6_count_80 : decode cX6_count 80 = .ok (.invokevirtual 97, 3) := by decide +kernel
theorem dX6_count_83 : decode cX6_count 83 = .ok (.ireturn, 1) := by decide +kernel
theorem dX6_count_84 : decode cX6_count 84 = .ok (.aload_n 0, 1) := by decide +kernel
theorem dX6_count_85 : decode cX6_count 85 = .ok (.getfield 40, 3) := by decide +kernel
theorem dX6_count_88 : decode cX6_count 88 = .ok (.invokevirtual 131, 3) := by decide +kernel
theorem dX6_count_91 : decode cX6_count 91 = .ok (.ireturn, 1) := by decide +kernel
theorem dX6_count_92 : decode cX6_count 92 = .ok (.iconst (-1), 1) := by decide +kernel
theorem dX6_count_93 : decode cX6_count 93 = .ok (.ireturn, 1) := by decide +kernel
theorem dX6_requireSound_0 : decode cX6_requireSound 0 = .ok (.aload_n 0, 1) := by decide +kernel
theorem dX6_requireSound_1 : decode cX6_requireSound 1 = .ok (.getfield 50, 3) := by decide +kernel
theorem dX6_requireSound_4 : decode cX6_requireSound 4 = .ok (.invokevirtual 158, 3) := by decide +kernel
theorem dX6_requireSound_7 : decode cX6_requireSound 7 = .ok (.ifCond .eq 13, 3) := by decide +kernel
theorem dX6_requireSound_10 : decode cX6_requireSound 10 = .ok (.new 161, 3) := by decide +kernel
theorem dX6_requireSound_13 : decode cX6_requireSound 13 = .ok (.dup, 1) := by decide +kernel
theorem dX6_requireSound_14 : decode cX6_requireSound 14 = .ok (.ldc 163, 2) := by decide +kernel
theorem dX6_requireSound_16 : decode cX6_requireSound 16 = .ok (.invokespecial 165, 3) := by decide +kernel
theorem dX6_requireSound_19 : decode cX6_requireSound 19 = .ok (.athrow, 1) := by decide +kernel
theorem dX6_requireSound_20 : decode cX6_requireSound 20 = .ok (.return_, 1) := by decide +kernel
theorem dX6_requireSoundAndFed_0 : decode cX6_requireSoundAndFed 0 = .ok (.aload_n 0, 1) := by decide +kernel
theorem dX6_requireSoundAndFed_1 : decode cX6_requireSoundAndFed 1 = .ok (.invokevirtual 83, 3) := by decide +kernel
theorem dX6_requireSoundAndFed_4 : decode cX6_requireSoundAndFed 4 = .ok (.aload_n 0, 1) := by decide +kernel
theorem dX6_requireSoundAndFed_5 : decode cX6_requireSoundAndFed 5 = .ok (.getfield 19, 3) := by decide +kernel
theorem dX6_requireSoundAndFed_8 : decode cX6_requireSoundAndFed 8 = .ok (.invokevirtual 166, 3) := by decide +kernel
theorem dX6_requireSoundAndFed_11 : decode cX6_requireSoundAndFed 11 = .ok (.ifCond .ne 13, 3) := by decide +kernel
theorem dX6_requireSoundAndFed_14 : decode cX6_requireSoundAndFed 14 = .ok (.new 161, 3) := by decide +kernel
theorem dX6_requireSoundAndFed_17 : decode cX6_requireSoundAndFed 17 = .ok (.dup, 1) := by decide +kernel
theorem dX6_requireSoundAndFed_18 : decode cX6_requireSoundAndFed 18 = .ok (.ldc 167, 2) := by decide +kernel
theorem dX6_requireSoundAndFed_20 : decode cX6_requireSoundAndFed 20 = .ok (.invokespecial 165, 3) := by decide +kernel
theorem dX6_requireSoundAndFed_23 : decode cX6_requireSoundAndFed 23 = .ok (.athrow, 1) := by decide +kernel
theorem dX6_requireSoundAndFed_24 : decode cX6_requireSoundAndFed 24 = .ok (.return_, 1) := by decide +kernel
theorem dX6_requirePageByte_0 : decode cX6_requirePageByte 0 = .ok (.iload_n 1, 1) := by decide +kernel
theorem dX6_requirePageByte_1 : decode cX6_requirePageByte 1 = .ok (.ifCond .lt 24, 3) := by decide +kernel
theorem dX6_requirePageByte_4 : decode cX6_requirePageByte 4 = .ok (.iload_n 1, 1) := by decide +kernel
theorem dX6_requirePageByte_5 : decode cX6_requirePageByte 5 = .ok (.aload_n 0, 1) := by decide +kernel
theorem dX6_requirePageByte_6 : decode cX6_requirePageByte 6 = .ok (.getfield 40, 3) := by decide +kernel
theorem dX6_requirePageByte_9 : decode cX6_requirePageByte 9 = .ok (.invokevirtual 131, 3) := by decide +kernel
theorem dX6_requirePageByte_12 : decode cX6_requirePageByte 12 = .ok (.if_icmp .ge 13, 3) := by decide +kernel
theorem dX6_requirePageByte_15 : decode cX6_requirePageByte 15 = .ok (.iload_n 2, 1) := by decide +kernel
theorem dX6_requirePageByte_16 : decode cX6_requirePageByte 16 = .ok (.ifCond .lt 9, 3) := by decide +kernel
theorem dX6_requirePageByte_19 : decode cX6_requirePageByte 19 = .ok (.iload_n 2, 1) := by decide +kernel
theorem dX6_requirePageByte_20 : decode cX6_requirePageByte 20 = .ok (.bipush 64, 2) := by decide +kernel
theorem dX6_requirePageByte_22 : decode cX6_requirePageByte 22 = .ok (.if_icmp .lt 13, 3) := by decide +kernel
theorem dX6_requirePageByte_25 : decode cX6_requirePageByte 25 = .ok (.new 125, 3) := by decide +kernel
theorem dX6_requirePageByte_28 : decode cX6_requirePageByte 28 = .ok (.dup, 1) := by decide +kernel
theorem dX6_requirePageByte_29 : decode cX6_requirePageByte 29 = .ok (.ldc 169, 2) := by decide +kernel
theorem dX6_requirePageByte_31 : decode cX6_requirePageByte 31 = .ok (.invokespecial 129, 3) := by decide +kernel
theorem dX6_requirePageByte_34 : decode cX6_requirePageByte 34 = .ok (.athrow, 1) := by decide +kernel
theorem dX6_requirePageByte_35 : decode cX6_requirePageByte 35 = .ok (.return_, 1) := by decide +kernel
theorem dX6_requireMask_0 : decode cX6_requireMask 0 = .ok (.iload_n 1, 1) := by decide +kernel
theorem dX6_requireMask_1 : decode cX6_requireMask 1 = .ok (.iconst 1, 1) := by decide +kernel
theorem dX6_requireMask_2 : decode cX6_requireMask 2 = .ok (.if_icmp .lt 10, 3) := by decide +kernel
theorem dX6_requireMask_5 : decode cX6_requireMask 5 = .ok (.iload_n 1, 1) := by decide +kernel
theorem dX6_requireMask_6 : decode cX6_requireMask 6 = .ok (.sipush 255, 3) := by decide +kernel
theorem dX6_requireMask_9 : decode cX6_requireMask 9 = .ok (.if_icmp .le 13, 3) := by decide +kernel
theorem dX6_requireMask_12 : decode cX6_requireMask 12 = .ok (.new 54, 3) := by decide +kernel
theorem dX6_requireMask_15 : decode cX6_requireMask 15 = .ok (.dup, 1) := by decide +kernel
theorem dX6_requireMask_16 : decode cX6_requireMask 16 = .ok (.ldc 171, 2) := by decide +kernel
theorem dX6_requireMask_18 : decode cX6_requireMask 18 = .ok (.invokespecial 58, 3) := by decide +kernel
theorem dX6_requireMask_21 : decode cX6_requireMask 21 = .ok (.athrow, 1) := by decide +kernel
theorem dX6_requireMask_22 : decode cX6_requireMask 22 = .ok (.return_, 1) := by decide +kernel
theorem dX6_act_0 : decode cX6_act 0 = .ok (.aload_n 0, 1) := by decide +kernel
theorem dX6_act_1 : decode cX6_act 1 = .ok (.getfield 10, 3) := by decide +kernel
theorem dX6_act_4 : decode cX6_act 4 = .ok (.aload_n 0, 1) := by decide +kernel
theorem dX6_act_5 : decode cX6_act 5 = .ok (.getfield 19, 3) := by decide +kernel
theorem dX6_act_8 : decode cX6_act 8 = .ok (.invokevirtual 173, 3) := by decide +kernel
theorem dX6_act_11 : decode cX6_act 11 = .ok (.ifCond .ne 6, 3) := by decide +kernel
theorem dX6_act_14 : decode cX6_act 14 = .ok (.bipush (-2), 2) := by decide +kernel
theorem dX6_act_16 : decode cX6_act 16 = .ok (.ireturn, 1) := by decide +kernel
theorem dX6_act_17 : decode cX6_act 17 = .ok (.aload_n 0, 1) := by decide +kernel
theorem dX6_act_18 : decode cX6_act 18 = .ok (.getfield 40, 3) := by decide +kernel
theorem dX6_act_21 : decode cX6_act 21 = .ok (.invokevirtual 93, 3) := by decide +kernel
theorem dX6_act_24 : decode cX6_act 24 = .ok (.istore_n 2, 1) := by decide +kernel
theorem dX6_act_25 : decode cX6_act 25 = .ok (.aload_n 0, 1) := by decide +kernel
theorem dX6_act_26 : decode cX6_act 26 = .ok (.getfield 40, 3) := by decide +kernel
theorem dX6_act_29 : decode cX6_act 29 = .ok (.aload_n 0, 1) := by decide +kernel
theorem dX6_act_30 : decode cX6_act 30 = .ok (.getfield 19, 3) := by decide +kernel
theorem dX6_act_33 : decode cX6_act 33 = .ok (.iload_n 1, 1) := by decide +kernel
theorem dX6_act_34 : decode cX6_act 34 = .ok (.invokevirtual 176, 3) := by decide +kernel
theorem dX6_act_37 : decode cX6_act 37 = .ok (.ifCond .ne 5, 3) := by decide +kernel
theorem dX6_act_40 : decode cX6_act 40 = .ok (.iconst (-1), 1) := by decide +kernel
theorem dX6_act_41 : decode cX6_act 41 = .ok (.ireturn, 1) := by decide +kernel
theorem dX6_act_42 : decode cX6_act 42 = .ok (.aload_n 0, 1) := by decide +kernel
theorem dX6_act_43 : decode cX6_act 43 = .ok (.getfield 10, 3) := by decide +kernel
theorem dX6_act_46 : decode cX6_act 46 = .ok (.aload_n 0, 1) := by decide +kernel
theorem dX6_act_47 : decode cX6_act 47 = .ok (.getfield 19, 3) := by decide +kernel
theorem dX6_act_50 : decode cX6_act 50 = .ok (.iload_n 1, 1) := by decide +kernel
theorem dX6_act_51 : decode cX6_act 51 = .ok (.invokevirtual 180, 3) := by decide +kernel
theorem dX6_act_54 : decode cX6_act 54 = .ok (.iload_n 2, 1) := by decide +kernel
theorem dX6_act_55 : decode cX6_act 55 = .ok (.ireturn, 1) := by decide +kernel
theorem dX6_replay_0 : decode cX6_replay 0 = .ok (.iconst 0, 1) := by decide +kernel
theorem dX6_replay_1 : decode cX6_replay 1 = .ok (.istore_n 1, 1) := by decide +kernel
theorem dX6_replay_2 : decode cX6_replay 2 = .ok (.iconst 0, 1) := by decide +kernel
theorem dX6_replay_3 : decode cX6_replay 3 = .ok (.istore_n 2, 1) := by decide +kernel
theorem dX6_replay_4 : decode cX6_replay 4 = .ok (.iload_n 2, 1) := by decide +kernel
theorem dX6_replay_5 : decode cX6_replay 5 = .ok (.sipush 600, 3) := by decide +kernel
theorem dX6_replay_8 : decode cX6_replay 8 = .ok (.if_icmp .ge 69, 3) := by decide +kernel
theorem dX6_replay_11 : decode cX6_replay 11 = .ok (.aload_n 0, 1) := by decide +kernel
theorem dX6_replay_12 : decode cX6_replay 12 = .ok (.getfield 10, 3) := by decide +kernel
theorem dX6_replay_15 : decode cX6_replay 15 = .ok (.iload_n 1, 1) := by decide +kernel
theorem dX6_replay_16 : decode cX6_replay 16 = .ok (.invokevirtual 184, 3) := by decide +kernel
theorem dX6_replay_19 : decode cX6_replay 19 = .ok (.ifCond .ne 5, 3) := by decide +kernel
theorem dX6_replay_22 : decode cX6_replay 22 = .ok (.iload_n 1, 1) := by decide +kernel
theorem dX6_replay_23 : decode cX6_replay 23 = .ok (.ireturn, 1) := by decide +kernel
theorem dX6_replay_24 : decode cX6_replay 24 = .ok (.aload_n 0, 1) := by decide +kernel
theorem dX6_replay_25 : decode cX6_replay 25 = .ok (.getfield 10, 3) := by decide +kernel
theorem dX6_replay_28 : decode cX6_replay 28 = .ok (.iload_n 1, 1) := by decide +kernel
theorem dX6_replay_29 : decode cX6_replay 29 = .ok (.aload_n 0, 1) := by decide +kernel
theorem dX6_replay_30 : decode cX6_replay 30 = .ok (.getfield 23, 3) := by decide +kernel
theorem dX6_replay_33 : decode cX6_replay 33 = .ok (.invokevirtual 187, 3) := by decide +kernel
theorem dX6_replay_36 : decode cX6_replay 36 = .ok (.aload_n 0, 1) := by decide +kernel
theorem dX6_replay_37 : decode cX6_replay 37 = .ok (.getfield 40, 3) := by decide +kernel
theorem dX6_replay_40 : decode cX6_replay 40 = .ok (.aload_n 0, 1) := by decide +kernel
theorem dX6_replay_41 : decode cX6_replay 41 = .ok (.getfield 23, 3) := by decide +kernel
theorem dX6_replay_44 : decode cX6_replay 44 = .ok (.aload_n 0, 1) := by decide +kernel
theorem dX6_replay_45 : decode cX6_replay 45 = .ok (.getfield 10, 3) := by decide +kernel
theorem dX6_replay_48 : decode cX6_replay 48 = .ok (.iload_n 1, 1) := by decide +kernel
theorem dX6_replay_49 : decode cX6_replay 49 = .ok (.invokevirtual 191, 3) := by decide +kernel
theorem dX6_replay_52 : decode cX6_replay 52 = .ok (.invokevirtual 176, 3) := by decide +kernel
theorem dX6_replay_55 : decode cX6_replay 55 = .ok (.ifCond .ne 5, 3) := by decide +kernel
theorem dX6_replay_58 : decode cX6_replay 58 = .ok (.iload_n 1, 1) := by decide +kernel
theorem dX6_replay_59 : decode cX6_replay 59 = .ok (.ireturn, 1) := by decide +kernel
theorem dX6_replay_60 : decode cX6_replay 60 = .ok (.iload_n 1, 1) := by decide +kernel
theorem dX6_replay_61 : decode cX6_replay 61 = .ok (.aload_n 0, 1) := by decide +kernel
theorem dX6_replay_62 : decode cX6_replay 62 = .ok (.getfield 10, 3) := by decide +kernel
theorem dX6_replay_65 : decode cX6_replay 65 = .ok (.iload_n 1, 1) := by decide +kernel
theorem dX6_replay_66 : decode cX6_replay 66 = .ok (.invokevirtual 194, 3) := by decide +kernel
theorem dX6_replay_69 : decode cX6_replay 69 = .ok (.iadd, 1) := by decide +kernel
theorem dX6_replay_70 : decode cX6_replay 70 = .ok (.istore_n 1, 1) := by decide +kernel
theorem dX6_replay_71 : decode cX6_replay 71 = .ok (.iinc 2 1, 3) := by decide +kernel
theorem dX6_replay_74 : decode cX6_replay 74 = .ok (.goto (-70), 3) := by decide +kernel
theorem dX6_replay_77 : decode cX6_replay 77 = .ok (.iload_n 1, 1) := by decide +kernel
theorem dX6_replay_78 : decode cX6_replay 78 = .ok (.ireturn, 1) := by decide +kernel
theorem dX7_init_0 : decode cX7_init 0 = .ok (.aload_n 0, 1) := by decide +kernel
theorem dX7_init_1 : decode cX7_init 1 = .ok (.invokespecial 1, 3) := by decide +kernel
theorem dX7_init_4 : decode cX7_init 4 = .ok (.aload_n 0, 1) := by decide +kernel
theorem dX7_init_5 : decode cX7_init 5 = .ok (.iconst 3, 1) := by decide +kernel
theorem dX7_init_6 : decode cX7_init 6 = .ok (.newarray .int, 2) := by decide +kernel
theorem dX7_init_8 : decode cX7_init 8 = .ok (.putfield 7, 3) := by decide +kernel
theorem dX7_init_11 : decode cX7_init 11 = .ok (.aload_n 0, 1) := by decide +kernel
theorem dX7_init_12 : decode cX7_init 12 = .ok (.sipush 1200, 3) := by decide +kernel
theorem dX7_init_15 : decode cX7_init 15 = .ok (.newarray .int, 2) := by decide +kernel
theorem dX7_init_17 : decode cX7_init 17 = .ok (.putfield 13, 3) := by decide +kernel
theorem dX7_init_20 : decode cX7_init 20 = .ok (.aload_n 0, 1) := by decide +kernel
theorem dX7_init_21 : decode cX7_init 21 = .ok (.sipush 14400, 3) := by decide +kernel
theorem dX7_init_24 : decode cX7_init 24 = .ok (.newarray .int, 2) := by decide +kernel
theorem dX7_init_26 : decode cX7_init 26 = .ok (.putfield 16, 3) := by decide +kernel
theorem dX7_init_29 : decode cX7_init 29 = .ok (.aload_n 0, 1) := by decide +kernel
theorem dX7_init_30 : decode cX7_init 30 = .ok (.sipush 1200, 3) := by decide +kernel
theorem dX7_init_33 : decode cX7_init 33 = .ok (.newarray .int, 2) := by decide +kernel
theorem dX7_init_35 : decode cX7_init 35 = .ok (.putfield 19, 3) := by decide +kernel
theorem dX7_init_38 : decode cX7_init 38 = .ok (.aload_n 0, 1) := by decide +kernel
theorem dX7_init_39 : decode cX7_init 39 = .ok (.sipush 1200, 3) := by decide +kernel
theorem dX7_init_42 : decode cX7_init 42 = .ok (.newarray .int, 2) := by decide +kernel
theorem dX7_init_44 : decode cX7_init 44 = .ok (.putfield 22, 3) := by decide +kernel
theorem dX7_init_47 : decode cX7_init 47 = .ok (.aload_n 0, 1) := by decide +kernel
theorem dX7_init_48 : decode cX7_init 48 = .ok (.bipush 120, 2) := by decide +kernel
theorem dX7_init_50 : decode cX7_init 50 = .ok (.newarray .int, 2) := by decide +kernel
theorem dX7_init_52 : decode cX7_init 52 = .ok (.putfield 25, 3) := by decide +kernel
theorem dX7_init_55 : decode cX7_init 55 = .ok (.aload_n 0, 1) := by decide +kernel
theorem dX7_init_56 : decode cX7_init 56 = .ok (.bipush 120, 2) := by decide +kernel
theorem dX7_init_58 : decode cX7_init 58 = .ok (.newarray .boolean, 2) := by decide +kernel
theorem dX7_init_60 : decode cX7_init 60 = .ok (.putfield 28, 3) := by decide +kernel
theorem dX7_init_63 : decode cX7_init 63 = .ok (.aload_n 0, 1) := by decide +kernel
theorem dX7_init_64 : decode cX7_init 64 = .ok (.bipush 120, 2) := by decide +kernel
theorem dX7_init_66 : decode cX7_init 66 = .ok (.newarray .int, 2) := by decide +kernel
theorem dX7_init_68 : decode cX7_init 68 = .ok (.putfield 32, 3) := by decide +kernel
theorem dX7_init_71 : decode cX7_init 71 = .ok (.aload_n 0, 1) := by decide +kernel
theorem dX7_init_72 : decode cX7_init 72 = .ok (.sipush 1200, 3) := by decide +kernel
theorem dX7_init_75 : decode cX7_init 75 = .ok (.newarray .int, 2) := by decide +kernel
theorem dX7_init_77 : decode cX7_init 77 = .ok (.putfield 35, 3) := by decide +kernel
theorem dX7_init_80 : decode cX7_init 80 = .ok (.aload_n 0, 1) := by decide +kernel
theorem dX7_init_81 : decode cX7_init 81 = .ok (.iconst 3, 1) := by decide +kernel
theorem dX7_init_82 : decode cX7_init 82 = .ok (.newarray .int, 2) := by decide +kernel
theorem dX7_init_84 : decode cX7_init 84 = .ok (.putfield 38, 3) := by decide +kernel
theorem dX7_init_87 : decode cX7_init 87 = .ok (.aload_n 0, 1) := by decide +kernel
theorem dX7_init_88 : decode cX7_init 88 = .ok (.bipush 96, 2) := by decide +kernel
theorem dX7_init_90 : decode cX7_init 90 = .ok (.newarray .int, 2) := by decide +kernel
theorem dX7_init_92 : decode cX7_init 92 = .ok (.putfield 41, 3) := by decide +kernel
theorem dX7_init_95 : decode cX7_init 95 = .ok (.aload_n 0, 1) := by decide +kernel
theorem dX7_init_96 : decode cX7_init 96 = .ok (.iconst 3, 1) := by decide +kernel
theorem dX7_init_97 : decode cX7_init 97 = .ok (.newarray .int, 2) := by decide +kernel
theorem dX7_init_99 : decode cX7_init 99 = .ok (.putfield 44, 3) := by decide +kernel
theorem dX7_init_102 : decode cX7_init 102 = .ok (.aload_n 0, 1) := by decide +kernel
theorem dX7_init_103 : decode cX7_init 103 = .ok (.sipush 2560, 3) := by decide +kernel
theorem dX7_init_106 : decode cX7_init 106 = .ok (.newarray .int, 2) := by decide +kernel
theorem dX7_init_108 : decode cX7_init 108 = .ok (.putfield 47, 3) := by decide +kernel
theorem dX7_init_111 : decode cX7_init 111 = .ok (.aload_n 0, 1) := by decide +kernel
theorem dX7_init_112 : decode cX7_init 112 = .ok (.sipush 600, 3) := by decide +kernel
theorem dX7_init_115 : decode cX7_init 115 = .ok (.newarray .int, 2) := by decide +kernel
theorem dX7_init_117 : decode cX7_init 117 = .ok (.putfield 50, 3) := by decide +kernel
theorem dX7_init_120 : decode cX7_init 120 = .ok (.aload_n 0, 1) := by decide +kernel
theorem dX7_init_121 : decode cX7_init 121 = .ok (.bipush 12, 2) := by decide +kernel
theorem dX7_init_123 : decode cX7_init 123 = .ok (.newarray .int, 2) := by decide +kernel
theorem dX7_init_125 : decode cX7_init 125 = .ok (.putfield 53, 3) := by decide +kernel
theorem dX7_init_128 : decode cX7_init 128 = .ok (.aload_n 0, 1) := by decide +kernel
theorem dX7_init_129 : decode cX7_init 129 = .ok (.bipush 64, 2) := by decide +kernel
theorem dX7_init_131 : decode cX7_init 131 = .ok (.newarray .int, 2) := by decide +kernel
theorem dX7_init_133 : decode cX7_init 133 = .ok (.putfield 56, 3) := by decide +kernel
theorem dX7_init_136 : decode cX7_init 136 = .ok (.aload_n 0, 1) := by decide +kernel
theorem dX7_init_137 : decode cX7_init 137 = .ok (.iload_n 1, 1) := by decide +kernel
theorem dX7_init_138 : decode cX7_init 138 = .ok (.iconst 1, 1) := by decide +kernel
theorem dX7_init_139 : decode cX7_init 139 = .ok (.if_icmp .ge 7, 3) := by decide +kernel
theorem dX7_init_142 : decode cX7_init 142 = .ok (.iconst 1, 1) := by decide +kernel
theorem dX7_init_143 : decode cX7_init 143 = .ok (.goto 15, 3) := by decide +kernel
theorem dX7_init_146 : decode cX7_init 146 = .ok (.iload_n 1, 1) := by decide +kernel
theorem dX7_init_147 : decode cX7_init 147 = .ok (.bipush 40, 2) := by decide +kernel
theorem dX7_init_149 : decode cX7_init 149 = .ok (.if_icmp .le 8, 3) := by decide +kernel
theorem dX7_init_152 : decode cX7_init 152 = .ok (.bipush 40, 2) := by decide +kernel
theorem dX7_init_154 : decode cX7_init 154 = .ok (.goto 4, 3) := by decide +kernel
theorem dX7_init_157 : decode cX7_init 157 = .ok (.iload_n 1, 1) := by decide +kernel
theorem dX7_init_158 : decode cX7_init 158 = .ok (.putfield 59, 3) := by decide +kernel
theorem dX7_init_161 : decode cX7_init 161 = .ok (.aload_n 0, 1) := by decide +kernel
theorem dX7_init_162 : decode cX7_init 162 = .ok (.getfield 28, 3) := by decide +kernel
theorem dX7_init_165 : decode cX7_init 165 = .ok (.iconst 0, 1) := by decide +kernel
theorem dX7_init_166 : decode cX7_init 166 = .ok (.iconst 1, 1) := by decide +kernel
theorem dX7_init_167 : decode cX7_init 167 = .ok (.bastore, 1) := by decide +kernel
theorem dX7_init_168 : decode cX7_init 168 = .ok (.aload_n 0, 1) := by decide +kernel
theorem dX7_init_169 : decode cX7_init 169 = .ok (.iconst 1, 1) := by decide +kernel
theorem dX7_init_170 : decode cX7_init 170 = .ok (.iconst 0, 1) := by decide +kernel
theorem dX7_init_171 : decode cX7_init 171 = .ok (.invokevirtual 63, 3) := by decide +kernel
theorem dX7_init_174 : decode cX7_init 174 = .ok (.return_, 1) := by decide +kernel
theorem dX7_thrown_0 : decode cX7_thrown 0 = .ok (.aload_n 0, 1) := by decide +kernel
theorem dX7_thrown_1 : decode cX7_thrown 1 = .ok (.getfield 67, 3) := by decide +kernel
theorem dX7_thrown_4 : decode cX7_thrown 4 = .ok (.ireturn, 1) := by decide +kernel
theorem dX7_raise_0 : decode cX7_raise 0 = .ok (.aload_n 0, 1) := by decide +kernel
theorem dX7_raise_1 : decode cX7_raise 1 = .ok (.iload_n 1, 1) := by decide +kernel
theorem dX7_raise_2 : decode cX7_raise 2 = .ok (.putfield 67, 3) := by decide +kernel
theorem dX7_raise_5 : decode cX7_raise 5 = .ok (.iconst 0, 1) := by decide +kernel
theorem dX7_raise_6 : decode cX7_raise 6 = .ok (.ireturn, 1) := by decide +kernel
theorem dX7_in_0 : decode cX7_in 0 = .ok (.iload_n 0, 1) := by decide +kernel
theorem dX7_in_1 : decode cX7_in 1 = .ok (.iload_n 1, 1) := by decide +kernel
theorem dX7_in_2 : decode cX7_in 2 = .ok (.if_icmp .lt 12, 3) := by decide +kernel
theorem dX7_in_5 : decode cX7_in 5 = .ok (.iload_n 0, 1) := by decide +kernel
theorem dX7_in_6 : decode cX7_in 6 = .ok (.iload_n 2, 1) := by decide +kernel
theorem dX7_in_7 : decode cX7_in 7 = .ok (.if_icmp .gt 7, 3) := by decide +kernel
theorem dX7_in_10 : decode cX7_in 10 = .ok (.iconst 1, 1) := by decide +kernel
theorem dX7_in_11 : decode cX7_in 11 = .ok (.goto 4, 3) := by decide +kernel
theorem dX7_in_14 : decode cX7_in 14 = .ok (.iconst 0, 1) := by decide +kernel
theorem dX7_in_15 : decode cX7_in 15 = .ok (.ireturn, 1) := by decide +kernel
theorem dX7_more_0 : decode cX7_more 0 = .ok (.iload_n 0, 1) := by decide +kernel
theorem dX7_more_1 : decode cX7_more 1 = .ok (.iload_n 1, 1) := by decide +kernel
theorem dX7_more_2 : decode cX7_more 2 = .ok (.ixor, 1) := by decide +kernel
theorem dX7_more_3 : decode cX7_more 3 = .ok (.istore_n 2, 1) := by decide +kernel
theorem dX7_more_4 : decode cX7_more 4 = .ok (.iload_n 2, 1) := by decide +kernel
theorem dX7_more_5 : decode cX7_more 5 = .ok (.bipush 11, 2) := by decide +kernel
theorem dX7_more_7 : decode cX7_more 7 = .ok (.ishl, 1) := by decide +kernel
theorem dX7_more_8 : decode cX7_more 8 = .ok (.iload_n 2, 1) := by decide +kernel
theorem dX7_more_9 : decode cX7_more 9 = .ok (.bipush 21, 2) := by decide +kernel
theorem dX7_more_11 : decode cX7_more 11 = .ok (.iushr, 1) := by decide +kernel
theorem dX7_more_12 : decode cX7_more 12 = .ok (.ior, 1) := by decide +kernel
theorem dX7_more_13 : decode cX7_more 13 = .ok (.ldc 70, 2) := by decide +kernel
theorem dX7_more_15 : decode cX7_more 15 = .ok (.imul, 1) := by decide +kernel
theorem dX7_more_16 : decode cX7_more 16 = .ok (.ireturn, 1) := by decide +kernel
theorem dX7_copy_0 : decode cX7_copy 0 = .ok (.aload_n 0, 1) := by decide +kernel
theorem dX7_copy_1 : decode cX7_copy 1 = .ok (.getfield 7, 3) := by decide +kernel
theorem dX7_copy_4 : decode cX7_copy 4 = .ok (.iload_n 1, 1) := by decide +kernel
theorem dX7_copy_5 : decode cX7_copy 5 = .ok (.aload_n 0, 1) := by decide +kernel
theorem dX7_copy_6 : decode cX7_copy 6 = .ok (.getfield 7, 3) := by decide +kernel
theorem dX7_copy_9 : decode cX7_copy 9 = .ok (.iload_n 2, 1) := by decide +kernel
theorem dX7_copy_10 : decode cX7_copy 10 = .ok (.iaload, 1) := by decide +kernel
theorem dX7_copy_11 : decode cX7_copy 11 = .ok (.iastore, 1) := by decide +kernel
theorem dX7_copy_12 : decode cX7_copy 12 = .ok (.aload_n 0, 1) := by decide +kernel
theorem dX7_copy_13 : decode cX7_copy 13 = .ok (.getfield 38, 3) := by decide +kernel
theorem dX7_copy_16 : decode cX7_copy 16 = .ok (.iload_n 1, 1) := by decide +kernel
theorem dX7_copy_17 : decode cX7_copy 17 = .ok (.aload_n 0, 1) := by decide +kernel
theorem dX7_copy_18 : decode cX7_copy 18 = .ok (.getfield 38, 3) := by decide +kernel
theorem dX7_copy_21 : decode cX7_copy 21 = .ok (.iload_n 2, 1) := by decide +kernel
theorem dX7_copy_22 : decode cX7_copy 22 = .ok (.iaload, 1) := by decide +kernel
theorem dX7_copy_23 : decode cX7_copy 23 = .ok (.iastore, 1) := by decide +kernel
theorem dX7_copy_24 : decode cX7_copy 24 = .ok (.aload_n 0, 1) := by decide +kernel
theorem dX7_copy_25 : decode cX7_copy 25 = .ok (.getfield 44, 3) := by decide +kernel
theorem dX7_copy_28 : decode cX7_copy 28 = .ok (.iload_n 1, 1) := by decide +kernel
theorem dX7_copy_29 : decode cX7_copy 29 = .ok (.aload_n 0, 1) := by decide +kernel
theorem dX7_copy_30 : decode cX7_copy 30 = .ok (.getfield 44, 3) := by decide +kernel
theorem dX7_copy_33 : decode cX7_copy 33 = .ok (.iload_n 2, 1) := by decide +kernel
theorem dX7_copy_34 : decode cX7_copy 34 = .ok (.iaload, 1) := by decide +kernel
theorem dX7_copy_35 : decode cX7_copy 35 = .ok (.iastore, 1) := by decide +kernel
theorem dX7_copy_36 : decode cX7_copy 36 = .ok (.iconst 0, 1) := by decide +kernel
theorem dX7_copy_37 : decode cX7_copy 37 = .ok (.istore_n 3, 1) := by decide +kernel
theorem dX7_copy_38 : decode cX7_copy 38 = .ok (.iload_n 3, 1) := by decide +kernel
theorem dX7_copy_39 : decode cX7_copy 39 = .ok (.sipush 400, 3) := by decide +kernel
theorem dX7_copy_42 : decode cX7_copy 42 = .ok (.if_icmp .ge 105, 3) := by decide +kernel
theorem dX7_copy_45 : decode cX7_copy 45 = .ok (.aload_n 0, 1) := by decide +kernel
theorem dX7_copy_46 : decode cX7_copy 46 = .ok (.getfield 13, 3) := by decide +kernel
theorem dX7_copy_49 : decode cX7_copy 49 = .ok (.sipush 400, 3) := by decide +kernel
theorem dX7_copy_52 : decode cX7_copy 52 = .ok (.iload_n 1, 1) := by decide +kernel
theorem dX7_copy_53 : decode cX7_copy 53 = .ok (.imul, 1) := by decide +kernel
theorem dX7_copy_54 : decode cX7_copy 54 = .ok (.iload_n 3, 1) := by decide +kernel
theorem dX7_copy_55 : decode cX7_copy 55 = .ok (.iadd, 1) := by decide +kernel
theorem dX7_copy_56 : decode cX7_copy 56 = .ok (.aload_n 0, 1) := by decide +kernel
theorem dX7_copy_57 : decode cX7_copy 57 = .ok (.getfield 13, 3) := by decide +kernel
theorem dX7_copy_60 : decode cX7_copy 60 = .ok (.sipush 400, 3) := by decide +kernel
theorem dX7_copy_63 : decode cX7_copy 63 = .ok (.iload_n 2, 1) := by decide +kernel
theorem dX7_copy_64 : decode cX7_copy 64 = .ok (.imul, 1) := by decide +kernel
theorem dX7_copy_65 : decode cX7_copy 65 = .ok (.iload_n 3, 1) := by decide +kernel
theorem dX7_copy_66 : decode cX7_copy 66 = .ok (.iadd, 1) := by decide +kernel
theorem dX7_copy_67 : decode cX7_copy 67 = .ok (.iaload, 1) := by decide +kernel
theorem dX7_copy_68 : decode cX7_copy 68 = .ok (.iastore, 1) := by decide +kernel
theorem dX7_copy_69 : decode cX7_copy 69 = .ok (.aload_n 0, 1) := by decide +kernel
theorem dX7_copy_70 : decode cX7_copy 70 = .ok (.getfield 19, 3) := by decide +kernel
theorem dX7_copy_73 : decode cX7_copy 73 = .ok (.sipush 400, 3) := by decide +kernel
theorem dX7_copy_76 : decode cX7_copy 76 = .ok (.iload_n 1, 1) := by decide +kernel
theorem dX7_copy_77 : decode cX7_copy 77 = .ok (.imul, 1) := by decide +kernel
theorem dX7_copy_78 : decode cX7_copy 78 = .ok (.iload_n 3, 1) := by decide +kernel
theorem dX7_copy_79 : decode cX7_copy 79 = .ok (.iadd, 1) := by decide +kernel
theorem dX7_copy_80 : decode cX7_copy 80 = .ok (.aload_n 0, 1) := by decide +kernel
theorem dX7_copy_81 : decode cX7_copy 81 = .ok (.getfield 19, 3) := by decide +kernel
theorem dX7_copy_84 : decode cX7_copy 84 = .ok (.sipush 400, 3) := by decide +kernel
theorem dX7_copy_87 : decode cX7_copy 87 = .ok (.iload_n 2, 1) := by decide +kernel
theorem dX7_copy_88 : decode cX7_copy 88 = .ok (.imul, 1) := by decide +kernel
theorem dX7_copy_89 : decode cX7_copy 89 = .ok (.iload_n 3, 1) := by decide +kernel
theorem dX7_copy_90 : decode cX7_copy 90 = .ok (.iadd, 1) := by decide +kernel
theorem dX7_copy_91 : decode cX7_copy 91 = .ok (.iaload, 1) := by decide +kernel
theorem dX7_copy_92 : decode cX7_copy 92 = .ok (.iastore, 1) := by decide +kernel
theorem dX7_copy_93 : decode cX7_copy 93 = .ok (.aload_n 0, 1) := by decide +kernel
theorem dX7_copy_94 : decode cX7_copy 94 = .ok (.getfield 22, 3) := by decide +kernel
theorem dX7_copy_97 : decode cX7_copy 97 = .ok (.sipush 400, 3) := by decide +kernel
theorem dX7_copy_100 : decode cX7_copy 100 = .ok (.iload_n 1, 1) := by decide +kernel
theorem dX7_copy_101 : decode cX7_copy 101 = .ok (.imul, 1) := by decide +kernel
theorem dX7_copy_102 : decode cX7_copy 102 = .ok (.iload_n 3, 1) := by decide +kernel
theorem dX7_copy_103 : decode cX7_copy 103 = .ok (.iadd, 1) := by decide +kernel
theorem dX7_copy_104 : decode cX7_copy 104 = .ok (.aload_n 0, 1) := by decide +kernel
theorem dX7_copy_105 : decode cX7_copy 105 = .ok (.getfield 22, 3) := by decide +kernel
theorem dX7_copy_108 : decode cX7_copy 108 = .ok (.sipush 400, 3) := by decide +kernel
theorem dX7_copy_111 : decode cX7_copy 111 = .ok (.iload_n 2, 1) := by decide +kernel
theorem dX7_copy_112 : decode cX7_copy 112 = .ok (.imul, 1) := by decide +kernel
theorem dX7_copy_113 : decode cX7_copy 113 = .ok (.iload_n 3, 1) := by decide +kernel
theorem dX7_copy_114 : decode cX7_copy 114 = .ok (.iadd, 1) := by decide +kernel
theorem dX7_copy_115 : decode cX7_copy 115 = .ok (.iaload, 1) := by decide +kernel
theorem dX7_copy_116 : decode cX7_copy 116 = .ok (.iastore, 1) := by decide +kernel
theorem dX7_copy_117 : decode cX7_copy 117 = .ok (.aload_n 0, 1) := by decide +kernel
theorem dX7_copy_118 : decode cX7_copy 118 = .ok (.getfield 35, 3) := by decide +kernel
theorem dX7_copy_121 : decode cX7_copy 121 = .ok (.sipush 400, 3) := by decide +kernel
theorem dX7_copy_124 : decode cX7_copy 124 = .ok (.iload_n 1, 1) := by decide +kernel
theorem dX7_copy_125 : decode cX7_copy 125 = .ok (.imul, 1) := by decide +kernel
theorem dX7_copy_126 : decode cX7_copy 126 = .ok (.iload_n 3, 1) := by decide +kernel
theorem dX7_copy_127 : decode cX7_copy 127 = .ok (.iadd, 1) := by decide +kernel
theorem dX7_copy_128 : decode cX7_copy 128 = .ok (.aload_n 0, 1) := by decide +kernel
theorem dX7_copy_129 : decode cX7_copy 129 = .ok (.getfield 35, 3) := by decide +kernel
theorem dX7_copy_132 : decode cX7_copy 132 = .ok (.sipush 400, 3) := by decide +kernel
theorem dX7_copy_135 : decode cX7_copy 135 = .ok (.iload_n 2, 1) := by decide +kernel
theorem dX7_copy_136 : decode cX7_copy 136 = .ok (.imul, 1) := by decide +kernel
theorem dX7_copy_137 : decode cX7_copy 137 = .ok (.iload_n 3, 1) := by decide +kernel
theorem dX7_copy_138 : decode cX7_copy 138 = .ok (.iadd, 1) := by decide +kernel
theorem dX7_copy_139 : decode cX7_copy 139 = .ok (.iaload, 1) := by decide +kernel
theorem dX7_copy_140 : decode cX7_copy 140 = .ok (.iastore, 1) := by decide +kernel
theorem dX7_copy_141 : decode cX7_copy 141 = .ok (.iinc 3 1, 3) := by decide +kernel
theorem dX7_copy_144 : decode cX7_copy 144 = .ok (.goto (-106), 3) := by decide +kernel
theorem dX7_copy_147 : decode cX7_copy 147 = .ok (.iconst 0, 1) := by decide +kernel
theorem dX7_copy_148 : decode cX7_copy 148 = .ok (.istore_n 3, 1) := by decide +kernel
theorem dX7_copy_149 : decode cX7_copy 149 = .ok (.iload_n 3, 1) := by decide +kernel
theorem dX7_copy_150 : decode cX7_copy 150 = .ok (.sipush 4800, 3) := by decide +kernel
theorem dX7_copy_153 : decode cX7_copy 153 = .ok (.if_icmp .ge 33, 3) := by decide +kernel
theorem dX7_copy_156 : decode cX7_copy 156 = .ok (.aload_n 0, 1) := by decide +kernel
theorem dX7_copy_157 : decode cX7_copy 157 = .ok (.getfield 16, 3) := by decide +kernel
theorem dX7_copy_160 : decode cX7_copy 160 = .ok (.sipush 4800, 3) := by decide +kernel
theorem dX7_copy_163 : decode cX7_copy 163 = .ok (.iload_n 1, 1) := by decide +kernel
theorem dX7_copy_164 : decode cX7_copy 164 = .ok (.imul, 1) := by decide +kernel
theorem dX7_copy_165 : decode cX7_copy 165 = .ok (.iload_n 3, 1) := by decide +kernel
theorem dX7_copy_166 : decode cX7_copy 166 = .ok (.iadd, 1) := by decide +kernel
theorem dX7_copy_167 : decode cX7_copy 167 = .ok (.aload_n 0, 1) := by decide +kernel
theorem dX7_copy_168 : decode cX7_copy 168 = .ok (.getfield 16, 3) := by decide +kernel
theorem dX7_copy_171 : decode cX7_copy 171 = .ok (.sipush 4800, 3) := by decide +kernel
theorem dX7_copy_174 : decode cX7_copy 174 = .ok (.iload_n 2, 1) := by decide +kernel
theorem dX7_copy_175 : decode cX7_copy 175 = .ok (.imul, 1) := by decide +kernel
theorem dX7_copy_176 : decode cX7_copy 176 = .ok (.iload_n 3, 1) := by decide +kernel
theorem dX7_copy_177 : decode cX7_copy 177 = .ok (.iadd, 1) := by decide +kernel
theorem dX7_copy_178 : decode cX7_copy 178 = .ok (.iaload, 1) := by decide +kernel
theorem dX7_copy_179 : decode cX7_copy 179 = .ok (.iastore, 1) := by decide +kernel
theorem dX7_copy_180 : decode cX7_copy 180 = .ok (.iinc 3 1, 3) := by decide +kernel
theorem dX7_copy_183 : decode cX7_copy 183 = .ok (.goto (-34), 3) := by decide +kernel
theorem dX7_copy_186 : decode cX7_copy 186 = .ok (.iconst 0, 1) := by decide +kernel
theorem dX7_copy_187 : decode cX7_copy 187 = .ok (.istore_n 3, 1) := by decide +kernel
theorem dX7_copy_188 : decode cX7_copy 188 = .ok (.iload_n 3, 1) := by decide +kernel
theorem dX7_copy_189 : decode cX7_copy 189 = .ok (.bipush 40, 2) := by decide +kernel
theorem dX7_copy_191 : decode cX7_copy 191 = .ok (.if_icmp .ge 75, 3) := by decide +kernel
theorem dX7_copy_194 : decode cX7_copy 194 = .ok (.aload_n 0, 1) := by decide +kernel
theorem dX7_copy_195 : decode cX7_copy 195 = .ok (.getfield 25, 3) := by decide +kernel
theorem dX7_copy_198 : decode cX7_copy 198 = .ok (.bipush 40, 2) := by decide +kernel
theorem dX7_copy_200 : decode cX7_copy 200 = .ok (.iload_n 1, 1) := by decide +kernel
theorem dX7_copy_201 : decode cX7_copy 201 = .ok (.imul, 1) := by decide +kernel
theorem dX7_copy_202 : decode cX7_copy 202 = .ok (.iload_n 3, 1) := by decide +kernel
theorem dX7_copy_203 : decode cX7_copy 203 = .ok (.iadd, 1) := by decide +kernel
theorem dX7_copy_204 : decode cX7_copy 204 = .ok (.aload_n 0, 1) := by decide +kernel
theorem dX7_copy_205 : decode cX7_copy 205 = .ok (.getfield 25, 3) := by decide +kernel
theorem dX7_copy_208 : decode cX7_copy 208 = .ok (.bipush 40, 2) := by decide +kernel
theorem dX7_copy_210 : decode cX7_copy 210 = .ok (.iload_n 2, 1) := by decide +kernel
theorem dX7_copy_211 : decode cX7_copy 211 = .ok (.imul, 1) := by decide +kernel
theorem dX7_copy_212 : decode cX7_copy 212 = .ok (.iload_n 3, 1) := by decide +kernel
theorem dX7_copy_213 : decode cX7_copy 213 = .ok (.iadd, 1) := by decide +kernel
theorem dX7_copy_214 : decode cX7_copy 214 = .ok (.iaload, 1) := by decide +kernel
theorem dX7_copy_215 : decode cX7_copy 215 = .ok (.iastore, 1) := by decide +kernel
theorem dX7_copy_216 : decode cX7_copy 216 = .ok (.aload_n 0, 1) := by decide +kernel
theorem dX7_copy_217 : decode cX7_copy 217 = .ok (.getfield 28, 3) := by decide +kernel
theorem dX7_copy_220 : decode cX7_copy 220 = .ok (.bipush 40, 2) := by decide +kernel
theorem dX7_copy_222 : decode cX7_copy 222 = .ok (.iload_n 1, 1) := by decide +kernel
theorem dX7_copy_223 : decode cX7_copy 223 = .ok (.imul, 1) := by decide +kernel
theorem dX7_copy_224 : decode cX7_copy 224 = .ok (.iload_n 3, 1) := by decide +kernel
theorem dX7_copy_225 : decode cX7_copy 225 = .ok (.iadd, 1) := by decide +kernel
theorem dX7_copy_226 : decode cX7_copy 226 = .ok (.aload_n 0, 1) := by decide +kernel
theorem dX7_copy_227 : decode cX7_copy 227 = .ok (.getfield 28, 3) := by decide +kernel
theorem dX7_copy_230 : decode cX7_copy 230 = .ok (.bipush 40, 2) := by decide +kernel
theorem dX7_copy_232 : decode cX7_copy 232 = .ok (.iload_n 2, 1) := by decide +kernel
theorem dX7_copy_233 : decode cX7_copy 233 = .ok (.imul, 1) := by decide +kernel
theorem dX7_copy_234 : decode cX7_copy 234 = .ok (.iload_n 3, 1) := by decide +kernel
theorem dX7_copy_235 : decode cX7_copy 235 = .ok (.iadd, 1) := by decide +kernel
theorem dX7_copy_236 : decode cX7_copy 236 = .ok (.baload, 1) := by decide +kernel
theorem dX7_copy_237 : decode cX7_copy 237 = .ok (.bastore, 1) := by decide +kernel
theorem dX7_copy_238 : decode cX7_copy 238 = .ok (.aload_n 0, 1) := by decide +kernel
theorem dX7_copy_239 : decode cX7_copy 239 = .ok (.getfield 32, 3) := by decide +kernel
theorem dX7_copy_242 : decode cX7_copy 242 = .ok (.bipush 40, 2) := by decide +kernel
theorem dX7_copy_244 : decode cX7_copy 244 = .ok (.iload_n 1, 1) := by decide +kernel
theorem dX7_copy_245 : decode cX7_copy 245 = .ok (.imul, 1) := by decide +kernel
theorem dX7_copy_246 : decode cX7_copy 246 = .ok (.iload_n 3, 1) := by decide +kernel
theorem dX7_copy_247 : decode cX7_copy 247 = .ok (.iadd, 1) := by decide +kernel
theorem dX7_copy_248 : decode cX7_copy 248 = .ok (.aload_n 0, 1) := by decide +kernel
theorem dX7_copy_249 : decode cX7_copy 249 = .ok (.getfield 32, 3) := by decide +kernel
theorem dX7_copy_252 : decode cX7_copy 252 = .ok (.bipush 40, 2) := by decide +kernel
theorem dX7_copy_254 : decode cX7_copy 254 = .ok (.iload_n 2, 1) := by decide +kernel
theorem dX7_copy_255 : decode cX7_copy 255 = .ok (.imul, 1) := by decide +kernel
theorem dX7_copy_256 : decode cX7_copy 256 = .ok (.iload_n 3, 1) := by decide +kernel
theorem dX7_copy_257 : decode cX7_copy 257 = .ok (.iadd, 1) := by decide +kernel
theorem dX7_copy_258 : decode cX7_copy 258 = .ok (.iaload, 1) := by decide +kernel
theorem dX7_copy_259 : decode cX7_copy 259 = .ok (.iastore, 1) := by decide +kernel
theorem dX7_copy_260 : decode cX7_copy 260 = .ok (.iinc 3 1, 3) := by decide +kernel
theorem dX7_copy_263 : decode cX7_copy 263 = .ok (.goto (-75), 3) := by decide +kernel
theorem dX7_copy_266 : decode cX7_copy 266 = .ok (.iconst 0, 1) := by decide +kernel
theorem dX7_copy_267 : decode cX7_copy 267 = .ok (.istore_n 3, 1) := by decide +kernel
theorem dX7_copy_268 : decode cX7_copy 268 = .ok (.iload_n 3, 1) := by decide +kernel
theorem dX7_copy_269 : decode cX7_copy 269 = .ok (.bipush 32, 2) := by decide +kernel
theorem dX7_copy_271 : decode cX7_copy 271 = .ok (.if_icmp .ge 31, 3) := by decide +kernel
theorem dX7_copy_274 : decode cX7_copy 274 = .ok (.aload_n 0, 1) := by decide +kernel
theorem dX7_copy_275 : decode cX7_copy 275 = .ok (.getfield 41, 3) := by decide +kernel
theorem dX7_copy_278 : decode cX7_copy 278 = .ok (.bipush 32, 2) := by decide +kernel
theorem dX7_copy_280 : decode cX7_copy 280 = .ok (.iload_n 1, 1) := by decide +kernel
theorem dX7_copy_281 : decode cX7_copy 281 = .ok (.imul, 1) := by decide +kernel
theorem dX7_copy_282 : decode cX7_copy 282 = .ok (.iload_n 3, 1) := by decide +kernel
theorem dX7_copy_283 : decode cX7_copy 283 = .ok (.iadd, 1) := by decide +kernel
theorem dX7_copy_284 : decode cX7_copy 284 = .ok (.aload_n 0, 1) := by decide +kernel
theorem dX7_copy_285 : decode cX7_copy 285 = .ok (.getfield 41, 3) := by decide +kernel
theorem dX7_copy_288 : decode cX7_copy 288 = .ok (.bipush 32, 2) := by decide +kernel
theorem dX7_copy_290 : decode cX7_copy 290 = .ok (.iload_n 2, 1) := by decide +kernel
theorem dX7_copy_291 : decode cX7_copy 291 = .ok (.imul, 1) := by decide +kernel
theorem dX7_copy_292 : decode cX7_copy 292 = .ok (.iload_n 3, 1) := by decide +kernel
end
section
theorem dX7_copy_293 : decode cX7_copy 293 = .ok (.iadd, 1) := by decide +kernel
theorem dX7_copy_294 : decode cX7_copy 294 = .ok (.iaload, 1) := by decide +kernel
theorem dX7_copy_295 : decode cX7_copy 295 = .ok (.iastore, 1) := by decide +kernel
theorem dX7_copy_296 : decode cX7_copy 296 = .ok (.iinc 3 1, 3) := by decide +kernel
theorem dX7_copy_299 : decode cX7_copy 299 = .ok (.goto (-31), 3) := by decide +kernel
theorem dX7_copy_302 : decode cX7_copy 302 = .ok (.return_, 1) := by decide +kernel
theorem dX7_feed_0 : decode cX7_feed 0 = .ok (.aload_n 0, 1) := by decide +kernel
theorem dX7_feed_1 : decode cX7_feed 1 = .ok (.iload_n 1, 1) := by decide +kernel
theorem dX7_feed_2 : decode cX7_feed 2 = .ok (.iconst 0, 1) := by decide +kernel
theorem dX7_feed_3 : decode cX7_feed 3 = .ok (.sipush 255, 3) := by decide +kernel
theorem dX7_feed_6 : decode cX7_feed 6 = .ok (.invokestatic 71, 3) := by decide +kernel
theorem dX7_feed_9 : decode cX7_feed 9 = .ok (.ifCond .eq 7, 3) := by decide +kernel
theorem dX7_feed_12 : decode cX7_feed 12 = .ok (.iconst 0, 1) := by decide +kernel
theorem dX7_feed_13 : decode cX7_feed 13 = .ok (.goto 4, 3) := by decide +kernel
theorem dX7_feed_16 : decode cX7_feed 16 = .ok (.iconst 1, 1) := by decide +kernel
theorem dX7_feed_17 : decode cX7_feed 17 = .ok (.putfield 67, 3) := by decide +kernel
theorem dX7_feed_20 : decode cX7_feed 20 = .ok (.aload_n 0, 1) := by decide +kernel
theorem dX7_feed_21 : decode cX7_feed 21 = .ok (.getfield 67, 3) := by decide +kernel
theorem dX7_feed_24 : decode cX7_feed 24 = .ok (.ifCond .gt 12, 3) := by decide +kernel
theorem dX7_feed_27 : decode cX7_feed 27 = .ok (.aload_n 0, 1) := by decide +kernel
theorem dX7_feed_28 : decode cX7_feed 28 = .ok (.getfield 75, 3) := by decide +kernel
theorem dX7_feed_31 : decode cX7_feed 31 = .ok (.bipush 12, 2) := by decide +kernel
theorem dX7_feed_33 : decode cX7_feed 33 = .ok (.if_icmp .ne 5, 3) := by decide +kernel
theorem dX7_feed_36 : decode cX7_feed 36 = .ok (.iconst 0, 1) := by decide +kernel
theorem dX7_feed_37 : decode cX7_feed 37 = .ok (.ireturn, 1) := by decide +kernel
theorem dX7_feed_38 : decode cX7_feed 38 = .ok (.aload_n 0, 1) := by decide +kernel
theorem dX7_feed_39 : decode cX7_feed 39 = .ok (.getfield 53, 3) := by decide +kernel
theorem dX7_feed_42 : decode cX7_feed 42 = .ok (.aload_n 0, 1) := by decide +kernel
theorem dX7_feed_43 : decode cX7_feed 43 = .ok (.getfield 75, 3) := by decide +kernel
theorem dX7_feed_46 : decode cX7_feed 46 = .ok (.iload_n 1, 1) := by decide +kernel
theorem dX7_feed_47 : decode cX7_feed 47 = .ok (.iastore, 1) := by decide +kernel
theorem dX7_feed_48 : decode cX7_feed 48 = .ok (.aload_n 0, 1) := by decide +kernel
theorem dX7_feed_49 : decode cX7_feed 49 = .ok (.dup, 1) := by decide +kernel
theorem dX7_feed_50 : decode cX7_feed 50 = .ok (.getfield 75, 3) := by decide +kernel
theorem dX7_feed_53 : decode cX7_feed 53 = .ok (.iconst 1, 1) := by decide +kernel
theorem dX7_feed_54 : decode cX7_feed 54 = .ok (.iadd, 1) := by decide +kernel
theorem dX7_feed_55 : decode cX7_feed 55 = .ok (.putfield 75, 3) := by decide +kernel
theorem dX7_feed_58 : decode cX7_feed 58 = .ok (.iconst 1, 1) := by decide +kernel
theorem dX7_feed_59 : decode cX7_feed 59 = .ok (.ireturn, 1) := by decide +kernel
theorem dX7_isAltered_0 : decode cX7_isAltered 0 = .ok (.iconst 0, 1) := by decide +kernel
theorem dX7_isAltered_1 : decode cX7_isAltered 1 = .ok (.istore_n 1, 1) := by decide +kernel
theorem dX7_isAltered_2 : decode cX7_isAltered 2 = .ok (.iconst 0, 1) := by decide +kernel
theorem dX7_isAltered_3 : decode cX7_isAltered 3 = .ok (.istore_n 2, 1) := by decide +kernel
theorem dX7_isAltered_4 : decode cX7_isAltered 4 = .ok (.iload_n 2, 1) := by decide +kernel
theorem dX7_isAltered_5 : decode cX7_isAltered 5 = .ok (.sipush 2560, 3) := by decide +kernel
theorem dX7_isAltered_8 : decode cX7_isAltered 8 = .ok (.if_icmp .ge 28, 3) := by decide +kernel
theorem dX7_isAltered_11 : decode cX7_isAltered 11 = .ok (.iload_n 1, 1) := by decide +kernel
theorem dX7_isAltered_12 : decode cX7_isAltered 12 = .ok (.ifCond .ne 12, 3) := by decide +kernel
theorem dX7_isAltered_15 : decode cX7_isAltered 15 = .ok (.aload_n 0, 1) := by decide +kernel
theorem dX7_isAltered_16 : decode cX7_isAltered 16 = .ok (.getfield 47, 3) := by decide +kernel
theorem dX7_isAltered_19 : decode cX7_isAltered 19 = .ok (.iload_n 2, 1) := by decide +kernel
theorem dX7_isAltered_20 : decode cX7_isAltered 20 = .ok (.iaload, 1) := by decide +kernel
theorem dX7_isAltered_21 : decode cX7_isAltered 21 = .ok (.ifCond .eq 7, 3) := by decide +kernel
theorem dX7_isAltered_24 : decode cX7_isAltered 24 = .ok (.iconst 1, 1) := by decide +kernel
theorem dX7_isAltered_25 : decode cX7_isAltered 25 = .ok (.goto 4, 3) := by decide +kernel
theorem dX7_isAltered_28 : decode cX7_isAltered 28 = .ok (.iconst 0, 1) := by decide +kernel
theorem dX7_isAltered_29 : decode cX7_isAltered 29 = .ok (.istore_n 1, 1) := by decide +kernel
theorem dX7_isAltered_30 : decode cX7_isAltered 30 = .ok (.iinc 2 1, 3) := by decide +kernel
theorem dX7_isAltered_33 : decode cX7_isAltered 33 = .ok (.goto (-29), 3) := by decide +kernel
theorem dX7_isAltered_36 : decode cX7_isAltered 36 = .ok (.iload_n 1, 1) := by decide +kernel
theorem dX7_isAltered_37 : decode cX7_isAltered 37 = .ok (.ireturn, 1) := by decide +kernel
theorem dX7_may_0 : decode cX7_may 0 = .ok (.aload_n 0, 1) := by decide +kernel
theorem dX7_may_1 : decode cX7_may 1 = .ok (.aload_n 0, 1) := by decide +kernel
theorem dX7_may_2 : decode cX7_may 2 = .ok (.getfield 75, 3) := by decide +kernel
theorem dX7_may_5 : decode cX7_may 5 = .ok (.ifCond .eq 10, 3) := by decide +kernel
theorem dX7_may_8 : decode cX7_may 8 = .ok (.aload_n 0, 1) := by decide +kernel
theorem dX7_may_9 : decode cX7_may 9 = .ok (.invokevirtual 78, 3) := by decide +kernel
theorem dX7_may_12 : decode cX7_may 12 = .ok (.ifCond .eq 7, 3) := by decide +kernel
theorem dX7_may_15 : decode cX7_may 15 = .ok (.iconst 1, 1) := by decide +kernel
theorem dX7_may_16 : decode cX7_may 16 = .ok (.goto 4, 3) := by decide +kernel
theorem dX7_may_19 : decode cX7_may 19 = .ok (.iconst 0, 1) := by decide +kernel
theorem dX7_may_20 : decode cX7_may 20 = .ok (.putfield 67, 3) := by decide +kernel
theorem dX7_may_23 : decode cX7_may 23 = .ok (.aload_n 0, 1) := by decide +kernel
theorem dX7_may_24 : decode cX7_may 24 = .ok (.getfield 67, 3) := by decide +kernel
theorem dX7_may_27 : decode cX7_may 27 = .ok (.ifCond .ne 7, 3) := by decide +kernel
theorem dX7_may_30 : decode cX7_may 30 = .ok (.iconst 1, 1) := by decide +kernel
theorem dX7_may_31 : decode cX7_may 31 = .ok (.goto 4, 3) := by decide +kernel
theorem dX7_may_34 : decode cX7_may 34 = .ok (.iconst 0, 1) := by decide +kernel
theorem dX7_may_35 : decode cX7_may 35 = .ok (.ireturn, 1) := by decide +kernel
theorem dX7_hashOf_0 : decode cX7_hashOf 0 = .ok (.iconst 0, 1) := by decide +kernel
theorem dX7_hashOf_1 : decode cX7_hashOf 1 = .ok (.istore_n 1, 1) := by decide +kernel
theorem dX7_hashOf_2 : decode cX7_hashOf 2 = .ok (.iconst 0, 1) := by decide +kernel
theorem dX7_hashOf_3 : decode cX7_hashOf 3 = .ok (.istore_n 2, 1) := by decide +kernel
theorem dX7_hashOf_4 : decode cX7_hashOf 4 = .ok (.iload_n 2, 1) := by decide +kernel
theorem dX7_hashOf_5 : decode cX7_hashOf 5 = .ok (.aload_n 0, 1) := by decide +kernel
theorem dX7_hashOf_6 : decode cX7_hashOf 6 = .ok (.getfield 75, 3) := by decide +kernel
theorem dX7_hashOf_9 : decode cX7_hashOf 9 = .ok (.if_icmp .ge 20, 3) := by decide +kernel
theorem dX7_hashOf_12 : decode cX7_hashOf 12 = .ok (.iload_n 1, 1) := by decide +kernel
theorem dX7_hashOf_13 : decode cX7_hashOf 13 = .ok (.aload_n 0, 1) := by decide +kernel
theorem dX7_hashOf_14 : decode cX7_hashOf 14 = .ok (.getfield 53, 3) := by decide +kernel
theorem dX7_hashOf_17 : decode cX7_hashOf 17 = .ok (.iload_n 2, 1) := by decide +kernel
theorem dX7_hashOf_18 : decode cX7_hashOf 18 = .ok (.iaload, 1) := by decide +kernel
theorem dX7_hashOf_19 : decode cX7_hashOf 19 = .ok (.invokestatic 82, 3) := by decide +kernel
theorem dX7_hashOf_22 : decode cX7_hashOf 22 = .ok (.istore_n 1, 1) := by decide +kernel
theorem dX7_hashOf_23 : decode cX7_hashOf 23 = .ok (.iinc 2 1, 3) := by decide +kernel
theorem dX7_hashOf_26 : decode cX7_hashOf 26 = .ok (.goto (-22), 3) := by decide +kernel
theorem dX7_hashOf_29 : decode cX7_hashOf 29 = .ok (.iload_n 1, 1) := by decide +kernel
theorem dX7_hashOf_30 : decode cX7_hashOf 30 = .ok (.ireturn, 1) := by decide +kernel
theorem dX7_look_0 : decode cX7_look 0 = .ok (.iconst 0, 1) := by decide +kernel
theorem dX7_look_1 : decode cX7_look 1 = .ok (.istore_n 1, 1) := by decide +kernel
theorem dX7_look_2 : decode cX7_look 2 = .ok (.iload_n 1, 1) := by decide +kernel
theorem dX7_look_3 : decode cX7_look 3 = .ok (.aload_n 0, 1) := by decide +kernel
theorem dX7_look_4 : decode cX7_look 4 = .ok (.getfield 7, 3) := by decide +kernel
theorem dX7_look_7 : decode cX7_look 7 = .ok (.iconst 0, 1) := by decide +kernel
theorem dX7_look_8 : decode cX7_look 8 = .ok (.iaload, 1) := by decide +kernel
theorem dX7_look_9 : decode cX7_look 9 = .ok (.if_icmp .ge 80, 3) := by decide +kernel
theorem dX7_look_12 : decode cX7_look 12 = .ok (.aload_n 0, 1) := by decide +kernel
theorem dX7_look_13 : decode cX7_look 13 = .ok (.getfield 13, 3) := by decide +kernel
theorem dX7_look_16 : decode cX7_look 16 = .ok (.iload_n 1, 1) := by decide +kernel
theorem dX7_look_17 : decode cX7_look 17 = .ok (.iaload, 1) := by decide +kernel
theorem dX7_look_18 : decode cX7_look 18 = .ok (.aload_n 0, 1) := by decide +kernel
theorem dX7_look_19 : decode cX7_look 19 = .ok (.getfield 75, 3) := by decide +kernel
theorem dX7_look_22 : decode cX7_look 22 = .ok (.if_icmp .ne 7, 3) := by decide +kernel
theorem dX7_look_25 : decode cX7_look 25 = .ok (.iconst 1, 1) := by decide +kernel
theorem dX7_look_26 : decode cX7_look 26 = .ok (.goto 4, 3) := by decide +kernel
theorem dX7_look_29 : decode cX7_look 29 = .ok (.iconst 0, 1) := by decide +kernel
theorem dX7_look_30 : decode cX7_look 30 = .ok (.istore_n 2, 1) := by decide +kernel
theorem dX7_look_31 : decode cX7_look 31 = .ok (.iconst 0, 1) := by decide +kernel
theorem dX7_look_32 : decode cX7_look 32 = .ok (.istore_n 3, 1) := by decide +kernel
theorem dX7_look_33 : decode cX7_look 33 = .ok (.iload_n 3, 1) := by decide +kernel
theorem dX7_look_34 : decode cX7_look 34 = .ok (.aload_n 0, 1) := by decide +kernel
theorem dX7_look_35 : decode cX7_look 35 = .ok (.getfield 75, 3) := by decide +kernel
theorem dX7_look_38 : decode cX7_look 38 = .ok (.if_icmp .ge 39, 3) := by decide +kernel
theorem dX7_look_41 : decode cX7_look 41 = .ok (.iload_n 2, 1) := by decide +kernel
theorem dX7_look_42 : decode cX7_look 42 = .ok (.ifCond .eq 35, 3) := by decide +kernel
theorem dX7_look_45 : decode cX7_look 45 = .ok (.aload_n 0, 1) := by decide +kernel
theorem dX7_look_46 : decode cX7_look 46 = .ok (.getfield 16, 3) := by decide +kernel
theorem dX7_look_49 : decode cX7_look 49 = .ok (.bipush 12, 2) := by decide +kernel
theorem dX7_look_51 : decode cX7_look 51 = .ok (.iload_n 1, 1) := by decide +kernel
theorem dX7_look_52 : decode cX7_look 52 = .ok (.imul, 1) := by decide +kernel
theorem dX7_look_53 : decode cX7_look 53 = .ok (.iload_n 3, 1) := by decide +kernel
theorem dX7_look_54 : decode cX7_look 54 = .ok (.iadd, 1) := by decide +kernel
theorem dX7_look_55 : decode cX7_look 55 = .ok (.iaload, 1) := by decide +kernel
theorem dX7_look_56 : decode cX7_look 56 = .ok (.aload_n 0, 1) := by decide +kernel
theorem dX7_look_57 : decode cX7_look 57 = .ok (.getfield 53, 3) := by decide +kernel
theorem dX7_look_60 : decode cX7_look 60 = .ok (.iload_n 3, 1) := by decide +kernel
theorem dX7_look_61 : decode cX7_look 61 = .ok (.iaload, 1) := by decide +kernel
theorem dX7_look_62 : decode cX7_look 62 = .ok (.if_icmp .ne 7, 3) := by decide +kernel
theorem dX7_look_65 : decode cX7_look 65 = .ok (.iconst 1, 1) := by decide +kernel
theorem dX7_look_66 : decode cX7_look 66 = .ok (.goto 4, 3) := by decide +kernel
theorem dX7_look_69 : decode cX7_look 69 = .ok (.iconst 0, 1) := by decide +kernel
theorem dX7_look_70 : decode cX7_look 70 = .ok (.istore_n 2, 1) := by decide +kernel
theorem dX7_look_71 : decode cX7_look 71 = .ok (.iinc 3 1, 3) := by decide +kernel
theorem dX7_look_74 : decode cX7_look 74 = .ok (.goto (-41), 3) := by decide +kernel
theorem dX7_look_77 : decode cX7_look 77 = .ok (.iload_n 2, 1) := by decide +kernel
theorem dX7_look_78 : decode cX7_look 78 = .ok (.ifCond .eq 5, 3) := by decide +kernel
theorem dX7_look_81 : decode cX7_look 81 = .ok (.iload_n 1, 1) := by decide +kernel
theorem dX7_look_82 : decode cX7_look 82 = .ok (.ireturn, 1) := by decide +kernel
theorem dX7_look_83 : decode cX7_look 83 = .ok (.iinc 1 1, 3) := by decide +kernel
theorem dX7_look_86 : decode cX7_look 86 = .ok (.goto (-84), 3) := by decide +kernel
theorem dX7_look_89 : decode cX7_look 89 = .ok (.iconst (-1), 1) := by decide +kernel
theorem dX7_look_90 : decode cX7_look 90 = .ok (.ireturn, 1) := by decide +kernel
theorem dX7_length_0 : decode cX7_length 0 = .ok (.iconst 2, 1) := by decide +kernel
theorem dX7_length_1 : decode cX7_length 1 = .ok (.istore_n 2, 1) := by decide +kernel
theorem dX7_length_2 : decode cX7_length 2 = .ok (.iconst 0, 1) := by decide +kernel
theorem dX7_length_3 : decode cX7_length 3 = .ok (.istore_n 3, 1) := by decide +kernel
theorem dX7_length_4 : decode cX7_length 4 = .ok (.iload_n 3, 1) := by decide +kernel
theorem dX7_length_5 : decode cX7_length 5 = .ok (.aload_n 0, 1) := by decide +kernel
theorem dX7_length_6 : decode cX7_length 6 = .ok (.getfield 32, 3) := by decide +kernel
theorem dX7_length_9 : decode cX7_length 9 = .ok (.iload_n 1, 1) := by decide +kernel
theorem dX7_length_10 : decode cX7_length 10 = .ok (.iaload, 1) := by decide +kernel
theorem dX7_length_11 : decode cX7_length 11 = .ok (.if_icmp .ge 30, 3) := by decide +kernel
theorem dX7_length_14 : decode cX7_length 14 = .ok (.iload_n 2, 1) := by decide +kernel
theorem dX7_length_15 : decode cX7_length 15 = .ok (.iconst 5, 1) := by decide +kernel
theorem dX7_length_16 : decode cX7_length 16 = .ok (.aload_n 0, 1) := by decide +kernel
theorem dX7_length_17 : decode cX7_length 17 = .ok (.getfield 13, 3) := by decide +kernel
theorem dX7_length_20 : decode cX7_length 20 = .ok (.aload_n 0, 1) := by decide +kernel
theorem dX7_length_21 : decode cX7_length 21 = .ok (.getfield 35, 3) := by decide +kernel
theorem dX7_length_24 : decode cX7_length 24 = .ok (.bipush 10, 2) := by decide +kernel
theorem dX7_length_26 : decode cX7_length 26 = .ok (.iload_n 1, 1) := by decide +kernel
theorem dX7_length_27 : decode cX7_length 27 = .ok (.imul, 1) := by decide +kernel
theorem dX7_length_28 : decode cX7_length 28 = .ok (.iload_n 3, 1) := by decide +kernel
theorem dX7_length_29 : decode cX7_length 29 = .ok (.iadd, 1) := by decide +kernel
theorem dX7_length_30 : decode cX7_length 30 = .ok (.iaload, 1) := by decide +kernel
theorem dX7_length_31 : decode cX7_length 31 = .ok (.iaload, 1) := by decide +kernel
theorem dX7_length_32 : decode cX7_length 32 = .ok (.iadd, 1) := by decide +kernel
theorem dX7_length_33 : decode cX7_length 33 = .ok (.iadd, 1) := by decide +kernel
theorem dX7_length_34 : decode cX7_length 34 = .ok (.istore_n 2, 1) := by decide +kernel
theorem dX7_length_35 : decode cX7_length 35 = .ok (.iinc 3 1, 3) := by decide +kernel
theorem dX7_length_38 : decode cX7_length 38 = .ok (.goto (-34), 3) := by decide +kernel
theorem dX7_length_41 : decode cX7_length 41 = .ok (.iload_n 2, 1) := by decide +kernel
theorem dX7_length_42 : decode cX7_length 42 = .ok (.ireturn, 1) := by decide +kernel
theorem dX7_comes_0 : decode cX7_comes 0 = .ok (.aload_n 0, 1) := by decide +kernel
theorem dX7_comes_1 : decode cX7_comes 1 = .ok (.invokevirtual 86, 3) := by decide +kernel
theorem dX7_comes_4 : decode cX7_comes 4 = .ok (.istore_n 2, 1) := by decide +kernel
theorem dX7_comes_5 : decode cX7_comes 5 = .ok (.iload_n 2, 1) := by decide +kernel
theorem dX7_comes_6 : decode cX7_comes 6 = .ok (.iconst (-1), 1) := by decide +kernel
theorem dX7_comes_7 : decode cX7_comes 7 = .ok (.if_icmp .eq 22, 3) := by decide +kernel
theorem dX7_comes_10 : decode cX7_comes 10 = .ok (.aload_n 0, 1) := by decide +kernel
theorem dX7_comes_11 : decode cX7_comes 11 = .ok (.getfield 19, 3) := by decide +kernel
theorem dX7_comes_14 : decode cX7_comes 14 = .ok (.iload_n 2, 1) := by decide +kernel
theorem dX7_comes_15 : decode cX7_comes 15 = .ok (.iload_n 1, 1) := by decide +kernel
theorem dX7_comes_16 : decode cX7_comes 16 = .ok (.iastore, 1) := by decide +kernel
theorem dX7_comes_17 : decode cX7_comes 17 = .ok (.aload_n 0, 1) := by decide +kernel
theorem dX7_comes_18 : decode cX7_comes 18 = .ok (.getfield 44, 3) := by decide +kernel
theorem dX7_comes_21 : decode cX7_comes 21 = .ok (.iconst 0, 1) := by decide +kernel
theorem dX7_comes_22 : decode cX7_comes 22 = .ok (.dup2, 1) := by decide +kernel
theorem dX7_comes_23 : decode cX7_comes 23 = .ok (.iaload, 1) := by decide +kernel
theorem dX7_comes_24 : decode cX7_comes 24 = .ok (.iconst 1, 1) := by decide +kernel
theorem dX7_comes_25 : decode cX7_comes 25 = .ok (.iadd, 1) := by decide +kernel
theorem dX7_comes_26 : decode cX7_comes 26 = .ok (.iastore, 1) := by decide +kernel
theorem dX7_comes_27 : decode cX7_comes 27 = .ok (.iconst 1, 1) := by decide +kernel
theorem dX7_comes_28 : decode cX7_comes 28 = .ok (.ireturn, 1) := by decide +kernel
theorem dX7_comes_29 : decode cX7_comes 29 = .ok (.aload_n 0, 1) := by decide +kernel
theorem dX7_comes_30 : decode cX7_comes 30 = .ok (.iconst 2, 1) := by decide +kernel
theorem dX7_comes_31 : decode cX7_comes 31 = .ok (.iconst 0, 1) := by decide +kernel
theorem dX7_comes_32 : decode cX7_comes 32 = .ok (.invokevirtual 63, 3) := by decide +kernel
theorem dX7_comes_35 : decode cX7_comes 35 = .ok (.aload_n 0, 1) := by decide +kernel
theorem dX7_comes_36 : decode cX7_comes 36 = .ok (.getfield 7, 3) := by decide +kernel
theorem dX7_comes_39 : decode cX7_comes 39 = .ok (.iconst 0, 1) := by decide +kernel
theorem dX7_comes_40 : decode cX7_comes 40 = .ok (.iaload, 1) := by decide +kernel
theorem dX7_comes_41 : decode cX7_comes 41 = .ok (.istore_n 2, 1) := by decide +kernel
theorem dX7_comes_42 : decode cX7_comes 42 = .ok (.aload_n 0, 1) := by decide +kernel
theorem dX7_comes_43 : decode cX7_comes 43 = .ok (.getfield 13, 3) := by decide +kernel
theorem dX7_comes_46 : decode cX7_comes 46 = .ok (.iload_n 2, 1) := by decide +kernel
theorem dX7_comes_47 : decode cX7_comes 47 = .ok (.aload_n 0, 1) := by decide +kernel
theorem dX7_comes_48 : decode cX7_comes 48 = .ok (.getfield 75, 3) := by decide +kernel
theorem dX7_comes_51 : decode cX7_comes 51 = .ok (.iastore, 1) := by decide +kernel
theorem dX7_comes_52 : decode cX7_comes 52 = .ok (.iconst 0, 1) := by decide +kernel
theorem dX7_comes_53 : decode cX7_comes 53 = .ok (.istore_n 3, 1) := by decide +kernel
theorem dX7_comes_54 : decode cX7_comes 54 = .ok (.iload_n 3, 1) := by decide +kernel
theorem dX7_comes_55 : decode cX7_comes 55 = .ok (.aload_n 0, 1) := by decide +kernel
theorem dX7_comes_56 : decode cX7_comes 56 = .ok (.getfield 75, 3) := by decide +kernel
theorem dX7_comes_59 : decode cX7_comes 59 = .ok (.if_icmp .ge 26, 3) := by decide +kernel
theorem dX7_comes_62 : decode cX7_comes 62 = .ok (.aload_n 0, 1) := by decide +kernel
theorem dX7_comes_63 : decode cX7_comes 63 = .ok (.getfield 16, 3) := by decide +kernel
theorem dX7_comes_66 : decode cX7_comes 66 = .ok (.bipush 12, 2) := by decide +kernel
theorem dX7_comes_68 : decode cX7_comes 68 = .ok (.iload_n 2, 1) := by decide +kernel
theorem dX7_comes_69 : decode cX7_comes 69 = .ok (.imul, 1) := by decide +kernel
theorem dX7_comes_70 : decode cX7_comes 70 = .ok (.iload_n 3, 1) := by decide +kernel
theorem dX7_comes_71 : decode cX7_comes 71 = .ok (.iadd, 1) := by decide +kernel
theorem dX7_comes_72 : decode cX7_comes 72 = .ok (.aload_n 0, 1) := by decide +kernel
theorem dX7_comes_73 : decode cX7_comes 73 = .ok (.getfield 53, 3) := by decide +kernel
theorem dX7_comes_76 : decode cX7_comes 76 = .ok (.iload_n 3, 1) := by decide +kernel
theorem dX7_comes_77 : decode cX7_comes 77 = .ok (.iaload, 1) := by decide +kernel
theorem dX7_comes_78 : decode cX7_comes 78 = .ok (.iastore, 1) := by decide +kernel
theorem dX7_comes_79 : decode cX7_comes 79 = .ok (.iinc 3 1, 3) := by decide +kernel
theorem dX7_comes_82 : decode cX7_comes 82 = .ok (.goto (-28), 3) := by decide +kernel
theorem dX7_comes_85 : decode cX7_comes 85 = .ok (.aload_n 0, 1) := by decide +kernel
theorem dX7_comes_86 : decode cX7_comes 86 = .ok (.getfield 19, 3) := by decide +kernel
theorem dX7_comes_89 : decode cX7_comes 89 = .ok (.iload_n 2, 1) := by decide +kernel
theorem dX7_comes_90 : decode cX7_comes 90 = .ok (.iload_n 1, 1) := by decide +kernel
theorem dX7_comes_91 : decode cX7_comes 91 = .ok (.iastore, 1) := by decide +kernel
theorem dX7_comes_92 : decode cX7_comes 92 = .ok (.aload_n 0, 1) := by decide +kernel
theorem dX7_comes_93 : decode cX7_comes 93 = .ok (.getfield 22, 3) := by decide +kernel
theorem dX7_comes_96 : decode cX7_comes 96 = .ok (.iload_n 2, 1) := by decide +kernel
theorem dX7_comes_97 : decode cX7_comes 97 = .ok (.aload_n 0, 1) := by decide +kernel
theorem dX7_comes_98 : decode cX7_comes 98 = .ok (.invokevirtual 90, 3) := by decide +kernel
theorem dX7_comes_101 : decode cX7_comes 101 = .ok (.iastore, 1) := by decide +kernel
theorem dX7_comes_102 : decode cX7_comes 102 = .ok (.aload_n 0, 1) := by decide +kernel
theorem dX7_comes_103 : decode cX7_comes 103 = .ok (.getfield 7, 3) := by decide +kernel
theorem dX7_comes_106 : decode cX7_comes 106 = .ok (.iconst 0, 1) := by decide +kernel
theorem dX7_comes_107 : decode cX7_comes 107 = .ok (.dup2, 1) := by decide +kernel
theorem dX7_comes_108 : decode cX7_comes 108 = .ok (.iaload, 1) := by decide +kernel
theorem dX7_comes_109 : decode cX7_comes 109 = .ok (.iconst 1, 1) := by decide +kernel
theorem dX7_comes_110 : decode cX7_comes 110 = .ok (.iadd, 1) := by decide +kernel
theorem dX7_comes_111 : decode cX7_comes 111 = .ok (.iastore, 1) := by decide +kernel
theorem dX7_comes_112 : decode cX7_comes 112 = .ok (.aload_n 0, 1) := by decide +kernel
theorem dX7_comes_113 : decode cX7_comes 113 = .ok (.getfield 41, 3) := by decide +kernel
theorem dX7_comes_116 : decode cX7_comes 116 = .ok (.aload_n 0, 1) := by decide +kernel
theorem dX7_comes_117 : decode cX7_comes 117 = .ok (.getfield 22, 3) := by decide +kernel
theorem dX7_comes_120 : decode cX7_comes 120 = .ok (.iload_n 2, 1) := by decide +kernel
theorem dX7_comes_121 : decode cX7_comes 121 = .ok (.iaload, 1) := by decide +kernel
theorem dX7_comes_122 : decode cX7_comes 122 = .ok (.iconst 1, 1) := by decide +kernel
theorem dX7_comes_123 : decode cX7_comes 123 = .ok (.aload_n 0, 1) := by decide +kernel
theorem dX7_comes_124 : decode cX7_comes 124 = .ok (.getfield 38, 3) := by decide +kernel
theorem dX7_comes_127 : decode cX7_comes 127 = .ok (.iconst 0, 1) := by decide +kernel
theorem dX7_comes_128 : decode cX7_comes 128 = .ok (.iaload, 1) := by decide +kernel
theorem dX7_comes_129 : decode cX7_comes 129 = .ok (.ishl, 1) := by decide +kernel
theorem dX7_comes_130 : decode cX7_comes 130 = .ok (.iconst 1, 1) := by decide +kernel
theorem dX7_comes_131 : decode cX7_comes 131 = .ok (.isub, 1) := by decide +kernel
theorem dX7_comes_132 : decode cX7_comes 132 = .ok (.iand, 1) := by decide +kernel
theorem dX7_comes_133 : decode cX7_comes 133 = .ok (.iaload, 1) := by decide +kernel
theorem dX7_comes_134 : decode cX7_comes 134 = .ok (.istore_n 3, 1) := by decide +kernel
theorem dX7_comes_135 : decode cX7_comes 135 = .ok (.aload_n 0, 1) := by decide +kernel
theorem dX7_comes_136 : decode cX7_comes 136 = .ok (.iload_n 3, 1) := by decide +kernel
theorem dX7_comes_137 : decode cX7_comes 137 = .ok (.invokevirtual 93, 3) := by decide +kernel
theorem dX7_comes_140 : decode cX7_comes 140 = .ok (.iconst 5, 1) := by decide +kernel
theorem dX7_comes_141 : decode cX7_comes 141 = .ok (.iadd, 1) := by decide +kernel
theorem dX7_comes_142 : decode cX7_comes 142 = .ok (.aload_n 0, 1) := by decide +kernel
theorem dX7_comes_143 : decode cX7_comes 143 = .ok (.getfield 75, 3) := by decide +kernel
theorem dX7_comes_146 : decode cX7_comes 146 = .ok (.iadd, 1) := by decide +kernel
theorem dX7_comes_147 : decode cX7_comes 147 = .ok (.bipush 60, 2) := by decide +kernel
theorem dX7_comes_149 : decode cX7_comes 149 = .ok (.if_icmp .le 45, 3) := by decide +kernel
theorem dX7_comes_152 : decode cX7_comes 152 = .ok (.aload_n 0, 1) := by decide +kernel
theorem dX7_comes_153 : decode cX7_comes 153 = .ok (.iload_n 3, 1) := by decide +kernel
theorem dX7_comes_154 : decode cX7_comes 154 = .ok (.invokevirtual 97, 3) := by decide +kernel
theorem dX7_comes_157 : decode cX7_comes 157 = .ok (.ifCond .ne 11, 3) := by decide +kernel
theorem dX7_comes_160 : decode cX7_comes 160 = .ok (.aload_n 0, 1) := by decide +kernel
theorem dX7_comes_161 : decode cX7_comes 161 = .ok (.iconst 0, 1) := by decide +kernel
theorem dX7_comes_162 : decode cX7_comes 162 = .ok (.iconst 2, 1) := by decide +kernel
theorem dX7_comes_163 : decode cX7_comes 163 = .ok (.invokevirtual 63, 3) := by decide +kernel
theorem dX7_comes_166 : decode cX7_comes 166 = .ok (.iconst 0, 1) := by decide +kernel
theorem dX7_comes_167 : decode cX7_comes 167 = .ok (.ireturn, 1) := by decide +kernel
theorem dX7_comes_168 : decode cX7_comes 168 = .ok (.aload_n 0, 1) := by decide +kernel
theorem dX7_comes_169 : decode cX7_comes 169 = .ok (.getfield 41, 3) := by decide +kernel
theorem dX7_comes_172 : decode cX7_comes 172 = .ok (.aload_n 0, 1) := by decide +kernel
theorem dX7_comes_173 : decode cX7_comes 173 = .ok (.getfield 22, 3) := by decide +kernel
theorem dX7_comes_176 : decode cX7_comes 176 = .ok (.iload_n 2, 1) := by decide +kernel
theorem dX7_comes_177 : decode cX7_comes 177 = .ok (.iaload, 1) := by decide +kernel
theorem dX7_comes_178 : decode cX7_comes 178 = .ok (.iconst 1, 1) := by decide +kernel
theorem dX7_comes_179 : decode cX7_comes 179 = .ok (.aload_n 0, 1) := by decide +kernel
theorem dX7_comes_180 : decode cX7_comes 180 = .ok (.getfield 38, 3) := by decide +kernel
theorem dX7_comes_183 : decode cX7_comes 183 = .ok (.iconst 0, 1) := by decide +kernel
theorem dX7_comes_184 : decode cX7_comes 184 = .ok (.iaload, 1) := by decide +kernel
theorem dX7_comes_185 : decode cX7_comes 185 = .ok (.ishl, 1) := by decide +kernel
theorem dX7_comes_186 : decode cX7_comes 186 = .ok (.iconst 1, 1) := by decide +kernel
theorem dX7_comes_187 : decode cX7_comes 187 = .ok (.isub, 1) := by decide +kernel
theorem dX7_comes_188 : decode cX7_comes 188 = .ok (.iand, 1) := by decide +kernel
theorem dX7_comes_189 : decode cX7_comes 189 = .ok (.iaload, 1) := by decide +kernel
theorem dX7_comes_190 : decode cX7_comes 190 = .ok (.istore_n 3, 1) := by decide +kernel
theorem dX7_comes_191 : decode cX7_comes 191 = .ok (.goto (-56), 3) := by decide +kernel
theorem dX7_comes_194 : decode cX7_comes 194 = .ok (.aload_n 0, 1) := by decide +kernel
theorem dX7_comes_195 : decode cX7_comes 195 = .ok (.getfield 35, 3) := by decide +kernel
theorem dX7_comes_198 : decode cX7_comes 198 = .ok (.bipush 10, 2) := by decide +kernel
theorem dX7_comes_200 : decode cX7_comes 200 = .ok (.iload_n 3, 1) := by decide +kernel
theorem dX7_comes_201 : decode cX7_comes 201 = .ok (.imul, 1) := by decide +kernel
theorem dX7_comes_202 : decode cX7_comes 202 = .ok (.aload_n 0, 1) := by decide +kernel
theorem dX7_comes_203 : decode cX7_comes 203 = .ok (.getfield 32, 3) := by decide +kernel
theorem dX7_comes_206 : decode cX7_comes 206 = .ok (.iload_n 3, 1) := by decide +kernel
theorem dX7_comes_207 : decode cX7_comes 207 = .ok (.iaload, 1) := by decide +kernel
theorem dX7_comes_208 : decode cX7_comes 208 = .ok (.iadd, 1) := by decide +kernel
theorem dX7_comes_209 : decode cX7_comes 209 = .ok (.iload_n 2, 1) := by decide +kernel
theorem dX7_comes_210 : decode cX7_comes 210 = .ok (.iastore, 1) := by decide +kernel
theorem dX7_comes_211 : decode cX7_comes 211 = .ok (.aload_n 0, 1) := by decide +kernel
theorem dX7_comes_212 : decode cX7_comes 212 = .ok (.getfield 32, 3) := by decide +kernel
theorem dX7_comes_215 : decode cX7_comes 215 = .ok (.iload_n 3, 1) := by decide +kernel
theorem dX7_comes_216 : decode cX7_comes 216 = .ok (.dup2, 1) := by decide +kernel
theorem dX7_comes_217 : decode cX7_comes 217 = .ok (.iaload, 1) := by decide +kernel
theorem dX7_comes_218 : decode cX7_comes 218 = .ok (.iconst 1, 1) := by decide +kernel
theorem dX7_comes_219 : decode cX7_comes 219 = .ok (.iadd, 1) := by decide +kernel
theorem dX7_comes_220 : decode cX7_comes 220 = .ok (.iastore, 1) := by decide +kernel
theorem dX7_comes_221 : decode cX7_comes 221 = .ok (.aload_n 0, 1) := by decide +kernel
theorem dX7_comes_222 : decode cX7_comes 222 = .ok (.getfield 44, 3) := by decide +kernel
theorem dX7_comes_225 : decode cX7_comes 225 = .ok (.iconst 0, 1) := by decide +kernel
theorem dX7_comes_226 : decode cX7_comes 226 = .ok (.dup2, 1) := by decide +kernel
theorem dX7_comes_227 : decode cX7_comes 227 = .ok (.iaload, 1) := by decide +kernel
theorem dX7_comes_228 : decode cX7_comes 228 = .ok (.iconst 1, 1) := by decide +kernel
theorem dX7_comes_229 : decode cX7_comes 229 = .ok (.iadd, 1) := by decide +kernel
theorem dX7_comes_230 : decode cX7_comes 230 = .ok (.iastore, 1) := by decide +kernel
theorem dX7_comes_231 : decode cX7_comes 231 = .ok (.iconst 1, 1) := by decide +kernel
theorem dX7_comes_232 : decode cX7_comes 232 = .ok (.ireturn, 1) := by decide +kernel
theorem dX7_splits_0 : decode cX7_splits 0 = .ok (.aload_n 0, 1) := by decide +kernel
theorem dX7_splits_1 : decode cX7_splits 1 = .ok (.getfield 25, 3) := by decide +kernel
theorem dX7_splits_4 : decode cX7_splits 4 = .ok (.iload_n 1, 1) := by decide +kernel
theorem dX7_splits_5 : decode cX7_splits 5 = .ok (.iaload, 1) := by decide +kernel
theorem dX7_splits_6 : decode cX7_splits 6 = .ok (.istore_n 2, 1) := by decide +kernel
theorem dX7_splits_7 : decode cX7_splits 7 = .ok (.iload_n 2, 1) := by decide +kernel
theorem dX7_splits_8 : decode cX7_splits 8 = .ok (.aload_n 0, 1) := by decide +kernel
theorem dX7_splits_9 : decode cX7_splits 9 = .ok (.getfield 38, 3) := by decide +kernel
theorem dX7_splits_12 : decode cX7_splits 12 = .ok (.iconst 0, 1) := by decide +kernel
theorem dX7_splits_13 : decode cX7_splits 13 = .ok (.iaload, 1) := by decide +kernel
theorem dX7_splits_14 : decode cX7_splits 14 = .ok (.if_icmp .ne 51, 3) := by decide +kernel
theorem dX7_splits_17 : decode cX7_splits 17 = .ok (.iload_n 2, 1) := by decide +kernel
theorem dX7_splits_18 : decode cX7_splits 18 = .ok (.iconst 5, 1) := by decide +kernel
theorem dX7_splits_19 : decode cX7_splits 19 = .ok (.if_icmp .ne 5, 3) := by decide +kernel
theorem dX7_splits_22 : decode cX7_splits 22 = .ok (.iconst 0, 1) := by decide +kernel
theorem dX7_splits_23 : decode cX7_splits 23 = .ok (.ireturn, 1) := by decide +kernel
theorem dX7_splits_24 : decode cX7_splits 24 = .ok (.iconst 0, 1) := by decide +kernel
theorem dX7_splits_25 : decode cX7_splits 25 = .ok (.istore_n 3, 1) := by decide +kernel
theorem dX7_splits_26 : decode cX7_splits 26 = .ok (.iload_n 3, 1) := by decide +kernel
theorem dX7_splits_27 : decode cX7_splits 27 = .ok (.iconst 1, 1) := by decide +kernel
theorem dX7_splits_28 : decode cX7_splits 28 = .ok (.iload_n 2, 1) := by decide +kernel
theorem dX7_splits_29 : decode cX7_splits 29 = .ok (.ishl, 1) := by decide +kernel
theorem dX7_splits_30 : decode cX7_splits 30 = .ok (.if_icmp .ge 25, 3) := by decide +kernel
theorem dX7_splits_33 : decode cX7_splits 33 = .ok (.aload_n 0, 1) := by decide +kernel
theorem dX7_splits_34 : decode cX7_splits 34 = .ok (.getfield 41, 3) := by decide +kernel
theorem dX7_splits_37 : decode cX7_splits 37 = .ok (.iload_n 3, 1) := by decide +kernel
theorem dX7_splits_38 : decode cX7_splits 38 = .ok (.iconst 1, 1) := by decide +kernel
theorem dX7_splits_39 : decode cX7_splits 39 = .ok (.iload_n 2, 1) := by decide +kernel
theorem dX7_splits_40 : decode cX7_splits 40 = .ok (.ishl, 1) := by decide +kernel
theorem dX7_splits_41 : decode cX7_splits 41 = .ok (.iadd, 1) := by decide +kernel
theorem dX7_splits_42 : decode cX7_splits 42 = .ok (.aload_n 0, 1) := by decide +kernel
theorem dX7_splits_43 : decode cX7_splits 43 = .ok (.getfield 41, 3) := by decide +kernel
theorem dX7_splits_46 : decode cX7_splits 46 = .ok (.iload_n 3, 1) := by decide +kernel
theorem dX7_splits_47 : decode cX7_splits 47 = .ok (.iaload, 1) := by decide +kernel
theorem dX7_splits_48 : decode cX7_splits 48 = .ok (.iastore, 1) := by decide +kernel
theorem dX7_splits_49 : decode cX7_splits 49 = .ok (.iinc 3 1, 3) := by decide +kernel
theorem dX7_splits_52 : decode cX7_splits 52 = .ok (.goto (-26), 3) := by decide +kernel
theorem dX7_splits_55 : decode cX7_splits 55 = .ok (.aload_n 0, 1) := by decide +kernel
theorem dX7_splits_56 : decode cX7_splits 56 = .ok (.getfield 38, 3) := by decide +kernel
theorem dX7_splits_59 : decode cX7_splits 59 = .ok (.iconst 0, 1) := by decide +kernel
theorem dX7_splits_60 : decode cX7_splits 60 = .ok (.dup2, 1) := by decide +kernel
theorem dX7_splits_61 : decode cX7_splits 61 = .ok (.iaload, 1) := by decide +kernel
theorem dX7_splits_62 : decode cX7_splits 62 = .ok (.iconst 1, 1) := by decide +kernel
theorem dX7_splits_63 : decode cX7_splits 63 = .ok (.iadd, 1) := by decide +kernel
theorem dX7_splits_64 : decode cX7_splits 64 = .ok (.iastore, 1) := by decide +kernel
theorem dX7_splits_65 : decode cX7_splits 65 = .ok (.iconst 0, 1) := by decide +kernel
theorem dX7_splits_66 : decode cX7_splits 66 = .ok (.istore_n 3, 1) := by decide +kernel
theorem dX7_splits_67 : decode cX7_splits 67 = .ok (.iload_n 3, 1) := by decide +kernel
theorem dX7_splits_68 : decode cX7_splits 68 = .ok (.aload_n 0, 1) := by decide +kernel
theorem dX7_splits_69 : decode cX7_splits 69 = .ok (.getfield 59, 3) := by decide +kernel
theorem dX7_splits_72 : decode cX7_splits 72 = .ok (.if_icmp .ge 18, 3) := by decide +kernel
theorem dX7_splits_75 : decode cX7_splits 75 = .ok (.aload_n 0, 1) := by decide +kernel
theorem dX7_splits_76 : decode cX7_splits 76 = .ok (.getfield 28, 3) := by decide +kernel
theorem dX7_splits_79 : decode cX7_splits 79 = .ok (.iload_n 3, 1) := by decide +kernel
theorem dX7_splits_80 : decode cX7_splits 80 = .ok (.baload, 1) := by decide +kernel
theorem dX7_splits_81 : decode cX7_splits 81 = .ok (.ifCond .eq 9, 3) := by decide +kernel
theorem dX7_splits_84 : decode cX7_splits 84 = .ok (.iinc 3 1, 3) := by decide +kernel
theorem dX7_splits_87 : decode cX7_splits 87 = .ok (.goto (-20), 3) := by decide +kernel
theorem dX7_splits_90 : decode cX7_splits 90 = .ok (.iload_n 3, 1) := by decide +kernel
theorem dX7_splits_91 : decode cX7_splits 91 = .ok (.aload_n 0, 1) := by decide +kernel
theorem dX7_splits_92 : decode cX7_splits 92 = .ok (.getfield 59, 3) := by decide +kernel
theorem dX7_splits_95 : decode cX7_splits 95 = .ok (.if_icmp .ne 5, 3) := by decide +kernel
theorem dX7_splits_98 : decode cX7_splits 98 = .ok (.iconst 0, 1) := by decide +kernel
theorem dX7_splits_99 : decode cX7_splits 99 = .ok (.ireturn, 1) := by decide +kernel
theorem dX7_splits_100 : decode cX7_splits 100 = .ok (.aload_n 0, 1) := by decide +kernel
theorem dX7_splits_101 : decode cX7_splits 101 = .ok (.getfield 28, 3) := by decide +kernel
theorem dX7_splits_104 : decode cX7_splits 104 = .ok (.iload_n 3, 1) := by decide +kernel
theorem dX7_splits_105 : decode cX7_splits 105 = .ok (.iconst 1, 1) := by decide +kernel
theorem dX7_splits_106 : decode cX7_splits 106 = .ok (.bastore, 1) := by decide +kernel
theorem dX7_splits_107 : decode cX7_splits 107 = .ok (.aload_n 0, 1) := by decide +kernel
theorem dX7_splits_108 : decode cX7_splits 108 = .ok (.getfield 25, 3) := by decide +kernel
theorem dX7_splits_111 : decode cX7_splits 111 = .ok (.iload_n 1, 1) := by decide +kernel
theorem dX7_splits_112 : decode cX7_splits 112 = .ok (.iload_n 2, 1) := by decide +kernel
theorem dX7_splits_113 : decode cX7_splits 113 = .ok (.iconst 1, 1) := by decide +kernel
theorem dX7_splits_114 : decode cX7_splits 114 = .ok (.iadd, 1) := by decide +kernel
theorem dX7_splits_115 : decode cX7_splits 115 = .ok (.iastore, 1) := by decide +kernel
theorem dX7_splits_116 : decode cX7_splits 116 = .ok (.aload_n 0, 1) := by decide +kernel
theorem dX7_splits_117 : decode cX7_splits 117 = .ok (.getfield 25, 3) := by decide +kernel
theorem dX7_splits_120 : decode cX7_splits 120 = .ok (.iload_n 3, 1) := by decide +kernel
theorem dX7_splits_121 : decode cX7_splits 121 = .ok (.iload_n 2, 1) := by decide +kernel
theorem dX7_splits_122 : decode cX7_splits 122 = .ok (.iconst 1, 1) := by decide +kernel
theorem dX7_splits_123 : decode cX7_splits 123 = .ok (.iadd, 1) := by decide +kernel
theorem dX7_splits_124 : decode cX7_splits 124 = .ok (.iastore, 1) := by decide +kernel
theorem dX7_splits_125 : decode cX7_splits 125 = .ok (.iconst 0, 1) := by decide +kernel
theorem dX7_splits_126 : decode cX7_splits 126 = .ok (.istore 4, 2) := by decide +kernel
theorem dX7_splits_128 : decode cX7_splits 128 = .ok (.aload_n 0, 1) := by decide +kernel
theorem dX7_splits_129 : decode cX7_splits 129 = .ok (.getfield 32, 3) := by decide +kernel
theorem dX7_splits_132 : decode cX7_splits 132 = .ok (.iload_n 3, 1) := by decide +kernel
theorem dX7_splits_133 : decode cX7_splits 133 = .ok (.iconst 0, 1) := by decide +kernel
theorem dX7_splits_134 : decode cX7_splits 134 = .ok (.iastore, 1) := by decide +kernel
theorem dX7_splits_135 : decode cX7_splits 135 = .ok (.iconst 0, 1) := by decide +kernel
theorem dX7_splits_136 : decode cX7_splits 136 = .ok (.istore 5, 2) := by decide +kernel
theorem dX7_splits_138 : decode cX7_splits 138 = .ok (.iload 5, 2) := by decide +kernel
theorem dX7_splits_140 : decode cX7_splits 140 = .ok (.aload_n 0, 1) := by decide +kernel
theorem dX7_splits_141 : decode cX7_splits 141 = .ok (.getfield 32, 3) := by decide +kernel
theorem dX7_splits_144 : decode cX7_splits 144 = .ok (.iload_n 1, 1) := by decide +kernel
theorem dX7_splits_145 : decode cX7_splits 145 = .ok (.iaload, 1) := by decide +kernel
theorem dX7_splits_146 : decode cX7_splits 146 = .ok (.if_icmp .ge 86, 3) := by decide +kernel
theorem dX7_splits_149 : decode cX7_splits 149 = .ok (.aload_n 0, 1) := by decide +kernel
theorem dX7_splits_150 : decode cX7_splits 150 = .ok (.getfield 35, 3) := by decide +kernel
theorem dX7_splits_153 : decode cX7_splits 153 = .ok (.bipush 10, 2) := by decide +kernel
theorem dX7_splits_155 : decode cX7_splits 155 = .ok (.iload_n 1, 1) := by decide +kernel
theorem dX7_splits_156 : decode cX7_splits 156 = .ok (.imul, 1) := by decide +kernel
theorem dX7_splits_157 : decode cX7_splits 157 = .ok (.iload 5, 2) := by decide +kernel
theorem dX7_splits_159 : decode cX7_splits 159 = .ok (.iadd, 1) := by decide +kernel
theorem dX7_splits_160 : decode cX7_splits 160 = .ok (.iaload, 1) := by decide +kernel
theorem dX7_splits_161 : decode cX7_splits 161 = .ok (.istore 6, 2) := by decide +kernel
theorem dX7_splits_163 : decode cX7_splits 163 = .ok (.aload_n 0, 1) := by decide +kernel
theorem dX7_splits_164 : decode cX7_splits 164 = .ok (.getfield 22, 3) := by decide +kernel
theorem dX7_splits_167 : decode cX7_splits 167 = .ok (.iload 6, 2) := by decide +kernel
theorem dX7_splits_169 : decode cX7_splits 169 = .ok (.iaload, 1) := by decide +kernel
theorem dX7_splits_170 : decode cX7_splits 170 = .ok (.iload_n 2, 1) := by decide +kernel
theorem dX7_splits_171 : decode cX7_splits 171 = .ok (.ishr, 1) := by decide +kernel
theorem dX7_splits_172 : decode cX7_splits 172 = .ok (.iconst 1, 1) := by decide +kernel
theorem dX7_splits_173 : decode cX7_splits 173 = .ok (.iand, 1) := by decide +kernel
theorem dX7_splits_174 : decode cX7_splits 174 = .ok (.iconst 1, 1) := by decide +kernel
theorem dX7_splits_175 : decode cX7_splits 175 = .ok (.if_icmp .ne 34, 3) := by decide +kernel
theorem dX7_splits_178 : decode cX7_splits 178 = .ok (.aload_n 0, 1) := by decide +kernel
theorem dX7_splits_179 : decode cX7_splits 179 = .ok (.getfield 35, 3) := by decide +kernel
theorem dX7_splits_182 : decode cX7_splits 182 = .ok (.bipush 10, 2) := by decide +kernel
theorem dX7_splits_184 : decode cX7_splits 184 = .ok (.iload_n 3, 1) := by decide +kernel
theorem dX7_splits_185 : decode cX7_splits 185 = .ok (.imul, 1) := by decide +kernel
theorem dX7_splits_186 : decode cX7_splits 186 = .ok (.aload_n 0, 1) := by decide +kernel
theorem dX7_splits_187 : decode cX7_splits 187 = .ok (.getfield 32, 3) := by decide +kernel
theorem dX7_splits_190 : decode cX7_splits 190 = .ok (.iload_n 3, 1) := by decide +kernel
theorem dX7_splits_191 : decode cX7_splits 191 = .ok (.iaload, 1) := by decide +kernel
theorem dX7_splits_192 : decode cX7_splits 192 = .ok (.iadd, 1) := by decide +kernel
theorem dX7_splits_193 : decode cX7_splits 193 = .ok (.iload 6, 2) := by decide +kernel
theorem dX7_splits_195 : decode cX7_splits 195 = .ok (.iastore, 1) := by decide +kernel
theorem dX7_splits_196 : decode cX7_splits 196 = .ok (.aload_n 0, 1) := by decide +kernel
theorem dX7_splits_197 : decode cX7_splits 197 = .ok (.getfield 32, 3) := by decide +kernel
theorem dX7_splits_200 : decode cX7_splits 200 = .ok (.iload_n 3, 1) := by decide +kernel
theorem dX7_splits_201 : decode cX7_splits 201 = .ok (.dup2, 1) := by decide +kernel
theorem dX7_splits_202 : decode cX7_splits 202 = .ok (.iaload, 1) := by decide +kernel
theorem dX7_splits_203 : decode cX7_splits 203 = .ok (.iconst 1, 1) := by decide +kernel
theorem dX7_splits_204 : decode cX7_splits 204 = .ok (.iadd, 1) := by decide +kernel
theorem dX7_splits_205 : decode cX7_splits 205 = .ok (.iastore, 1) := by decide +kernel
theorem dX7_splits_206 : decode cX7_splits 206 = .ok (.goto 20, 3) := by decide +kernel
theorem dX7_splits_209 : decode cX7_splits 209 = .ok (.aload_n 0, 1) := by decide +kernel
theorem dX7_splits_210 : decode cX7_splits 210 = .ok (.getfield 35, 3) := by decide +kernel
theorem dX7_splits_213 : decode cX7_splits 213 = .ok (.bipush 10, 2) := by decide +kernel
theorem dX7_splits_215 : decode cX7_splits 215 = .ok (.iload_n 1, 1) := by decide +kernel
theorem dX7_splits_216 : decode cX7_splits 216 = .ok (.imul, 1) := by decide +kernel
theorem dX7_splits_217 : decode cX7_splits 217 = .ok (.iload 4, 2) := by decide +kernel
theorem dX7_splits_219 : decode cX7_splits 219 = .ok (.iadd, 1) := by decide +kernel
theorem dX7_splits_220 : decode cX7_splits 220 = .ok (.iload 6, 2) := by decide +kernel
theorem dX7_splits_222 : decode cX7_splits 222 = .ok (.iastore, 1) := by decide +kernel
theorem dX7_splits_223 : decode cX7_splits 223 = .ok (.iinc 4 1, 3) := by decide +kernel
theorem dX7_splits_226 : decode cX7_splits 226 = .ok (.iinc 5 1, 3) := by decide +kernel
theorem dX7_splits_229 : decode cX7_splits 229 = .ok (.goto (-91), 3) := by decide +kernel
theorem dX7_splits_232 : decode cX7_splits 232 = .ok (.aload_n 0, 1) := by decide +kernel
theorem dX7_splits_233 : decode cX7_splits 233 = .ok (.getfield 32, 3) := by decide +kernel
theorem dX7_splits_236 : decode cX7_splits 236 = .ok (.iload_n 1, 1) := by decide +kernel
theorem dX7_splits_237 : decode cX7_splits 237 = .ok (.iload 4, 2) := by decide +kernel
theorem dX7_splits_239 : decode cX7_splits 239 = .ok (.iastore, 1) := by decide +kernel
theorem dX7_splits_240 : decode cX7_splits 240 = .ok (.iconst 0, 1) := by decide +kernel
theorem dX7_splits_241 : decode cX7_splits 241 = .ok (.istore 5, 2) := by decide +kernel
theorem dX7_splits_243 : decode cX7_splits 243 = .ok (.iload 5, 2) := by decide +kernel
theorem dX7_splits_245 : decode cX7_splits 245 = .ok (.iconst 1, 1) := by decide +kernel
theorem dX7_splits_246 : decode cX7_splits 246 = .ok (.aload_n 0, 1) := by decide +kernel
theorem dX7_splits_247 : decode cX7_splits 247 = .ok (.getfield 38, 3) := by decide +kernel
theorem dX7_splits_250 : decode cX7_splits 250 = .ok (.iconst 0, 1) := by decide +kernel
theorem dX7_splits_251 : decode cX7_splits 251 = .ok (.iaload, 1) := by decide +kernel
theorem dX7_splits_252 : decode cX7_splits 252 = .ok (.ishl, 1) := by decide +kernel
theorem dX7_splits_253 : decode cX7_splits 253 = .ok (.if_icmp .ge 38, 3) := by decide +kernel
theorem dX7_splits_256 : decode cX7_splits 256 = .ok (.aload_n 0, 1) := by decide +kernel
theorem dX7_splits_257 : decode cX7_splits 257 = .ok (.getfield 41, 3) := by decide +kernel
theorem dX7_splits_260 : decode cX7_splits 260 = .ok (.iload 5, 2) := by decide +kernel
theorem dX7_splits_262 : decode cX7_splits 262 = .ok (.iaload, 1) := by decide +kernel
theorem dX7_splits_263 : decode cX7_splits 263 = .ok (.iload_n 1, 1) := by decide +kernel
theorem dX7_splits_264 : decode cX7_splits 264 = .ok (.if_icmp .ne 21, 3) := by decide +kernel
theorem dX7_splits_267 : decode cX7_splits 267 = .ok (.iload 5, 2) := by decide +kernel
theorem dX7_splits_269 : decode cX7_splits 269 = .ok (.iload_n 2, 1) := by decide +kernel
theorem dX7_splits_270 : decode cX7_splits 270 = .ok (.ishr, 1) := by decide +kernel
theorem dX7_splits_271 : decode cX7_splits 271 = .ok (.iconst 1, 1) := by decide +kernel
theorem dX7_splits_272 : decode cX7_splits 272 = .ok (.iand, 1) := by decide +kernel
theorem dX7_splits_273 : decode cX7_splits 273 = .ok (.iconst 1, 1) := by decide +kernel
theorem dX7_splits_274 : decode cX7_splits 274 = .ok (.if_icmp .ne 11, 3) := by decide +kernel
theorem dX7_splits_277 : decode cX7_splits 277 = .ok (.aload_n 0, 1) := by decide +kernel
theorem dX7_splits_278 : decode cX7_splits 278 = .ok (.getfield 41, 3) := by decide +kernel
theorem dX7_splits_281 : decode cX7_splits 281 = .ok (.iload 5, 2) := by decide +kernel
theorem dX7_splits_283 : decode cX7_splits 283 = .ok (.iload_n 3, 1) := by decide +kernel
theorem dX7_splits_284 : decode cX7_splits 284 = .ok (.iastore, 1) := by decide +kernel
theorem dX7_splits_285 : decode cX7_splits 285 = .ok (.iinc 5 1, 3) := by decide +kernel
theorem dX7_splits_288 : decode cX7_splits 288 = .ok (.goto (-45), 3) := by decide +kernel
theorem dX7_splits_291 : decode cX7_splits 291 = .ok (.iconst 1, 1) := by decide +kernel
theorem dX7_splits_292 : decode cX7_splits 292 = .ok (.ireturn, 1) := by decide +kernel
theorem dX7_write_0 : decode cX7_write 0 = .ok (.aload_n 0, 1) := by decide +kernel
theorem dX7_write_1 : decode cX7_write 1 = .ok (.getfield 50, 3) := by decide +kernel
theorem dX7_write_4 : decode cX7_write 4 = .ok (.aload_n 0, 1) := by decide +kernel
theorem dX7_write_5 : decode cX7_write 5 = .ok (.getfield 101, 3) := by decide +kernel
theorem dX7_write_8 : decode cX7_write 8 = .ok (.iload_n 2, 1) := by decide +kernel
theorem dX7_write_9 : decode cX7_write 9 = .ok (.iastore, 1) := by decide +kernel
theorem dX7_write_10 : decode cX7_write 10 = .ok (.aload_n 0, 1) := by decide +kernel
theorem dX7_write_11 : decode cX7_write 11 = .ok (.dup, 1) := by decide +kernel
theorem dX7_write_12 : decode cX7_write 12 = .ok (.getfield 101, 3) := by decide +kernel
theorem dX7_write_15 : decode cX7_write 15 = .ok (.iconst 1, 1) := by decide +kernel
theorem dX7_write_16 : decode cX7_write 16 = .ok (.iadd, 1) := by decide +kernel
theorem dX7_write_17 : decode cX7_write 17 = .ok (.putfield 101, 3) := by decide +kernel
theorem dX7_write_20 : decode cX7_write 20 = .ok (.iload_n 1, 1) := by decide +kernel
theorem dX7_write_21 : decode cX7_write 21 = .ok (.iload_n 2, 1) := by decide +kernel
theorem dX7_write_22 : decode cX7_write 22 = .ok (.invokestatic 82, 3) := by decide +kernel
theorem dX7_write_25 : decode cX7_write 25 = .ok (.ireturn, 1) := by decide +kernel
theorem dX7_put_0 : decode cX7_put 0 = .ok (.aload_n 0, 1) := by decide +kernel
theorem dX7_put_1 : decode cX7_put 1 = .ok (.invokevirtual 104, 3) := by decide +kernel
theorem dX7_put_4 : decode cX7_put 4 = .ok (.ifCond .ne 5, 3) := by decide +kernel
theorem dX7_put_7 : decode cX7_put 7 = .ok (.iconst 0, 1) := by decide +kernel
theorem dX7_put_8 : decode cX7_put 8 = .ok (.ireturn, 1) := by decide +kernel
theorem dX7_put_9 : decode cX7_put 9 = .ok (.aload_n 0, 1) := by decide +kernel
theorem dX7_put_10 : decode cX7_put 10 = .ok (.getfield 44, 3) := by decide +kernel
theorem dX7_put_13 : decode cX7_put 13 = .ok (.iconst 0, 1) := by decide +kernel
theorem dX7_put_14 : decode cX7_put 14 = .ok (.iaload, 1) := by decide +kernel
theorem dX7_put_15 : decode cX7_put 15 = .ok (.istore_n 2, 1) := by decide +kernel
theorem dX7_put_16 : decode cX7_put 16 = .ok (.aload_n 0, 1) := by decide +kernel
theorem dX7_put_17 : decode cX7_put 17 = .ok (.getfield 101, 3) := by decide +kernel
theorem dX7_put_20 : decode cX7_put 20 = .ok (.aload_n 0, 1) := by decide +kernel
theorem dX7_put_21 : decode cX7_put 21 = .ok (.getfield 75, 3) := by decide +kernel
theorem dX7_put_24 : decode cX7_put 24 = .ok (.iadd, 1) := by decide +kernel
theorem dX7_put_25 : decode cX7_put 25 = .ok (.bipush 6, 2) := by decide +kernel
theorem dX7_put_27 : decode cX7_put 27 = .ok (.iadd, 1) := by decide +kernel
theorem dX7_put_28 : decode cX7_put 28 = .ok (.sipush 600, 3) := by decide +kernel
theorem dX7_put_31 : decode cX7_put 31 = .ok (.if_icmp .le 11, 3) := by decide +kernel
theorem dX7_put_34 : decode cX7_put 34 = .ok (.aload_n 0, 1) := by decide +kernel
theorem dX7_put_35 : decode cX7_put 35 = .ok (.iconst 0, 1) := by decide +kernel
theorem dX7_put_36 : decode cX7_put 36 = .ok (.putfield 75, 3) := by decide +kernel
theorem dX7_put_39 : decode cX7_put 39 = .ok (.bipush (-2), 2) := by decide +kernel
theorem dX7_put_41 : decode cX7_put 41 = .ok (.ireturn, 1) := by decide +kernel
theorem dX7_put_42 : decode cX7_put 42 = .ok (.aload_n 0, 1) := by decide +kernel
theorem dX7_put_43 : decode cX7_put 43 = .ok (.iload_n 1, 1) := by decide +kernel
theorem dX7_put_44 : decode cX7_put 44 = .ok (.invokevirtual 107, 3) := by decide +kernel
theorem dX7_put_47 : decode cX7_put 47 = .ok (.istore_n 3, 1) := by decide +kernel
theorem dX7_put_48 : decode cX7_put 48 = .ok (.iload_n 3, 1) := by decide +kernel
theorem dX7_put_49 : decode cX7_put 49 = .ok (.ifCond .eq 90, 3) := by decide +kernel
theorem dX7_put_52 : decode cX7_put 52 = .ok (.aload_n 0, 1) := by decide +kernel
theorem dX7_put_53 : decode cX7_put 53 = .ok (.iconst 0, 1) := by decide +kernel
theorem dX7_put_54 : decode cX7_put 54 = .ok (.aload_n 0, 1) := by decide +kernel
theorem dX7_put_55 : decode cX7_put 55 = .ok (.getfield 75, 3) := by decide +kernel
theorem dX7_put_58 : decode cX7_put 58 = .ok (.invokevirtual 110, 3) := by decide +kernel
theorem dX7_put_61 : decode cX7_put 61 = .ok (.istore 4, 2) := by decide +kernel
theorem dX7_put_63 : decode cX7_put 63 = .ok (.iconst 0, 1) := by decide +kernel
theorem dX7_put_64 : decode cX7_put 64 = .ok (.istore 5, 2) := by decide +kernel
theorem dX7_put_66 : decode cX7_put 66 = .ok (.iload 5, 2) := by decide +kernel
theorem dX7_put_68 : decode cX7_put 68 = .ok (.aload_n 0, 1) := by decide +kernel
theorem dX7_put_69 : decode cX7_put 69 = .ok (.getfield 75, 3) := by decide +kernel
theorem dX7_put_72 : decode cX7_put 72 = .ok (.if_icmp .ge 24, 3) := by decide +kernel
theorem dX7_put_75 : decode cX7_put 75 = .ok (.aload_n 0, 1) := by decide +kernel
theorem dX7_put_76 : decode cX7_put 76 = .ok (.iload 4, 2) := by decide +kernel
theorem dX7_put_78 : decode cX7_put 78 = .ok (.aload_n 0, 1) := by decide +kernel
theorem dX7_put_79 : decode cX7_put 79 = .ok (.getfield 53, 3) := by decide +kernel
theorem dX7_put_82 : decode cX7_put 82 = .ok (.iload 5, 2) := by decide +kernel
theorem dX7_put_84 : decode cX7_put 84 = .ok (.iaload, 1) := by decide +kernel
theorem dX7_put_85 : decode cX7_put 85 = .ok (.invokevirtual 110, 3) := by decide +kernel
theorem dX7_put_88 : decode cX7_put 88 = .ok (.istore 4, 2) := by decide +kernel
theorem dX7_put_90 : decode cX7_put 90 = .ok (.iinc 5 1, 3) := by decide +kernel
theorem dX7_put_93 : decode cX7_put 93 = .ok (.goto (-27), 3) := by decide +kernel
theorem dX7_put_96 : decode cX7_put 96 = .ok (.bipush 24, 2) := by decide +kernel
theorem dX7_put_98 : decode cX7_put 98 = .ok (.istore 5, 2) := by decide +kernel
theorem dX7_put_100 : decode cX7_put 100 = .ok (.iload 5, 2) := by decide +kernel
theorem dX7_put_102 : decode cX7_put 102 = .ok (.ifCond .lt 25, 3) := by decide +kernel
theorem dX7_put_105 : decode cX7_put 105 = .ok (.aload_n 0, 1) := by decide +kernel
theorem dX7_put_106 : decode cX7_put 106 = .ok (.iload 4, 2) := by decide +kernel
theorem dX7_put_108 : decode cX7_put 108 = .ok (.iload_n 1, 1) := by decide +kernel
theorem dX7_put_109 : decode cX7_put 109 = .ok (.iload 5, 2) := by decide +kernel
theorem dX7_put_111 : decode cX7_put 111 = .ok (.ishr, 1) := by decide +kernel
theorem dX7_put_112 : decode cX7_put 112 = .ok (.sipush 255, 3) := by decide +kernel
theorem dX7_put_115 : decode cX7_put 115 = .ok (.iand, 1) := by decide +kernel
theorem dX7_put_116 : decode cX7_put 116 = .ok (.invokevirtual 110, 3) := by decide +kernel
theorem dX7_put_119 : decode cX7_put 119 = .ok (.istore 4, 2) := by decide +kernel
theorem dX7_put_121 : decode cX7_put 121 = .ok (.iinc 5 (-8), 3) := by decide +kernel
theorem dX7_put_124 : decode cX7_put 124 = .ok (.goto (-24), 3) := by decide +kernel
theorem dX7_put_127 : decode cX7_put 127 = .ok (.aload_n 0, 1) := by decide +kernel
theorem dX7_put_128 : decode cX7_put 128 = .ok (.iconst 0, 1) := by decide +kernel
theorem dX7_put_129 : decode cX7_put 129 = .ok (.iload 4, 2) := by decide +kernel
theorem dX7_put_131 : decode cX7_put 131 = .ok (.sipush 255, 3) := by decide +kernel
theorem dX7_put_134 : decode cX7_put 134 = .ok (.iand, 1) := by decide +kernel
theorem dX7_put_135 : decode cX7_put 135 = .ok (.invokevirtual 110, 3) := by decide +kernel
theorem dX7_put_138 : decode cX7_put 138 = .ok (.pop, 1) := by decide +kernel
theorem dX7_put_139 : decode cX7_put 139 = .ok (.aload_n 0, 1) := by decide +kernel
theorem dX7_put_140 : decode cX7_put 140 = .ok (.iconst 0, 1) := by decide +kernel
theorem dX7_put_141 : decode cX7_put 141 = .ok (.putfield 75, 3) := by decide +kernel
theorem dX7_put_144 : decode cX7_put 144 = .ok (.iload_n 3, 1) := by decide +kernel
theorem dX7_put_145 : decode cX7_put 145 = .ok (.ifCond .eq 7, 3) := by decide +kernel
theorem dX7_put_148 : decode cX7_put 148 = .ok (.iload_n 2, 1) := by decide +kernel
theorem dX7_put_149 : decode cX7_put 149 = .ok (.goto 4, 3) := by decide +kernel
theorem dX7_put_152 : decode cX7_put 152 = .ok (.iconst (-1), 1) := by decide +kernel
theorem dX7_put_153 : decode cX7_put 153 = .ok (.ireturn, 1) := by decide +kernel
theorem dX7_has_0 : decode cX7_has 0 = .ok (.aload_n 0, 1) := by decide +kernel
theorem dX7_has_1 : decode cX7_has 1 = .ok (.invokevirtual 104, 3) := by decide +kernel
theorem dX7_has_4 : decode cX7_has 4 = .ok (.ifCond .ne 5, 3) := by decide +kernel
theorem dX7_has_7 : decode cX7_has 7 = .ok (.iconst 0, 1) := by decide +kernel
theorem dX7_has_8 : decode cX7_has 8 = .ok (.ireturn, 1) := by decide +kernel
theorem dX7_has_9 : decode cX7_has 9 = .ok (.aload_n 0, 1) := by decide +kernel
theorem dX7_has_10 : decode cX7_has 10 = .ok (.invokevirtual 86, 3) := by decide +kernel
theorem dX7_has_13 : decode cX7_has 13 = .ok (.iconst (-1), 1) := by decide +kernel
theorem dX7_has_14 : decode cX7_has 14 = .ok (.if_icmp .eq 7, 3) := by decide +kernel
theorem dX7_has_17 : decode cX7_has 17 = .ok (.iconst 1, 1) := by decide +kernel
theorem dX7_has_18 : decode cX7_has 18 = .ok (.goto 4, 3) := by decide +kernel
theorem dX7_has_21 : decode cX7_has 21 = .ok (.iconst 0, 1) := by decide +kernel
theorem dX7_has_22 : decode cX7_has 22 = .ok (.istore_n 1, 1) := by decide +kernel
theorem dX7_has_23 : decode cX7_has 23 = .ok (.aload_n 0, 1) := by decide +kernel
theorem dX7_has_24 : decode cX7_has 24 = .ok (.iconst 0, 1) := by decide +kernel
theorem dX7_has_25 : decode cX7_has 25 = .ok (.putfield 75, 3) := by decide +kernel
theorem dX7_has_28 : decode cX7_has 28 = .ok (.iload_n 1, 1) := by decide +kernel
theorem dX7_has_29 : decode cX7_has 29 = .ok (.ireturn, 1) := by decide +kernel
theorem dX7_find_0 : decode cX7_find 0 = .ok (.aload_n 0, 1) := by decide +kernel
theorem dX7_find_1 : decode cX7_find 1 = .ok (.invokevirtual 104, 3) := by decide +kernel
theorem dX7_find_4 : decode cX7_find 4 = .ok (.ifCond .ne 5, 3) := by decide +kernel
theorem dX7_find_7 : decode cX7_find 7 = .ok (.iconst 0, 1) := by decide +kernel
theorem dX7_find_8 : decode cX7_find 8 = .ok (.ireturn, 1) := by decide +kernel
theorem dX7_find_9 : decode cX7_find 9 = .ok (.aload_n 0, 1) := by decide +kernel
theorem dX7_find_10 : decode cX7_find 10 = .ok (.invokevirtual 86, 3) := by decide +kernel
theorem dX7_find_13 : decode cX7_find 13 = .ok (.istore_n 1, 1) := by decide +kernel
theorem dX7_find_14 : decode cX7_find 14 = .ok (.aload_n 0, 1) := by decide +kernel
theorem dX7_find_15 : decode cX7_find 15 = .ok (.iconst 0, 1) := by decide +kernel
theorem dX7_find_16 : decode cX7_find 16 = .ok (.putfield 75, 3) := by decide +kernel
theorem dX7_find_19 : decode cX7_find 19 = .ok (.iload_n 1, 1) := by decide +kernel
theorem dX7_find_20 : decode cX7_find 20 = .ok (.iconst (-1), 1) := by decide +kernel
theorem dX7_find_21 : decode cX7_find 21 = .ok (.if_icmp .ne 7, 3) := by decide +kernel
theorem dX7_find_24 : decode cX7_find 24 = .ok (.iconst 0, 1) := by decide +kernel
theorem dX7_find_25 : decode cX7_find 25 = .ok (.goto 9, 3) := by decide +kernel
theorem dX7_find_28 : decode cX7_find 28 = .ok (.aload_n 0, 1) := by decide +kernel
theorem dX7_find_29 : decode cX7_find 29 = .ok (.getfield 19, 3) := by decide +kernel
theorem dX7_find_32 : decode cX7_find 32 = .ok (.iload_n 1, 1) := by decide +kernel
theorem dX7_find_33 : decode cX7_find 33 = .ok (.iaload, 1) := by decide +kernel
theorem dX7_find_34 : decode cX7_find 34 = .ok (.ireturn, 1) := by decide +kernel
theorem dX7_save_0 : decode cX7_save 0 = .ok (.aload_n 0, 1) := by decide +kernel
theorem dX7_save_1 : decode cX7_save 1 = .ok (.aload_n 0, 1) := by decide +kernel
theorem dX7_save_2 : decode cX7_save 2 = .ok (.invokevirtual 78, 3) := by decide +kernel
theorem dX7_save_5 : decode cX7_save 5 = .ok (.ifCond .eq 7, 3) := by decide +kernel
theorem dX7_save_8 : decode cX7_save 8 = .ok (.iconst 1, 1) := by decide +kernel
theorem dX7_save_9 : decode cX7_save 9 = .ok (.goto 4, 3) := by decide +kernel
theorem dX7_save_12 : decode cX7_save 12 = .ok (.iconst 0, 1) := by decide +kernel
theorem dX7_save_13 : decode cX7_save 13 = .ok (.putfield 67, 3) := by decide +kernel
theorem dX7_save_16 : decode cX7_save 16 = .ok (.aload_n 0, 1) := by decide +kernel
theorem dX7_save_17 : decode cX7_save 17 = .ok (.getfield 67, 3) := by decide +kernel
theorem dX7_save_20 : decode cX7_save 20 = .ok (.ifCond .le 5, 3) := by decide +kernel
theorem dX7_save_23 : decode cX7_save 23 = .ok (.iconst 0, 1) := by decide +kernel
theorem dX7_save_24 : decode cX7_save 24 = .ok (.ireturn, 1) := by decide +kernel
theorem dX7_save_25 : decode cX7_save 25 = .ok (.aload_n 0, 1) := by decide +kernel
theorem dX7_save_26 : decode cX7_save 26 = .ok (.iconst 1, 1) := by decide +kernel
theorem dX7_save_27 : decode cX7_save 27 = .ok (.iconst 0, 1) := by decide +kernel
theorem dX7_save_28 : decode cX7_save 28 = .ok (.invokevirtual 63, 3) := by decide +kernel
theorem dX7_save_31 : decode cX7_save 31 = .ok (.aload_n 0, 1) := by decide +kernel
theorem dX7_save_32 : decode cX7_save 32 = .ok (.iconst 0, 1) := by decide +kernel
theorem dX7_save_33 : decode cX7_save 33 = .ok (.putfield 101, 3) := by decide +kernel
theorem dX7_save_36 : decode cX7_save 36 = .ok (.aload_n 0, 1) := by decide +kernel
theorem dX7_save_37 : decode cX7_save 37 = .ok (.getfield 44, 3) := by decide +kernel
theorem dX7_save_40 : decode cX7_save 40 = .ok (.iconst 0, 1) := by decide +kernel
theorem dX7_save_41 : decode cX7_save 41 = .ok (.iaload, 1) := by decide +kernel
theorem dX7_save_42 : decode cX7_save 42 = .ok (.ireturn, 1) := by decide +kernel
theorem dX7_crash_0 : decode cX7_crash 0 = .ok (.aload_n 0, 1) := by decide +kernel
theorem dX7_crash_1 : decode cX7_crash 1 = .ok (.iload_n 1, 1) := by decide +kernel
theorem dX7_crash_2 : decode cX7_crash 2 = .ok (.iconst 0, 1) := by decide +kernel
theorem dX7_crash_3 : decode cX7_crash 3 = .ok (.aload_n 0, 1) := by decide +kernel
theorem dX7_crash_4 : decode cX7_crash 4 = .ok (.getfield 101, 3) := by decide +kernel
theorem dX7_crash_7 : decode cX7_crash 7 = .ok (.invokestatic 71, 3) := by decide +kernel
theorem dX7_crash_10 : decode cX7_crash 10 = .ok (.ifCond .eq 7, 3) := by decide +kernel
theorem dX7_crash_13 : decode cX7_crash 13 = .ok (.iconst 0, 1) := by decide +kernel
theorem dX7_crash_14 : decode cX7_crash 14 = .ok (.goto 4, 3) := by decide +kernel
theorem dX7_crash_17 : decode cX7_crash 17 = .ok (.iconst 1, 1) := by decide +kernel
theorem dX7_crash_18 : decode cX7_crash 18 = .ok (.putfield 67, 3) := by decide +kernel
theorem dX7_crash_21 : decode cX7_crash 21 = .ok (.aload_n 0, 1) := by decide +kernel
theorem dX7_crash_22 : decode cX7_crash 22 = .ok (.getfield 67, 3) := by decide +kernel
theorem dX7_crash_25 : decode cX7_crash 25 = .ok (.ifCond .le 5, 3) := by decide +kernel
theorem dX7_crash_28 : decode cX7_crash 28 = .ok (.iconst 0, 1) := by decide +kernel
theorem dX7_crash_29 : decode cX7_crash 29 = .ok (.ireturn, 1) := by decide +kernel
theorem dX7_crash_30 : decode cX7_crash 30 = .ok (.aload_n 0, 1) := by decide +kernel
theorem dX7_crash_31 : decode cX7_crash 31 = .ok (.iconst 0, 1) := by decide +kernel
theorem dX7_crash_32 : decode cX7_crash 32 = .ok (.iconst 1, 1) := by decide +kernel
theorem dX7_crash_33 : decode cX7_crash 33 = .ok (.invokevirtual 63, 3) := by decide +kernel
theorem dX7_crash_36 : decode cX7_crash 36 = .ok (.iconst 0, 1) := by decide +kernel
theorem dX7_crash_37 : decode cX7_crash 37 = .ok (.istore_n 2, 1) := by decide +kernel
theorem dX7_crash_38 : decode cX7_crash 38 = .ok (.iload_n 2, 1) := by decide +kernel
theorem dX7_crash_39 : decode cX7_crash 39 = .ok (.sipush 2560, 3) := by decide +kernel
theorem dX7_crash_42 : decode cX7_crash 42 = .ok (.if_icmp .ge 16, 3) := by decide +kernel
theorem dX7_crash_45 : decode cX7_crash 45 = .ok (.aload_n 0, 1) := by decide +kernel
theorem dX7_crash_46 : decode cX7_crash 46 = .ok (.getfield 47, 3) := by decide +kernel
theorem dX7_crash_49 : decode cX7_crash 49 = .ok (.iload_n 2, 1) := by decide +kernel
theorem dX7_crash_50 : decode cX7_crash 50 = .ok (.iconst 0, 1) := by decide +kernel
theorem dX7_crash_51 : decode cX7_crash 51 = .ok (.iastore, 1) := by decide +kernel
theorem dX7_crash_52 : decode cX7_crash 52 = .ok (.iinc 2 1, 3) := by decide +kernel
theorem dX7_crash_55 : decode cX7_crash 55 = .ok (.goto (-17), 3) := by decide +kernel
theorem dX7_crash_58 : decode cX7_crash 58 = .ok (.iconst 0, 1) := by decide +kernel
theorem dX7_crash_59 : decode cX7_crash 59 = .ok (.istore_n 2, 1) := by decide +kernel
theorem dX7_crash_60 : decode cX7_crash 60 = .ok (.iconst 1, 1) := by decide +kernel
theorem dX7_crash_61 : decode cX7_crash 61 = .ok (.istore_n 3, 1) := by decide +kernel
theorem dX7_crash_62 : decode cX7_crash 62 = .ok (.iload_n 3, 1) := by decide +kernel
theorem dX7_crash_63 : decode cX7_crash 63 = .ok (.ifCond .eq 33, 3) := by decide +kernel
theorem dX7_crash_66 : decode cX7_crash 66 = .ok (.aload_n 0, 1) := by decide +kernel
theorem dX7_crash_67 : decode cX7_crash 67 = .ok (.iload_n 2, 1) := by decide +kernel
theorem dX7_crash_68 : decode cX7_crash 68 = .ok (.iload_n 1, 1) := by decide +kernel
theorem dX7_crash_69 : decode cX7_crash 69 = .ok (.invokevirtual 113, 3) := by decide +kernel
theorem dX7_crash_72 : decode cX7_crash 72 = .ok (.istore_n 3, 1) := by decide +kernel
theorem dX7_crash_73 : decode cX7_crash 73 = .ok (.iload_n 2, 1) := by decide +kernel
theorem dX7_crash_74 : decode cX7_crash 74 = .ok (.iload_n 3, 1) := by decide +kernel
theorem dX7_crash_75 : decode cX7_crash 75 = .ok (.ifCond .eq 15, 3) := by decide +kernel
theorem dX7_crash_78 : decode cX7_crash 78 = .ok (.aload_n 0, 1) := by decide +kernel
theorem dX7_crash_79 : decode cX7_crash 79 = .ok (.getfield 50, 3) := by decide +kernel
theorem dX7_crash_82 : decode cX7_crash 82 = .ok (.iload_n 2, 1) := by decide +kernel
theorem dX7_crash_83 : decode cX7_crash 83 = .ok (.iaload, 1) := by decide +kernel
theorem dX7_crash_84 : decode cX7_crash 84 = .ok (.bipush 6, 2) := by decide +kernel
theorem dX7_crash_86 : decode cX7_crash 86 = .ok (.iadd, 1) := by decide +kernel
theorem dX7_crash_87 : decode cX7_crash 87 = .ok (.goto 4, 3) := by decide +kernel
theorem dX7_crash_90 : decode cX7_crash 90 = .ok (.iconst 0, 1) := by decide +kernel
theorem dX7_crash_91 : decode cX7_crash 91 = .ok (.iadd, 1) := by decide +kernel
theorem dX7_crash_92 : decode cX7_crash 92 = .ok (.istore_n 2, 1) := by decide +kernel
theorem dX7_crash_93 : decode cX7_crash 93 = .ok (.goto (-31), 3) := by decide +kernel
theorem dX7_crash_96 : decode cX7_crash 96 = .ok (.aload_n 0, 1) := by decide +kernel
theorem dX7_crash_97 : decode cX7_crash 97 = .ok (.iload_n 2, 1) := by decide +kernel
theorem dX7_crash_98 : decode cX7_crash 98 = .ok (.putfield 101, 3) := by decide +kernel
theorem dX7_crash_101 : decode cX7_crash 101 = .ok (.aload_n 0, 1) := by decide +kernel
theorem dX7_crash_102 : decode cX7_crash 102 = .ok (.iconst 0, 1) := by decide +kernel
theorem dX7_crash_103 : decode cX7_crash 103 = .ok (.putfield 75, 3) := by decide +kernel
theorem dX7_crash_106 : decode cX7_crash 106 = .ok (.aload_n 0, 1) := by decide +kernel
theorem dX7_crash_107 : decode cX7_crash 107 = .ok (.getfield 44, 3) := by decide +kernel
theorem dX7_crash_110 : decode cX7_crash 110 = .ok (.iconst 0, 1) := by decide +kernel
theorem dX7_crash_111 : decode cX7_crash 111 = .ok (.iaload, 1) := by decide +kernel
theorem dX7_crash_112 : decode cX7_crash 112 = .ok (.ireturn, 1) := by decide +kernel
theorem dX7_replays_0 : decode cX7_replays 0 = .ok (.iload_n 1, 1) := by decide +kernel
theorem dX7_replays_1 : decode cX7_replays 1 = .ok (.iload_n 2, 1) := by decide +kernel
theorem dX7_replays_2 : decode cX7_replays 2 = .ok (.if_icmp .lt 5, 3) := by decide +kernel
theorem dX7_replays_5 : decode cX7_replays 5 = .ok (.iconst 0, 1) := by decide +kernel
theorem dX7_replays_6 : decode cX7_replays 6 = .ok (.ireturn, 1) := by decide +kernel
theorem dX7_replays_7 : decode cX7_replays 7 = .ok (.aload_n 0, 1) := by decide +kernel
theorem dX7_replays_8 : decode cX7_replays 8 = .ok (.getfield 50, 3) := by decide +kernel
theorem dX7_replays_11 : decode cX7_replays 11 = .ok (.iload_n 1, 1) := by decide +kernel
theorem dX7_replays_12 : decode cX7_replays 12 = .ok (.iaload, 1) := by decide +kernel
theorem dX7_replays_13 : decode cX7_replays 13 = .ok (.istore_n 3, 1) := by decide +kernel
theorem dX7_replays_14 : decode cX7_replays 14 = .ok (.iload_n 3, 1) := by decide +kernel
theorem dX7_replays_15 : decode cX7_replays 15 = .ok (.iconst 1, 1) := by decide +kernel
theorem dX7_replays_16 : decode cX7_replays 16 = .ok (.bipush 12, 2) := by decide +kernel
theorem dX7_replays_18 : decode cX7_replays 18 = .ok (.invokestatic 71, 3) := by decide +kernel
theorem dX7_replays_21 : decode cX7_replays 21 = .ok (.ifCond .eq 13, 3) := by decide +kernel
theorem dX7_replays_24 : decode cX7_replays 24 = .ok (.iload_n 1, 1) := by decide +kernel
theorem dX7_replays_25 : decode cX7_replays 25 = .ok (.iload_n 3, 1) := by decide +kernel
theorem dX7_replays_26 : decode cX7_replays 26 = .ok (.iadd, 1) := by decide +kernel
theorem dX7_replays_27 : decode cX7_replays 27 = .ok (.bipush 6, 2) := by decide +kernel
theorem dX7_replays_29 : decode cX7_replays 29 = .ok (.iadd, 1) := by decide +kernel
theorem dX7_replays_30 : decode cX7_replays 30 = .ok (.iload_n 2, 1) := by decide +kernel
theorem dX7_replays_31 : decode cX7_replays 31 = .ok (.if_icmp .le 5, 3) := by decide +kernel
theorem dX7_replays_34 : decode cX7_replays 34 = .ok (.iconst 0, 1) := by decide +kernel
theorem dX7_replays_35 : decode cX7_replays 35 = .ok (.ireturn, 1) := by decide +kernel
theorem dX7_replays_36 : decode cX7_replays 36 = .ok (.iconst 0, 1) := by decide +kernel
theorem dX7_replays_37 : decode cX7_replays 37 = .ok (.istore 4, 2) := by decide +kernel
theorem dX7_replays_39 : decode cX7_replays 39 = .ok (.iload_n 1, 1) := by decide +kernel
theorem dX7_replays_40 : decode cX7_replays 40 = .ok (.istore 5, 2) := by decide +kernel
theorem dX7_replays_42 : decode cX7_replays 42 = .ok (.iload 5, 2) := by decide +kernel
theorem dX7_replays_44 : decode cX7_replays 44 = .ok (.iload_n 1, 1) := by decide +kernel
theorem dX7_replays_45 : decode cX7_replays 45 = .ok (.iload_n 3, 1) := by decide +kernel
theorem dX7_replays_46 : decode cX7_replays 46 = .ok (.iadd, 1) := by decide +kernel
theorem dX7_replays_47 : decode cX7_replays 47 = .ok (.iconst 5, 1) := by decide +kernel
theorem dX7_replays_48 : decode cX7_replays 48 = .ok (.iadd, 1) := by decide +kernel
theorem dX7_replays_49 : decode cX7_replays 49 = .ok (.if_icmp .ge 23, 3) := by decide +kernel
theorem dX7_replays_52 : decode cX7_replays 52 = .ok (.iload 4, 2) := by decide +kernel
theorem dX7_replays_54 : decode cX7_replays 54 = .ok (.aload_n 0, 1) := by decide +kernel
theorem dX7_replays_55 : decode cX7_replays 55 = .ok (.getfield 50, 3) := by decide +kernel
theorem dX7_replays_58 : decode cX7_replays 58 = .ok (.iload 5, 2) := by decide +kernel
theorem dX7_replays_60 : decode cX7_replays 60 = .ok (.iaload, 1) := by decide +kernel
theorem dX7_replays_61 : decode cX7_replays 61 = .ok (.invokestatic 82, 3) := by decide +kernel
theorem dX7_replays_64 : decode cX7_replays 64 = .ok (.istore 4, 2) := by decide +kernel
theorem dX7_replays_66 : decode cX7_replays 66 = .ok (.iinc 5 1, 3) := by decide +kernel
theorem dX7_replays_69 : decode cX7_replays 69 = .ok (.goto (-27), 3) := by decide +kernel
theorem dX7_replays_72 : decode cX7_replays 72 = .ok (.iload 4, 2) := by decide +kernel
theorem dX7_replays_74 : decode cX7_replays 74 = .ok (.sipush 255, 3) := by decide +kernel
theorem dX7_replays_77 : decode cX7_replays 77 = .ok (.iand, 1) := by decide +kernel
theorem dX7_replays_78 : decode cX7_replays 78 = .ok (.aload_n 0, 1) := by decide +kernel
theorem dX7_replays_79 : decode cX7_replays 79 = .ok (.getfield 50, 3) := by decide +kernel
theorem dX7_replays_82 : decode cX7_replays 82 = .ok (.iload_n 1, 1) := by decide +kernel
theorem dX7_replays_83 : decode cX7_replays 83 = .ok (.iload_n 3, 1) := by decide +kernel
theorem dX7_replays_84 : decode cX7_replays 84 = .ok (.iadd, 1) := by decide +kernel
theorem dX7_replays_85 : decode cX7_replays 85 = .ok (.iconst 5, 1) := by decide +kernel
theorem dX7_replays_86 : decode cX7_replays 86 = .ok (.iadd, 1) := by decide +kernel
theorem dX7_replays_87 : decode cX7_replays 87 = .ok (.iaload, 1) := by decide +kernel
theorem dX7_replays_88 : decode cX7_replays 88 = .ok (.if_icmp .eq 5, 3) := by decide +kernel
theorem dX7_replays_91 : decode cX7_replays 91 = .ok (.iconst 0, 1) := by decide +kernel
theorem dX7_replays_92 : decode cX7_replays 92 = .ok (.ireturn, 1) := by decide +kernel
theorem dX7_replays_93 : decode cX7_replays 93 = .ok (.aload_n 0, 1) := by decide +kernel
theorem dX7_replays_94 : decode cX7_replays 94 = .ok (.iload_n 3, 1) := by decide +kernel
theorem dX7_replays_95 : decode cX7_replays 95 = .ok (.putfield 75, 3) := by decide +kernel
theorem dX7_replays_98 : decode cX7_replays 98 = .ok (.iconst 0, 1) := by decide +kernel
theorem dX7_replays_99 : decode cX7_replays 99 = .ok (.istore 5, 2) := by decide +kernel
theorem dX7_replays_101 : decode cX7_replays 101 = .ok (.iload 5, 2) := by decide +kernel
theorem dX7_replays_103 : decode cX7_replays 103 = .ok (.iload_n 3, 1) := by decide +kernel
theorem dX7_replays_104 : decode cX7_replays 104 = .ok (.if_icmp .ge 27, 3) := by decide +kernel
theorem dX7_replays_107 : decode cX7_replays 107 = .ok (.aload_n 0, 1) := by decide +kernel
theorem dX7_replays_108 : decode cX7_replays 108 = .ok (.getfield 53, 3) := by decide +kernel
theorem dX7_replays_111 : decode cX7_replays 111 = .ok (.iload 5, 2) := by decide +kernel
theorem dX7_replays_113 : decode cX7_replays 113 = .ok (.aload_n 0, 1) := by decide +kernel
theorem dX7_replays_114 : decode cX7_replays 114 = .ok (.getfield 50, 3) := by decide +kernel
theorem dX7_replays_117 : decode cX7_replays 117 = .ok (.iload_n 1, 1) := by decide +kernel
theorem dX7_replays_118 : decode cX7_replays 118 = .ok (.iconst 1, 1) := by decide +kernel
theorem dX7_replays_119 : decode cX7_replays 119 = .ok (.iadd, 1) := by decide +kernel
theorem dX7_replays_120 : decode cX7_replays 120 = .ok (.iload 5, 2) := by decide +kernel
theorem dX7_replays_122 : decode cX7_replays 122 = .ok (.iadd, 1) := by decide +kernel
theorem dX7_replays_123 : decode cX7_replays 123 = .ok (.iaload, 1) := by decide +kernel
theorem dX7_replays_124 : decode cX7_replays 124 = .ok (.iastore, 1) := by decide +kernel
theorem dX7_replays_125 : decode cX7_replays 125 = .ok (.iinc 5 1, 3) := by decide +kernel
theorem dX7_replays_128 : decode cX7_replays 128 = .ok (.goto (-27), 3) := by decide +kernel
theorem dX7_replays_131 : decode cX7_replays 131 = .ok (.iconst 0, 1) := by decide +kernel
theorem dX7_replays_132 : decode cX7_replays 132 = .ok (.istore 5, 2) := by decide +kernel
theorem dX7_replays_134 : decode cX7_replays 134 = .ok (.iconst 0, 1) := by decide +kernel
theorem dX7_replays_135 : decode cX7_replays 135 = .ok (.istore 6, 2) := by decide +kernel
theorem dX7_replays_137 : decode cX7_replays 137 = .ok (.iload 6, 2) := by decide +kernel
theorem dX7_replays_139 : decode cX7_replays 139 = .ok (.iconst 4, 1) := by decide +kernel
theorem dX7_replays_140 : decode cX7_replays 140 = .ok (.if_icmp .ge 30, 3) := by decide +kernel
theorem dX7_replays_143 : decode cX7_replays 143 = .ok (.iload 5, 2) := by decide +kernel
theorem dX7_replays_145 : decode cX7_replays 145 = .ok (.bipush 8, 2) := by decide +kernel
theorem dX7_replays_147 : decode cX7_replays 147 = .ok (.ishl, 1) := by decide +kernel
theorem dX7_replays_148 : decode cX7_replays 148 = .ok (.aload_n 0, 1) := by decide +kernel
theorem dX7_replays_149 : decode cX7_replays 149 = .ok (.getfield 50, 3) := by decide +kernel
theorem dX7_replays_152 : decode cX7_replays 152 = .ok (.iload_n 1, 1) := by decide +kernel
theorem dX7_replays_153 : decode cX7_replays 153 = .ok (.iconst 1, 1) := by decide +kernel
theorem dX7_replays_154 : decode cX7_replays 154 = .ok (.iadd, 1) := by decide +kernel
theorem dX7_replays_155 : decode cX7_replays 155 = .ok (.iload_n 3, 1) := by decide +kernel
theorem dX7_replays_156 : decode cX7_replays 156 = .ok (.iadd, 1) := by decide +kernel
theorem dX7_replays_157 : decode cX7_replays 157 = .ok (.iload 6, 2) := by decide +kernel
theorem dX7_replays_159 : decode cX7_replays 159 = .ok (.iadd, 1) := by decide +kernel
theorem dX7_replays_160 : decode cX7_replays 160 = .ok (.iaload, 1) := by decide +kernel
theorem dX7_replays_161 : decode cX7_replays 161 = .ok (.ior, 1) := by decide +kernel
theorem dX7_replays_162 : decode cX7_replays 162 = .ok (.istore 5, 2) := by decide +kernel
theorem dX7_replays_164 : decode cX7_replays 164 = .ok (.iinc 6 1, 3) := by decide +kernel
theorem dX7_replays_167 : decode cX7_replays 167 = .ok (.goto (-30), 3) := by decide +kernel
theorem dX7_replays_170 : decode cX7_replays 170 = .ok (.aload_n 0, 1) := by decide +kernel
theorem dX7_replays_171 : decode cX7_replays 171 = .ok (.iload 5, 2) := by decide +kernel
theorem dX7_replays_173 : decode cX7_replays 173 = .ok (.invokevirtual 107, 3) := by decide +kernel
theorem dX7_replays_176 : decode cX7_replays 176 = .ok (.ireturn, 1) := by decide +kernel
theorem dX7_poke_0 : decode cX7_poke 0 = .ok (.aload_n 0, 1) := by decide +kernel
theorem dX7_poke_1 : decode cX7_poke 1 = .ok (.iload_n 1, 1) := by decide +kernel
theorem dX7_poke_2 : decode cX7_poke 2 = .ok (.iconst 0, 1) := by decide +kernel
theorem dX7_poke_3 : decode cX7_poke 3 = .ok (.aload_n 0, 1) := by decide +kernel
theorem dX7_poke_4 : decode cX7_poke 4 = .ok (.getfield 59, 3) := by decide +kernel
theorem dX7_poke_7 : decode cX7_poke 7 = .ok (.iconst 1, 1) := by decide +kernel
theorem dX7_poke_8 : decode cX7_poke 8 = .ok (.isub, 1) := by decide +kernel
theorem dX7_poke_9 : decode cX7_poke 9 = .ok (.invokestatic 71, 3) := by decide +kernel
theorem dX7_poke_12 : decode cX7_poke 12 = .ok (.ifCond .eq 13, 3) := by decide +kernel
theorem dX7_poke_15 : decode cX7_poke 15 = .ok (.iload_n 2, 1) := by decide +kernel
theorem dX7_poke_16 : decode cX7_poke 16 = .ok (.iconst 0, 1) := by decide +kernel
theorem dX7_poke_17 : decode cX7_poke 17 = .ok (.bipush 63, 2) := by decide +kernel
theorem dX7_poke_19 : decode cX7_poke 19 = .ok (.invokestatic 71, 3) := by decide +kernel
theorem dX7_poke_22 : decode cX7_poke 22 = .ok (.ifCond .ne 7, 3) := by decide +kernel
theorem dX7_poke_25 : decode cX7_poke 25 = .ok (.iconst 1, 1) := by decide +kernel
theorem dX7_poke_26 : decode cX7_poke 26 = .ok (.goto 19, 3) := by decide +kernel
theorem dX7_poke_29 : decode cX7_poke 29 = .ok (.iload_n 3, 1) := by decide +kernel
theorem dX7_poke_30 : decode cX7_poke 30 = .ok (.iconst 1, 1) := by decide +kernel
theorem dX7_poke_31 : decode cX7_poke 31 = .ok (.sipush 255, 3) := by decide +kernel
theorem dX7_poke_34 : decode cX7_poke 34 = .ok (.invokestatic 71, 3) := by decide +kernel
theorem dX7_poke_37 : decode cX7_poke 37 = .ok (.ifCond .eq 7, 3) := by decide +kernel
theorem dX7_poke_40 : decode cX7_poke 40 = .ok (.iconst 0, 1) := by decide +kernel
theorem dX7_poke_41 : decode cX7_poke 41 = .ok (.goto 4, 3) := by decide +kernel
theorem dX7_poke_44 : decode cX7_poke 44 = .ok (.iconst 2, 1) := by decide +kernel
theorem dX7_poke_45 : decode cX7_poke 45 = .ok (.putfield 67, 3) := by decide +kernel
theorem dX7_poke_48 : decode cX7_poke 48 = .ok (.aload_n 0, 1) := by decide +kernel
theorem dX7_poke_49 : decode cX7_poke 49 = .ok (.getfield 67, 3) := by decide +kernel
theorem dX7_poke_52 : decode cX7_poke 52 = .ok (.ifCond .ne 18, 3) := by decide +kernel
theorem dX7_poke_55 : decode cX7_poke 55 = .ok (.aload_n 0, 1) := by decide +kernel
theorem dX7_poke_56 : decode cX7_poke 56 = .ok (.getfield 47, 3) := by decide +kernel
theorem dX7_poke_59 : decode cX7_poke 59 = .ok (.bipush 64, 2) := by decide +kernel
theorem dX7_poke_61 : decode cX7_poke 61 = .ok (.iload_n 1, 1) := by decide +kernel
theorem dX7_poke_62 : decode cX7_poke 62 = .ok (.imul, 1) := by decide +kernel
theorem dX7_poke_63 : decode cX7_poke 63 = .ok (.iload_n 2, 1) := by decide +kernel
theorem dX7_poke_64 : decode cX7_poke 64 = .ok (.iadd, 1) := by decide +kernel
theorem dX7_poke_65 : decode cX7_poke 65 = .ok (.dup2, 1) := by decide +kernel
theorem dX7_poke_66 : decode cX7_poke 66 = .ok (.iaload, 1) := by decide +kernel
theorem dX7_poke_67 : decode cX7_poke 67 = .ok (.iload_n 3, 1) := by decide +kernel
theorem dX7_poke_68 : decode cX7_poke 68 = .ok (.ixor, 1) := by decide +kernel
theorem dX7_poke_69 : decode cX7_poke 69 = .ok (.iastore, 1) := by decide +kernel
theorem dX7_poke_70 : decode cX7_poke 70 = .ok (.return_, 1) := by decide +kernel
theorem dX7_pokeJournal_0 : decode cX7_pokeJournal 0 = .ok (.aload_n 0, 1) := by decide +kernel
theorem dX7_pokeJournal_1 : decode cX7_pokeJournal 1 = .ok (.iload_n 1, 1) := by decide +kernel
theorem dX7_pokeJournal_2 : decode cX7_pokeJournal 2 = .ok (.iconst 0, 1) := by decide +kernel
theorem dX7_pokeJournal_3 : decode cX7_pokeJournal 3 = .ok (.sipush 599, 3) := by decide +kernel
theorem dX7_pokeJournal_6 : decode cX7_pokeJournal 6 = .ok (.invokestatic 71, 3) := by decide +kernel
theorem dX7_pokeJournal_9 : decode cX7_pokeJournal 9 = .ok (.ifCond .ne 7, 3) := by decide +kernel
theorem dX7_pokeJournal_12 : decode cX7_pokeJournal 12 = .ok (.iconst 1, 1) := by decide +kernel
theorem dX7_pokeJournal_13 : decode cX7_pokeJournal 13 = .ok (.goto 19, 3) := by decide +kernel
theorem dX7_pokeJournal_16 : decode cX7_pokeJournal 16 = .ok (.iload_n 2, 1) := by decide +kernel
theorem dX7_pokeJournal_17 : decode cX7_pokeJournal 17 = .ok (.iconst 1, 1) := by decide +kernel
theorem dX7_pokeJournal_18 : decode cX7_pokeJournal 18 = .ok (.sipush 255, 3) := by decide +kernel
theorem dX7_pokeJournal_21 : decode cX7_pokeJournal 21 = .ok (.invokestatic 71, 3) := by decide +kernel
theorem dX7_pokeJournal_24 : decode cX7_pokeJournal 24 = .ok (.ifCond .eq 7, 3) := by decide +kernel
theorem dX7_pokeJournal_27 : decode cX7_pokeJournal 27 = .ok (.iconst 0, 1) := by decide +kernel
theorem dX7_pokeJournal_28 : decode cX7_pokeJournal 28 = .ok (.goto 4, 3) := by decide +kernel
theorem dX7_pokeJournal_31 : decode cX7_pokeJournal 31 = .ok (.iconst 2, 1) := by decide +kernel
theorem dX7_pokeJournal_32 : decode cX7_pokeJournal 32 = .ok (.putfield 67, 3) := by decide +kernel
theorem dX7_pokeJournal_35 : decode cX7_pokeJournal 35 = .ok (.aload_n 0, 1) := by decide +kernel
theorem dX7_pokeJournal_36 : decode cX7_pokeJournal 36 = .ok (.getfield 67, 3) := by decide +kernel
theorem dX7_pokeJournal_39 : decode cX7_pokeJournal 39 = .ok (.ifCond .ne 13, 3) := by decide +kernel
theorem dX7_pokeJournal_42 : decode cX7_pokeJournal 42 = .ok (.aload_n 0, 1) := by decide +kernel
theorem dX7_pokeJournal_43 : decode cX7_pokeJournal 43 = .ok (.getfield 50, 3) := by decide +kernel
theorem dX7_pokeJournal_46 : decode cX7_pokeJournal 46 = .ok (.iload_n 1, 1) := by decide +kernel
theorem dX7_pokeJournal_47 : decode cX7_pokeJournal 47 = .ok (.dup2, 1) := by decide +kernel
theorem dX7_pokeJournal_48 : decode cX7_pokeJournal 48 = .ok (.iaload, 1) := by decide +kernel
theorem dX7_pokeJournal_49 : decode cX7_pokeJournal 49 = .ok (.iload_n 2, 1) := by decide +kernel
theorem dX7_pokeJournal_50 : decode cX7_pokeJournal 50 = .ok (.ixor, 1) := by decide +kernel
theorem dX7_pokeJournal_51 : decode cX7_pokeJournal 51 = .ok (.iastore, 1) := by decide +kernel
theorem dX7_pokeJournal_52 : decode cX7_pokeJournal 52 = .ok (.return_, 1) := by decide +kernel
theorem dX7_fill_0 : decode cX7_fill 0 = .ok (.iconst 0, 1) := by decide +kernel
theorem dX7_fill_1 : decode cX7_fill 1 = .ok (.istore_n 2, 1) := by decide +kernel
theorem dX7_fill_2 : decode cX7_fill 2 = .ok (.iload_n 2, 1) := by decide +kernel
theorem dX7_fill_3 : decode cX7_fill 3 = .ok (.bipush 64, 2) := by decide +kernel
end
section
theorem dX7_fill_5 : decode cX7_fill 5 = .ok (.if_icmp .ge 16, 3) := by decide +kernel
theorem dX7_fill_8 : decode cX7_fill 8 = .ok (.aload_n 0, 1) := by decide +kernel
theorem dX7_fill_9 : decode cX7_fill 9 = .ok (.getfield 56, 3) := by decide +kernel
theorem dX7_fill_12 : decode cX7_fill 12 = .ok (.iload_n 2, 1) := by decide +kernel
theorem dX7_fill_13 : decode cX7_fill 13 = .ok (.iconst 0, 1) := by decide +kernel
theorem dX7_fill_14 : decode cX7_fill 14 = .ok (.iastore, 1) := by decide +kernel
theorem dX7_fill_15 : decode cX7_fill 15 = .ok (.iinc 2 1, 3) := by decide +kernel
theorem dX7_fill_18 : decode cX7_fill 18 = .ok (.goto (-16), 3) := by decide +kernel
theorem dX7_fill_21 : decode cX7_fill 21 = .ok (.aload_n 0, 1) := by decide +kernel
theorem dX7_fill_22 : decode cX7_fill 22 = .ok (.getfield 56, 3) := by decide +kernel
theorem dX7_fill_25 : decode cX7_fill 25 = .ok (.iconst 0, 1) := by decide +kernel
theorem dX7_fill_26 : decode cX7_fill 26 = .ok (.aload_n 0, 1) := by decide +kernel
theorem dX7_fill_27 : decode cX7_fill 27 = .ok (.getfield 25, 3) := by decide +kernel
theorem dX7_fill_30 : decode cX7_fill 30 = .ok (.iload_n 1, 1) := by decide +kernel
theorem dX7_fill_31 : decode cX7_fill 31 = .ok (.iaload, 1) := by decide +kernel
theorem dX7_fill_32 : decode cX7_fill 32 = .ok (.iastore, 1) := by decide +kernel
theorem dX7_fill_33 : decode cX7_fill 33 = .ok (.aload_n 0, 1) := by decide +kernel
theorem dX7_fill_34 : decode cX7_fill 34 = .ok (.getfield 56, 3) := by decide +kernel
theorem dX7_fill_37 : decode cX7_fill 37 = .ok (.iconst 1, 1) := by decide +kernel
theorem dX7_fill_38 : decode cX7_fill 38 = .ok (.aload_n 0, 1) := by decide +kernel
theorem dX7_fill_39 : decode cX7_fill 39 = .ok (.getfield 32, 3) := by decide +kernel
theorem dX7_fill_42 : decode cX7_fill 42 = .ok (.iload_n 1, 1) := by decide +kernel
theorem dX7_fill_43 : decode cX7_fill 43 = .ok (.iaload, 1) := by decide +kernel
theorem dX7_fill_44 : decode cX7_fill 44 = .ok (.iastore, 1) := by decide +kernel
theorem dX7_fill_45 : decode cX7_fill 45 = .ok (.iconst 2, 1) := by decide +kernel
theorem dX7_fill_46 : decode cX7_fill 46 = .ok (.istore_n 2, 1) := by decide +kernel
theorem dX7_fill_47 : decode cX7_fill 47 = .ok (.iconst 0, 1) := by decide +kernel
theorem dX7_fill_48 : decode cX7_fill 48 = .ok (.istore_n 3, 1) := by decide +kernel
theorem dX7_fill_49 : decode cX7_fill 49 = .ok (.iload_n 3, 1) := by decide +kernel
theorem dX7_fill_50 : decode cX7_fill 50 = .ok (.aload_n 0, 1) := by decide +kernel
theorem dX7_fill_51 : decode cX7_fill 51 = .ok (.getfield 32, 3) := by decide +kernel
theorem dX7_fill_54 : decode cX7_fill 54 = .ok (.iload_n 1, 1) := by decide +kernel
theorem dX7_fill_55 : decode cX7_fill 55 = .ok (.iaload, 1) := by decide +kernel
theorem dX7_fill_56 : decode cX7_fill 56 = .ok (.if_icmp .ge 119, 3) := by decide +kernel
theorem dX7_fill_59 : decode cX7_fill 59 = .ok (.aload_n 0, 1) := by decide +kernel
theorem dX7_fill_60 : decode cX7_fill 60 = .ok (.getfield 35, 3) := by decide +kernel
theorem dX7_fill_63 : decode cX7_fill 63 = .ok (.bipush 10, 2) := by decide +kernel
theorem dX7_fill_65 : decode cX7_fill 65 = .ok (.iload_n 1, 1) := by decide +kernel
theorem dX7_fill_66 : decode cX7_fill 66 = .ok (.imul, 1) := by decide +kernel
theorem dX7_fill_67 : decode cX7_fill 67 = .ok (.iload_n 3, 1) := by decide +kernel
theorem dX7_fill_68 : decode cX7_fill 68 = .ok (.iadd, 1) := by decide +kernel
theorem dX7_fill_69 : decode cX7_fill 69 = .ok (.iaload, 1) := by decide +kernel
theorem dX7_fill_70 : decode cX7_fill 70 = .ok (.istore 4, 2) := by decide +kernel
theorem dX7_fill_72 : decode cX7_fill 72 = .ok (.aload_n 0, 1) := by decide +kernel
theorem dX7_fill_73 : decode cX7_fill 73 = .ok (.getfield 56, 3) := by decide +kernel
theorem dX7_fill_76 : decode cX7_fill 76 = .ok (.iload_n 2, 1) := by decide +kernel
theorem dX7_fill_77 : decode cX7_fill 77 = .ok (.aload_n 0, 1) := by decide +kernel
theorem dX7_fill_78 : decode cX7_fill 78 = .ok (.getfield 13, 3) := by decide +kernel
theorem dX7_fill_81 : decode cX7_fill 81 = .ok (.iload 4, 2) := by decide +kernel
theorem dX7_fill_83 : decode cX7_fill 83 = .ok (.iaload, 1) := by decide +kernel
theorem dX7_fill_84 : decode cX7_fill 84 = .ok (.iastore, 1) := by decide +kernel
theorem dX7_fill_85 : decode cX7_fill 85 = .ok (.iinc 2 1, 3) := by decide +kernel
theorem dX7_fill_88 : decode cX7_fill 88 = .ok (.iconst 0, 1) := by decide +kernel
theorem dX7_fill_89 : decode cX7_fill 89 = .ok (.istore 5, 2) := by decide +kernel
theorem dX7_fill_91 : decode cX7_fill 91 = .ok (.iload 5, 2) := by decide +kernel
theorem dX7_fill_93 : decode cX7_fill 93 = .ok (.aload_n 0, 1) := by decide +kernel
theorem dX7_fill_94 : decode cX7_fill 94 = .ok (.getfield 13, 3) := by decide +kernel
theorem dX7_fill_97 : decode cX7_fill 97 = .ok (.iload 4, 2) := by decide +kernel
theorem dX7_fill_99 : decode cX7_fill 99 = .ok (.iaload, 1) := by decide +kernel
theorem dX7_fill_100 : decode cX7_fill 100 = .ok (.if_icmp .ge 31, 3) := by decide +kernel
theorem dX7_fill_103 : decode cX7_fill 103 = .ok (.aload_n 0, 1) := by decide +kernel
theorem dX7_fill_104 : decode cX7_fill 104 = .ok (.getfield 56, 3) := by decide +kernel
theorem dX7_fill_107 : decode cX7_fill 107 = .ok (.iload_n 2, 1) := by decide +kernel
theorem dX7_fill_108 : decode cX7_fill 108 = .ok (.aload_n 0, 1) := by decide +kernel
theorem dX7_fill_109 : decode cX7_fill 109 = .ok (.getfield 16, 3) := by decide +kernel
theorem dX7_fill_112 : decode cX7_fill 112 = .ok (.bipush 12, 2) := by decide +kernel
theorem dX7_fill_114 : decode cX7_fill 114 = .ok (.iload 4, 2) := by decide +kernel
theorem dX7_fill_116 : decode cX7_fill 116 = .ok (.imul, 1) := by decide +kernel
theorem dX7_fill_117 : decode cX7_fill 117 = .ok (.iload 5, 2) := by decide +kernel
theorem dX7_fill_119 : decode cX7_fill 119 = .ok (.iadd, 1) := by decide +kernel
theorem dX7_fill_120 : decode cX7_fill 120 = .ok (.iaload, 1) := by decide +kernel
theorem dX7_fill_121 : decode cX7_fill 121 = .ok (.iastore, 1) := by decide +kernel
theorem dX7_fill_122 : decode cX7_fill 122 = .ok (.iinc 2 1, 3) := by decide +kernel
theorem dX7_fill_125 : decode cX7_fill 125 = .ok (.iinc 5 1, 3) := by decide +kernel
theorem dX7_fill_128 : decode cX7_fill 128 = .ok (.goto (-37), 3) := by decide +kernel
theorem dX7_fill_131 : decode cX7_fill 131 = .ok (.bipush 24, 2) := by decide +kernel
theorem dX7_fill_133 : decode cX7_fill 133 = .ok (.istore 5, 2) := by decide +kernel
theorem dX7_fill_135 : decode cX7_fill 135 = .ok (.iload 5, 2) := by decide +kernel
theorem dX7_fill_137 : decode cX7_fill 137 = .ok (.ifCond .lt 32, 3) := by decide +kernel
theorem dX7_fill_140 : decode cX7_fill 140 = .ok (.aload_n 0, 1) := by decide +kernel
theorem dX7_fill_141 : decode cX7_fill 141 = .ok (.getfield 56, 3) := by decide +kernel
theorem dX7_fill_144 : decode cX7_fill 144 = .ok (.iload_n 2, 1) := by decide +kernel
theorem dX7_fill_145 : decode cX7_fill 145 = .ok (.aload_n 0, 1) := by decide +kernel
theorem dX7_fill_146 : decode cX7_fill 146 = .ok (.getfield 19, 3) := by decide +kernel
theorem dX7_fill_149 : decode cX7_fill 149 = .ok (.iload 4, 2) := by decide +kernel
theorem dX7_fill_151 : decode cX7_fill 151 = .ok (.iaload, 1) := by decide +kernel
theorem dX7_fill_152 : decode cX7_fill 152 = .ok (.iload 5, 2) := by decide +kernel
theorem dX7_fill_154 : decode cX7_fill 154 = .ok (.ishr, 1) := by decide +kernel
theorem dX7_fill_155 : decode cX7_fill 155 = .ok (.sipush 255, 3) := by decide +kernel
theorem dX7_fill_158 : decode cX7_fill 158 = .ok (.iand, 1) := by decide +kernel
theorem dX7_fill_159 : decode cX7_fill 159 = .ok (.iastore, 1) := by decide +kernel
theorem dX7_fill_160 : decode cX7_fill 160 = .ok (.iinc 2 1, 3) := by decide +kernel
theorem dX7_fill_163 : decode cX7_fill 163 = .ok (.iinc 5 (-8), 3) := by decide +kernel
theorem dX7_fill_166 : decode cX7_fill 166 = .ok (.goto (-31), 3) := by decide +kernel
theorem dX7_fill_169 : decode cX7_fill 169 = .ok (.iinc 3 1, 3) := by decide +kernel
theorem dX7_fill_172 : decode cX7_fill 172 = .ok (.goto (-123), 3) := by decide +kernel
theorem dX7_fill_175 : decode cX7_fill 175 = .ok (.iconst 0, 1) := by decide +kernel
theorem dX7_fill_176 : decode cX7_fill 176 = .ok (.istore_n 3, 1) := by decide +kernel
theorem dX7_fill_177 : decode cX7_fill 177 = .ok (.iconst 0, 1) := by decide +kernel
theorem dX7_fill_178 : decode cX7_fill 178 = .ok (.istore 4, 2) := by decide +kernel
theorem dX7_fill_180 : decode cX7_fill 180 = .ok (.iload 4, 2) := by decide +kernel
theorem dX7_fill_182 : decode cX7_fill 182 = .ok (.bipush 60, 2) := by decide +kernel
theorem dX7_fill_184 : decode cX7_fill 184 = .ok (.if_icmp .ge 21, 3) := by decide +kernel
theorem dX7_fill_187 : decode cX7_fill 187 = .ok (.iload_n 3, 1) := by decide +kernel
theorem dX7_fill_188 : decode cX7_fill 188 = .ok (.aload_n 0, 1) := by decide +kernel
theorem dX7_fill_189 : decode cX7_fill 189 = .ok (.getfield 56, 3) := by decide +kernel
theorem dX7_fill_192 : decode cX7_fill 192 = .ok (.iload 4, 2) := by decide +kernel
theorem dX7_fill_194 : decode cX7_fill 194 = .ok (.iaload, 1) := by decide +kernel
theorem dX7_fill_195 : decode cX7_fill 195 = .ok (.invokestatic 82, 3) := by decide +kernel
theorem dX7_fill_198 : decode cX7_fill 198 = .ok (.istore_n 3, 1) := by decide +kernel
theorem dX7_fill_199 : decode cX7_fill 199 = .ok (.iinc 4 1, 3) := by decide +kernel
theorem dX7_fill_202 : decode cX7_fill 202 = .ok (.goto (-22), 3) := by decide +kernel
theorem dX7_fill_205 : decode cX7_fill 205 = .ok (.iconst 0, 1) := by decide +kernel
theorem dX7_fill_206 : decode cX7_fill 206 = .ok (.istore 4, 2) := by decide +kernel
theorem dX7_fill_208 : decode cX7_fill 208 = .ok (.iload 4, 2) := by decide +kernel
theorem dX7_fill_210 : decode cX7_fill 210 = .ok (.iconst 4, 1) := by decide +kernel
theorem dX7_fill_211 : decode cX7_fill 211 = .ok (.if_icmp .ge 33, 3) := by decide +kernel
theorem dX7_fill_214 : decode cX7_fill 214 = .ok (.aload_n 0, 1) := by decide +kernel
theorem dX7_fill_215 : decode cX7_fill 215 = .ok (.getfield 56, 3) := by decide +kernel
theorem dX7_fill_218 : decode cX7_fill 218 = .ok (.bipush 60, 2) := by decide +kernel
theorem dX7_fill_220 : decode cX7_fill 220 = .ok (.iload 4, 2) := by decide +kernel
theorem dX7_fill_222 : decode cX7_fill 222 = .ok (.iadd, 1) := by decide +kernel
theorem dX7_fill_223 : decode cX7_fill 223 = .ok (.iload_n 3, 1) := by decide +kernel
theorem dX7_fill_224 : decode cX7_fill 224 = .ok (.bipush 24, 2) := by decide +kernel
theorem dX7_fill_226 : decode cX7_fill 226 = .ok (.bipush 8, 2) := by decide +kernel
theorem dX7_fill_228 : decode cX7_fill 228 = .ok (.iload 4, 2) := by decide +kernel
theorem dX7_fill_230 : decode cX7_fill 230 = .ok (.imul, 1) := by decide +kernel
theorem dX7_fill_231 : decode cX7_fill 231 = .ok (.isub, 1) := by decide +kernel
theorem dX7_fill_232 : decode cX7_fill 232 = .ok (.ishr, 1) := by decide +kernel
theorem dX7_fill_233 : decode cX7_fill 233 = .ok (.sipush 255, 3) := by decide +kernel
theorem dX7_fill_236 : decode cX7_fill 236 = .ok (.iand, 1) := by decide +kernel
theorem dX7_fill_237 : decode cX7_fill 237 = .ok (.iastore, 1) := by decide +kernel
theorem dX7_fill_238 : decode cX7_fill 238 = .ok (.iinc 4 1, 3) := by decide +kernel
theorem dX7_fill_241 : decode cX7_fill 241 = .ok (.goto (-33), 3) := by decide +kernel
theorem dX7_fill_244 : decode cX7_fill 244 = .ok (.return_, 1) := by decide +kernel
theorem dX7_badAt_0 : decode cX7_badAt 0 = .ok (.aload_n 0, 1) := by decide +kernel
theorem dX7_badAt_1 : decode cX7_badAt 1 = .ok (.iconst 0, 1) := by decide +kernel
theorem dX7_badAt_2 : decode cX7_badAt 2 = .ok (.putfield 67, 3) := by decide +kernel
theorem dX7_badAt_5 : decode cX7_badAt 5 = .ok (.iconst 0, 1) := by decide +kernel
theorem dX7_badAt_6 : decode cX7_badAt 6 = .ok (.istore_n 1, 1) := by decide +kernel
theorem dX7_badAt_7 : decode cX7_badAt 7 = .ok (.iload_n 1, 1) := by decide +kernel
theorem dX7_badAt_8 : decode cX7_badAt 8 = .ok (.aload_n 0, 1) := by decide +kernel
theorem dX7_badAt_9 : decode cX7_badAt 9 = .ok (.getfield 59, 3) := by decide +kernel
theorem dX7_badAt_12 : decode cX7_badAt 12 = .ok (.if_icmp .ge 108, 3) := by decide +kernel
theorem dX7_badAt_15 : decode cX7_badAt 15 = .ok (.aload_n 0, 1) := by decide +kernel
theorem dX7_badAt_16 : decode cX7_badAt 16 = .ok (.iload_n 1, 1) := by decide +kernel
theorem dX7_badAt_17 : decode cX7_badAt 17 = .ok (.invokevirtual 117, 3) := by decide +kernel
theorem dX7_badAt_20 : decode cX7_badAt 20 = .ok (.iconst 0, 1) := by decide +kernel
theorem dX7_badAt_21 : decode cX7_badAt 21 = .ok (.istore_n 2, 1) := by decide +kernel
theorem dX7_badAt_22 : decode cX7_badAt 22 = .ok (.iconst 0, 1) := by decide +kernel
theorem dX7_badAt_23 : decode cX7_badAt 23 = .ok (.istore_n 3, 1) := by decide +kernel
theorem dX7_badAt_24 : decode cX7_badAt 24 = .ok (.iload_n 3, 1) := by decide +kernel
theorem dX7_badAt_25 : decode cX7_badAt 25 = .ok (.bipush 60, 2) := by decide +kernel
theorem dX7_badAt_27 : decode cX7_badAt 27 = .ok (.if_icmp .ge 32, 3) := by decide +kernel
theorem dX7_badAt_30 : decode cX7_badAt 30 = .ok (.iload_n 2, 1) := by decide +kernel
theorem dX7_badAt_31 : decode cX7_badAt 31 = .ok (.aload_n 0, 1) := by decide +kernel
theorem dX7_badAt_32 : decode cX7_badAt 32 = .ok (.getfield 56, 3) := by decide +kernel
theorem dX7_badAt_35 : decode cX7_badAt 35 = .ok (.iload_n 3, 1) := by decide +kernel
theorem dX7_badAt_36 : decode cX7_badAt 36 = .ok (.iaload, 1) := by decide +kernel
theorem dX7_badAt_37 : decode cX7_badAt 37 = .ok (.aload_n 0, 1) := by decide +kernel
theorem dX7_badAt_38 : decode cX7_badAt 38 = .ok (.getfield 47, 3) := by decide +kernel
theorem dX7_badAt_41 : decode cX7_badAt 41 = .ok (.bipush 64, 2) := by decide +kernel
theorem dX7_badAt_43 : decode cX7_badAt 43 = .ok (.iload_n 1, 1) := by decide +kernel
theorem dX7_badAt_44 : decode cX7_badAt 44 = .ok (.imul, 1) := by decide +kernel
theorem dX7_badAt_45 : decode cX7_badAt 45 = .ok (.iload_n 3, 1) := by decide +kernel
theorem dX7_badAt_46 : decode cX7_badAt 46 = .ok (.iadd, 1) := by decide +kernel
theorem dX7_badAt_47 : decode cX7_badAt 47 = .ok (.iaload, 1) := by decide +kernel
theorem dX7_badAt_48 : decode cX7_badAt 48 = .ok (.ixor, 1) := by decide +kernel
theorem dX7_badAt_49 : decode cX7_badAt 49 = .ok (.invokestatic 82, 3) := by decide +kernel
theorem dX7_badAt_52 : decode cX7_badAt 52 = .ok (.istore_n 2, 1) := by decide +kernel
theorem dX7_badAt_53 : decode cX7_badAt 53 = .ok (.iinc 3 1, 3) := by decide +kernel
theorem dX7_badAt_56 : decode cX7_badAt 56 = .ok (.goto (-32), 3) := by decide +kernel
theorem dX7_badAt_59 : decode cX7_badAt 59 = .ok (.iconst 0, 1) := by decide +kernel
theorem dX7_badAt_60 : decode cX7_badAt 60 = .ok (.istore_n 3, 1) := by decide +kernel
theorem dX7_badAt_61 : decode cX7_badAt 61 = .ok (.iload_n 3, 1) := by decide +kernel
theorem dX7_badAt_62 : decode cX7_badAt 62 = .ok (.iconst 4, 1) := by decide +kernel
theorem dX7_badAt_63 : decode cX7_badAt 63 = .ok (.if_icmp .ge 51, 3) := by decide +kernel
theorem dX7_badAt_66 : decode cX7_badAt 66 = .ok (.iload_n 2, 1) := by decide +kernel
theorem dX7_badAt_67 : decode cX7_badAt 67 = .ok (.bipush 24, 2) := by decide +kernel
theorem dX7_badAt_69 : decode cX7_badAt 69 = .ok (.bipush 8, 2) := by decide +kernel
theorem dX7_badAt_71 : decode cX7_badAt 71 = .ok (.iload_n 3, 1) := by decide +kernel
theorem dX7_badAt_72 : decode cX7_badAt 72 = .ok (.imul, 1) := by decide +kernel
theorem dX7_badAt_73 : decode cX7_badAt 73 = .ok (.isub, 1) := by decide +kernel
theorem dX7_badAt_74 : decode cX7_badAt 74 = .ok (.ishr, 1) := by decide +kernel
theorem dX7_badAt_75 : decode cX7_badAt 75 = .ok (.sipush 255, 3) := by decide +kernel
theorem dX7_badAt_78 : decode cX7_badAt 78 = .ok (.iand, 1) := by decide +kernel
theorem dX7_badAt_79 : decode cX7_badAt 79 = .ok (.aload_n 0, 1) := by decide +kernel
theorem dX7_badAt_80 : decode cX7_badAt 80 = .ok (.getfield 56, 3) := by decide +kernel
theorem dX7_badAt_83 : decode cX7_badAt 83 = .ok (.bipush 60, 2) := by decide +kernel
theorem dX7_badAt_85 : decode cX7_badAt 85 = .ok (.iload_n 3, 1) := by decide +kernel
theorem dX7_badAt_86 : decode cX7_badAt 86 = .ok (.iadd, 1) := by decide +kernel
theorem dX7_badAt_87 : decode cX7_badAt 87 = .ok (.iaload, 1) := by decide +kernel
theorem dX7_badAt_88 : decode cX7_badAt 88 = .ok (.aload_n 0, 1) := by decide +kernel
theorem dX7_badAt_89 : decode cX7_badAt 89 = .ok (.getfield 47, 3) := by decide +kernel
theorem dX7_badAt_92 : decode cX7_badAt 92 = .ok (.bipush 64, 2) := by decide +kernel
theorem dX7_badAt_94 : decode cX7_badAt 94 = .ok (.iload_n 1, 1) := by decide +kernel
theorem dX7_badAt_95 : decode cX7_badAt 95 = .ok (.imul, 1) := by decide +kernel
theorem dX7_badAt_96 : decode cX7_badAt 96 = .ok (.bipush 60, 2) := by decide +kernel
theorem dX7_badAt_98 : decode cX7_badAt 98 = .ok (.iadd, 1) := by decide +kernel
theorem dX7_badAt_99 : decode cX7_badAt 99 = .ok (.iload_n 3, 1) := by decide +kernel
theorem dX7_badAt_100 : decode cX7_badAt 100 = .ok (.iadd, 1) := by decide +kernel
theorem dX7_badAt_101 : decode cX7_badAt 101 = .ok (.iaload, 1) := by decide +kernel
theorem dX7_badAt_102 : decode cX7_badAt 102 = .ok (.ixor, 1) := by decide +kernel
theorem dX7_badAt_103 : decode cX7_badAt 103 = .ok (.if_icmp .eq 5, 3) := by decide +kernel
theorem dX7_badAt_106 : decode cX7_badAt 106 = .ok (.iload_n 1, 1) := by decide +kernel
theorem dX7_badAt_107 : decode cX7_badAt 107 = .ok (.ireturn, 1) := by decide +kernel
theorem dX7_badAt_108 : decode cX7_badAt 108 = .ok (.iinc 3 1, 3) := by decide +kernel
theorem dX7_badAt_111 : decode cX7_badAt 111 = .ok (.goto (-50), 3) := by decide +kernel
theorem dX7_badAt_114 : decode cX7_badAt 114 = .ok (.iinc 1 1, 3) := by decide +kernel
theorem dX7_badAt_117 : decode cX7_badAt 117 = .ok (.goto (-110), 3) := by decide +kernel
theorem dX7_badAt_120 : decode cX7_badAt 120 = .ok (.iconst (-1), 1) := by decide +kernel
theorem dX7_badAt_121 : decode cX7_badAt 121 = .ok (.ireturn, 1) := by decide +kernel
theorem dX7_byteAt_0 : decode cX7_byteAt 0 = .ok (.aload_n 0, 1) := by decide +kernel
theorem dX7_byteAt_1 : decode cX7_byteAt 1 = .ok (.iload_n 1, 1) := by decide +kernel
theorem dX7_byteAt_2 : decode cX7_byteAt 2 = .ok (.iconst 0, 1) := by decide +kernel
theorem dX7_byteAt_3 : decode cX7_byteAt 3 = .ok (.aload_n 0, 1) := by decide +kernel
theorem dX7_byteAt_4 : decode cX7_byteAt 4 = .ok (.getfield 59, 3) := by decide +kernel
theorem dX7_byteAt_7 : decode cX7_byteAt 7 = .ok (.iconst 1, 1) := by decide +kernel
theorem dX7_byteAt_8 : decode cX7_byteAt 8 = .ok (.isub, 1) := by decide +kernel
theorem dX7_byteAt_9 : decode cX7_byteAt 9 = .ok (.invokestatic 71, 3) := by decide +kernel
theorem dX7_byteAt_12 : decode cX7_byteAt 12 = .ok (.ifCond .eq 13, 3) := by decide +kernel
theorem dX7_byteAt_15 : decode cX7_byteAt 15 = .ok (.iload_n 2, 1) := by decide +kernel
theorem dX7_byteAt_16 : decode cX7_byteAt 16 = .ok (.iconst 0, 1) := by decide +kernel
theorem dX7_byteAt_17 : decode cX7_byteAt 17 = .ok (.bipush 63, 2) := by decide +kernel
theorem dX7_byteAt_19 : decode cX7_byteAt 19 = .ok (.invokestatic 71, 3) := by decide +kernel
theorem dX7_byteAt_22 : decode cX7_byteAt 22 = .ok (.ifCond .ne 7, 3) := by decide +kernel
theorem dX7_byteAt_25 : decode cX7_byteAt 25 = .ok (.iconst 1, 1) := by decide +kernel
theorem dX7_byteAt_26 : decode cX7_byteAt 26 = .ok (.goto 4, 3) := by decide +kernel
theorem dX7_byteAt_29 : decode cX7_byteAt 29 = .ok (.iconst 0, 1) := by decide +kernel
theorem dX7_byteAt_30 : decode cX7_byteAt 30 = .ok (.putfield 67, 3) := by decide +kernel
theorem dX7_byteAt_33 : decode cX7_byteAt 33 = .ok (.aload_n 0, 1) := by decide +kernel
theorem dX7_byteAt_34 : decode cX7_byteAt 34 = .ok (.getfield 67, 3) := by decide +kernel
theorem dX7_byteAt_37 : decode cX7_byteAt 37 = .ok (.ifCond .le 5, 3) := by decide +kernel
theorem dX7_byteAt_40 : decode cX7_byteAt 40 = .ok (.iconst 0, 1) := by decide +kernel
theorem dX7_byteAt_41 : decode cX7_byteAt 41 = .ok (.ireturn, 1) := by decide +kernel
theorem dX7_byteAt_42 : decode cX7_byteAt 42 = .ok (.aload_n 0, 1) := by decide +kernel
theorem dX7_byteAt_43 : decode cX7_byteAt 43 = .ok (.iload_n 1, 1) := by decide +kernel
theorem dX7_byteAt_44 : decode cX7_byteAt 44 = .ok (.invokevirtual 117, 3) := by decide +kernel
theorem dX7_byteAt_47 : decode cX7_byteAt 47 = .ok (.aload_n 0, 1) := by decide +kernel
theorem dX7_byteAt_48 : decode cX7_byteAt 48 = .ok (.getfield 56, 3) := by decide +kernel
theorem dX7_byteAt_51 : decode cX7_byteAt 51 = .ok (.iload_n 2, 1) := by decide +kernel
theorem dX7_byteAt_52 : decode cX7_byteAt 52 = .ok (.iaload, 1) := by decide +kernel
theorem dX7_byteAt_53 : decode cX7_byteAt 53 = .ok (.aload_n 0, 1) := by decide +kernel
theorem dX7_byteAt_54 : decode cX7_byteAt 54 = .ok (.getfield 47, 3) := by decide +kernel
theorem dX7_byteAt_57 : decode cX7_byteAt 57 = .ok (.bipush 64, 2) := by decide +kernel
theorem dX7_byteAt_59 : decode cX7_byteAt 59 = .ok (.iload_n 1, 1) := by decide +kernel
theorem dX7_byteAt_60 : decode cX7_byteAt 60 = .ok (.imul, 1) := by decide +kernel
theorem dX7_byteAt_61 : decode cX7_byteAt 61 = .ok (.iload_n 2, 1) := by decide +kernel
theorem dX7_byteAt_62 : decode cX7_byteAt 62 = .ok (.iadd, 1) := by decide +kernel
theorem dX7_byteAt_63 : decode cX7_byteAt 63 = .ok (.iaload, 1) := by decide +kernel
theorem dX7_byteAt_64 : decode cX7_byteAt 64 = .ok (.ixor, 1) := by decide +kernel
theorem dX7_byteAt_65 : decode cX7_byteAt 65 = .ok (.ireturn, 1) := by decide +kernel
theorem dX7_entry_0 : decode cX7_entry 0 = .ok (.aload_n 0, 1) := by decide +kernel
theorem dX7_entry_1 : decode cX7_entry 1 = .ok (.iload_n 1, 1) := by decide +kernel
theorem dX7_entry_2 : decode cX7_entry 2 = .ok (.iconst 0, 1) := by decide +kernel
theorem dX7_entry_3 : decode cX7_entry 3 = .ok (.iconst 1, 1) := by decide +kernel
theorem dX7_entry_4 : decode cX7_entry 4 = .ok (.aload_n 0, 1) := by decide +kernel
theorem dX7_entry_5 : decode cX7_entry 5 = .ok (.getfield 38, 3) := by decide +kernel
theorem dX7_entry_8 : decode cX7_entry 8 = .ok (.iconst 0, 1) := by decide +kernel
theorem dX7_entry_9 : decode cX7_entry 9 = .ok (.iaload, 1) := by decide +kernel
theorem dX7_entry_10 : decode cX7_entry 10 = .ok (.ishl, 1) := by decide +kernel
theorem dX7_entry_11 : decode cX7_entry 11 = .ok (.iconst 1, 1) := by decide +kernel
theorem dX7_entry_12 : decode cX7_entry 12 = .ok (.isub, 1) := by decide +kernel
theorem dX7_entry_13 : decode cX7_entry 13 = .ok (.invokestatic 71, 3) := by decide +kernel
theorem dX7_entry_16 : decode cX7_entry 16 = .ok (.ifCond .eq 7, 3) := by decide +kernel
theorem dX7_entry_19 : decode cX7_entry 19 = .ok (.iconst 0, 1) := by decide +kernel
theorem dX7_entry_20 : decode cX7_entry 20 = .ok (.goto 4, 3) := by decide +kernel
theorem dX7_entry_23 : decode cX7_entry 23 = .ok (.iconst 1, 1) := by decide +kernel
theorem dX7_entry_24 : decode cX7_entry 24 = .ok (.putfield 67, 3) := by decide +kernel
theorem dX7_entry_27 : decode cX7_entry 27 = .ok (.aload_n 0, 1) := by decide +kernel
theorem dX7_entry_28 : decode cX7_entry 28 = .ok (.getfield 67, 3) := by decide +kernel
theorem dX7_entry_31 : decode cX7_entry 31 = .ok (.ifCond .le 7, 3) := by decide +kernel
theorem dX7_entry_34 : decode cX7_entry 34 = .ok (.iconst 0, 1) := by decide +kernel
theorem dX7_entry_35 : decode cX7_entry 35 = .ok (.goto 9, 3) := by decide +kernel
theorem dX7_entry_38 : decode cX7_entry 38 = .ok (.aload_n 0, 1) := by decide +kernel
theorem dX7_entry_39 : decode cX7_entry 39 = .ok (.getfield 41, 3) := by decide +kernel
theorem dX7_entry_42 : decode cX7_entry 42 = .ok (.iload_n 1, 1) := by decide +kernel
theorem dX7_entry_43 : decode cX7_entry 43 = .ok (.iaload, 1) := by decide +kernel
theorem dX7_entry_44 : decode cX7_entry 44 = .ok (.ireturn, 1) := by decide +kernel
theorem dX7_count_0 : decode cX7_count 0 = .ok (.aload_n 0, 1) := by decide +kernel
theorem dX7_count_1 : decode cX7_count 1 = .ok (.iconst 0, 1) := by decide +kernel
theorem dX7_count_2 : decode cX7_count 2 = .ok (.putfield 67, 3) := by decide +kernel
theorem dX7_count_5 : decode cX7_count 5 = .ok (.iconst 0, 1) := by decide +kernel
theorem dX7_count_6 : decode cX7_count 6 = .ok (.istore_n 2, 1) := by decide +kernel
theorem dX7_count_7 : decode cX7_count 7 = .ok (.iconst 0, 1) := by decide +kernel
theorem dX7_count_8 : decode cX7_count 8 = .ok (.istore_n 3, 1) := by decide +kernel
theorem dX7_count_9 : decode cX7_count 9 = .ok (.iload_n 3, 1) := by decide +kernel
theorem dX7_count_10 : decode cX7_count 10 = .ok (.aload_n 0, 1) := by decide +kernel
theorem dX7_count_11 : decode cX7_count 11 = .ok (.getfield 59, 3) := by decide +kernel
theorem dX7_count_14 : decode cX7_count 14 = .ok (.if_icmp .ge 26, 3) := by decide +kernel
theorem dX7_count_17 : decode cX7_count 17 = .ok (.iload_n 2, 1) := by decide +kernel
theorem dX7_count_18 : decode cX7_count 18 = .ok (.aload_n 0, 1) := by decide +kernel
theorem dX7_count_19 : decode cX7_count 19 = .ok (.getfield 28, 3) := by decide +kernel
theorem dX7_count_22 : decode cX7_count 22 = .ok (.iload_n 3, 1) := by decide +kernel
theorem dX7_count_23 : decode cX7_count 23 = .ok (.baload, 1) := by decide +kernel
theorem dX7_count_24 : decode cX7_count 24 = .ok (.ifCond .eq 7, 3) := by decide +kernel
theorem dX7_count_27 : decode cX7_count 27 = .ok (.iconst 1, 1) := by decide +kernel
theorem dX7_count_28 : decode cX7_count 28 = .ok (.goto 4, 3) := by decide +kernel
theorem dX7_count_31 : decode cX7_count 31 = .ok (.iconst 0, 1) := by decide +kernel
theorem dX7_count_32 : decode cX7_count 32 = .ok (.iadd, 1) := by decide +kernel
theorem dX7_count_33 : decode cX7_count 33 = .ok (.istore_n 2, 1) := by decide +kernel
theorem dX7_count_34 : decode cX7_count 34 = .ok (.iinc 3 1, 3) := by decide +kernel
theorem dX7_count_37 : decode cX7_count 37 = .ok (.goto (-28), 3) := by decide +kernel
theorem dX7_count_40 : decode cX7_count 40 = .ok (.iload_n 1, 1) := by decide +kernel
theorem dX7_count_41 : decode cX7_count 41 = .ok (.tableswitch 87 0 5 #[39, 46, 48, 70, 77, 82], 39) := by decide +kernel
theorem dX7_count_80 : decode cX7_count 80 = .ok (.aload_n 0, 1) := by decide +kernel
theorem dX7_count_81 : decode cX7_count 81 = .ok (.getfield 38, 3) := by decide +kernel
theorem dX7_count_84 : decode cX7_count 84 = .ok (.iconst 0, 1) := by decide +kernel
theorem dX7_count_85 : decode cX7_count 85 = .ok (.iaload, 1) := by decide +kernel
theorem dX7_count_86 : decode cX7_count 86 = .ok (.ireturn, 1) := by decide +kernel
theorem dX7_count_87 : decode cX7_count 87 = .ok (.iload_n 2, 1) := by decide +kernel
theorem dX7_count_88 : decode cX7_count 88 = .ok (.ireturn, 1) := by decide +kernel
theorem dX7_count_89 : decode cX7_count 89 = .ok (.aload_n 0, 1) := by decide +kernel
theorem dX7_count_90 : decode cX7_count 90 = .ok (.invokevirtual 78, 3) := by decide +kernel
theorem dX7_count_93 : decode cX7_count 93 = .ok (.ifCond .eq 11, 3) := by decide +kernel
theorem dX7_count_96 : decode cX7_count 96 = .ok (.aload_n 0, 1) := by decide +kernel
theorem dX7_count_97 : decode cX7_count 97 = .ok (.iconst 1, 1) := by decide +kernel
theorem dX7_count_98 : decode cX7_count 98 = .ok (.invokevirtual 121, 3) := by decide +kernel
theorem dX7_count_101 : decode cX7_count 101 = .ok (.goto 9, 3) := by decide +kernel
theorem dX7_count_104 : decode cX7_count 104 = .ok (.aload_n 0, 1) := by decide +kernel
theorem dX7_count_105 : decode cX7_count 105 = .ok (.getfield 7, 3) := by decide +kernel
theorem dX7_count_108 : decode cX7_count 108 = .ok (.iconst 0, 1) := by decide +kernel
theorem dX7_count_109 : decode cX7_count 109 = .ok (.iaload, 1) := by decide +kernel
theorem dX7_count_110 : decode cX7_count 110 = .ok (.ireturn, 1) := by decide +kernel
theorem dX7_count_111 : decode cX7_count 111 = .ok (.aload_n 0, 1) := by decide +kernel
theorem dX7_count_112 : decode cX7_count 112 = .ok (.getfield 44, 3) := by decide +kernel
theorem dX7_count_115 : decode cX7_count 115 = .ok (.iconst 0, 1) := by decide +kernel
theorem dX7_count_116 : decode cX7_count 116 = .ok (.iaload, 1) := by decide +kernel
theorem dX7_count_117 : decode cX7_count 117 = .ok (.ireturn, 1) := by decide +kernel
theorem dX7_count_118 : decode cX7_count 118 = .ok (.aload_n 0, 1) := by decide +kernel
theorem dX7_count_119 : decode cX7_count 119 = .ok (.getfield 101, 3) := by decide +kernel
theorem dX7_count_122 : decode cX7_count 122 = .ok (.ireturn, 1) := by decide +kernel
theorem dX7_count_123 : decode cX7_count 123 = .ok (.aload_n 0, 1) := by decide +kernel
theorem dX7_count_124 : decode cX7_count 124 = .ok (.getfield 59, 3) := by decide +kernel
theorem dX7_count_127 : decode cX7_count 127 = .ok (.ireturn, 1) := by decide +kernel
theorem dX7_count_128 : decode cX7_count 128 = .ok (.iconst (-1), 1) := by decide +kernel
theorem dX7_count_129 : decode cX7_count 129 = .ok (.ireturn, 1) := by decide +kernel
theorem dJ9_max_7cf53_0 : decode cJ9_max_7cf53 0 = .ok (.iload_n 0, 1) := by decide +kernel
theorem dJ9_max_7cf53_1 : decode cJ9_max_7cf53 1 = .ok (.iload_n 1, 1) := by decide +kernel
theorem dJ9_max_7cf53_2 : decode cJ9_max_7cf53 2 = .ok (.if_icmp .lt 7, 3) := by decide +kernel
theorem dJ9_max_7cf53_5 : decode cJ9_max_7cf53 5 = .ok (.iload_n 0, 1) := by decide +kernel
theorem dJ9_max_7cf53_6 : decode cJ9_max_7cf53 6 = .ok (.goto 4, 3) := by decide +kernel
theorem dJ9_max_7cf53_9 : decode cJ9_max_7cf53 9 = .ok (.iload_n 1, 1) := by decide +kernel
theorem dJ9_max_7cf53_10 : decode cJ9_max_7cf53 10 = .ok (.ireturn, 1) := by decide +kernel
theorem dJ9_min_7cf53_0 : decode cJ9_min_7cf53 0 = .ok (.iload_n 0, 1) := by decide +kernel
theorem dJ9_min_7cf53_1 : decode cJ9_min_7cf53 1 = .ok (.iload_n 1, 1) := by decide +kernel
theorem dJ9_min_7cf53_2 : decode cJ9_min_7cf53 2 = .ok (.if_icmp .gt 7, 3) := by decide +kernel
theorem dJ9_min_7cf53_5 : decode cJ9_min_7cf53 5 = .ok (.iload_n 0, 1) := by decide +kernel
theorem dJ9_min_7cf53_6 : decode cJ9_min_7cf53 6 = .ok (.goto 4, 3) := by decide +kernel
theorem dJ9_min_7cf53_9 : decode cJ9_min_7cf53 9 = .ok (.iload_n 1, 1) := by decide +kernel
theorem dJ9_min_7cf53_10 : decode cJ9_min_7cf53 10 = .ok (.ireturn, 1) := by decide +kernel
theorem dJ7_fill_53178_0 : decode cJ7_fill_53178 0 = .ok (.iconst 0, 1) := by decide +kernel
theorem dJ7_fill_53178_1 : decode cJ7_fill_53178 1 = .ok (.istore_n 2, 1) := by decide +kernel
theorem dJ7_fill_53178_2 : decode cJ7_fill_53178 2 = .ok (.aload_n 0, 1) := by decide +kernel
theorem dJ7_fill_53178_3 : decode cJ7_fill_53178 3 = .ok (.arraylength, 1) := by decide +kernel
theorem dJ7_fill_53178_4 : decode cJ7_fill_53178 4 = .ok (.istore_n 3, 1) := by decide +kernel
theorem dJ7_fill_53178_5 : decode cJ7_fill_53178 5 = .ok (.iload_n 2, 1) := by decide +kernel
theorem dJ7_fill_53178_6 : decode cJ7_fill_53178 6 = .ok (.iload_n 3, 1) := by decide +kernel
theorem dJ7_fill_53178_7 : decode cJ7_fill_53178 7 = .ok (.if_icmp .ge 13, 3) := by decide +kernel
theorem dJ7_fill_53178_10 : decode cJ7_fill_53178 10 = .ok (.aload_n 0, 1) := by decide +kernel
theorem dJ7_fill_53178_11 : decode cJ7_fill_53178 11 = .ok (.iload_n 2, 1) := by decide +kernel
theorem dJ7_fill_53178_12 : decode cJ7_fill_53178 12 = .ok (.iload_n 1, 1) := by decide +kernel
theorem dJ7_fill_53178_13 : decode cJ7_fill_53178 13 = .ok (.iastore, 1) := by decide +kernel
theorem dJ7_fill_53178_14 : decode cJ7_fill_53178 14 = .ok (.iinc 2 1, 3) := by decide +kernel
theorem dJ7_fill_53178_17 : decode cJ7_fill_53178 17 = .ok (.goto (-12), 3) := by decide +kernel
theorem dJ7_fill_53178_20 : decode cJ7_fill_53178 20 = .ok (.return_, 1) := by decide +kernel
theorem dL_cell_0 : decode cL_cell 0 = .ok (.iload_n 1, 1) := by decide +kernel
theorem dL_cell_1 : decode cL_cell 1 = .ok (.aload_n 0, 1) := by decide +kernel
theorem dL_cell_2 : decode cL_cell 2 = .ok (.arraylength, 1) := by decide +kernel
theorem dL_cell_3 : decode cL_cell 3 = .ok (.if_icmp .ge 9, 3) := by decide +kernel
theorem dL_cell_6 : decode cL_cell 6 = .ok (.aload_n 0, 1) := by decide +kernel
theorem dL_cell_7 : decode cL_cell 7 = .ok (.iload_n 1, 1) := by decide +kernel
theorem dL_cell_8 : decode cL_cell 8 = .ok (.iaload, 1) := by decide +kernel
theorem dL_cell_9 : decode cL_cell 9 = .ok (.goto 4, 3) := by decide +kernel
theorem dL_cell_12 : decode cL_cell 12 = .ok (.iconst 0, 1) := by decide +kernel
theorem dL_cell_13 : decode cL_cell 13 = .ok (.ireturn, 1) := by decide +kernel
theorem dL_feed_0 : decode cL_feed 0 = .ok (.aload_n 2, 1) := by decide +kernel
theorem dL_feed_1 : decode cL_feed 1 = .ok (.iconst 0, 1) := by decide +kernel
theorem dL_feed_2 : decode cL_feed 2 = .ok (.aload_n 0, 1) := by decide +kernel
theorem dL_feed_3 : decode cL_feed 3 = .ok (.iload_n 1, 1) := by decide +kernel
theorem dL_feed_4 : decode cL_feed 4 = .ok (.invokevirtual 7, 3) := by decide +kernel
theorem dL_feed_7 : decode cL_feed 7 = .ok (.ifCond .eq 7, 3) := by decide +kernel
theorem dL_feed_10 : decode cL_feed 10 = .ok (.lconst 1, 1) := by decide +kernel
theorem dL_feed_11 : decode cL_feed 11 = .ok (.goto 4, 3) := by decide +kernel
theorem dL_feed_14 : decode cL_feed 14 = .ok (.lconst 0, 1) := by decide +kernel
theorem dL_feed_15 : decode cL_feed 15 = .ok (.lastore, 1) := by decide +kernel
theorem dL_feed_16 : decode cL_feed 16 = .ok (.goto 6, 3) := by decide +kernel
theorem dL_feed_19 : decode cL_feed 19 = .ok (.astore_n 3, 1) := by decide +kernel
theorem dL_feed_20 : decode cL_feed 20 = .ok (.iconst 1, 1) := by decide +kernel
theorem dL_feed_21 : decode cL_feed 21 = .ok (.ireturn, 1) := by decide +kernel
theorem dL_feed_22 : decode cL_feed 22 = .ok (.iconst 0, 1) := by decide +kernel
theorem dL_feed_23 : decode cL_feed 23 = .ok (.ireturn, 1) := by decide +kernel
theorem dL_put_0 : decode cL_put 0 = .ok (.aload_n 2, 1) := by decide +kernel
theorem dL_put_1 : decode cL_put 1 = .ok (.iconst 0, 1) := by decide +kernel
theorem dL_put_2 : decode cL_put 2 = .ok (.aload_n 0, 1) := by decide +kernel
theorem dL_put_3 : decode cL_put 3 = .ok (.iload_n 1, 1) := by decide +kernel
theorem dL_put_4 : decode cL_put 4 = .ok (.invokevirtual 15, 3) := by decide +kernel
theorem dL_put_7 : decode cL_put 7 = .ok (.i2l, 1) := by decide +kernel
theorem dL_put_8 : decode cL_put 8 = .ok (.lastore, 1) := by decide +kernel
theorem dL_put_9 : decode cL_put 9 = .ok (.goto 6, 3) := by decide +kernel
theorem dL_put_12 : decode cL_put 12 = .ok (.astore_n 3, 1) := by decide +kernel
theorem dL_put_13 : decode cL_put 13 = .ok (.iconst 1, 1) := by decide +kernel
theorem dL_put_14 : decode cL_put 14 = .ok (.ireturn, 1) := by decide +kernel
theorem dL_put_15 : decode cL_put 15 = .ok (.iconst 0, 1) := by decide +kernel
theorem dL_put_16 : decode cL_put 16 = .ok (.ireturn, 1) := by decide +kernel
theorem dL_has_0 : decode cL_has 0 = .ok (.aload_n 1, 1) := by decide +kernel
theorem dL_has_1 : decode cL_has 1 = .ok (.iconst 0, 1) := by decide +kernel
theorem dL_has_2 : decode cL_has 2 = .ok (.aload_n 0, 1) := by decide +kernel
theorem dL_has_3 : decode cL_has 3 = .ok (.invokevirtual 21, 3) := by decide +kernel
theorem dL_has_6 : decode cL_has 6 = .ok (.ifCond .eq 7, 3) := by decide +kernel
theorem dL_has_9 : decode cL_has 9 = .ok (.lconst 1, 1) := by decide +kernel
theorem dL_has_10 : decode cL_has 10 = .ok (.goto 4, 3) := by decide +kernel
theorem dL_has_13 : decode cL_has 13 = .ok (.lconst 0, 1) := by decide +kernel
theorem dL_has_14 : decode cL_has 14 = .ok (.lastore, 1) := by decide +kernel
theorem dL_has_15 : decode cL_has 15 = .ok (.goto 6, 3) := by decide +kernel
theorem dL_has_18 : decode cL_has 18 = .ok (.astore_n 2, 1) := by decide +kernel
theorem dL_has_19 : decode cL_has 19 = .ok (.iconst 1, 1) := by decide +kernel
theorem dL_has_20 : decode cL_has 20 = .ok (.ireturn, 1) := by decide +kernel
theorem dL_has_21 : decode cL_has 21 = .ok (.iconst 0, 1) := by decide +kernel
theorem dL_has_22 : decode cL_has 22 = .ok (.ireturn, 1) := by decide +kernel
theorem dL_find_0 : decode cL_find 0 = .ok (.aload_n 1, 1) := by decide +kernel
theorem dL_find_1 : decode cL_find 1 = .ok (.iconst 0, 1) := by decide +kernel
theorem dL_find_2 : decode cL_find 2 = .ok (.aload_n 0, 1) := by decide +kernel
theorem dL_find_3 : decode cL_find 3 = .ok (.invokevirtual 25, 3) := by decide +kernel
theorem dL_find_6 : decode cL_find 6 = .ok (.i2l, 1) := by decide +kernel
theorem dL_find_7 : decode cL_find 7 = .ok (.lastore, 1) := by decide +kernel
theorem dL_find_8 : decode cL_find 8 = .ok (.goto 6, 3) := by decide +kernel
theorem dL_find_11 : decode cL_find 11 = .ok (.astore_n 2, 1) := by decide +kernel
theorem dL_find_12 : decode cL_find 12 = .ok (.iconst 1, 1) := by decide +kernel
theorem dL_find_13 : decode cL_find 13 = .ok (.ireturn, 1) := by decide +kernel
theorem dL_find_14 : decode cL_find 14 = .ok (.iconst 0, 1) := by decide +kernel
theorem dL_find_15 : decode cL_find 15 = .ok (.ireturn, 1) := by decide +kernel
theorem dL_save_0 : decode cL_save 0 = .ok (.aload_n 1, 1) := by decide +kernel
theorem dL_save_1 : decode cL_save 1 = .ok (.iconst 0, 1) := by decide +kernel
theorem dL_save_2 : decode cL_save 2 = .ok (.aload_n 0, 1) := by decide +kernel
theorem dL_save_3 : decode cL_save 3 = .ok (.invokevirtual 29, 3) := by decide +kernel
theorem dL_save_6 : decode cL_save 6 = .ok (.i2l, 1) := by decide +kernel
theorem dL_save_7 : decode cL_save 7 = .ok (.lastore, 1) := by decide +kernel
theorem dL_save_8 : decode cL_save 8 = .ok (.goto 6, 3) := by decide +kernel
theorem dL_save_11 : decode cL_save 11 = .ok (.astore_n 2, 1) := by decide +kernel
theorem dL_save_12 : decode cL_save 12 = .ok (.iconst 1, 1) := by decide +kernel
theorem dL_save_13 : decode cL_save 13 = .ok (.ireturn, 1) := by decide +kernel
theorem dL_save_14 : decode cL_save 14 = .ok (.iconst 0, 1) := by decide +kernel
theorem dL_save_15 : decode cL_save 15 = .ok (.ireturn, 1) := by decide +kernel
theorem dL_crash_0 : decode cL_crash 0 = .ok (.aload_n 2, 1) := by decide +kernel
theorem dL_crash_1 : decode cL_crash 1 = .ok (.iconst 0, 1) := by decide +kernel
theorem dL_crash_2 : decode cL_crash 2 = .ok (.aload_n 0, 1) := by decide +kernel
theorem dL_crash_3 : decode cL_crash 3 = .ok (.iload_n 1, 1) := by decide +kernel
theorem dL_crash_4 : decode cL_crash 4 = .ok (.invokevirtual 32, 3) := by decide +kernel
theorem dL_crash_7 : decode cL_crash 7 = .ok (.i2l, 1) := by decide +kernel
theorem dL_crash_8 : decode cL_crash 8 = .ok (.lastore, 1) := by decide +kernel
theorem dL_crash_9 : decode cL_crash 9 = .ok (.goto 6, 3) := by decide +kernel
theorem dL_crash_12 : decode cL_crash 12 = .ok (.astore_n 3, 1) := by decide +kernel
theorem dL_crash_13 : decode cL_crash 13 = .ok (.iconst 1, 1) := by decide +kernel
theorem dL_crash_14 : decode cL_crash 14 = .ok (.ireturn, 1) := by decide +kernel
theorem dL_crash_15 : decode cL_crash 15 = .ok (.iconst 0, 1) := by decide +kernel
theorem dL_crash_16 : decode cL_crash 16 = .ok (.ireturn, 1) := by decide +kernel
theorem dL_poke_0 : decode cL_poke 0 = .ok (.aload_n 0, 1) := by decide +kernel
theorem dL_poke_1 : decode cL_poke 1 = .ok (.iload_n 1, 1) := by decide +kernel
theorem dL_poke_2 : decode cL_poke 2 = .ok (.iload_n 2, 1) := by decide +kernel
theorem dL_poke_3 : decode cL_poke 3 = .ok (.iload_n 3, 1) := by decide +kernel
theorem dL_poke_4 : decode cL_poke 4 = .ok (.invokevirtual 35, 3) := by decide +kernel
theorem dL_poke_7 : decode cL_poke 7 = .ok (.goto 11, 3) := by decide +kernel
theorem dL_poke_10 : decode cL_poke 10 = .ok (.astore 4, 2) := by decide +kernel
theorem dL_poke_12 : decode cL_poke 12 = .ok (.iconst 1, 1) := by decide +kernel
theorem dL_poke_13 : decode cL_poke 13 = .ok (.ireturn, 1) := by decide +kernel
theorem dL_poke_14 : decode cL_poke 14 = .ok (.astore 4, 2) := by decide +kernel
theorem dL_poke_16 : decode cL_poke 16 = .ok (.iconst 2, 1) := by decide +kernel
theorem dL_poke_17 : decode cL_poke 17 = .ok (.ireturn, 1) := by decide +kernel
theorem dL_poke_18 : decode cL_poke 18 = .ok (.iconst 0, 1) := by decide +kernel
theorem dL_poke_19 : decode cL_poke 19 = .ok (.ireturn, 1) := by decide +kernel
theorem dL_pokeJournal_0 : decode cL_pokeJournal 0 = .ok (.aload_n 0, 1) := by decide +kernel
theorem dL_pokeJournal_1 : decode cL_pokeJournal 1 = .ok (.iload_n 1, 1) := by decide +kernel
theorem dL_pokeJournal_2 : decode cL_pokeJournal 2 = .ok (.iload_n 2, 1) := by decide +kernel
theorem dL_pokeJournal_3 : decode cL_pokeJournal 3 = .ok (.invokevirtual 41, 3) := by decide +kernel
theorem dL_pokeJournal_6 : decode cL_pokeJournal 6 = .ok (.goto 9, 3) := by decide +kernel
theorem dL_pokeJournal_9 : decode cL_pokeJournal 9 = .ok (.astore_n 3, 1) := by decide +kernel
theorem dL_pokeJournal_10 : decode cL_pokeJournal 10 = .ok (.iconst 1, 1) := by decide +kernel
theorem dL_pokeJournal_11 : decode cL_pokeJournal 11 = .ok (.ireturn, 1) := by decide +kernel
theorem dL_pokeJournal_12 : decode cL_pokeJournal 12 = .ok (.astore_n 3, 1) := by decide +kernel
theorem dL_pokeJournal_13 : decode cL_pokeJournal 13 = .ok (.iconst 2, 1) := by decide +kernel
theorem dL_pokeJournal_14 : decode cL_pokeJournal 14 = .ok (.ireturn, 1) := by decide +kernel
theorem dL_pokeJournal_15 : decode cL_pokeJournal 15 = .ok (.iconst 0, 1) := by decide +kernel
theorem dL_pokeJournal_16 : decode cL_pokeJournal 16 = .ok (.ireturn, 1) := by decide +kernel
theorem dL_byteAt_0 : decode cL_byteAt 0 = .ok (.aload_n 3, 1) := by decide +kernel
theorem dL_byteAt_1 : decode cL_byteAt 1 = .ok (.iconst 0, 1) := by decide +kernel
theorem dL_byteAt_2 : decode cL_byteAt 2 = .ok (.aload_n 0, 1) := by decide +kernel
theorem dL_byteAt_3 : decode cL_byteAt 3 = .ok (.iload_n 1, 1) := by decide +kernel
theorem dL_byteAt_4 : decode cL_byteAt 4 = .ok (.iload_n 2, 1) := by decide +kernel
theorem dL_byteAt_5 : decode cL_byteAt 5 = .ok (.invokevirtual 45, 3) := by decide +kernel
theorem dL_byteAt_8 : decode cL_byteAt 8 = .ok (.i2l, 1) := by decide +kernel
theorem dL_byteAt_9 : decode cL_byteAt 9 = .ok (.lastore, 1) := by decide +kernel
theorem dL_byteAt_10 : decode cL_byteAt 10 = .ok (.goto 7, 3) := by decide +kernel
theorem dL_byteAt_13 : decode cL_byteAt 13 = .ok (.astore 4, 2) := by decide +kernel
theorem dL_byteAt_15 : decode cL_byteAt 15 = .ok (.iconst 1, 1) := by decide +kernel
theorem dL_byteAt_16 : decode cL_byteAt 16 = .ok (.ireturn, 1) := by decide +kernel
theorem dL_byteAt_17 : decode cL_byteAt 17 = .ok (.iconst 0, 1) := by decide +kernel
theorem dL_byteAt_18 : decode cL_byteAt 18 = .ok (.ireturn, 1) := by decide +kernel
theorem dL_entry_0 : decode cL_entry 0 = .ok (.aload_n 2, 1) := by decide +kernel
theorem dL_entry_1 : decode cL_entry 1 = .ok (.iconst 0, 1) := by decide +kernel
theorem dL_entry_2 : decode cL_entry 2 = .ok (.aload_n 0, 1) := by decide +kernel
theorem dL_entry_3 : decode cL_entry 3 = .ok (.iload_n 1, 1) := by decide +kernel
theorem dL_entry_4 : decode cL_entry 4 = .ok (.invokevirtual 49, 3) := by decide +kernel
theorem dL_entry_7 : decode cL_entry 7 = .ok (.i2l, 1) := by decide +kernel
theorem dL_entry_8 : decode cL_entry 8 = .ok (.lastore, 1) := by decide +kernel
theorem dL_entry_9 : decode cL_entry 9 = .ok (.goto 6, 3) := by decide +kernel
theorem dL_entry_12 : decode cL_entry 12 = .ok (.astore_n 3, 1) := by decide +kernel
theorem dL_entry_13 : decode cL_entry 13 = .ok (.iconst 1, 1) := by decide +kernel
theorem dL_entry_14 : decode cL_entry 14 = .ok (.ireturn, 1) := by decide +kernel
theorem dL_entry_15 : decode cL_entry 15 = .ok (.iconst 0, 1) := by decide +kernel
theorem dL_entry_16 : decode cL_entry 16 = .ok (.ireturn, 1) := by decide +kernel
theorem dL_count_0 : decode cL_count 0 = .ok (.aload_n 2, 1) := by decide +kernel
theorem dL_count_1 : decode cL_count 1 = .ok (.iconst 0, 1) := by decide +kernel
theorem dL_count_2 : decode cL_count 2 = .ok (.aload_n 0, 1) := by decide +kernel
theorem dL_count_3 : decode cL_count 3 = .ok (.iload_n 1, 1) := by decide +kernel
theorem dL_count_4 : decode cL_count 4 = .ok (.invokevirtual 52, 3) := by decide +kernel
theorem dL_count_7 : decode cL_count 7 = .ok (.i2l, 1) := by decide +kernel
theorem dL_count_8 : decode cL_count 8 = .ok (.lastore, 1) := by decide +kernel
theorem dL_count_9 : decode cL_count 9 = .ok (.goto 6, 3) := by decide +kernel
theorem dL_count_12 : decode cL_count 12 = .ok (.astore_n 3, 1) := by decide +kernel
theorem dL_count_13 : decode cL_count 13 = .ok (.iconst 1, 1) := by decide +kernel
theorem dL_count_14 : decode cL_count 14 = .ok (.ireturn, 1) := by decide +kernel
theorem dL_count_15 : decode cL_count 15 = .ok (.iconst 0, 1) := by decide +kernel
theorem dL_count_16 : decode cL_count 16 = .ok (.ireturn, 1) := by decide +kernel
theorem dL_law_0 : decode cL_law 0 = .ok (.new 8, 3) := by decide +kernel
theorem dL_law_3 : decode cL_law 3 = .ok (.dup, 1) := by decide +kernel
theorem dL_law_4 : decode cL_law 4 = .ok (.aload_n 0, 1) := by decide +kernel
theorem dL_law_5 : decode cL_law 5 = .ok (.iconst 0, 1) := by decide +kernel
theorem dL_law_6 : decode cL_law 6 = .ok (.invokestatic 55, 3) := by decide +kernel
theorem dL_law_9 : decode cL_law 9 = .ok (.invokespecial 61, 3) := by decide +kernel
theorem dL_law_12 : decode cL_law 12 = .ok (.astore_n 1, 1) := by decide +kernel
theorem dL_law_13 : decode cL_law 13 = .ok (.new 64, 3) := by decide +kernel
theorem dL_law_16 : decode cL_law 16 = .ok (.dup, 1) := by decide +kernel
theorem dL_law_17 : decode cL_law 17 = .ok (.aload_n 0, 1) := by decide +kernel
theorem dL_law_18 : decode cL_law 18 = .ok (.iconst 0, 1) := by decide +kernel
theorem dL_law_19 : decode cL_law 19 = .ok (.invokestatic 55, 3) := by decide +kernel
theorem dL_law_22 : decode cL_law 22 = .ok (.invokespecial 66, 3) := by decide +kernel
theorem dL_law_25 : decode cL_law 25 = .ok (.astore_n 2, 1) := by decide +kernel
theorem dL_law_26 : decode cL_law 26 = .ok (.iconst 1, 1) := by decide +kernel
theorem dL_law_27 : decode cL_law 27 = .ok (.newarray .long, 2) := by decide +kernel
theorem dL_law_29 : decode cL_law 29 = .ok (.astore_n 3, 1) := by decide +kernel
theorem dL_law_30 : decode cL_law 30 = .ok (.iconst 1, 1) := by decide +kernel
theorem dL_law_31 : decode cL_law 31 = .ok (.istore 4, 2) := by decide +kernel
theorem dL_law_33 : decode cL_law 33 = .ok (.iload 4, 2) := by decide +kernel
theorem dL_law_35 : decode cL_law 35 = .ok (.aload_n 0, 1) := by decide +kernel
theorem dL_law_36 : decode cL_law 36 = .ok (.arraylength, 1) := by decide +kernel
theorem dL_law_37 : decode cL_law 37 = .ok (.iconst 4, 1) := by decide +kernel
theorem dL_law_38 : decode cL_law 38 = .ok (.isub, 1) := by decide +kernel
theorem dL_law_39 : decode cL_law 39 = .ok (.if_icmp .gt 694, 3) := by decide +kernel
theorem dL_law_42 : decode cL_law 42 = .ok (.aload_n 0, 1) := by decide +kernel
theorem dL_law_43 : decode cL_law 43 = .ok (.iload 4, 2) := by decide +kernel
theorem dL_law_45 : decode cL_law 45 = .ok (.iaload, 1) := by decide +kernel
theorem dL_law_46 : decode cL_law 46 = .ok (.bipush 15, 2) := by decide +kernel
theorem dL_law_48 : decode cL_law 48 = .ok (.iand, 1) := by decide +kernel
theorem dL_law_49 : decode cL_law 49 = .ok (.tableswitch 678 0 11 #[63, 126, 182, 233, 277, 321, 377, 437, 485, 498, 566, 622], 63) := by decide +kernel
theorem dL_law_112 : decode cL_law 112 = .ok (.aload_n 1, 1) := by decide +kernel
theorem dL_law_113 : decode cL_law 113 = .ok (.aload_n 0, 1) := by decide +kernel
theorem dL_law_114 : decode cL_law 114 = .ok (.iload 4, 2) := by decide +kernel
theorem dL_law_116 : decode cL_law 116 = .ok (.iconst 1, 1) := by decide +kernel
theorem dL_law_117 : decode cL_law 117 = .ok (.iadd, 1) := by decide +kernel
theorem dL_law_118 : decode cL_law 118 = .ok (.iaload, 1) := by decide +kernel
theorem dL_law_119 : decode cL_law 119 = .ok (.aload_n 3, 1) := by decide +kernel
theorem dL_law_120 : decode cL_law 120 = .ok (.invokestatic 67, 3) := by decide +kernel
theorem dL_law_123 : decode cL_law 123 = .ok (.istore 5, 2) := by decide +kernel
theorem dL_law_125 : decode cL_law 125 = .ok (.aload_n 2, 1) := by decide +kernel
theorem dL_law_126 : decode cL_law 126 = .ok (.aload_n 0, 1) := by decide +kernel
theorem dL_law_127 : decode cL_law 127 = .ok (.iload 4, 2) := by decide +kernel
theorem dL_law_129 : decode cL_law 129 = .ok (.iconst 1, 1) := by decide +kernel
theorem dL_law_130 : decode cL_law 130 = .ok (.iadd, 1) := by decide +kernel
theorem dL_law_131 : decode cL_law 131 = .ok (.iaload, 1) := by decide +kernel
theorem dL_law_132 : decode cL_law 132 = .ok (.invokevirtual 70, 3) := by decide +kernel
theorem dL_law_135 : decode cL_law 135 = .ok (.istore 6, 2) := by decide +kernel
theorem dL_law_137 : decode cL_law 137 = .ok (.aload_n 2, 1) := by decide +kernel
theorem dL_law_138 : decode cL_law 138 = .ok (.invokevirtual 71, 3) := by decide +kernel
theorem dL_law_141 : decode cL_law 141 = .ok (.iload 5, 2) := by decide +kernel
theorem dL_law_143 : decode cL_law 143 = .ok (.if_icmp .eq 5, 3) := by decide +kernel
theorem dL_law_146 : decode cL_law 146 = .ok (.iconst 0, 1) := by decide +kernel
theorem dL_law_147 : decode cL_law 147 = .ok (.ireturn, 1) := by decide +kernel
theorem dL_law_148 : decode cL_law 148 = .ok (.iload 5, 2) := by decide +kernel
theorem dL_law_150 : decode cL_law 150 = .ok (.ifCond .ne 22, 3) := by decide +kernel
theorem dL_law_153 : decode cL_law 153 = .ok (.aload_n 3, 1) := by decide +kernel
theorem dL_law_154 : decode cL_law 154 = .ok (.iconst 0, 1) := by decide +kernel
theorem dL_law_155 : decode cL_law 155 = .ok (.laload, 1) := by decide +kernel
theorem dL_law_156 : decode cL_law 156 = .ok (.iload 6, 2) := by decide +kernel
theorem dL_law_158 : decode cL_law 158 = .ok (.ifCond .eq 7, 3) := by decide +kernel
theorem dL_law_161 : decode cL_law 161 = .ok (.lconst 1, 1) := by decide +kernel
theorem dL_law_162 : decode cL_law 162 = .ok (.goto 4, 3) := by decide +kernel
theorem dL_law_165 : decode cL_law 165 = .ok (.lconst 0, 1) := by decide +kernel
theorem dL_law_166 : decode cL_law 166 = .ok (.lcmp, 1) := by decide +kernel
theorem dL_law_167 : decode cL_law 167 = .ok (.ifCond .eq 5, 3) := by decide +kernel
theorem dL_law_170 : decode cL_law 170 = .ok (.iconst 0, 1) := by decide +kernel
theorem dL_law_171 : decode cL_law 171 = .ok (.ireturn, 1) := by decide +kernel
theorem dL_law_172 : decode cL_law 172 = .ok (.goto 555, 3) := by decide +kernel
theorem dL_law_175 : decode cL_law 175 = .ok (.aload_n 1, 1) := by decide +kernel
theorem dL_law_176 : decode cL_law 176 = .ok (.aload_n 0, 1) := by decide +kernel
theorem dL_law_177 : decode cL_law 177 = .ok (.iload 4, 2) := by decide +kernel
theorem dL_law_179 : decode cL_law 179 = .ok (.iconst 1, 1) := by decide +kernel
theorem dL_law_180 : decode cL_law 180 = .ok (.iadd, 1) := by decide +kernel
theorem dL_law_181 : decode cL_law 181 = .ok (.iaload, 1) := by decide +kernel
theorem dL_law_182 : decode cL_law 182 = .ok (.aload_n 3, 1) := by decide +kernel
theorem dL_law_183 : decode cL_law 183 = .ok (.invokestatic 74, 3) := by decide +kernel
theorem dL_law_186 : decode cL_law 186 = .ok (.istore 5, 2) := by decide +kernel
theorem dL_law_188 : decode cL_law 188 = .ok (.aload_n 2, 1) := by decide +kernel
theorem dL_law_189 : decode cL_law 189 = .ok (.aload_n 0, 1) := by decide +kernel
theorem dL_law_190 : decode cL_law 190 = .ok (.iload 4, 2) := by decide +kernel
theorem dL_law_192 : decode cL_law 192 = .ok (.iconst 1, 1) := by decide +kernel
theorem dL_law_193 : decode cL_law 193 = .ok (.iadd, 1) := by decide +kernel
theorem dL_law_194 : decode cL_law 194 = .ok (.iaload, 1) := by decide +kernel
theorem dL_law_195 : decode cL_law 195 = .ok (.invokevirtual 76, 3) := by decide +kernel
theorem dL_law_198 : decode cL_law 198 = .ok (.istore 6, 2) := by decide +kernel
theorem dL_law_200 : decode cL_law 200 = .ok (.aload_n 2, 1) := by decide +kernel
theorem dL_law_201 : decode cL_law 201 = .ok (.invokevirtual 71, 3) := by decide +kernel
theorem dL_law_204 : decode cL_law 204 = .ok (.iload 5, 2) := by decide +kernel
theorem dL_law_206 : decode cL_law 206 = .ok (.if_icmp .eq 5, 3) := by decide +kernel
theorem dL_law_209 : decode cL_law 209 = .ok (.iconst 0, 1) := by decide +kernel
theorem dL_law_210 : decode cL_law 210 = .ok (.ireturn, 1) := by decide +kernel
theorem dL_law_211 : decode cL_law 211 = .ok (.iload 5, 2) := by decide +kernel
theorem dL_law_213 : decode cL_law 213 = .ok (.ifCond .ne 15, 3) := by decide +kernel
theorem dL_law_216 : decode cL_law 216 = .ok (.aload_n 3, 1) := by decide +kernel
theorem dL_law_217 : decode cL_law 217 = .ok (.iconst 0, 1) := by decide +kernel
theorem dL_law_218 : decode cL_law 218 = .ok (.laload, 1) := by decide +kernel
theorem dL_law_219 : decode cL_law 219 = .ok (.iload 6, 2) := by decide +kernel
theorem dL_law_221 : decode cL_law 221 = .ok (.i2l, 1) := by decide +kernel
theorem dL_law_222 : decode cL_law 222 = .ok (.lcmp, 1) := by decide +kernel
theorem dL_law_223 : decode cL_law 223 = .ok (.ifCond .eq 5, 3) := by decide +kernel
theorem dL_law_226 : decode cL_law 226 = .ok (.iconst 0, 1) := by decide +kernel
theorem dL_law_227 : decode cL_law 227 = .ok (.ireturn, 1) := by decide +kernel
theorem dL_law_228 : decode cL_law 228 = .ok (.goto 499, 3) := by decide +kernel
theorem dL_law_231 : decode cL_law 231 = .ok (.aload_n 1, 1) := by decide +kernel
theorem dL_law_232 : decode cL_law 232 = .ok (.aload_n 3, 1) := by decide +kernel
theorem dL_law_233 : decode cL_law 233 = .ok (.invokestatic 77, 3) := by decide +kernel
theorem dL_law_236 : decode cL_law 236 = .ok (.istore 5, 2) := by decide +kernel
theorem dL_law_238 : decode cL_law 238 = .ok (.aload_n 2, 1) := by decide +kernel
theorem dL_law_239 : decode cL_law 239 = .ok (.invokevirtual 80, 3) := by decide +kernel
theorem dL_law_242 : decode cL_law 242 = .ok (.istore 6, 2) := by decide +kernel
theorem dL_law_244 : decode cL_law 244 = .ok (.aload_n 2, 1) := by decide +kernel
theorem dL_law_245 : decode cL_law 245 = .ok (.invokevirtual 71, 3) := by decide +kernel
theorem dL_law_248 : decode cL_law 248 = .ok (.iload 5, 2) := by decide +kernel
theorem dL_law_250 : decode cL_law 250 = .ok (.if_icmp .eq 5, 3) := by decide +kernel
theorem dL_law_253 : decode cL_law 253 = .ok (.iconst 0, 1) := by decide +kernel
theorem dL_law_254 : decode cL_law 254 = .ok (.ireturn, 1) := by decide +kernel
theorem dL_law_255 : decode cL_law 255 = .ok (.iload 5, 2) := by decide +kernel
theorem dL_law_257 : decode cL_law 257 = .ok (.ifCond .ne 22, 3) := by decide +kernel
theorem dL_law_260 : decode cL_law 260 = .ok (.aload_n 3, 1) := by decide +kernel
theorem dL_law_261 : decode cL_law 261 = .ok (.iconst 0, 1) := by decide +kernel
theorem dL_law_262 : decode cL_law 262 = .ok (.laload, 1) := by decide +kernel
theorem dL_law_263 : decode cL_law 263 = .ok (.iload 6, 2) := by decide +kernel
theorem dL_law_265 : decode cL_law 265 = .ok (.ifCond .eq 7, 3) := by decide +kernel
theorem dL_law_268 : decode cL_law 268 = .ok (.lconst 1, 1) := by decide +kernel
theorem dL_law_269 : decode cL_law 269 = .ok (.goto 4, 3) := by decide +kernel
theorem dL_law_272 : decode cL_law 272 = .ok (.lconst 0, 1) := by decide +kernel
theorem dL_law_273 : decode cL_law 273 = .ok (.lcmp, 1) := by decide +kernel
theorem dL_law_274 : decode cL_law 274 = .ok (.ifCond .eq 5, 3) := by decide +kernel
theorem dL_law_277 : decode cL_law 277 = .ok (.iconst 0, 1) := by decide +kernel
theorem dL_law_278 : decode cL_law 278 = .ok (.ireturn, 1) := by decide +kernel
theorem dL_law_279 : decode cL_law 279 = .ok (.goto 448, 3) := by decide +kernel
theorem dL_law_282 : decode cL_law 282 = .ok (.aload_n 1, 1) := by decide +kernel
theorem dL_law_283 : decode cL_law 283 = .ok (.aload_n 3, 1) := by decide +kernel
theorem dL_law_284 : decode cL_law 284 = .ok (.invokestatic 81, 3) := by decide +kernel
theorem dL_law_287 : decode cL_law 287 = .ok (.istore 5, 2) := by decide +kernel
theorem dL_law_289 : decode cL_law 289 = .ok (.aload_n 2, 1) := by decide +kernel
theorem dL_law_290 : decode cL_law 290 = .ok (.invokevirtual 83, 3) := by decide +kernel
theorem dL_law_293 : decode cL_law 293 = .ok (.istore 6, 2) := by decide +kernel
theorem dL_law_295 : decode cL_law 295 = .ok (.aload_n 2, 1) := by decide +kernel
theorem dL_law_296 : decode cL_law 296 = .ok (.invokevirtual 71, 3) := by decide +kernel
theorem dL_law_299 : decode cL_law 299 = .ok (.iload 5, 2) := by decide +kernel
theorem dL_law_301 : decode cL_law 301 = .ok (.if_icmp .eq 5, 3) := by decide +kernel
theorem dL_law_304 : decode cL_law 304 = .ok (.iconst 0, 1) := by decide +kernel
theorem dL_law_305 : decode cL_law 305 = .ok (.ireturn, 1) := by decide +kernel
theorem dL_law_306 : decode cL_law 306 = .ok (.iload 5, 2) := by decide +kernel
theorem dL_law_308 : decode cL_law 308 = .ok (.ifCond .ne 15, 3) := by decide +kernel
theorem dL_law_311 : decode cL_law 311 = .ok (.aload_n 3, 1) := by decide +kernel
theorem dL_law_312 : decode cL_law 312 = .ok (.iconst 0, 1) := by decide +kernel
theorem dL_law_313 : decode cL_law 313 = .ok (.laload, 1) := by decide +kernel
theorem dL_law_314 : decode cL_law 314 = .ok (.iload 6, 2) := by decide +kernel
theorem dL_law_316 : decode cL_law 316 = .ok (.i2l, 1) := by decide +kernel
theorem dL_law_317 : decode cL_law 317 = .ok (.lcmp, 1) := by decide +kernel
theorem dL_law_318 : decode cL_law 318 = .ok (.ifCond .eq 5, 3) := by decide +kernel
theorem dL_law_321 : decode cL_law 321 = .ok (.iconst 0, 1) := by decide +kernel
theorem dL_law_322 : decode cL_law 322 = .ok (.ireturn, 1) := by decide +kernel
theorem dL_law_323 : decode cL_law 323 = .ok (.goto 404, 3) := by decide +kernel
theorem dL_law_326 : decode cL_law 326 = .ok (.aload_n 1, 1) := by decide +kernel
theorem dL_law_327 : decode cL_law 327 = .ok (.aload_n 3, 1) := by decide +kernel
theorem dL_law_328 : decode cL_law 328 = .ok (.invokestatic 84, 3) := by decide +kernel
theorem dL_law_331 : decode cL_law 331 = .ok (.istore 5, 2) := by decide +kernel
theorem dL_law_333 : decode cL_law 333 = .ok (.aload_n 2, 1) := by decide +kernel
theorem dL_law_334 : decode cL_law 334 = .ok (.invokevirtual 86, 3) := by decide +kernel
theorem dL_law_337 : decode cL_law 337 = .ok (.istore 6, 2) := by decide +kernel
theorem dL_law_339 : decode cL_law 339 = .ok (.aload_n 2, 1) := by decide +kernel
theorem dL_law_340 : decode cL_law 340 = .ok (.invokevirtual 71, 3) := by decide +kernel
theorem dL_law_343 : decode cL_law 343 = .ok (.iload 5, 2) := by decide +kernel
theorem dL_law_345 : decode cL_law 345 = .ok (.if_icmp .eq 5, 3) := by decide +kernel
theorem dL_law_348 : decode cL_law 348 = .ok (.iconst 0, 1) := by decide +kernel
theorem dL_law_349 : decode cL_law 349 = .ok (.ireturn, 1) := by decide +kernel
theorem dL_law_350 : decode cL_law 350 = .ok (.iload 5, 2) := by decide +kernel
theorem dL_law_352 : decode cL_law 352 = .ok (.ifCond .ne 15, 3) := by decide +kernel
theorem dL_law_355 : decode cL_law 355 = .ok (.aload_n 3, 1) := by decide +kernel
theorem dL_law_356 : decode cL_law 356 = .ok (.iconst 0, 1) := by decide +kernel
theorem dL_law_357 : decode cL_law 357 = .ok (.laload, 1) := by decide +kernel
theorem dL_law_358 : decode cL_law 358 = .ok (.iload 6, 2) := by decide +kernel
theorem dL_law_360 : decode cL_law 360 = .ok (.i2l, 1) := by decide +kernel
theorem dL_law_361 : decode cL_law 361 = .ok (.lcmp, 1) := by decide +kernel
theorem dL_law_362 : decode cL_law 362 = .ok (.ifCond .eq 5, 3) := by decide +kernel
theorem dL_law_365 : decode cL_law 365 = .ok (.iconst 0, 1) := by decide +kernel
theorem dL_law_366 : decode cL_law 366 = .ok (.ireturn, 1) := by decide +kernel
theorem dL_law_367 : decode cL_law 367 = .ok (.goto 360, 3) := by decide +kernel
theorem dL_law_370 : decode cL_law 370 = .ok (.aload_n 1, 1) := by decide +kernel
theorem dL_law_371 : decode cL_law 371 = .ok (.aload_n 0, 1) := by decide +kernel
theorem dL_law_372 : decode cL_law 372 = .ok (.iload 4, 2) := by decide +kernel
theorem dL_law_374 : decode cL_law 374 = .ok (.iconst 1, 1) := by decide +kernel
theorem dL_law_375 : decode cL_law 375 = .ok (.iadd, 1) := by decide +kernel
theorem dL_law_376 : decode cL_law 376 = .ok (.iaload, 1) := by decide +kernel
theorem dL_law_377 : decode cL_law 377 = .ok (.aload_n 3, 1) := by decide +kernel
theorem dL_law_378 : decode cL_law 378 = .ok (.invokestatic 87, 3) := by decide +kernel
theorem dL_law_381 : decode cL_law 381 = .ok (.istore 5, 2) := by decide +kernel
theorem dL_law_383 : decode cL_law 383 = .ok (.aload_n 2, 1) := by decide +kernel
theorem dL_law_384 : decode cL_law 384 = .ok (.aload_n 0, 1) := by decide +kernel
theorem dL_law_385 : decode cL_law 385 = .ok (.iload 4, 2) := by decide +kernel
theorem dL_law_387 : decode cL_law 387 = .ok (.iconst 1, 1) := by decide +kernel
theorem dL_law_388 : decode cL_law 388 = .ok (.iadd, 1) := by decide +kernel
theorem dL_law_389 : decode cL_law 389 = .ok (.iaload, 1) := by decide +kernel
theorem dL_law_390 : decode cL_law 390 = .ok (.invokevirtual 89, 3) := by decide +kernel
theorem dL_law_393 : decode cL_law 393 = .ok (.istore 6, 2) := by decide +kernel
theorem dL_law_395 : decode cL_law 395 = .ok (.aload_n 2, 1) := by decide +kernel
theorem dL_law_396 : decode cL_law 396 = .ok (.invokevirtual 71, 3) := by decide +kernel
theorem dL_law_399 : decode cL_law 399 = .ok (.iload 5, 2) := by decide +kernel
theorem dL_law_401 : decode cL_law 401 = .ok (.if_icmp .eq 5, 3) := by decide +kernel
theorem dL_law_404 : decode cL_law 404 = .ok (.iconst 0, 1) := by decide +kernel
theorem dL_law_405 : decode cL_law 405 = .ok (.ireturn, 1) := by decide +kernel
theorem dL_law_406 : decode cL_law 406 = .ok (.iload 5, 2) := by decide +kernel
theorem dL_law_408 : decode cL_law 408 = .ok (.ifCond .ne 15, 3) := by decide +kernel
theorem dL_law_411 : decode cL_law 411 = .ok (.aload_n 3, 1) := by decide +kernel
theorem dL_law_412 : decode cL_law 412 = .ok (.iconst 0, 1) := by decide +kernel
theorem dL_law_413 : decode cL_law 413 = .ok (.laload, 1) := by decide +kernel
theorem dL_law_414 : decode cL_law 414 = .ok (.iload 6, 2) := by decide +kernel
theorem dL_law_416 : decode cL_law 416 = .ok (.i2l, 1) := by decide +kernel
theorem dL_law_417 : decode cL_law 417 = .ok (.lcmp, 1) := by decide +kernel
theorem dL_law_418 : decode cL_law 418 = .ok (.ifCond .eq 5, 3) := by decide +kernel
theorem dL_law_421 : decode cL_law 421 = .ok (.iconst 0, 1) := by decide +kernel
theorem dL_law_422 : decode cL_law 422 = .ok (.ireturn, 1) := by decide +kernel
theorem dL_law_423 : decode cL_law 423 = .ok (.goto 304, 3) := by decide +kernel
theorem dL_law_426 : decode cL_law 426 = .ok (.aload_n 1, 1) := by decide +kernel
theorem dL_law_427 : decode cL_law 427 = .ok (.aload_n 0, 1) := by decide +kernel
theorem dL_law_428 : decode cL_law 428 = .ok (.iload 4, 2) := by decide +kernel
theorem dL_law_430 : decode cL_law 430 = .ok (.iconst 1, 1) := by decide +kernel
theorem dL_law_431 : decode cL_law 431 = .ok (.iadd, 1) := by decide +kernel
theorem dL_law_432 : decode cL_law 432 = .ok (.iaload, 1) := by decide +kernel
theorem dL_law_433 : decode cL_law 433 = .ok (.aload_n 0, 1) := by decide +kernel
theorem dL_law_434 : decode cL_law 434 = .ok (.iload 4, 2) := by decide +kernel
theorem dL_law_436 : decode cL_law 436 = .ok (.iconst 2, 1) := by decide +kernel
theorem dL_law_437 : decode cL_law 437 = .ok (.iadd, 1) := by decide +kernel
theorem dL_law_438 : decode cL_law 438 = .ok (.iaload, 1) := by decide +kernel
theorem dL_law_439 : decode cL_law 439 = .ok (.aload_n 0, 1) := by decide +kernel
theorem dL_law_440 : decode cL_law 440 = .ok (.iload 4, 2) := by decide +kernel
theorem dL_law_442 : decode cL_law 442 = .ok (.iconst 3, 1) := by decide +kernel
theorem dL_law_443 : decode cL_law 443 = .ok (.iadd, 1) := by decide +kernel
theorem dL_law_444 : decode cL_law 444 = .ok (.iaload, 1) := by decide +kernel
theorem dL_law_445 : decode cL_law 445 = .ok (.invokestatic 90, 3) := by decide +kernel
theorem dL_law_448 : decode cL_law 448 = .ok (.istore 5, 2) := by decide +kernel
theorem dL_law_450 : decode cL_law 450 = .ok (.aload_n 2, 1) := by decide +kernel
theorem dL_law_451 : decode cL_law 451 = .ok (.aload_n 0, 1) := by decide +kernel
theorem dL_law_452 : decode cL_law 452 = .ok (.iload 4, 2) := by decide +kernel
theorem dL_law_454 : decode cL_law 454 = .ok (.iconst 1, 1) := by decide +kernel
theorem dL_law_455 : decode cL_law 455 = .ok (.iadd, 1) := by decide +kernel
theorem dL_law_456 : decode cL_law 456 = .ok (.iaload, 1) := by decide +kernel
theorem dL_law_457 : decode cL_law 457 = .ok (.aload_n 0, 1) := by decide +kernel
theorem dL_law_458 : decode cL_law 458 = .ok (.iload 4, 2) := by decide +kernel
theorem dL_law_460 : decode cL_law 460 = .ok (.iconst 2, 1) := by decide +kernel
theorem dL_law_461 : decode cL_law 461 = .ok (.iadd, 1) := by decide +kernel
theorem dL_law_462 : decode cL_law 462 = .ok (.iaload, 1) := by decide +kernel
theorem dL_law_463 : decode cL_law 463 = .ok (.aload_n 0, 1) := by decide +kernel
theorem dL_law_464 : decode cL_law 464 = .ok (.iload 4, 2) := by decide +kernel
theorem dL_law_466 : decode cL_law 466 = .ok (.iconst 3, 1) := by decide +kernel
theorem dL_law_467 : decode cL_law 467 = .ok (.iadd, 1) := by decide +kernel
theorem dL_law_468 : decode cL_law 468 = .ok (.iaload, 1) := by decide +kernel
theorem dL_law_469 : decode cL_law 469 = .ok (.invokevirtual 93, 3) := by decide +kernel
theorem dL_law_472 : decode cL_law 472 = .ok (.aload_n 2, 1) := by decide +kernel
theorem dL_law_473 : decode cL_law 473 = .ok (.invokevirtual 71, 3) := by decide +kernel
theorem dL_law_476 : decode cL_law 476 = .ok (.iload 5, 2) := by decide +kernel
theorem dL_law_478 : decode cL_law 478 = .ok (.if_icmp .eq 5, 3) := by decide +kernel
theorem dL_law_481 : decode cL_law 481 = .ok (.iconst 0, 1) := by decide +kernel
theorem dL_law_482 : decode cL_law 482 = .ok (.ireturn, 1) := by decide +kernel
theorem dL_law_483 : decode cL_law 483 = .ok (.goto 244, 3) := by decide +kernel
theorem dL_law_486 : decode cL_law 486 = .ok (.aload_n 1, 1) := by decide +kernel
theorem dL_law_487 : decode cL_law 487 = .ok (.aload_n 0, 1) := by decide +kernel
theorem dL_law_488 : decode cL_law 488 = .ok (.iload 4, 2) := by decide +kernel
theorem dL_law_490 : decode cL_law 490 = .ok (.iconst 1, 1) := by decide +kernel
theorem dL_law_491 : decode cL_law 491 = .ok (.iadd, 1) := by decide +kernel
theorem dL_law_492 : decode cL_law 492 = .ok (.iaload, 1) := by decide +kernel
theorem dL_law_493 : decode cL_law 493 = .ok (.aload_n 0, 1) := by decide +kernel
theorem dL_law_494 : decode cL_law 494 = .ok (.iload 4, 2) := by decide +kernel
theorem dL_law_496 : decode cL_law 496 = .ok (.iconst 2, 1) := by decide +kernel
theorem dL_law_497 : decode cL_law 497 = .ok (.iadd, 1) := by decide +kernel
theorem dL_law_498 : decode cL_law 498 = .ok (.iaload, 1) := by decide +kernel
theorem dL_law_499 : decode cL_law 499 = .ok (.invokestatic 94, 3) := by decide +kernel
theorem dL_law_502 : decode cL_law 502 = .ok (.istore 5, 2) := by decide +kernel
theorem dL_law_504 : decode cL_law 504 = .ok (.aload_n 2, 1) := by decide +kernel
theorem dL_law_505 : decode cL_law 505 = .ok (.aload_n 0, 1) := by decide +kernel
theorem dL_law_506 : decode cL_law 506 = .ok (.iload 4, 2) := by decide +kernel
theorem dL_law_508 : decode cL_law 508 = .ok (.iconst 1, 1) := by decide +kernel
theorem dL_law_509 : decode cL_law 509 = .ok (.iadd, 1) := by decide +kernel
theorem dL_law_510 : decode cL_law 510 = .ok (.iaload, 1) := by decide +kernel
theorem dL_law_511 : decode cL_law 511 = .ok (.aload_n 0, 1) := by decide +kernel
theorem dL_law_512 : decode cL_law 512 = .ok (.iload 4, 2) := by decide +kernel
theorem dL_law_514 : decode cL_law 514 = .ok (.iconst 2, 1) := by decide +kernel
theorem dL_law_515 : decode cL_law 515 = .ok (.iadd, 1) := by decide +kernel
theorem dL_law_516 : decode cL_law 516 = .ok (.iaload, 1) := by decide +kernel
theorem dL_law_517 : decode cL_law 517 = .ok (.invokevirtual 97, 3) := by decide +kernel
theorem dL_law_520 : decode cL_law 520 = .ok (.aload_n 2, 1) := by decide +kernel
theorem dL_law_521 : decode cL_law 521 = .ok (.invokevirtual 71, 3) := by decide +kernel
theorem dL_law_524 : decode cL_law 524 = .ok (.iload 5, 2) := by decide +kernel
theorem dL_law_526 : decode cL_law 526 = .ok (.if_icmp .eq 5, 3) := by decide +kernel
theorem dL_law_529 : decode cL_law 529 = .ok (.iconst 0, 1) := by decide +kernel
theorem dL_law_530 : decode cL_law 530 = .ok (.ireturn, 1) := by decide +kernel
theorem dL_law_531 : decode cL_law 531 = .ok (.goto 196, 3) := by decide +kernel
theorem dL_law_534 : decode cL_law 534 = .ok (.aload_n 1, 1) := by decide +kernel
theorem dL_law_535 : decode cL_law 535 = .ok (.invokevirtual 98, 3) := by decide +kernel
theorem dL_law_538 : decode cL_law 538 = .ok (.aload_n 2, 1) := by decide +kernel
theorem dL_law_539 : decode cL_law 539 = .ok (.invokevirtual 101, 3) := by decide +kernel
theorem dL_law_542 : decode cL_law 542 = .ok (.if_icmp .eq 185, 3) := by decide +kernel
theorem dL_law_545 : decode cL_law 545 = .ok (.iconst 0, 1) := by decide +kernel
theorem dL_law_546 : decode cL_law 546 = .ok (.ireturn, 1) := by decide +kernel
theorem dL_law_547 : decode cL_law 547 = .ok (.aload_n 1, 1) := by decide +kernel
theorem dL_law_548 : decode cL_law 548 = .ok (.aload_n 0, 1) := by decide +kernel
theorem dL_law_549 : decode cL_law 549 = .ok (.iload 4, 2) := by decide +kernel
theorem dL_law_551 : decode cL_law 551 = .ok (.iconst 1, 1) := by decide +kernel
theorem dL_law_552 : decode cL_law 552 = .ok (.iadd, 1) := by decide +kernel
theorem dL_law_553 : decode cL_law 553 = .ok (.iaload, 1) := by decide +kernel
theorem dL_law_554 : decode cL_law 554 = .ok (.aload_n 0, 1) := by decide +kernel
theorem dL_law_555 : decode cL_law 555 = .ok (.iload 4, 2) := by decide +kernel
theorem dL_law_557 : decode cL_law 557 = .ok (.iconst 2, 1) := by decide +kernel
theorem dL_law_558 : decode cL_law 558 = .ok (.iadd, 1) := by decide +kernel
theorem dL_law_559 : decode cL_law 559 = .ok (.iaload, 1) := by decide +kernel
theorem dL_law_560 : decode cL_law 560 = .ok (.aload_n 3, 1) := by decide +kernel
theorem dL_law_561 : decode cL_law 561 = .ok (.invokestatic 102, 3) := by decide +kernel
theorem dL_law_564 : decode cL_law 564 = .ok (.istore 5, 2) := by decide +kernel
theorem dL_law_566 : decode cL_law 566 = .ok (.aload_n 2, 1) := by decide +kernel
theorem dL_law_567 : decode cL_law 567 = .ok (.aload_n 0, 1) := by decide +kernel
theorem dL_law_568 : decode cL_law 568 = .ok (.iload 4, 2) := by decide +kernel
theorem dL_law_570 : decode cL_law 570 = .ok (.iconst 1, 1) := by decide +kernel
theorem dL_law_571 : decode cL_law 571 = .ok (.iadd, 1) := by decide +kernel
theorem dL_law_572 : decode cL_law 572 = .ok (.iaload, 1) := by decide +kernel
theorem dL_law_573 : decode cL_law 573 = .ok (.aload_n 0, 1) := by decide +kernel
theorem dL_law_574 : decode cL_law 574 = .ok (.iload 4, 2) := by decide +kernel
theorem dL_law_576 : decode cL_law 576 = .ok (.iconst 2, 1) := by decide +kernel
theorem dL_law_577 : decode cL_law 577 = .ok (.iadd, 1) := by decide +kernel
theorem dL_law_578 : decode cL_law 578 = .ok (.iaload, 1) := by decide +kernel
theorem dL_law_579 : decode cL_law 579 = .ok (.invokevirtual 105, 3) := by decide +kernel
theorem dL_law_582 : decode cL_law 582 = .ok (.istore 6, 2) := by decide +kernel
theorem dL_law_584 : decode cL_law 584 = .ok (.aload_n 2, 1) := by decide +kernel
theorem dL_law_585 : decode cL_law 585 = .ok (.invokevirtual 71, 3) := by decide +kernel
theorem dL_law_588 : decode cL_law 588 = .ok (.iload 5, 2) := by decide +kernel
theorem dL_law_590 : decode cL_law 590 = .ok (.if_icmp .eq 5, 3) := by decide +kernel
theorem dL_law_593 : decode cL_law 593 = .ok (.iconst 0, 1) := by decide +kernel
theorem dL_law_594 : decode cL_law 594 = .ok (.ireturn, 1) := by decide +kernel
theorem dL_law_595 : decode cL_law 595 = .ok (.iload 5, 2) := by decide +kernel
theorem dL_law_597 : decode cL_law 597 = .ok (.ifCond .ne 15, 3) := by decide +kernel
theorem dL_law_600 : decode cL_law 600 = .ok (.aload_n 3, 1) := by decide +kernel
theorem dL_law_601 : decode cL_law 601 = .ok (.iconst 0, 1) := by decide +kernel
theorem dL_law_602 : decode cL_law 602 = .ok (.laload, 1) := by decide +kernel
theorem dL_law_603 : decode cL_law 603 = .ok (.iload 6, 2) := by decide +kernel
theorem dL_law_605 : decode cL_law 605 = .ok (.i2l, 1) := by decide +kernel
theorem dL_law_606 : decode cL_law 606 = .ok (.lcmp, 1) := by decide +kernel
theorem dL_law_607 : decode cL_law 607 = .ok (.ifCond .eq 5, 3) := by decide +kernel
theorem dL_law_610 : decode cL_law 610 = .ok (.iconst 0, 1) := by decide +kernel
theorem dL_law_611 : decode cL_law 611 = .ok (.ireturn, 1) := by decide +kernel
theorem dL_law_612 : decode cL_law 612 = .ok (.goto 115, 3) := by decide +kernel
theorem dL_law_615 : decode cL_law 615 = .ok (.aload_n 1, 1) := by decide +kernel
theorem dL_law_616 : decode cL_law 616 = .ok (.aload_n 0, 1) := by decide +kernel
theorem dL_law_617 : decode cL_law 617 = .ok (.iload 4, 2) := by decide +kernel
theorem dL_law_619 : decode cL_law 619 = .ok (.iconst 1, 1) := by decide +kernel
theorem dL_law_620 : decode cL_law 620 = .ok (.iadd, 1) := by decide +kernel
theorem dL_law_621 : decode cL_law 621 = .ok (.iaload, 1) := by decide +kernel
theorem dL_law_622 : decode cL_law 622 = .ok (.aload_n 3, 1) := by decide +kernel
theorem dL_law_623 : decode cL_law 623 = .ok (.invokestatic 106, 3) := by decide +kernel
theorem dL_law_626 : decode cL_law 626 = .ok (.istore 5, 2) := by decide +kernel
theorem dL_law_628 : decode cL_law 628 = .ok (.aload_n 2, 1) := by decide +kernel
theorem dL_law_629 : decode cL_law 629 = .ok (.aload_n 0, 1) := by decide +kernel
theorem dL_law_630 : decode cL_law 630 = .ok (.iload 4, 2) := by decide +kernel
theorem dL_law_632 : decode cL_law 632 = .ok (.iconst 1, 1) := by decide +kernel
theorem dL_law_633 : decode cL_law 633 = .ok (.iadd, 1) := by decide +kernel
theorem dL_law_634 : decode cL_law 634 = .ok (.iaload, 1) := by decide +kernel
theorem dL_law_635 : decode cL_law 635 = .ok (.invokevirtual 108, 3) := by decide +kernel
theorem dL_law_638 : decode cL_law 638 = .ok (.istore 6, 2) := by decide +kernel
theorem dL_law_640 : decode cL_law 640 = .ok (.aload_n 2, 1) := by decide +kernel
theorem dL_law_641 : decode cL_law 641 = .ok (.invokevirtual 71, 3) := by decide +kernel
theorem dL_law_644 : decode cL_law 644 = .ok (.iload 5, 2) := by decide +kernel
theorem dL_law_646 : decode cL_law 646 = .ok (.if_icmp .eq 5, 3) := by decide +kernel
theorem dL_law_649 : decode cL_law 649 = .ok (.iconst 0, 1) := by decide +kernel
theorem dL_law_650 : decode cL_law 650 = .ok (.ireturn, 1) := by decide +kernel
theorem dL_law_651 : decode cL_law 651 = .ok (.iload 5, 2) := by decide +kernel
theorem dL_law_653 : decode cL_law 653 = .ok (.ifCond .ne 15, 3) := by decide +kernel
theorem dL_law_656 : decode cL_law 656 = .ok (.aload_n 3, 1) := by decide +kernel
theorem dL_law_657 : decode cL_law 657 = .ok (.iconst 0, 1) := by decide +kernel
theorem dL_law_658 : decode cL_law 658 = .ok (.laload, 1) := by decide +kernel
theorem dL_law_659 : decode cL_law 659 = .ok (.iload 6, 2) := by decide +kernel
theorem dL_law_661 : decode cL_law 661 = .ok (.i2l, 1) := by decide +kernel
theorem dL_law_662 : decode cL_law 662 = .ok (.lcmp, 1) := by decide +kernel
theorem dL_law_663 : decode cL_law 663 = .ok (.ifCond .eq 5, 3) := by decide +kernel
theorem dL_law_666 : decode cL_law 666 = .ok (.iconst 0, 1) := by decide +kernel
theorem dL_law_667 : decode cL_law 667 = .ok (.ireturn, 1) := by decide +kernel
theorem dL_law_668 : decode cL_law 668 = .ok (.goto 59, 3) := by decide +kernel
theorem dL_law_671 : decode cL_law 671 = .ok (.aload_n 1, 1) := by decide +kernel
theorem dL_law_672 : decode cL_law 672 = .ok (.aload_n 0, 1) := by decide +kernel
theorem dL_law_673 : decode cL_law 673 = .ok (.iload 4, 2) := by decide +kernel
theorem dL_law_675 : decode cL_law 675 = .ok (.iconst 1, 1) := by decide +kernel
theorem dL_law_676 : decode cL_law 676 = .ok (.iadd, 1) := by decide +kernel
theorem dL_law_677 : decode cL_law 677 = .ok (.iaload, 1) := by decide +kernel
theorem dL_law_678 : decode cL_law 678 = .ok (.aload_n 3, 1) := by decide +kernel
theorem dL_law_679 : decode cL_law 679 = .ok (.invokestatic 109, 3) := by decide +kernel
theorem dL_law_682 : decode cL_law 682 = .ok (.istore 5, 2) := by decide +kernel
theorem dL_law_684 : decode cL_law 684 = .ok (.aload_n 2, 1) := by decide +kernel
theorem dL_law_685 : decode cL_law 685 = .ok (.aload_n 0, 1) := by decide +kernel
theorem dL_law_686 : decode cL_law 686 = .ok (.iload 4, 2) := by decide +kernel
theorem dL_law_688 : decode cL_law 688 = .ok (.iconst 1, 1) := by decide +kernel
theorem dL_law_689 : decode cL_law 689 = .ok (.iadd, 1) := by decide +kernel
theorem dL_law_690 : decode cL_law 690 = .ok (.iaload, 1) := by decide +kernel
theorem dL_law_691 : decode cL_law 691 = .ok (.invokevirtual 111, 3) := by decide +kernel
theorem dL_law_694 : decode cL_law 694 = .ok (.istore 6, 2) := by decide +kernel
theorem dL_law_696 : decode cL_law 696 = .ok (.aload_n 2, 1) := by decide +kernel
theorem dL_law_697 : decode cL_law 697 = .ok (.invokevirtual 71, 3) := by decide +kernel
theorem dL_law_700 : decode cL_law 700 = .ok (.iload 5, 2) := by decide +kernel
theorem dL_law_702 : decode cL_law 702 = .ok (.if_icmp .eq 5, 3) := by decide +kernel
theorem dL_law_705 : decode cL_law 705 = .ok (.iconst 0, 1) := by decide +kernel
theorem dL_law_706 : decode cL_law 706 = .ok (.ireturn, 1) := by decide +kernel
theorem dL_law_707 : decode cL_law 707 = .ok (.iload 5, 2) := by decide +kernel
theorem dL_law_709 : decode cL_law 709 = .ok (.ifCond .ne 15, 3) := by decide +kernel
theorem dL_law_712 : decode cL_law 712 = .ok (.aload_n 3, 1) := by decide +kernel
theorem dL_law_713 : decode cL_law 713 = .ok (.iconst 0, 1) := by decide +kernel
theorem dL_law_714 : decode cL_law 714 = .ok (.laload, 1) := by decide +kernel
theorem dL_law_715 : decode cL_law 715 = .ok (.iload 6, 2) := by decide +kernel
theorem dL_law_717 : decode cL_law 717 = .ok (.i2l, 1) := by decide +kernel
theorem dL_law_718 : decode cL_law 718 = .ok (.lcmp, 1) := by decide +kernel
theorem dL_law_719 : decode cL_law 719 = .ok (.ifCond .eq 5, 3) := by decide +kernel
theorem dL_law_722 : decode cL_law 722 = .ok (.iconst 0, 1) := by decide +kernel
theorem dL_law_723 : decode cL_law 723 = .ok (.ireturn, 1) := by decide +kernel
theorem dL_law_724 : decode cL_law 724 = .ok (.goto 3, 3) := by decide +kernel
theorem dL_law_727 : decode cL_law 727 = .ok (.iinc 4 4, 3) := by decide +kernel
theorem dL_law_730 : decode cL_law 730 = .ok (.goto (-697), 3) := by decide +kernel
theorem dL_law_733 : decode cL_law 733 = .ok (.iconst 1, 1) := by decide +kernel
theorem dL_law_734 : decode cL_law 734 = .ok (.ireturn, 1) := by decide +kernel
end
section
/-! the abstract machine: tables -/
abbrev am_I : Type := MethodName × ByteArray × Nat × Nat × Nat × Option FieldType × List (Nat × Nat × Nat × Nat)
def am_ms : List am_I := [
  (yX4_init, cX4_init, 4, 2, 9, none, []),
  (yX4_sum, cX4_sum, 4, 7, 9, (some .int), []),
  (yX4_number, cX4_number, 4, 4, 10, (some .int), []),
  (yX4_get, cX4_get, 4, 2, 9, (some .int), []),
  (yX4_set, cX4_set, 4, 3, 9, none, []),
  (yX4_isSame, cX4_isSame, 4, 6, 10, (some .boolean), []),
  (yX4_setNumber, cX4_setNumber, 4, 4, 10, none, []),
  (yX4_copyPart, cX4_copyPart, 4, 6, 10, none, []),
  (yX4_copyFrom, cX4_copyFrom, 4, 2, 9, none, []),
  (yX4_clear, cX4_clear, 4, 1, 10, none, []),
  (yX4_flip, cX4_flip, 4, 3, 10, none, []),
  (yX2_init, cX2_init, 2, 1, 10, none, []),
  (yX2_extend, cX2_extend, 2, 2, 10, (some .boolean), []),
  (yX2_length, cX2_length, 2, 1, 9, (some .int), []),
  (yX2_recordSize, cX2_recordSize, 2, 1, 10, (some .int), []),
  (yX2_recordSizeOf, cX2_recordSizeOf, 2, 1, 9, (some .int), []),
  (yX2_hash, cX2_hash, 2, 1, 10, (some .int), []),
  (yX2_isAt, cX2_isAt, 2, 3, 11, (some .boolean), []),
  (yX2_writeRecord, cX2_writeRecord, 2, 4, 11, none, []),
  (yX2_clear, cX2_clear, 2, 1, 9, none, []),
  (yX2_readRecord, cX2_readRecord, 2, 3, 11, none, []),
  (yX0_init, cX0_init, 0, 2, 10, none, []),
  (yX0_any, cX0_any, 0, 1, 9, (some .boolean), []),
  (yX0_clear, cX0_clear, 0, 1, 11, none, []),
  (yX0_flip, cX0_flip, 0, 6, 11, none, []),
  (yX0_maskOf, cX0_maskOf, 0, 3, 10, (some .int), []),
  (yX1_init, cX1_init, 1, 1, 10, none, []),
  (yX1_hasRoomFor, cX1_hasRoomFor, 1, 2, 11, (some .boolean), []),
  (yX1_append, cX1_append, 1, 3, 12, none, []),
  (yX1_checkByte, cX1_checkByte, 1, 3, 10, (some .int), []),
  (yX1_cutTo, cX1_cutTo, 1, 2, 9, none, []),
  (yX1_length, cX1_length, 1, 1, 9, (some .int), []),
  (yX1_isWholeAt, cX1_isWholeAt, 1, 4, 11, (some .boolean), []),
  (yX1_actSizeAt, cX1_actSizeAt, 1, 2, 10, (some .int), []),
  (yX1_readName, cX1_readName, 1, 3, 12, none, []),
  (yX1_numberAt, cX1_numberAt, 1, 2, 11, (some .int), []),
  (yX1_flip, cX1_flip, 1, 3, 11, none, []),
  (yX3_init, cX3_init, 3, 1, 10, none, []),
  (yX3_isBad, cX3_isBad, 3, 1, 11, (some .boolean), []),
  (yX3_placeOf, cX3_placeOf, 3, 5, 12, (some .int), []),
  (yX3_records, cX3_records, 3, 1, 10, (some .int), []),
  (yX3_recordSizeAt, cX3_recordSizeAt, 3, 2, 10, (some .int), []),
  (yX3_renumber, cX3_renumber, 3, 3, 12, none, []),
  (yX3_numberPlace, cX3_numberPlace, 3, 2, 10, (some .int), []),
  (yX3_seal, cX3_seal, 3, 1, 11, none, []),
  (yX3_depth, cX3_depth, 3, 1, 10, (some .int), []),
  (yX3_bytesOfKin, cX3_bytesOfKin, 3, 8, 11, (some .int), []),
  (yX3_hashAt, cX3_hashAt, 3, 2, 10, (some .int), []),
  (yX3_copyFrom, cX3_copyFrom, 3, 2, 10, none, []),
  (yX3_empty, cX3_empty, 3, 2, 11, none, []),
  (yX3_dealTo, cX3_dealTo, 3, 9, 12, none, []),
  (yX3_countRecord, cX3_countRecord, 3, 2, 11, none, []),
  (yX3_append, cX3_append, 3, 3, 12, none, []),
  (yX3_numberAt, cX3_numberAt, 3, 2, 11, (some .int), []),
  (yX3_flip, cX3_flip, 3, 3, 11, none, []),
  (yX3_byteOf, cX3_byteOf, 3, 2, 10, (some .int), []),
  (yX5_init, cX5_init, 5, 3, 11, none, []),
  (yX5_size, cX5_size, 5, 1, 9, (some .int), []),
  (yX5_page, cX5_page, 5, 2, 9, (some (.object "FormulaPages$Page")), []),
  (yX5_acts, cX5_acts, 5, 1, 9, (some .int), []),
  (yX5_accept, cX5_accept, 5, 8, 14, (some .boolean), []),
  (yX5_pageFor, cX5_pageFor, 5, 2, 11, (some (.object "FormulaPages$Page")), []),
  (yX5_pageNumberFor, cX5_pageNumberFor, 5, 2, 10, (some .int), []),
  (yX5_entries, cX5_entries, 5, 1, 9, (some .int), []),
  (yX5_splitsFor, cX5_splitsFor, 5, 7, 12, (some .int), []),
  (yX5_split, cX5_split, 5, 6, 13, none, []),
  (yX5_doubleTable, cX5_doubleTable, 5, 1, 11, none, []),
  (yX5_redirect, cX5_redirect, 5, 5, 10, none, []),
  (yX5_holds, cX5_holds, 5, 2, 13, (some .boolean), []),
  (yX5_numberOf, cX5_numberOf, 5, 4, 13, (some .int), []),
  (yX5_copyFrom, cX5_copyFrom, 5, 3, 11, none, []),
  (yX5_pageAtEntry, cX5_pageAtEntry, 5, 2, 10, (some .int), []),
  (yX5_depth, cX5_depth, 5, 1, 9, (some .int), []),
  (yX5_used, cX5_used, 5, 1, 9, (some .int), []),
  (yX5_names, cX5_names, 5, 3, 11, (some .int), []),
  (yX6_init, cX6_init, 6, 3, 12, none, []),
  (yX6_badAt, cX6_badAt, 6, 2, 12, (some .int), []),
  (yX6_feed, cX6_feed, 6, 2, 11, (some .boolean), []),
  (yX6_put, cX6_put, 6, 3, 16, (some .int), []),
  (yX6_requireSoundAndFed, cX6_requireSoundAndFed, 6, 1, 11, none, []),
  (yX6_requireSound, cX6_requireSound, 6, 1, 10, none, []),
  (yX6_act, cX6_act, 6, 3, 15, (some .int), []),
  (yX6_has, cX6_has, 6, 2, 14, (some .boolean), []),
  (yX6_find, cX6_find, 6, 2, 14, (some .int), []),
  (yX6_save, cX6_save, 6, 1, 12, (some .int), []),
  (yX6_crash, cX6_crash, 6, 2, 16, (some .int), []),
  (yX6_replay, cX6_replay, 6, 3, 15, (some .int), []),
  (yX6_poke, cX6_poke, 6, 4, 12, none, []),
  (yX6_requirePageByte, cX6_requirePageByte, 6, 3, 10, none, []),
  (yX6_requireMask, cX6_requireMask, 6, 2, 9, none, []),
  (yX6_pokeJournal, cX6_pokeJournal, 6, 3, 12, none, []),
  (yX6_byteAt, cX6_byteAt, 6, 3, 11, (some .int), []),
  (yX6_entry, cX6_entry, 6, 2, 11, (some .int), []),
  (yX6_count, cX6_count, 6, 2, 12, (some .int), []),
  (yX7_init, cX7_init, 7, 2, 10, none, []),
  (yX7_copy, cX7_copy, 7, 4, 9, none, []),
  (yX7_thrown, cX7_thrown, 7, 1, 9, (some .int), []),
  (yX7_feed, cX7_feed, 7, 2, 10, (some .boolean), []),
  (yX7_in, cX7_in, 7, 3, 9, (some .boolean), []),
  (yX7_put, cX7_put, 7, 6, 12, (some .int), []),
  (yX7_may, cX7_may, 7, 1, 10, (some .boolean), []),
  (yX7_isAltered, cX7_isAltered, 7, 3, 9, (some .boolean), []),
  (yX7_comes, cX7_comes, 7, 4, 11, (some .boolean), []),
  (yX7_look, cX7_look, 7, 4, 9, (some .int), []),
  (yX7_hashOf, cX7_hashOf, 7, 3, 10, (some .int), []),
  (yX7_more, cX7_more, 7, 3, 9, (some .int), []),
  (yX7_length, cX7_length, 7, 4, 9, (some .int), []),
  (yX7_splits, cX7_splits, 7, 7, 9, (some .boolean), []),
  (yX7_write, cX7_write, 7, 3, 10, (some .int), []),
  (yX7_has, cX7_has, 7, 2, 11, (some .boolean), []),
  (yX7_find, cX7_find, 7, 2, 11, (some .int), []),
  (yX7_save, cX7_save, 7, 1, 10, (some .int), []),
  (yX7_crash, cX7_crash, 7, 4, 13, (some .int), []),
  (yX7_replays, cX7_replays, 7, 7, 12, (some .boolean), []),
  (yX7_poke, cX7_poke, 7, 4, 10, none, []),
  (yX7_pokeJournal, cX7_pokeJournal, 7, 3, 10, none, []),
  (yX7_badAt, cX7_badAt, 7, 4, 11, (some .int), []),
  (yX7_fill, cX7_fill, 7, 6, 10, none, []),
  (yX7_byteAt, cX7_byteAt, 7, 3, 11, (some .int), []),
  (yX7_entry, cX7_entry, 7, 2, 10, (some .int), []),
  (yX7_count, cX7_count, 7, 4, 10, (some .int), []),
  (yX7_raise, cX7_raise, 7, 2, 9, (some .int), []),
  (yJ7_fill_53178, cJ7_fill_53178, 10, 4, 9, none, []),
  (yL_cell, cL_cell, 8, 2, 9, (some .int), []),
  (yL_feed, cL_feed, 8, 4, 12, (some .int), [(0, 16, 19, 13)]),
  (yL_put, cL_put, 8, 4, 17, (some .int), [(0, 9, 12, 19)]),
  (yL_has, cL_has, 8, 3, 15, (some .int), [(0, 15, 18, 19)]),
  (yL_find, cL_find, 8, 3, 15, (some .int), [(0, 8, 11, 19)]),
  (yL_save, cL_save, 8, 3, 13, (some .int), [(0, 8, 11, 19)]),
  (yL_crash, cL_crash, 8, 4, 17, (some .int), [(0, 9, 12, 13)]),
  (yL_poke, cL_poke, 8, 5, 13, (some .int), [(0, 7, 10, 39), (0, 7, 14, 13)]),
  (yL_pokeJournal, cL_pokeJournal, 8, 4, 13, (some .int), [(0, 6, 9, 39), (0, 6, 12, 13)]),
  (yL_byteAt, cL_byteAt, 8, 5, 12, (some .int), [(0, 10, 13, 39)]),
  (yL_entry, cL_entry, 8, 4, 12, (some .int), [(0, 9, 12, 39)]),
  (yL_count, cL_count, 8, 4, 13, (some .int), [(0, 9, 12, 19)]),
  (yL_law, cL_law, 8, 7, 20, (some .boolean), [])]
def am_m (M : Nat) : am_I := am_ms.getD M (yL_cell, cL_cell, 99, 0, 0, none, [])
abbrev am_y (M : Nat) : MethodName := (am_m M).1
abbrev am_cod (M : Nat) : ByteArray := (am_m M).2.1
abbrev am_own (M : Nat) : Nat := (am_m M).2.2.1
abbrev am_nL (M : Nat) : Nat := (am_m M).2.2.2.1
abbrev am_fr (M : Nat) : Nat := (am_m M).2.2.2.2.1
abbrev am_ret (M : Nat) : Option FieldType := (am_m M).2.2.2.2.2.1
abbrev am_hh (M : Nat) : List (Nat × Nat × Nat × Nat) := (am_m M).2.2.2.2.2.2
def am_ons : List String := [RX0, RX1, RX2, RX3, RX4, RX5, RX6, RX7, RL, RJ9, RJ7]
def am_on (o : Nat) : String := am_ons.getD o ""
/-- (owner, pool place) to (class, field, is an int, is final) -/
def am_fT : List ((Nat × Nat) × (Nat × Nat × Bool × Bool)) := [((4, 15), (4, 0, false, true)), ((1, 14), (1, 0, false, true)), ((1, 20), (1, 1, true, false)), ((2, 14), (2, 0, false, true)), ((2, 20), (2, 1, true, false)), ((3, 14), (3, 0, false, true)), ((3, 20), (3, 1, true, false)), ((5, 43), (5, 0, false, true)), ((5, 12), (5, 1, false, true)), ((5, 23), (5, 2, false, true)), ((5, 27), (5, 3, true, false)), ((5, 31), (5, 4, true, false)), ((5, 34), (5, 5, true, false)), ((0, 20), (0, 0, false, true)), ((0, 9), (0, 1, true, false)), ((6, 40), (6, 0, false, true)), ((6, 44), (6, 1, false, true)), ((6, 50), (6, 2, false, true)), ((6, 10), (6, 3, false, true)), ((6, 19), (6, 4, false, true)), ((6, 23), (6, 5, false, true)), ((7, 67), (7, 0, true, false)), ((7, 59), (7, 1, true, true)), ((7, 7), (7, 2, false, true)), ((7, 13), (7, 3, false, true)), ((7, 16), (7, 4, false, true)), ((7, 19), (7, 5, false, true)), ((7, 22), (7, 6, false, true)), ((7, 25), (7, 7, false, true)), ((7, 28), (7, 8, false, true)), ((7, 32), (7, 9, false, true)), ((7, 35), (7, 10, false, true)), ((7, 38), (7, 11, false, true)), ((7, 41), (7, 12, false, true)), ((7, 44), (7, 13, false, true)), ((7, 47), (7, 14, false, true)), ((7, 101), (7, 15, true, false)), ((7, 50), (7, 16, false, true)), ((7, 75), (7, 17, true, false)), ((7, 53), (7, 18, false, true)), ((7, 56), (7, 19, false, true))]
/-- (owner, pool place) to (kind, callee, how many arguments): 0 virtual, 1 static, 2 static with a table, 3 a constructor, 4 a nest mate's, 5 Object's, 6 arraycopy, 7 and 8 Math.max and min -/
def am_cT : List ((Nat × Nat) × (Nat × Nat × Nat)) := [((8, 61), (3, 75, 1)), ((6, 1), (5, 0, 0)), ((6, 9), (4, 26, 0)), ((1, 3), (5, 0, 0)), ((1, 11), (3, 0, 1)), ((4, 3), (5, 0, 0)), ((4, 9), (7, 0, 2)), ((6, 18), (4, 11, 0)), ((2, 3), (5, 0, 0)), ((2, 11), (3, 0, 1)), ((6, 26), (8, 0, 2)), ((6, 32), (7, 0, 2)), ((6, 37), (3, 56, 1)), ((5, 3), (5, 0, 0)), ((5, 11), (4, 37, 0)), ((3, 3), (5, 0, 0)), ((3, 11), (3, 0, 1)), ((5, 20), (3, 0, 1)), ((5, 37), (7, 0, 2)), ((6, 49), (3, 21, 1)), ((0, 3), (5, 0, 0)), ((0, 17), (3, 0, 1)), ((8, 98), (0, 76, 0)), ((6, 131), (0, 57, 0)), ((6, 113), (0, 58, 1)), ((6, 134), (0, 38, 0)), ((3, 32), (0, 1, 2)), ((3, 36), (0, 2, 1)), ((4, 21), (0, 3, 1)), ((8, 55), (1, 123, 2)), ((8, 67), (2, 124, 3)), ((8, 7), (0, 77, 1)), ((6, 61), (0, 12, 1)), ((2, 32), (0, 4, 2)), ((8, 74), (2, 125, 3)), ((8, 15), (0, 78, 1)), ((6, 65), (0, 79, 0)), ((6, 83), (0, 80, 0)), ((6, 158), (0, 22, 0)), ((6, 166), (0, 13, 0)), ((6, 68), (0, 81, 1)), ((6, 173), (0, 27, 1)), ((1, 24), (0, 14, 0)), ((2, 24), (1, 15, 1)), ((6, 93), (0, 59, 0)), ((6, 176), (0, 60, 2)), ((5, 55), (0, 16, 0)), ((2, 28), (0, 1, 2)), ((5, 60), (0, 61, 1)), ((5, 82), (0, 62, 1)), ((5, 102), (0, 63, 0)), ((5, 47), (0, 3, 1)), ((5, 92), (0, 58, 1)), ((5, 64), (0, 39, 1)), ((3, 39), (0, 40, 0)), ((3, 24), (0, 3, 1)), ((3, 43), (0, 17, 2)), ((2, 36), (0, 3, 1)), ((2, 39), (0, 5, 4)), ((3, 49), (0, 41, 1)), ((3, 88), (1, 15, 1)), ((5, 71), (0, 42, 2)), ((3, 52), (0, 43, 1)), ((3, 55), (0, 6, 2)), ((4, 25), (0, 4, 2)), ((3, 58), (0, 44, 0)), ((5, 75), (0, 14, 0)), ((5, 78), (0, 64, 3)), ((5, 105), (0, 45, 0)), ((5, 107), (0, 46, 2)), ((3, 61), (0, 47, 1)), ((5, 85), (0, 65, 1)), ((5, 110), (0, 66, 0)), ((5, 127), (0, 7, 4)), ((5, 95), (0, 48, 1)), ((3, 84), (0, 8, 1)), ((4, 30), (8, 0, 2)), ((4, 33), (6, 0, 5)), ((5, 113), (0, 49, 1)), ((3, 78), (0, 9, 0)), ((4, 39), (1, 122, 2)), ((3, 81), (0, 4, 2)), ((5, 116), (0, 50, 3)), ((3, 74), (0, 7, 4)), ((3, 71), (0, 51, 1)), ((5, 120), (0, 44, 0)), ((5, 123), (0, 67, 3)), ((5, 131), (0, 4, 2)), ((5, 88), (0, 52, 2)), ((3, 64), (0, 18, 3)), ((2, 43), (0, 7, 4)), ((2, 47), (0, 6, 2)), ((3, 68), (0, 14, 0)), ((6, 180), (0, 28, 2)), ((1, 30), (0, 18, 3)), ((1, 34), (0, 29, 2)), ((1, 62), (0, 1, 2)), ((1, 38), (0, 4, 2)), ((6, 72), (0, 19, 0)), ((8, 77), (2, 126, 2)), ((8, 21), (0, 82, 0)), ((6, 75), (0, 68, 1)), ((8, 81), (2, 127, 2)), ((8, 25), (0, 83, 0)), ((6, 79), (0, 69, 1)), ((5, 68), (0, 53, 1)), ((8, 84), (2, 128, 2)), ((8, 29), (0, 84, 0)), ((6, 86), (0, 70, 1)), ((5, 99), (0, 8, 1)), ((6, 90), (0, 30, 1)), ((8, 87), (2, 129, 3)), ((8, 32), (0, 85, 1)), ((6, 97), (0, 31, 0)), ((6, 102), (0, 23, 0)), ((0, 36), (0, 9, 0)), ((6, 103), (0, 86, 0)), ((6, 184), (0, 32, 1)), ((1, 45), (0, 3, 1)), ((1, 49), (0, 33, 1)), ((1, 52), (1, 15, 1)), ((6, 187), (0, 34, 2)), ((1, 55), (0, 20, 2)), ((2, 50), (8, 0, 2)), ((2, 55), (7, 0, 2)), ((6, 191), (0, 35, 1)), ((1, 59), (0, 2, 1)), ((6, 194), (0, 33, 1)), ((8, 90), (2, 130, 4)), ((8, 35), (0, 87, 3)), ((6, 106), (0, 88, 2)), ((6, 110), (0, 89, 1)), ((6, 117), (0, 54, 2)), ((3, 28), (0, 10, 2)), ((6, 122), (0, 24, 3)), ((0, 28), (0, 25, 2)), ((0, 24), (0, 3, 1)), ((0, 32), (0, 4, 2)), ((8, 94), (2, 131, 3)), ((8, 41), (0, 90, 2)), ((6, 130), (0, 36, 2)), ((1, 42), (0, 10, 2)), ((8, 102), (2, 132, 4)), ((8, 45), (0, 91, 2)), ((6, 138), (0, 55, 1)), ((8, 106), (2, 133, 3)), ((8, 49), (0, 92, 1)), ((6, 141), (0, 63, 0)), ((6, 146), (0, 71, 1)), ((8, 109), (2, 134, 3)), ((8, 52), (0, 93, 1)), ((6, 149), (0, 72, 0)), ((6, 152), (0, 73, 0)), ((6, 155), (0, 74, 0)), ((5, 51), (0, 40, 0)), ((8, 66), (3, 94, 1)), ((7, 1), (5, 0, 0)), ((7, 63), (0, 95, 2)), ((8, 71), (0, 96, 0)), ((8, 70), (0, 97, 1)), ((7, 71), (1, 98, 3)), ((8, 76), (0, 99, 1)), ((7, 104), (0, 100, 0)), ((7, 78), (0, 101, 0)), ((7, 107), (0, 102, 1)), ((7, 86), (0, 103, 0)), ((7, 90), (0, 104, 0)), ((7, 82), (1, 105, 2)), ((7, 93), (0, 106, 1)), ((7, 97), (0, 107, 1)), ((7, 110), (0, 108, 2)), ((8, 80), (0, 109, 0)), ((8, 83), (0, 110, 0)), ((8, 86), (0, 111, 0)), ((8, 89), (0, 112, 1)), ((7, 113), (0, 113, 2)), ((8, 93), (0, 114, 3)), ((8, 97), (0, 115, 2)), ((8, 101), (0, 116, 0)), ((7, 117), (0, 117, 1)), ((8, 105), (0, 118, 2)), ((8, 108), (0, 119, 1)), ((8, 111), (0, 120, 1)), ((7, 121), (0, 121, 1))]
def am_kT : List ((Nat × Nat) × Nat) := [((8, 8), 6), ((6, 7), 1), ((1, 9), 4), ((6, 16), 2), ((2, 9), 4), ((6, 35), 5), ((5, 9), 3), ((3, 9), 4), ((5, 18), 4), ((6, 47), 0), ((0, 15), 4), ((8, 64), 7)]
def am_xT : List ((Nat × Nat) × Nat) := [((8, 13), 0), ((6, 54), 0), ((8, 19), 1), ((6, 161), 1), ((8, 39), 2), ((6, 125), 2)]
def am_iT : List ((Nat × Nat) × Nat) := [((6, 58), 0), ((6, 165), 1), ((6, 129), 2)]
def am_sT : List (Nat × Nat) := [(6, 56), (6, 163), (6, 167), (6, 100), (6, 169), (6, 171), (6, 127), (6, 144)]
def am_ens : List String := ["java/lang/IllegalArgumentException", "java/lang/IllegalStateException", "java/lang/ArrayIndexOutOfBoundsException"]
def am_en (E : Nat) : String := am_ens.getD E ""
def am_vT : List ((Nat × Nat) × Int32) := [((4, 29), -1640531535), ((7, 70), -1640531535)]
def am_df : List (List Value) := [[.null, .int 0], [.null, .int 0], [.null, .int 0], [.null, .int 0], [.null], [.null, .null, .null, .int 0, .int 0, .int 0], [.null, .null, .null, .null, .null, .null], [.int 0, .int 0, .null, .null, .null, .null, .null, .null, .null, .null, .null, .null, .null, .null, .null, .int 0, .null, .int 0, .null, .null]]
/-! the abstract machine: its states and steps. A state: what lies at each address, the next address (0: nothing more may be made), cells and slots made so far -/
abbrev am_S : Type := (Nat → Option va_E) × Nat × Nat × Nat
abbrev am_C : Type := Nat × Nat × List Value × List Value × am_S
abbrev am_R : Type := (Option Value ⊕ Nat) × am_S
abbrev am_N : Type := am_C ⊕ am_R ⊕ (am_C × (am_R → Option (am_C ⊕ am_R)))
def am_up (f : Nat → Option va_E) (a : Nat) (c : va_E) : Nat → Option va_E := fun b => if b = a then some c else f b
abbrev am_jk : Value := .retAddr 0
abbrev am_ix (j : Int32) (n : Nat) : Prop := 0 ≤ j.toInt ∧ j.toInt < (n : Int)
def am_go (pc : Nat) (off : Int) (ls st : List Value) : Option (Nat × List Value × List Value) := if 0 ≤ (pc : Int) + off then some (((pc : Int) + off).toNat, ls, st) else none
def am_br (b : Prop) [Decidable b] (pc : Nat) (off : Int) (ls st : List Value) : Option (Nat × List Value × List Value) := if 0 ≤ (pc : Int) + off then some (if b then ((pc : Int) + off).toNat else pc + 3, ls, st) else none
def am_ld (i : Nat) (isI : Bool) (pc : Nat) (ls st : List Value) : Option (Nat × List Value × List Value) := match isI, ls[i]? with
  | true, some (.int x) => some (pc, ls, .int x :: st)
  | false, some (.ref a) => some (pc, ls, .ref a :: st)
  | _, _ => none
def am_sto (i : Nat) (isI : Bool) (pc : Nat) (ls st : List Value) : Option (Nat × List Value × List Value) := if i < ls.length then (match isI, st with
  | true, .int x :: r => some (pc, ls.set i (.int x), r)
  | false, .ref a :: r => some (pc, ls.set i (.ref a), r)
  | _, _ => none) else none
def am_bin (f : Int32 → Int32 → Int32) (pc : Nat) (ls st : List Value) : Option (Nat × List Value × List Value) := match st with
  | .int y :: .int x :: r => some (pc + 1, ls, .int (f x y) :: r)
  | _ => none
/-- steps that touch no heap -/
def am_i1 (o : Nat) (i : Instr) (len pc : Nat) (ls st : List Value) : Option (Nat × List Value × List Value) := match i with
  | .iconst n => if len = 1 then some (pc + 1, ls, .int (Int32.ofInt n) :: st) else none
  | .bipush n => if len = 2 then some (pc + 2, ls, .int (Int8.ofInt n).toInt32 :: st) else none
  | .sipush n => if len = 3 then some (pc + 3, ls, .int (Int16.ofInt n).toInt32 :: st) else none
  | .lconst n => if len = 1 then some (pc + 1, ls, .long (Int64.ofNat n.val) :: st) else none
  | .ldc k => if len = 2 then (match am_vT.lookup (o, k) with
    | some v => some (pc + 2, ls, .int v :: st)
    | none => none) else none
  | .iload k => if len = 2 then am_ld k true (pc + 2) ls st else none
  | .iload_n k => if len = 1 then am_ld k.val true (pc + 1) ls st else none
  | .aload k => if len = 2 then am_ld k false (pc + 2) ls st else none
  | .aload_n k => if len = 1 then am_ld k.val false (pc + 1) ls st else none
  | .istore k => if len = 2 then am_sto k true (pc + 2) ls st else none
  | .istore_n k => if len = 1 then am_sto k.val true (pc + 1) ls st else none
  | .astore k => if len = 2 then am_sto k false (pc + 2) ls st else none
  | .astore_n k => if len = 1 then am_sto k.val false (pc + 1) ls st else none
  | .iinc k n => if len = 3 then (match ls[k]? with
    | some (.int x) => some (pc + 3, ls.set k (.int (x + Int32.ofInt n)), st)
    | _ => none) else none
  | .iadd => if len = 1 then am_bin (fun x y => x + y) pc ls st else none
  | .isub => if len = 1 then am_bin (fun x y => x - y) pc ls st else none
  | .imul => if len = 1 then am_bin (fun x y => x * y) pc ls st else none
  | .iand => if len = 1 then am_bin (fun x y => x &&& y) pc ls st else none
  | .ior => if len = 1 then am_bin (fun x y => x ||| y) pc ls st else none
  | .ixor => if len = 1 then am_bin (fun x y => x ^^^ y) pc ls st else none
  | .ishl => if len = 1 then am_bin (fun x y => x <<< (y &&& 31)) pc ls st else none
  | .ishr => if len = 1 then am_bin (fun x y => x >>> (y &&& 31)) pc ls st else none
  | .iushr => if len = 1 then am_bin (fun x y => (x.toUInt32 >>> (y.toUInt32 &&& Int32.toUInt32 31)).toInt32) pc ls st else none
  | .i2l => if len = 1 then (match st with
    | .int x :: r => some (pc + 1, ls, .long x.toInt64 :: r)
    | _ => none) else none
  | .lcmp => if len = 1 then (match st with
    | .long y :: .long x :: r => some (pc + 1, ls, .int (lg_cmp x y) :: r)
    | _ => none) else none
  | .dup => if len = 1 then (match st with
    | .int x :: r => some (pc + 1, ls, .int x :: .int x :: r)
    | .ref x :: r => some (pc + 1, ls, .ref x :: .ref x :: r)
    | _ => none) else none
  | .dup2 => if len = 1 then (match st with
    | .int x :: .ref a :: r => some (pc + 1, ls, .int x :: .ref a :: .int x :: .ref a :: r)
    | _ => none) else none
  | .pop => if len = 1 then (match st with
    | .int _ :: r => some (pc + 1, ls, r)
    | _ => none) else none
  | .goto off => if len = 3 then am_go pc off ls st else none
  | .ifCond cd off => if len = 3 then (match cd, st with
    | .eq, .int x :: r => am_br (x = 0) pc off ls r
    | .ne, .int x :: r => am_br (¬ x = 0) pc off ls r
    | .lt, .int x :: r => am_br (x < 0) pc off ls r
    | .ge, .int x :: r => am_br (0 ≤ x) pc off ls r
    | .gt, .int x :: r => am_br (0 < x) pc off ls r
    | .le, .int x :: r => am_br (x ≤ 0) pc off ls r
    | _, _ => none) else none
  | .if_icmp cd off => if len = 3 then (match cd, st with
    | .eq, .int y :: .int x :: r => am_br (x = y) pc off ls r
    | .ne, .int y :: .int x :: r => am_br (¬ x = y) pc off ls r
    | .lt, .int y :: .int x :: r => am_br (x < y) pc off ls r
    | .ge, .int y :: .int x :: r => am_br (y ≤ x) pc off ls r
    | .gt, .int y :: .int x :: r => am_br (y < x) pc off ls r
    | .le, .int y :: .int x :: r => am_br (x ≤ y) pc off ls r
    | _, _ => none) else none
  | .tableswitch df lo hi offs => (match st with
    | .int x :: r => if x.toInt < lo ∨ hi < x.toInt then am_go pc df ls r else (match offs[(x.toInt - lo).toNat]? with
      | some off => am_go pc off ls r
      | none => none)
    | _ => none)
  | _ => none
def am_fit (isI : Bool) (v : Value) : Bool := match isI, v with
  | true, .int _ => true
  | false, .ref _ => true
  | _, _ => false
/-- steps that read or write the heap -/
def am_i2 (M : Nat) (i : Instr) (len pc : Nat) (st : List Value) (σ : am_S) : Option (Nat × List Value × am_S) := match i with
  | .getfield k => if len = 3 then (match am_fT.lookup (am_own M, k), st with
    | some (ci, j, _, _), .ref a :: r => (match σ.1 a with
      | some (.inr (cj, fs)) => if cj = ci then (match fs[j]? with
        | some v => some (pc + 3, v :: r, σ)
        | none => none) else none
      | _ => none)
    | _, _ => none) else none
  | .putfield k => if len = 3 then (match am_fT.lookup (am_own M, k), st with
    | some (ci, j, isI, fin), v :: .ref a :: r => (match σ.1 a with
      | some (.inr (cj, fs)) => if cj = ci ∧ j < fs.length ∧ (fin = true → (am_y M).name = "<init>" ∧ am_own M = ci) ∧ am_fit isI v = true then some (pc + 3, r, (am_up σ.1 a (.inr (cj, fs.set j v)), σ.2)) else none
      | _ => none)
    | _, _ => none) else none
  | .iaload => if len = 1 then (match st with
    | .int j :: .ref a :: r => (match σ.1 a with
      | some (.inl (t, n, .inl f)) => if (t = 0 ∨ t = 4) ∧ am_ix j n then some (pc + 1, .int (f j.toNatClampNeg) :: r, σ) else none
      | _ => none)
    | _ => none) else none
  | .baload => if len = 1 then (match st with
    | .int j :: .ref a :: r => (match σ.1 a with
      | some (.inl (t, n, .inl f)) => if t = 1 ∧ am_ix j n then some (pc + 1, .int (f j.toNatClampNeg) :: r, σ) else none
      | _ => none)
    | _ => none) else none
  | .laload => if len = 1 then (match st with
    | .int j :: .ref a :: r => (match σ.1 a with
      | some (.inl (t, n, .inr (.inl f))) => if t = 2 ∧ am_ix j n then some (pc + 1, .long (f j.toNatClampNeg) :: r, σ) else none
      | _ => none)
    | _ => none) else none
  | .aaload => if len = 1 then (match st with
    | .int j :: .ref a :: r => (match σ.1 a with
      | some (.inl (t, n, .inr (.inr (.inr (.inr f))))) => if t = 3 ∧ am_ix j n then some (pc + 1, va_rf (f j.toNatClampNeg) :: r, σ) else none
      | _ => none)
    | _ => none) else none
  | .iastore => if len = 1 then (match st with
    | .int x :: .int j :: .ref a :: r => (match σ.1 a with
      | some (.inl (t, n, .inl f)) => if t = 0 ∧ am_ix j n then some (pc + 1, r, (am_up σ.1 a (.inl (0, n, .inl (upd f j.toNatClampNeg x))), σ.2)) else none
      | _ => none)
    | _ => none) else none
  | .bastore => if len = 1 then (match st with
    | .int x :: .int j :: .ref a :: r => (match σ.1 a with
      | some (.inl (t, n, .inl f)) => if t = 1 ∧ am_ix j n then some (pc + 1, r, (am_up σ.1 a (.inl (1, n, .inl (upd f j.toNatClampNeg (vp_nar .boolean x)))), σ.2)) else none
      | _ => none)
    | _ => none) else none
  | .lastore => if len = 1 then (match st with
    | .long x :: .int j :: .ref a :: r => (match σ.1 a with
      | some (.inl (t, n, .inr (.inl f))) => if t = 2 ∧ am_ix j n then some (pc + 1, r, (am_up σ.1 a (.inl (2, n, .inr (.inl (vp_updL f j.toNatClampNeg x)))), σ.2)) else none
      | _ => none)
    | _ => none) else none
  | .aastore => if len = 1 then (match st with
    | .ref x :: .int j :: .ref a :: r => (match σ.1 a, σ.1 x with
      | some (.inl (t, n, .inr (.inr (.inr (.inr f))))), some (.inr (cj, _)) => if t = 3 ∧ cj = 3 ∧ am_ix j n then some (pc + 1, r, (am_up σ.1 a (.inl (3, n, .inr (.inr (.inr (.inr (va_up f j.toNatClampNeg (some x))))))), σ.2)) else none
      | _, _ => none)
    | _ => none) else none
  | .arraylength => if len = 1 then (match st with
    | .ref a :: r => (match σ.1 a with
      | some (.inl (t, x)) => if t < 5 then some (pc + 1, .int (Int32.ofNat x.1) :: r, σ) else none
      | _ => none)
    | _ => none) else none
  | .new k => if len = 3 then (match am_kT.lookup (am_own M, k) with
    | some ci => if σ.2.1 = 0 then none else (match am_df[ci]? with
      | some fs => some (pc + 3, .ref σ.2.1 :: st, (am_up σ.1 σ.2.1 (.inr (ci, fs)), σ.2.1 + 1, σ.2.2.1 + 1, σ.2.2.2 + fs.length))
      | none => none)
    | none => none) else none
  | .newarray ty => if len = 2 then (match ty, st with
    | .int, .int n :: r => if σ.2.1 = 0 ∨ n < 0 ∨ 100000 < n.toNatClampNeg then none else some (pc + 2, .ref σ.2.1 :: r, (am_up σ.1 σ.2.1 (.inl (0, n.toNatClampNeg, .inl (fun _ => 0))), σ.2.1 + 1, σ.2.2.1 + 1, σ.2.2.2 + n.toNatClampNeg))
    | .boolean, .int n :: r => if σ.2.1 = 0 ∨ n < 0 ∨ 100000 < n.toNatClampNeg then none else some (pc + 2, .ref σ.2.1 :: r, (am_up σ.1 σ.2.1 (.inl (1, n.toNatClampNeg, .inl (fun _ => 0))), σ.2.1 + 1, σ.2.2.1 + 1, σ.2.2.2 + n.toNatClampNeg))
    | .long, .int n :: r => if σ.2.1 = 0 ∨ n < 0 ∨ 100000 < n.toNatClampNeg then none else some (pc + 2, .ref σ.2.1 :: r, (am_up σ.1 σ.2.1 (.inl (2, n.toNatClampNeg, .inr (.inl (fun _ => 0)))), σ.2.1 + 1, σ.2.2.1 + 1, σ.2.2.2 + n.toNatClampNeg))
    | _, _ => none) else none
  | .anewarray k => if len = 3 then (match am_kT.lookup (am_own M, k), st with
    | some 3, .int n :: r => if σ.2.1 = 0 ∨ n < 0 ∨ 100000 < n.toNatClampNeg then none else some (pc + 3, .ref σ.2.1 :: r, (am_up σ.1 σ.2.1 (.inl (3, n.toNatClampNeg, .inr (.inr (.inr (.inr (fun _ => none)))))), σ.2.1 + 1, σ.2.2.1 + 1, σ.2.2.2 + n.toNatClampNeg))
    | _, _ => none) else none
  | .invokespecial k => if len = 3 then (match am_cT.lookup (am_own M, k), st with
    | some (5, _, _), .ref _ :: r => if r.length ≤ 4 then some (pc + 3, r, σ) else none
    | _, _ => none) else none
  | .invokestatic k => if len = 3 then (match am_cT.lookup (am_own M, k), st with
    | some (6, _, _), .int n :: .int dp :: .ref a :: .int sp :: .ref a0 :: r => (match σ.1 a0, σ.1 a with
      | some (.inl (t0, n0, .inl f)), some (.inl (t1, n1, .inl g)) => if t0 = 0 ∧ t1 = 0 ∧ r.length ≤ 4 ∧ ¬ sp < 0 ∧ ¬ dp < 0 ∧ ¬ n < 0 ∧ sp.toNatClampNeg + n.toNatClampNeg ≤ n0 ∧ dp.toNatClampNeg + n.toNatClampNeg ≤ n1 then
          some (pc + 3, r, (am_up σ.1 a (.inl (0, n1, .inl (va_cpy f g sp.toNatClampNeg dp.toNatClampNeg n.toNatClampNeg))), σ.2)) else none
      | _, _ => none)
    | some (7, _, _), .int y :: .int x :: r => if r.length ≤ 4 then some (pc + 3, .int (if x < y then y else x) :: r, σ) else none
    | some (8, _, _), .int y :: .int x :: r => if r.length ≤ 4 then some (pc + 3, .int (if y < x then y else x) :: r, σ) else none
    | _, _ => none) else none
  | _ => none
/-- what is thrown comes to this method at this place: it leaves it, or is caught, and lies in a variable then -/
def am_ct (M pc : Nat) (ls : List Value) (E : Nat) (σ : am_S) : List (Nat × Nat × Nat × Nat) → Option (am_C ⊕ am_R)
  | [] => some (.inr (.inr E, σ))
  | (a, b, h, t) :: r => if a ≤ pc ∧ pc < b then (match am_xT.lookup (am_own M, t) with
    | some E' => if E' = E then (match decode (am_cod M) h with
      | .ok (.astore_n k, 1) => if k.val < ls.length then some (.inl (M, h + 1, ls.set k.val am_jk, [], σ)) else none
      | .ok (.astore k, 2) => if k < ls.length then some (.inl (M, h + 2, ls.set k am_jk, [], σ)) else none
      | _ => none) else am_ct M pc ls E σ r
    | none => none) else am_ct M pc ls E σ r
def am_k (ini : Bool) (M pc : Nat) (ls rest : List Value) : am_R → Option (am_C ⊕ am_R) := fun r => match r with
  | (.inl v, σ) => some (.inl (M, pc + 3, ls, v.toList ++ rest, σ))
  | (.inr E, σ) => if ini then none else am_ct M pc ls E σ (am_hh M)
def am_call (ini : Bool) (M pc : Nat) (ls rest : List Value) (M' : Nat) (As : List Value) (σ : am_S) : Option am_N :=
  if am_fr M' < am_fr M ∧ rest.length ≤ 4 ∧ As.length ≤ am_nL M' ∧ (∀ v ∈ As, v.category = 1) then some (.inr (.inr ((M', 0, As ++ List.replicate (am_nL M' - As.length) am_jk, [], σ), am_k ini M pc ls rest))) else none
/-- returns, throws, calls -/
def am_i3 (M : Nat) (i : Instr) (len pc : Nat) (ls st : List Value) (σ : am_S) : Option am_N := match i with
  | .return_ => if len = 1 ∧ st = [] ∧ am_ret M = none then some (.inr (.inl (.inl none, σ))) else none
  | .ireturn => if len = 1 then (match st, am_ret M with
    | [.int x], some .int => some (.inr (.inl (.inl (some (.int x)), σ)))
    | [.int x], some .boolean => if x = 0 ∨ x = 1 then some (.inr (.inl (.inl (some (.int x)), σ))) else none
    | _, _ => none) else none
  | .areturn => if len = 1 then (match st, am_ret M with
    | [.ref x], some (.object _) => some (.inr (.inl (.inl (some (.ref x)), σ)))
    | _, _ => none) else none
  | .new k => if len = 3 ∧ am_hh M = [] ∧ st = [] ∧ decode (am_cod M) (pc + 3) = .ok (.dup, 1) ∧ decode (am_cod M) (pc + 9) = .ok (.athrow, 1) then (match am_xT.lookup (am_own M, k), decode (am_cod M) (pc + 4), decode (am_cod M) (pc + 6) with
    | some E, .ok (.ldc is, 2), .ok (.invokespecial ic, 3) => if (am_own M, is) ∈ am_sT ∧ am_iT.lookup (am_own M, ic) = some E then some (.inr (.inl (.inr E, (σ.1, 0, σ.2.2.1 + 1, σ.2.2.2 + 6)))) else none
    | _, _, _ => none) else none
  | .invokevirtual k => if len = 3 then (match am_cT.lookup (am_own M, k) with
    | some (0, M', n) => (match st.drop n with
      | .ref b :: rest => (match σ.1 b with
        | some (.inr (cj, _)) => if cj = am_own M' ∧ (st.take n).length = n then am_call false M pc ls rest M' (.ref b :: (st.take n).reverse) σ else none
        | _ => none)
      | _ => none)
    | _ => none) else none
  | .invokestatic k => if len = 3 then (match am_cT.lookup (am_own M, k) with
    | some (1, M', n) => if (st.take n).length = n then am_call false M pc ls (st.drop n) M' (st.take n).reverse σ else none
    | some (2, M', n) => if (st.take n).length = n then am_call false M pc ls (st.drop n) M' (st.take n).reverse σ else none
    | _ => none) else none
  | .invokespecial k => if len = 3 then (match am_cT.lookup (am_own M, k) with
    | some (3, M', n) => (match st.drop n with
      | .ref b :: rest => if (st.take n).length = n then am_call true M pc ls rest M' (.ref b :: (st.take n).reverse) σ else none
      | _ => none)
    | some (4, M', n) => (match st.drop n with
      | .ref b :: rest => if (st.take n).length = n then am_call true M pc ls rest M' (.ref b :: (st.take n).reverse) σ else none
      | _ => none)
    | _ => none) else none
  | _ => none
def am_step (c : am_C) : Option am_N := match c with
  | (M, pc, ls, st, σ) => match decode (am_cod M) pc with
    | .ok (i, len) => (match am_i1 (am_own M) i len pc ls st with
      | some (pc', ls', st') => some (.inl (M, pc', ls', st', σ))
      | none => (match am_i2 M i len pc st σ with
        | some (pc', st', σ') => some (.inl (M, pc', ls, st', σ'))
        | none => am_i3 M i len pc ls st σ))
    | _ => none
def am_ex : Nat → am_C → Option am_R
  | 0, _ => none
  | n + 1, c => match am_step c with
    | none => none
    | some (.inl c') => am_ex n c'
    | some (.inr (.inl r)) => some r
    | some (.inr (.inr (c', k))) => match am_ex n c' with
      | none => none
      | some r => match k r with
        | none => none
        | some (.inl c2) => am_ex n c2
        | some (.inr r2) => some r2
theorem am_mono : ∀ (n : Nat) (c : am_C) (r : am_R), am_ex n c = some r → am_ex (n + 1) c = some r := by
  intro n
  induction n with
  | zero => intro c r h; simp [am_ex] at h
  | succ n ih =>
    intro c r h
    rw [am_ex] at h
    rw [am_ex]
    cases hs : am_step c with
    | none => simp [hs] at h
    | some x =>
      rw [hs] at h
      match x, h with
      | .inl c', h => exact ih _ _ h
      | .inr (.inl r'), h => exact h
      | .inr (.inr (c', k)), h =>
        dsimp only at h ⊢
        cases h1 : am_ex n c' with
        | none => simp [h1] at h
        | some r1 =>
          rw [h1] at h
          rw [ih _ _ h1]
          dsimp only at h ⊢
          cases h2 : k r1 with
          | none => simp [h2] at h
          | some y =>
            rw [h2] at h
            match y, h with
            | .inl c2, h => exact ih _ _ h
            | .inr r2, h => exact h
theorem am_mono_le {n m : Nat} (hnm : n ≤ m) {c : am_C} {r : am_R} (h : am_ex n c = some r) : am_ex m c = some r := by
  induction hnm with
  | refl => exact h
  | step _ ih => exact am_mono _ _ _ ih
theorem am_det {n m : Nat} {c : am_C} {r r' : am_R} (h : am_ex n c = some r) (h' : am_ex m c = some r') : r = r' := by
  have h1 := am_mono_le (Nat.le_max_left n m) h
  have h2 := am_mono_le (Nat.le_max_right n m) h'
  rw [h1] at h2
  exact Option.some.inj h2
noncomputable def am_run (c : am_C) : Option am_R := @dite _ (∃ (n : Nat) (r : am_R), am_ex n c = some r) (Classical.propDecidable _) (fun h => some (Classical.choose (Classical.choose_spec h))) (fun _ => none)
theorem am_run_of {n : Nat} {c : am_C} {r : am_R} (h : am_ex n c = some r) : am_run c = some r := by
  have hx : ∃ (n : Nat) (r : am_R), am_ex n c = some r := ⟨n, r, h⟩
  unfold am_run
  rw [dif_pos hx]
  exact congrArg some (am_det (Classical.choose_spec (Classical.choose_spec hx)) h)
theorem am_run_ex {c : am_C} {r : am_R} (h : am_run c = some r) : ∃ n, am_ex n c = some r := by
  unfold am_run at h
  by_cases hx : ∃ (n : Nat) (r : am_R), am_ex n c = some r
  · rw [dif_pos hx] at h
    have h1 := Classical.choose_spec (Classical.choose_spec hx)
    rw [Option.some.inj h] at h1
    exact ⟨_, h1⟩
  · rw [dif_neg hx] at h
    cases h
theorem am_run_eq {c d : am_C} (h1 : ∀ n r, am_ex n c = some r → ∃ m, am_ex m d = some r) (h2 : ∀ n r, am_ex n d = some r → ∃ m, am_ex m c = some r) : am_run c = am_run d := by
  cases hc : am_run c with
  | some r =>
    obtain ⟨n, hn⟩ := am_run_ex hc
    obtain ⟨m, hm⟩ := h1 n r hn
    exact (am_run_of hm).symm
  | none =>
    cases hd : am_run d with
    | none => rfl
    | some r =>
      obtain ⟨n, hn⟩ := am_run_ex hd
      obtain ⟨m, hm⟩ := h2 n r hn
      rw [am_run_of hm] at hc
      cases hc
theorem am_next {c c' : am_C} (h : am_step c = some (.inl c')) : am_run c = am_run c' := by
  refine am_run_eq (fun n r hn => ?_) (fun n r hn => ⟨n + 1, by rw [am_ex, h]; exact hn⟩)
  cases n with
  | zero => simp [am_ex] at hn
  | succ n => rw [am_ex, h] at hn; exact ⟨n, hn⟩
theorem am_done {c : am_C} {r : am_R} (h : am_step c = some (.inr (.inl r))) : am_run c = some r := am_run_of (n := 1) (by rw [am_ex, h])
def am_fin (x : am_C ⊕ am_R) (f : am_C → Option am_R) : Option am_R := match x with
  | .inl c => f c
  | .inr r => some r
theorem am_calls {c c' : am_C} {k : am_R → Option (am_C ⊕ am_R)} {r : am_R} {x : am_C ⊕ am_R} (h : am_step c = some (.inr (.inr (c', k)))) (hr : am_run c' = some r) (hk : k r = some x) : am_run c = am_fin x am_run := by
  obtain ⟨n, hn⟩ := am_run_ex hr
  match x, hk with
  | .inr r2, hk => exact am_run_of (n := n + 1) (by rw [am_ex, h]; dsimp only; rw [hn]; dsimp only; rw [hk])
  | .inl c2, hk =>
    refine am_run_eq (fun m q hm => ?_) (fun m q hm => ?_)
    · cases m with
      | zero => simp [am_ex] at hm
      | succ m =>
        rw [am_ex, h] at hm
        dsimp only at hm
        cases h1 : am_ex m c' with
        | none => simp [h1] at hm
        | some r1 =>
          cases am_det h1 hn
          rw [h1] at hm
          dsimp only at hm
          rw [hk] at hm
          exact ⟨m, hm⟩
    · refine ⟨max n m + 1, ?_⟩
      rw [am_ex, h]
      dsimp only
      rw [am_mono_le (Nat.le_max_left n m) hn]
      dsimp only
      rw [hk]
      exact am_mono_le (Nat.le_max_right n m) hm
/-- the machine from a place of a method -/
noncomputable def rn (M pc : Nat) (ls st : List Value) (σ : am_S) : Option am_R := am_run (M, pc, ls, st, σ)
/-- a method called -/
noncomputable def cl (M : Nat) (As : List Value) (σ : am_S) : Option am_R := rn M 0 (As ++ List.replicate (am_nL M - As.length) am_jk) [] σ
end
section
/-! soundness, first part: steps that touch no heap -/
/-- the machine's variables and the frame's -/
def am_L (ls : List Value) (Ls : Array Slot) (nL : Nat) : Prop := ls.length ≤ nL ∧ Ls.size = nL ∧ lv_wf Ls ∧ ∀ (i : Nat) (v : Value), ls[i]? = some v → v ≠ am_jk → Ls[i]? = some (.val v) ∧ v.category = 1
def am_pr (ls : List Value) : List (Nat × Value) := (List.range ls.length).filterMap (fun i => match ls[i]? with
  | some v => if v = am_jk then none else some (i, v)
  | none => none)
theorem am_pr_mem {ls : List Value} {q : Nat × Value} : q ∈ am_pr ls ↔ ls[q.1]? = some q.2 ∧ q.2 ≠ am_jk := by
  unfold am_pr
  rw [List.mem_filterMap]
  constructor
  · rintro ⟨i, hi, h⟩
    cases hv : ls[i]? with
    | none => rw [hv] at h; cases h
    | some v =>
      rw [hv] at h
      dsimp only at h
      by_cases hj : v = am_jk
      · rw [if_pos hj] at h; cases h
      · rw [if_neg hj] at h
        cases h
        exact ⟨hv, hj⟩
  · rintro ⟨h1, h2⟩
    refine ⟨q.1, List.mem_range.mpr (List.getElem?_eq_some_iff.mp h1).1, ?_⟩
    rw [h1]
    dsimp only
    rw [if_neg h2]
theorem am_L.has {ls : List Value} {Ls : Array Slot} {nL : Nat} (h : am_L ls Ls nL) : lv_has Ls nL (am_pr ls) := ⟨h.2.1, h.2.2.1, fun q hq => (h.2.2.2 q.1 q.2 (am_pr_mem.mp hq).1 (am_pr_mem.mp hq).2).1⟩
theorem am_L.set {ls : List Value} {Ls Ls' : Array Slot} {nL i : Nat} {x : Value} (h : am_L ls Ls nL) (hx : x.category = 1) (h' : lv_has Ls' nL ((i, x) :: (am_pr ls).filter (fun q => !(q.1 == i) && !(q.1 + 1 == i && q.2.category == 2)))) : am_L (ls.set i x) Ls' nL := by
  obtain ⟨h1, h2, h3, h4⟩ := h
  obtain ⟨g1, g2, g3⟩ := h'
  refine ⟨by rw [List.length_set]; exact h1, g1, g2, fun j v hv hj => ?_⟩
  by_cases hij : i = j
  · subst hij
    rw [List.getElem?_set] at hv
    split at hv
    · split at hv
      · cases hv
        exact ⟨g3 (i, x) List.mem_cons_self, hx⟩
      · cases hv
    · exact absurd rfl (by assumption)
  · rw [List.getElem?_set_ne hij] at hv
    have hc := (h4 j v hv hj).2
    refine ⟨g3 (j, v) (List.mem_cons_of_mem _ (List.mem_filter.mpr ⟨am_pr_mem.mpr ⟨hv, hj⟩, ?_⟩)), hc⟩
    simp [hc, Ne.symm hij]
theorem am_L.at {ls : List Value} {Ls : Array Slot} {nL i : Nat} {v : Value} (h : am_L ls Ls nL) (hv : ls[i]? = some v) (hj : v ≠ am_jk) : Ls[i]? = some (.val v) := (h.2.2.2 i v hv hj).1
theorem am_brS {b : Prop} [Decidable b] {pc pc' : Nat} {off : Int} {ls ls' st st' : List Value} (h : am_br b pc off ls st = some (pc', ls', st')) : ls' = ls ∧ st' = st ∧ ∃ tgt : Nat, (pc : Int) + off = (tgt : Int) ∧ (b → pc' = tgt) ∧ (¬ b → pc' = pc + 3) := by
  unfold am_br at h
  by_cases h0 : 0 ≤ (pc : Int) + off
  · rw [if_pos h0] at h
    cases h
    exact ⟨rfl, rfl, ((pc : Int) + off).toNat, by omega, fun hb => if_pos hb, fun hb => if_neg hb⟩
  · rw [if_neg h0] at h; cases h
theorem am_goS {pc pc' : Nat} {off : Int} {ls ls' st st' : List Value} (h : am_go pc off ls st = some (pc', ls', st')) : ls' = ls ∧ st' = st ∧ (pc : Int) + off = (pc' : Int) := by
  unfold am_go at h
  by_cases h0 : 0 ≤ (pc : Int) + off
  · rw [if_pos h0] at h
    cases h
    exact ⟨rfl, rfl, by omega⟩
  · rw [if_neg h0] at h; cases h
theorem am_ifS {α : Type} {b : Prop} [Decidable b] {x : Option α} {y : α} (h : (if b then x else none) = some y) : b ∧ x = some y := by
  by_cases hb : b
  · rw [if_pos hb] at h; exact ⟨hb, h⟩
  · rw [if_neg hb] at h; cases h
/-- what is known in a method's body -/
def am_X (M : Nat) (p : Program) (l : Launch) (R : Room) (s : State) (m : MethodId) (args : Array Value) (meth : Method) (c : Code) : Prop :=
  p.tables.exec = Jvm.exec ∧ c.code = am_cod M ∧ meth.sig.returnType = am_ret M ∧ c.maxLocals = am_nL M ∧ s.vm.findClass (am_on (am_own M)) = some m.cls ∧ (∀ w ∈ lw_tbl.filter goodWord, w.before args s = true) ∧ meth.locks = false ∧
  c.exceptionTable.toList = tableOf (am_hh M) ∧ ((am_y M).name = "<init>" → meth.name = "<init>") ∧ am_fr M ≤ R.frames ∧ 500 * am_fr M ≤ R.locals ∧ l.stackTraces = false
theorem am_vT_ok : ∀ q ∈ am_vT, Cond.constant (am_on q.1.1) q.1.2 q.2 ∈ lw_tbl.filter goodWord := by decide +kernel
theorem am_lk {α β : Type} [BEq α] [LawfulBEq α] {l : List (α × β)} {a : α} {b : β} (h : l.lookup a = some b) : (a, b) ∈ l := by
  induction l with
  | nil => cases h
  | cons q r ih =>
    obtain ⟨x, y⟩ := q
    rw [List.lookup_cons] at h
    by_cases hx : a == x
    · rw [hx] at h
      cases h
      rw [eq_of_beq hx]
      exact List.mem_cons_self
    · rw [Bool.not_eq_true] at hx
      rw [hx] at h
      exact List.mem_cons_of_mem _ (ih h)
section
variable {p : Program} {l : Launch} {e : Env} {R : Room} {s : State} {m : MethodId} {args : Array Value} {below : List Frame} {meth : Method} {c : Code} {H : Heap} {locs : List Loc} {cells slots : Nat} {Q : State → Prop}
theorem am_ldS {M i nL pc pc2 pc' : Nat} {isI : Bool} {ls ls' st st' : List Value} {Ls : Array Slot} (hL : am_L ls Ls nL) (h : am_ld i isI pc2 ls st = some (pc', ls', st')) (kk : ∀ Ls', am_L ls' Ls' nL → W p l e R s m args below meth c H locs cells slots Q (F0 m pc' Ls' st'))
    (ri : ∀ x : Int32, isI = true → Ls[i]? = some (.val (.int x)) → W p l e R s m args below meth c H locs cells slots Q (F0 m pc2 Ls (.int x :: st)) → W p l e R s m args below meth c H locs cells slots Q (F0 m pc Ls st))
    (ra : ∀ x : Nat, isI = false → Ls[i]? = some (.val (.ref x)) → W p l e R s m args below meth c H locs cells slots Q (F0 m pc2 Ls (.ref x :: st)) → W p l e R s m args below meth c H locs cells slots Q (F0 m pc Ls st)) : W p l e R s m args below meth c H locs cells slots Q (F0 m pc Ls st) := by
  unfold am_ld at h
  split at h
  · rename_i x hx
    cases h
    exact ri x rfl (hL.at hx (by intro h; cases h)) (kk _ hL)
  · rename_i x hx
    cases h
    exact ra x rfl (hL.at hx (by intro h; cases h)) (kk _ hL)
  · cases h
theorem am_stoS {M i nL pc pc2 pc' : Nat} {isI : Bool} {ls ls' st st' : List Value} {Ls : Array Slot} (hL : am_L ls Ls nL) (h : am_sto i isI pc2 ls st = some (pc', ls', st')) (kk : ∀ Ls', am_L ls' Ls' nL → W p l e R s m args below meth c H locs cells slots Q (F0 m pc' Ls' st'))
    (ri : ∀ (x : Int32) (r : List Value), isI = true → i < nL → (∀ Ls' : Array Slot, lv_has Ls' nL ((i, .int x) :: (am_pr ls).filter (fun q => !(q.1 == i) && !(q.1 + 1 == i && q.2.category == 2))) → W p l e R s m args below meth c H locs cells slots Q (F0 m pc2 Ls' r)) → W p l e R s m args below meth c H locs cells slots Q (F0 m pc Ls (.int x :: r)))
    (ra : ∀ (x : Nat) (r : List Value), isI = false → i < nL → (∀ Ls' : Array Slot, lv_has Ls' nL ((i, .ref x) :: (am_pr ls).filter (fun q => !(q.1 == i) && !(q.1 + 1 == i && q.2.category == 2))) → W p l e R s m args below meth c H locs cells slots Q (F0 m pc2 Ls' r)) → W p l e R s m args below meth c H locs cells slots Q (F0 m pc Ls (.ref x :: r))) : W p l e R s m args below meth c H locs cells slots Q (F0 m pc Ls st) := by
  unfold am_sto at h
  obtain ⟨hi, h⟩ := am_ifS h
  split at h
  · cases h
    exact ri _ _ rfl (Nat.lt_of_lt_of_le hi hL.1) (fun Ls' h' => kk _ (hL.set rfl h'))
  · cases h
    exact ra _ _ rfl (Nat.lt_of_lt_of_le hi hL.1) (fun Ls' h' => kk _ (hL.set rfl h'))
  · cases h
theorem am_binS {f : Int32 → Int32 → Int32} {nL pc pc' : Nat} {ls ls' st st' : List Value} {Ls : Array Slot} (hL : am_L ls Ls nL) (h : am_bin f pc ls st = some (pc', ls', st')) (kk : ∀ Ls', am_L ls' Ls' nL → W p l e R s m args below meth c H locs cells slots Q (F0 m pc' Ls' st'))
    (r : ∀ (x y : Int32) (r : List Value), W p l e R s m args below meth c H locs cells slots Q (F0 m (pc + 1) Ls (.int (f x y) :: r)) → W p l e R s m args below meth c H locs cells slots Q (F0 m pc Ls (.int y :: .int x :: r))) : W p l e R s m args below meth c H locs cells slots Q (F0 m pc Ls st) := by
  unfold am_bin at h
  split at h
  · cases h
    exact r _ _ _ (kk _ hL)
  · cases h
set_option maxHeartbeats 4000000 in
theorem am_s1 {M pc len pc' : Nat} {i : Instr} {ls ls' st st' : List Value} {Ls : Array Slot} (hX : am_X M p l R s m args meth c) (hd : decode (am_cod M) pc = .ok (i, len)) (h : am_i1 (am_own M) i len pc ls st = some (pc', ls', st')) (hL : am_L ls Ls (am_nL M))
    (kk : ∀ Ls', am_L ls' Ls' (am_nL M) → W p l e R s m args below meth c H locs cells slots Q (F0 m pc' Ls' st')) : W p l e R s m args below meth c H locs cells slots Q (F0 m pc Ls st) := by
  obtain ⟨hx, hb, -, -, hown, hts, -⟩ := hX
  unfold am_i1 at h
  split at h
  · obtain ⟨rfl, g⟩ := am_ifS h
    clear h
    have h := g
    clear g
    cases h
    exact lv_iconst hx hb hd rfl (kk _ hL)
  · obtain ⟨rfl, g⟩ := am_ifS h
    clear h
    have h := g
    clear g
    cases h
    exact lv_bipush hx hb hd rfl (kk _ hL)
  · obtain ⟨rfl, g⟩ := am_ifS h
    clear h
    have h := g
    clear g
    cases h
    exact lv_sipush hx hb hd rfl (kk _ hL)
  · obtain ⟨rfl, g⟩ := am_ifS h
    clear h
    have h := g
    clear g
    cases h
    exact lv_lconst hx hb hd rfl (kk _ hL)
  · obtain ⟨rfl, g⟩ := am_ifS h
    clear h
    have h := g
    clear g
    split at h
    · rename_i v hv
      cases h
      exact lv_ldc hx hb hown (hts _ (am_vT_ok _ (am_lk hv))) hd (kk _ hL)
    · cases h
  · obtain ⟨rfl, g⟩ := am_ifS h
    clear h
    have h := g
    clear g
    exact am_ldS (M := M) hL h kk (fun x _ h1 k => lv_iload hx hb hd h1 k) (fun x h0 => by cases h0)
  · obtain ⟨rfl, g⟩ := am_ifS h
    clear h
    have h := g
    clear g
    exact am_ldS (M := M) hL h kk (fun x _ h1 k => lv_iload_n hx hb hd rfl h1 k) (fun x h0 => by cases h0)
  · obtain ⟨rfl, g⟩ := am_ifS h
    clear h
    have h := g
    clear g
    exact am_ldS (M := M) hL h kk (fun x h0 => by cases h0) (fun x _ h1 k => lv_aload hx hb hd h1 k)
  · obtain ⟨rfl, g⟩ := am_ifS h
    clear h
    have h := g
    clear g
    exact am_ldS (M := M) hL h kk (fun x h0 => by cases h0) (fun x _ h1 k => lv_aload_n hx hb hd rfl h1 k)
  · obtain ⟨rfl, g⟩ := am_ifS h
    clear h
    have h := g
    clear g
    exact am_stoS (M := M) hL h kk (fun x r _ h1 k => lv_istore hx hb hd hL.has h1 rfl k) (fun x r h0 => by cases h0)
  · obtain ⟨rfl, g⟩ := am_ifS h
    clear h
    have h := g
    clear g
    exact am_stoS (M := M) hL h kk (fun x r _ h1 k => lv_istore_n hx hb hd rfl hL.has h1 rfl k) (fun x r h0 => by cases h0)
  · obtain ⟨rfl, g⟩ := am_ifS h
    clear h
    have h := g
    clear g
    exact am_stoS (M := M) hL h kk (fun x r h0 => by cases h0) (fun x r _ h1 k => lv_astore hx hb hd hL.has h1 rfl k)
  · obtain ⟨rfl, g⟩ := am_ifS h
    clear h
    have h := g
    clear g
    exact am_stoS (M := M) hL h kk (fun x r h0 => by cases h0) (fun x r _ h1 k => lv_astore_n hx hb hd rfl hL.has h1 rfl k)
  · obtain ⟨rfl, g⟩ := am_ifS h
    clear h
    have h := g
    clear g
    split at h
    · rename_i k n o x hv
      cases h
      obtain ⟨j, hj⟩ := List.mem_iff_getElem?.mp (am_pr_mem (q := (k, .int x)).mpr ⟨hv, by intro h; cases h⟩)
      exact lv_iinc hx hb hd hL.has hj rfl (Nat.lt_of_lt_of_le (List.getElem?_eq_some_iff.mp hv).1 hL.1) rfl (fun Ls' h' => kk _ (hL.set rfl h'))
    · cases h
  · obtain ⟨rfl, g⟩ := am_ifS h
    clear h
    have h := g
    clear g
    exact am_binS hL h kk (fun x y r k => lv_iadd hx hb hd k)
  · obtain ⟨rfl, g⟩ := am_ifS h
    clear h
    have h := g
    clear g
    exact am_binS hL h kk (fun x y r k => lv_isub hx hb hd k)
  · obtain ⟨rfl, g⟩ := am_ifS h
    clear h
    have h := g
    clear g
    exact am_binS hL h kk (fun x y r k => lv_imul hx hb hd k)
  · obtain ⟨rfl, g⟩ := am_ifS h
    clear h
    have h := g
    clear g
    exact am_binS hL h kk (fun x y r k => lv_iand hx hb hd k)
  · obtain ⟨rfl, g⟩ := am_ifS h
    clear h
    have h := g
    clear g
    exact am_binS hL h kk (fun x y r k => lv_ior hx hb hd k)
  · obtain ⟨rfl, g⟩ := am_ifS h
    clear h
    have h := g
    clear g
    exact am_binS hL h kk (fun x y r k => lv_ixor hx hb hd k)
  · obtain ⟨rfl, g⟩ := am_ifS h
    clear h
    have h := g
    clear g
    exact am_binS hL h kk (fun x y r k => lv_ishl hx hb hd k)
  · obtain ⟨rfl, g⟩ := am_ifS h
    clear h
    have h := g
    clear g
    exact am_binS hL h kk (fun x y r k => lv_ishr hx hb hd k)
  · obtain ⟨rfl, g⟩ := am_ifS h
    clear h
    have h := g
    clear g
    exact am_binS hL h kk (fun x y r k => lv_iushr hx hb hd rfl k)
  · obtain ⟨rfl, g⟩ := am_ifS h
    clear h
    have h := g
    clear g
    split at h
    · cases h
      exact lv_i2l hx hb hd rfl (kk _ hL)
    · cases h
  · obtain ⟨rfl, g⟩ := am_ifS h
    clear h
    have h := g
    clear g
    split at h
    · cases h
      exact W.lcmp hx hb hd (kk _ hL)
    · cases h
  · obtain ⟨rfl, g⟩ := am_ifS h
    clear h
    have h := g
    clear g
    split at h
    · cases h
      exact lv_dup hx hb hd rfl (kk _ hL)
    · cases h
      exact lv_dup hx hb hd rfl (kk _ hL)
    · cases h
  · obtain ⟨rfl, g⟩ := am_ifS h
    clear h
    have h := g
    clear g
    split at h
    · cases h
      exact lv_dup2_11 hx hb hd rfl rfl (kk _ hL)
    · cases h
  · obtain ⟨rfl, g⟩ := am_ifS h
    clear h
    have h := g
    clear g
    split at h
    · cases h
      exact lv_pop hx hb hd rfl (kk _ hL)
    · cases h
  · obtain ⟨rfl, g⟩ := am_ifS h
    clear h
    have h := g
    clear g
    obtain ⟨rfl, rfl, ht⟩ := am_goS h
    exact lv_goto hx hb hd ht (kk _ hL)
  · obtain ⟨rfl, g⟩ := am_ifS h
    clear h
    have h := g
    clear g
    split at h
    · obtain ⟨rfl, rfl, t, ht, h1, h2⟩ := am_brS h
      exact lv_if_eq hx hb hd ht (fun q => by have := kk _ hL; rw [h1 q] at this; exact this) (fun q => by have := kk _ hL; rw [h2 q] at this; exact this)
    · obtain ⟨rfl, rfl, t, ht, h1, h2⟩ := am_brS h
      exact lv_if_ne hx hb hd ht (fun q => by have := kk _ hL; rw [h1 q] at this; exact this) (fun q => by have := kk _ hL; rw [h2 (fun z => z q)] at this; exact this)
    · obtain ⟨rfl, rfl, t, ht, h1, h2⟩ := am_brS h
      exact lv_if_lt hx hb hd ht (fun q => by have := kk _ hL; rw [h1 q] at this; exact this) (fun q => by have := kk _ hL; rw [h2 q] at this; exact this)
    · obtain ⟨rfl, rfl, t, ht, h1, h2⟩ := am_brS h
      exact lv_if_ge hx hb hd ht (fun q => by have := kk _ hL; rw [h1 q] at this; exact this) (fun q => by have := kk _ hL; rw [h2 q] at this; exact this)
    · obtain ⟨rfl, rfl, t, ht, h1, h2⟩ := am_brS h
      exact lv_if_gt hx hb hd ht (fun q => by have := kk _ hL; rw [h1 q] at this; exact this) (fun q => by have := kk _ hL; rw [h2 q] at this; exact this)
    · obtain ⟨rfl, rfl, t, ht, h1, h2⟩ := am_brS h
      exact lv_if_le hx hb hd ht (fun q => by have := kk _ hL; rw [h1 q] at this; exact this) (fun q => by have := kk _ hL; rw [h2 q] at this; exact this)
    · cases h
  · obtain ⟨rfl, g⟩ := am_ifS h
    clear h
    have h := g
    clear g
    split at h
    · obtain ⟨rfl, rfl, t, ht, h1, h2⟩ := am_brS h
      exact lv_icmp_eq hx hb hd ht (fun q => by have := kk _ hL; rw [h1 q] at this; exact this) (fun q => by have := kk _ hL; rw [h2 q] at this; exact this)
    · obtain ⟨rfl, rfl, t, ht, h1, h2⟩ := am_brS h
      exact lv_icmp_ne hx hb hd ht (fun q => by have := kk _ hL; rw [h1 q] at this; exact this) (fun q => by have := kk _ hL; rw [h2 (fun z => z q)] at this; exact this)
    · obtain ⟨rfl, rfl, t, ht, h1, h2⟩ := am_brS h
      exact lv_icmp_lt hx hb hd ht (fun q => by have := kk _ hL; rw [h1 q] at this; exact this) (fun q => by have := kk _ hL; rw [h2 q] at this; exact this)
    · obtain ⟨rfl, rfl, t, ht, h1, h2⟩ := am_brS h
      exact lv_icmp_ge hx hb hd ht (fun q => by have := kk _ hL; rw [h1 q] at this; exact this) (fun q => by have := kk _ hL; rw [h2 q] at this; exact this)
    · obtain ⟨rfl, rfl, t, ht, h1, h2⟩ := am_brS h
      exact lv_icmp_gt hx hb hd ht (fun q => by have := kk _ hL; rw [h1 q] at this; exact this) (fun q => by have := kk _ hL; rw [h2 q] at this; exact this)
    · obtain ⟨rfl, rfl, t, ht, h1, h2⟩ := am_brS h
      exact lv_icmp_le hx hb hd ht (fun q => by have := kk _ hL; rw [h1 q] at this; exact this) (fun q => by have := kk _ hL; rw [h2 q] at this; exact this)
    · cases h
  · split at h
    · split at h
      · rename_i hr
        obtain ⟨rfl, rfl, ht⟩ := am_goS h
        exact lv_tableOut hx hb hd hr ht (kk _ hL)
      · rename_i hr
        split at h
        · rename_i off ho
          obtain ⟨rfl, rfl, ht⟩ := am_goS h
          exact lv_tableIn hx hb hd (fun z => hr (Or.inl z)) (fun z => hr (Or.inr z)) ho ht (kk _ hL)
        · cases h
    · cases h
  · cases h
end
end
section
/-! soundness, second part: the world, and steps over the heap -/
abbrev am_T : List Cond := lw_tbl.filter goodWord
def am_TT (ci : Nat) : u_T := (amCl.getD ci (RX0, TX0, 0)).2.1
def am_CN (ci : Nat) : String := (amCl.getD ci (RX0, TX0, 0)).1
def am_NN (ci : Nat) : Nat := (amCl.getD ci (RX0, TX0, 0)).2.2
def am_tyT (ci k : Nat) : FieldType := match ci with
  | 0 => tyX0 k
  | 1 => tyX1 k
  | 2 => tyX2 k
  | 3 => tyX3 k
  | 4 => tyX4 k
  | 5 => tyX5 k
  | 6 => tyX6 k
  | _ => tyX7 k
theorem am_cl_at {ci : Nat} (h : ci < 8) : amCl[ci]? = some (am_CN ci, am_TT ci, am_NN ci) := by
  match ci, h with
  | 0, _ => rfl
  | 1, _ => rfl
  | 2, _ => rfl
  | 3, _ => rfl
  | 4, _ => rfl
  | 5, _ => rfl
  | 6, _ => rfl
  | 7, _ => rfl
theorem am_in {ci : Nat} (h : ci < 8) : ∀ w ∈ u_ws (am_CN ci) (am_TT ci) (am_NN ci), w ∈ am_T := by
  match ci, h with
  | 0, _ => exact fun w hw => List.mem_filter.mpr ⟨inX0 w hw, (show ∀ w ∈ wsX00, goodWord w = true by decide +kernel) w hw⟩
  | 1, _ => exact fun w hw => List.mem_filter.mpr ⟨inX1 w hw, (show ∀ w ∈ wsX10, goodWord w = true by decide +kernel) w hw⟩
  | 2, _ => exact fun w hw => List.mem_filter.mpr ⟨inX2 w hw, (show ∀ w ∈ wsX20, goodWord w = true by decide +kernel) w hw⟩
  | 3, _ => exact fun w hw => List.mem_filter.mpr ⟨inX3 w hw, (show ∀ w ∈ wsX30, goodWord w = true by decide +kernel) w hw⟩
  | 4, _ => exact fun w hw => List.mem_filter.mpr ⟨inX4 w hw, (show ∀ w ∈ wsX40, goodWord w = true by decide +kernel) w hw⟩
  | 5, _ => exact fun w hw => List.mem_filter.mpr ⟨inX5 w hw, (show ∀ w ∈ wsX50, goodWord w = true by decide +kernel) w hw⟩
  | 6, _ => exact fun w hw => List.mem_filter.mpr ⟨inX6 w hw, (show ∀ w ∈ wsX60, goodWord w = true by decide +kernel) w hw⟩
  | 7, _ => exact fun w hw => List.mem_filter.mpr ⟨inX7 w hw, (show ∀ w ∈ wsX70, goodWord w = true by decide +kernel) w hw⟩
theorem am_ty_ok {ci : Nat} (h : ci < 8) : ∀ k, k < am_NN ci → parseFieldDescriptor (am_TT ci k).2.2.1 = some (am_tyT ci k) := by
  match ci, h with
  | 0, _ => exact tyX0_ok
  | 1, _ => exact tyX1_ok
  | 2, _ => exact tyX2_ok
  | 3, _ => exact tyX3_ok
  | 4, _ => exact tyX4_ok
  | 5, _ => exact tyX5_ok
  | 6, _ => exact tyX6_ok
  | 7, _ => exact tyX7_ok
theorem am_nm {ci : Nat} (h : ci < 8) : ∀ a, a < am_NN ci → ∀ b, b < am_NN ci → a ≠ b → (am_TT ci a).2.1 ≠ (am_TT ci b).2.1 := by
  match ci, h with
  | 0, _ => exact nmX0
  | 1, _ => exact nmX1
  | 2, _ => exact nmX2
  | 3, _ => exact nmX3
  | 4, _ => exact nmX4
  | 5, _ => exact nmX5
  | 6, _ => exact nmX6
  | 7, _ => exact nmX7
def am_isR (t : FieldType) : Bool := match t with
  | .object _ => true
  | .array _ => true
  | _ => false
theorem am_isR_fit {t : FieldType} (h : am_isR t = true) (a : Nat) : narrow t (.ref a) = .ref a ∧ fits t (.ref a) = true := by
  cases t <;> first | (cases h; done) | exact ⟨rfl, rfl⟩
def am_fG (q : (Nat × Nat) × (Nat × Nat × Bool × Bool)) : Bool :=
  decide (q.2.1 < 8) && decide (q.2.2.1 < am_NN q.2.1) && decide ((am_TT q.2.1 q.2.2.1).2.2.2 = q.2.2.2.2) && decide ((am_TT q.2.1 q.2.2.1).1 = am_on q.2.1) &&
  (if q.2.2.2.1 then decide (am_tyT q.2.1 q.2.2.1 = .int) else am_isR (am_tyT q.2.1 q.2.2.1))
def am_fW (q : (Nat × Nat) × (Nat × Nat × Bool × Bool)) : Cond := .fieldLink (am_on q.1.1) q.1.2 (am_TT q.2.1 q.2.2.1).1 (am_TT q.2.1 q.2.2.1).2.1 (am_TT q.2.1 q.2.2.1).2.2.1
theorem am_fT_ok : ∀ q ∈ am_fT, am_fG q = true := by decide +kernel
theorem am_fT_in : ∀ q ∈ am_fT, am_fW q ∈ lw_tbl := by decide +kernel
theorem am_fT_T : ∀ q ∈ am_fT, am_fW q ∈ am_T := fun q hq => List.mem_filter.mpr ⟨am_fT_in q hq, rfl⟩
theorem am_fT_spec {o i ci k : Nat} {isI fin : Bool} (h : am_fT.lookup (o, i) = some (ci, k, isI, fin)) : ci < 8 ∧ k < am_NN ci ∧ (am_TT ci k).2.2.2 = fin ∧ (am_TT ci k).1 = am_on ci ∧ (isI = true → am_tyT ci k = .int) ∧ (isI = false → am_isR (am_tyT ci k) = true) ∧
    Cond.fieldLink (am_on o) i (am_TT ci k).1 (am_TT ci k).2.1 (am_TT ci k).2.2.1 ∈ am_T := by
  have h1 := am_fT_ok _ (am_lk h)
  have h2 := am_fT_T _ (am_lk h)
  simp only [am_fG, Bool.and_eq_true, decide_eq_true_eq] at h1
  obtain ⟨⟨⟨⟨a1, a2⟩, a3⟩, a4⟩, a5⟩ := h1
  refine ⟨a1, a2, a3, a4, fun h => ?_, fun h => ?_, h2⟩
  · rw [h] at a5; simpa using a5
  · rw [h] at a5; simpa using a5
theorem am_fitS {isI : Bool} {v : Value} {t : FieldType} (h : am_fit isI v = true) (h1 : isI = true → t = .int) (h2 : isI = false → am_isR t = true) : narrow t v = v ∧ fits t v = true := by
  unfold am_fit at h
  split at h
  · rw [h1 rfl]; exact ⟨rfl, rfl⟩
  · exact am_isR_fit (h2 rfl) _
  · cases h
/-- the given of a run: classes' numbers, array classes, where the new cells begin, the script's cell, its length, its ints, the texts' cells -/
abbrev am_Ev : Type := va_G × (Nat → ClassId) × Nat × Nat × Nat × (Nat → Int32) × (Nat → Nat)
def am_cv (cy : Nat → ClassId) (c : Option va_E) : va_E := match c with
  | some (.inl (t, x)) => .inl (cy t, x)
  | some (.inr x) => .inr x
  | none => .inr (99, [])
def am_tys (cy : Nat → ClassId) : List (ClassId × FieldType) := [(cy 0, .int), (cy 1, .boolean), (cy 2, .long), (cy 3, .object RX3)]
abbrev am_A (b : Nat) : Nat → Prop := fun q => b ≤ q
def am_tk (c : va_E) : Prop := ∀ t x, c = .inl (t, x) → t < 4
def am_P (G : am_Ev) (σ : am_S) (H : Heap) : Prop :=
  ∃ ad : List Nat, va_P G.1 amCl (va_pl ad (fun a => am_cv G.2.1 (σ.1 a))) H ∧ va_D (am_A G.2.2.1) (va_pl ad (fun a => am_cv G.2.1 (σ.1 a))) ∧
    (∀ (a : Nat) (c : va_E), σ.1 a = some c → (a ∈ ad ∧ am_tk c) ∨ (a = G.2.2.2.1 ∧ c = .inl (4, G.2.2.2.2.1, .inl G.2.2.2.2.2.1))) ∧ (σ.2.1 ≠ 0 → H.size = σ.2.1)
def am_bw : List Cond := [.castable "java/lang/IllegalArgumentException" "java/lang/IllegalArgumentException", .castable "java/lang/IllegalStateException" "java/lang/IllegalStateException", .castable "java/lang/ArrayIndexOutOfBoundsException" "java/lang/ArrayIndexOutOfBoundsException"]
def am_dw : List MethodName := [⟨"java/lang/RuntimeException", "<init>", "(Ljava/lang/String;)V"⟩, ⟨"java/lang/Exception", "<init>", "(Ljava/lang/String;)V"⟩, ⟨"java/lang/Throwable", "<init>", "(Ljava/lang/String;)V"⟩, ⟨"java/lang/IndexOutOfBoundsException", "<init>", "(Ljava/lang/String;)V"⟩]
def am_nw : List (String × Nat × MethodName) := [(RX6, 9, yX1_init), (RX6, 18, yX2_init), (RX5, 11, yX3_init)]
def am_sR : List (Nat × String) := [(56, "not a byte"), (163, "a page is altered"), (167, "no name is fed"), (100, "the journal is not so long"), (169, "no such byte of a page"), (171, "not a mask"), (127, "no such byte of the journal"), (144, "no such entry")]
/-- what is known where a method is entered -/
def am_G (G : am_Ev) (s : State) : Prop :=
  va_K G.1 amCl (am_tys G.2.1) s ∧ va_X G.2.2.2.1 G.2.2.2.2.1 G.2.2.2.2.2.1 s s.heap ∧ G.2.2.2.1 < G.2.2.1 ∧ G.2.2.1 ≤ s.heap.size ∧
  vx_Zq Bundle.tN "UNASSIGNED_STACK" Bundle.steD (am_A G.2.2.1) s s.heap ∧ vx_Zq Bundle.tN "SUPPRESSED_SENTINEL" Bundle.listD (am_A G.2.2.1) s s.heap ∧
  va_AO RX3 s ∧ (∀ w ∈ am_bw, va_Nw w s) ∧ (∀ w ∈ am_dw, va_Nw (.declares w) s) ∧ (∀ q ∈ am_nw, va_Nw (.methodLinkNest q.1 q.2.1 q.2.2 RX6) s) ∧
  (∀ q ∈ am_sR, vk_R RX6 q.1 q.2 (G.2.2.2.2.2.2 q.1) s) ∧ (∀ a ∈ am_ens, ∀ b ∈ am_ens, a ≠ b → va_Nc a b s)
theorem am_P.at {G : am_Ev} {σ : am_S} {H : Heap} (h : am_P G σ H) : ∃ ws : va_W, va_P G.1 amCl ws H ∧ va_D (am_A G.2.2.1) ws ∧
    (∀ (a : Nat) (c : va_E), σ.1 a = some c → am_tk c → ∃ k : Nat, ws[k]? = some (a, am_cv G.2.1 (some c)) ∧ ∀ (c1 : va_E) (H1 : Heap), am_tk c1 → (σ.2.1 ≠ 0 → H1.size = σ.2.1) → va_P G.1 amCl (ws.set k (a, am_cv G.2.1 (some c1))) H1 → va_D (am_A G.2.2.1) (ws.set k (a, am_cv G.2.1 (some c1))) → am_P G (am_up σ.1 a c1, σ.2) H1) := by
  obtain ⟨ad, hP, hD, hA, hZ⟩ := h
  refine ⟨_, hP, hD, fun a c ha ht => ?_⟩
  have hm : a ∈ ad := by
    rcases hA a c ha with h | ⟨-, h⟩
    · exact h.1
    · exact absurd (ht _ _ h) (Nat.lt_irrefl 4)
  obtain ⟨k, hk⟩ := va_pl_get (X := []) (f := fun a => am_cv G.2.1 (σ.1 a)) hm
  have hk' : (va_pl ad (fun a => am_cv G.2.1 (σ.1 a)))[k]? = some (a, am_cv G.2.1 (some c)) := by rw [← ha]; exact hk
  refine ⟨k, hk', fun c1 H1 ht1 hz1 hP1 hD1 => ?_⟩
  have he : (va_pl ad (fun a => am_cv G.2.1 (σ.1 a))).set k (a, am_cv G.2.1 (some c1)) = va_pl ad (fun x => am_cv G.2.1 (am_up σ.1 a c1 x)) := by
    have h1 := va_pl_set (A := am_A G.2.2.1) (X := []) (f := fun a => am_cv G.2.1 (σ.1 a)) (e := am_cv G.2.1 (some c1)) hD hm hk
    rw [List.nil_append, List.nil_append] at h1
    rw [h1]
    congr 1
    funext x
    by_cases hx : x = a
    · subst hx; simp [va_up, am_up]
    · simp [va_up, am_up, hx]
  rw [he] at hP1 hD1
  refine ⟨ad, hP1, hD1, fun x cx hx => ?_, hz1⟩
  by_cases hxa : x = a
  · subst hxa
    have hx2 : am_up σ.1 x c1 x = some cx := hx
    rw [show am_up σ.1 x c1 x = some c1 by simp [am_up]] at hx2
    cases hx2
    exact Or.inl ⟨hm, ht1⟩
  · have hx2 : am_up σ.1 a c1 x = some cx := hx
    rw [show am_up σ.1 a c1 x = σ.1 x by simp [am_up, hxa]] at hx2
    exact hA x cx hx2
theorem am_P.new {G : am_Ev} {σ : am_S} {H H1 : Heap} {c : va_E} {kc ks : Nat} (h : am_P G σ H) (hn : σ.2.1 ≠ 0) (hb : G.2.2.1 ≤ H.size) (hs : G.2.2.2.1 < G.2.2.1) (ht : am_tk c) (hz : H1.size = H.size + 1) (ho : ∀ q, q < H.size → H1[q]? = H[q]?) (hc : va_at G.1 amCl (H.size, am_cv G.2.1 (some c)) H1) :
    am_P G (am_up σ.1 σ.2.1 c, σ.2.1 + 1, kc, ks) H1 := by
  obtain ⟨ad, hP, hD, hA, hZ⟩ := h
  have hs1 := hZ hn
  have hlt : ∀ x ∈ ad, x < H.size := fun x hx => by
    obtain ⟨k, hk⟩ := va_pl_get (X := []) (f := fun a => am_cv G.2.1 (σ.1 a)) hx
    exact (hP k _ hk).lt
  have hnm : σ.2.1 ∉ ad := fun hx => by have := hlt _ hx; omega
  have he : va_pl ad (fun a => am_cv G.2.1 (σ.1 a)) ++ [(σ.2.1, am_cv G.2.1 (some c))] = va_pl (ad ++ [σ.2.1]) (fun x => am_cv G.2.1 (am_up σ.1 σ.2.1 c x)) := by
    rw [va_pl_push hnm]
    congr 1
    funext x
    by_cases hx : x = σ.2.1
    · rw [hx]; simp [va_up, am_up]
    · simp [va_up, am_up, hx]
  refine ⟨ad ++ [σ.2.1], ?_, ?_, fun x cx hx => ?_, fun _ => by show H1.size = σ.2.1 + 1; omega⟩
  · show va_P G.1 amCl (va_pl (ad ++ [σ.2.1]) (fun x => am_cv G.2.1 (am_up σ.1 σ.2.1 c x))) H1
    rw [← he]
    refine (hP.kept (fun k x hx => ho x.1 ((hP k x hx).lt))).app (fun k x hx => ?_)
    have hz0 : k < 1 := (List.getElem?_eq_some_iff.mp hx).1
    rw [show k = 0 by omega] at hx
    cases hx
    rw [← hs1]
    exact hc
  · show va_D (am_A G.2.2.1) (va_pl (ad ++ [σ.2.1]) (fun x => am_cv G.2.1 (am_up σ.1 σ.2.1 c x)))
    rw [← he]
    exact hD.push hP hs1.symm (show G.2.2.1 ≤ σ.2.1 by omega)
  · by_cases hxa : x = σ.2.1
    · rw [hxa] at hx
      have : am_up σ.1 σ.2.1 c σ.2.1 = some c := by simp [am_up]
      rw [show (am_up σ.1 σ.2.1 c, σ.2.1 + 1, kc, ks).1 σ.2.1 = some c from this] at hx
      cases hx
      exact Or.inl ⟨by rw [hxa]; simp, ht⟩
    · have : am_up σ.1 σ.2.1 c x = σ.1 x := by simp [am_up, hxa]
      rw [show (am_up σ.1 σ.2.1 c, σ.2.1 + 1, kc, ks).1 x = σ.1 x from this] at hx
      rcases hA x cx hx with h | h
      · exact Or.inl ⟨List.mem_append_left _ h.1, h.2⟩
      · exact Or.inr h
theorem am_S_tr {A : Nat → Prop} {H0 H H1 : Heap} {locs locs1 : List Loc} (h : va_S A H0 H locs) (h1 : va_S A H H1 locs1) : va_S A H0 H1 locs1 := ⟨Nat.le_trans h.1 h1.1, fun q hq hn => (h1.2.1 q (Nat.lt_of_lt_of_le hq h.1) hn).trans (h.2.1 q hq hn), h1.2.2⟩
theorem am_S_rf {A : Nat → Prop} {H0 H : Heap} {locs : List Loc} (h : va_S A H0 H locs) : va_S A H H locs := ⟨Nat.le_refl _, fun _ _ _ => rfl, h.2.2⟩
theorem am_sz {p : Program} {l : Launch} {e : Env} {R : Room} {s : State} {m : MethodId} {args : Array Value} {below : List Frame} {meth : Method} {c : Code} {H : Heap} {locs : List Loc} {cells slots : Nat} {Q : State → Prop} {g : JFrame} (k : H.size ≤ s.heap.size + cells → W p l e R s m args below meth c H locs cells slots Q g) : W p l e R s m args below meth c H locs cells slots Q g :=
  fun T hT X => k (by rw [← hT]; exact X.heapSize) T hT X
theorem am_ixS {j : Int32} {n : Nat} (h : am_ix j n) : vp_in j n := vp_in_iff.mpr h
end
section
/-! soundness, third part: the steps over the heap -/
def am_kG (q : (Nat × Nat) × Nat) : Bool := decide (q.2 < 8) && decide ((am_df.getD q.2 []).length = am_NN q.2) && (List.range (am_NN q.2)).all (fun j => decide (defaultValue (am_tyT q.2 j) = vp_V (am_df.getD q.2 []) j))
theorem am_kT_ok : ∀ q ∈ am_kT, am_kG q = true := by decide +kernel
theorem am_kT_in : ∀ q ∈ am_kT, Cond.classLink (am_on q.1.1) q.1.2 (am_CN q.2) ∈ am_T ∧ Cond.instantiable (am_CN q.2) (am_NN q.2) ∈ am_T ∧ Cond.initialized (am_CN q.2) ∈ am_T := by decide +kernel
theorem am_ac_in : ∀ ty : ArrayType, ty = .int ∨ ty = .boolean ∨ ty = .long → Cond.arrayClass (newarray.typeOf ty) ∈ am_T := by
  intro ty h
  rcases h with rfl | rfl | rfl <;> decide +kernel
def am_oW (q : (Nat × Nat) × (Nat × Nat × Nat)) : List Cond := match q.2.1 with
  | 5 => [.methodLink (am_on q.1.1) q.1.2 Lib.objectInit, .instanceMethod Lib.objectInit, .code Lib.objectInit ⟨#[0xb1]⟩ 1 none]
  | 6 => [.methodLink (am_on q.1.1) q.1.2 arraycopyName, .native arraycopyName, .static arraycopyName, .initialized "java/lang/System"]
  | 7 => [.methodLink (am_on q.1.1) q.1.2 Lib.Math.max.name, .static Lib.Math.max.name, .initialized "java/lang/Math", .code Lib.Math.max.name Lib.Math.max.code 2 (some .int)]
  | 8 => [.methodLink (am_on q.1.1) q.1.2 Lib.Math.min.name, .static Lib.Math.min.name, .initialized "java/lang/Math", .code Lib.Math.min.name Lib.Math.min.code 2 (some .int)]
  | _ => []
theorem am_oW_in : ∀ q ∈ am_cT, ∀ w ∈ am_oW q, w ∈ am_T := by decide +kernel
theorem am_fr_pos : ∀ M, M < 136 → 9 ≤ am_fr M := by decide +kernel
theorem am_cat {r : List Value} (h : r.length ≤ 4) : (r.map fun v => v.category).sum ≤ 8 := by
  have h1 : ∀ v : Value, v.category ≤ 2 := fun v => by cases v <;> simp [Value.category]
  have h2 : ∀ r : List Value, (r.map fun v => v.category).sum ≤ 2 * r.length := by
    intro r
    induction r with
    | nil => simp
    | cons a t ih =>
      simp only [List.map_cons, List.sum_cons, List.length_cons]
      have := h1 a
      omega
  have := h2 r
  omega
section
variable {p : Program} {l : Launch} {e : Env} {R : Room} {s : State} {m : MethodId} {args : Array Value} {below : List Frame} {meth : Method} {c : Code} {H : Heap} {locs : List Loc} {Q : State → Prop}
/-- after a store: the world again -/
theorem am_put {G : am_Ev} {σ : am_S} {a k k0 s0 pc' : Nat} {c1 : va_E} {ws : va_W} {Ls : Array Slot} {st' : List Value} {H1 : Heap} {locs1 : List Loc} (hS : va_S (am_A G.2.2.1) s.heap H locs) (hz : σ.2.1 ≠ 0 → σ.2.1 = s.heap.size + (σ.2.2.1 - k0)) (hZ : σ.2.1 ≠ 0 → H.size = σ.2.1)
    (hm : ∀ (c1 : va_E) (H1 : Heap), am_tk c1 → (σ.2.1 ≠ 0 → H1.size = σ.2.1) → va_P G.1 amCl (ws.set k (a, am_cv G.2.1 (some c1))) H1 → va_D (am_A G.2.2.1) (ws.set k (a, am_cv G.2.1 (some c1))) → am_P G (am_up σ.1 a c1, σ.2) H1) (ht : am_tk c1)
    (hP1 : va_P G.1 amCl (ws.set k (a, am_cv G.2.1 (some c1))) H1) (hD1 : va_D (am_A G.2.2.1) (ws.set k (a, am_cv G.2.1 (some c1)))) (hS1 : va_S (am_A G.2.2.1) H H1 locs1)
    (kk : ∀ (H' : Heap) (locs' : List Loc), am_P G (am_up σ.1 a c1, σ.2) H' → va_S (am_A G.2.2.1) s.heap H' locs' → W p l e R s m args below meth c H' locs' (σ.2.2.1 - k0) (σ.2.2.2 - s0) Q (F0 m pc' Ls st')) : W p l e R s m args below meth c H1 locs1 (σ.2.2.1 - k0) (σ.2.2.2 - s0) Q (F0 m pc' Ls st') :=
  am_sz (fun hle => kk H1 locs1 (hm c1 H1 ht (fun hn => by have := hz hn; have := hZ hn; have := hS1.1; omega) hP1 hD1) (am_S_tr hS hS1))
theorem am_nE {G : am_Ev} {σ : am_S} (h : am_P G σ H) : σ.2.1 ≠ 0 → H.size = σ.2.1 := by obtain ⟨_, _, _, _, h⟩ := h; exact h
theorem am_scr {G : am_Ev} {σ : am_S} {a n : Nat} {x : (Nat → Int32) ⊕ (Nat → Int64) ⊕ (Nat → UInt32) ⊕ (Nat → UInt64) ⊕ (Nat → Option Nat)} (h : am_P G σ H) (ha : σ.1 a = some (.inl (4, n, x))) : a = G.2.2.2.1 ∧ n = G.2.2.2.2.1 ∧ x = .inl G.2.2.2.2.2.1 := by
  obtain ⟨ad, _, _, hA, _⟩ := h
  rcases hA a _ ha with ⟨-, ht⟩ | ⟨h1, h2⟩
  · exact absurd (ht _ _ rfl) (Nat.lt_irrefl 4)
  · cases h2
    exact ⟨h1, rfl, rfl⟩
theorem am_tk_r (x : Nat × List Value) : am_tk (.inr x) := fun t y h => by cases h
theorem am_tk_l {t : Nat} {y : vp_A} (h : t < 4) : am_tk (.inl (t, y)) := fun t' y' h' => by cases h'; exact h
set_option maxHeartbeats 8000000 in
theorem am_s2 {G : am_Ev} {M pc len pc' k0 s0 : Nat} {i : Instr} {st st' : List Value} {σ σ' : am_S} {Ls : Array Slot} (hM : M < 136) (hX : am_X M p l R s m args meth c) (hG : am_G G s) (hd : decode (am_cod M) pc = .ok (i, len)) (h : am_i2 M i len pc st σ = some (pc', st', σ')) (hP : am_P G σ H) (hS : va_S (am_A G.2.2.1) s.heap H locs) (hL : Ls.size = am_nL M)
    (hk : k0 ≤ σ.2.2.1) (hs : s0 ≤ σ.2.2.2) (hz : σ.2.1 ≠ 0 → σ.2.1 = s.heap.size + (σ.2.2.1 - k0)) (hR1 : σ'.2.2.1 - k0 ≤ R.cells) (hR2 : σ'.2.2.2 - s0 ≤ R.slots)
    (kk : ∀ (H' : Heap) (locs' : List Loc), am_P G σ' H' → va_S (am_A G.2.2.1) s.heap H' locs' → W p l e R s m args below meth c H' locs' (σ'.2.2.1 - k0) (σ'.2.2.2 - s0) Q (F0 m pc' Ls st')) : W p l e R s m args below meth c H locs (σ.2.2.1 - k0) (σ.2.2.2 - s0) Q (F0 m pc Ls st) := by
  obtain ⟨hx, hb, -, hml, hown, hts, -, -, hin, hfr, hlo, -⟩ := hX
  obtain ⟨hK, hXs, hsb, hbs, -, -, hAO, -⟩ := hG
  have hZ := am_nE hP
  have hfp := am_fr_pos M hM
  obtain ⟨ws, hPw, hDw, hw⟩ := hP.at
  unfold am_i2 at h
  split at h
  · obtain ⟨rfl, g⟩ := am_ifS h
    clear h
    split at g
    · rename_i ci j _ _ a r hf
      split at g
      · rename_i cj fs ha
        obtain ⟨rfl, g2⟩ := am_ifS g
        split at g2
        · rename_i v hv
          cases g2
          obtain ⟨f1, f2, f3, f4, f5, f6, f7⟩ := am_fT_spec hf
          obtain ⟨k, hk1, -⟩ := hw a _ ha (am_tk_r _)
          exact va_get hx hb hts (am_in f1) hown hK hPw k hk1 (am_cl_at f1) j f2 (hts _ f7) (fun x h => h) hv hd (kk _ _ hP hS)
        · cases g2
      · cases g
    · cases g
  · obtain ⟨rfl, g⟩ := am_ifS h
    clear h
    split at g
    · rename_i ci j isI fin v a r hf
      split at g
      · rename_i cj fs ha
        obtain ⟨⟨rfl, hj, hfi, hft⟩, g2⟩ := am_ifS g
        cases g2
        obtain ⟨f1, f2, f3, f4, f5, f6, f7⟩ := am_fT_spec hf
        obtain ⟨k, hk1, hk2⟩ := hw a _ ha (am_tk_r _)
        obtain ⟨n1, n2⟩ := am_fitS hft f5 f6
        cases fin with
        | false => exact va_put hx hb hts (am_in f1) (am_tyT _) (am_ty_ok f1) (am_nm f1) hown hK hPw hDw (am_S_rf hS) k hk1 (am_cl_at f1) j f2 (hts _ f7) (fun x h => h) f3 (am_ty_ok f1 _ f2) n1 n2 hj hd (fun H1 locs1 q1 q2 q3 => am_put hS hz hZ hk2 (am_tk_r _) q1 q2 q3 kk)
        | true => exact va_putF hx hb hts (am_in f1) (am_tyT _) (am_ty_ok f1) (am_nm f1) hown hK hPw hDw (am_S_rf hS) k hk1 (am_cl_at f1) j f2 (hts _ f7) (fun x h => h) f3 (hin (hfi rfl).1) (by rw [f4, (hfi rfl).2]) (am_ty_ok f1 _ f2) n1 n2 hj hd (fun H1 locs1 q1 q2 q3 => am_put hS hz hZ hk2 (am_tk_r _) q1 q2 q3 kk)
      · cases g
    · cases g
  · obtain ⟨rfl, g⟩ := am_ifS h
    clear h
    split at g
    · rename_i j a r
      split at g
      · rename_i t n f ha
        obtain ⟨⟨ht, hj⟩, g2⟩ := am_ifS g
        cases g2
        rcases ht with rfl | rfl
        · obtain ⟨k, hk1, -⟩ := hw a _ ha (am_tk_l (by decide))
          exact va_iald hx hb hK hPw k 0 hk1 rfl (am_ixS hj) hd (kk _ _ hP hS)
        · obtain ⟨rfl, rfl, hxx⟩ := am_scr hP ha
          cases hxx
          exact va_sld hx hb hXs (Nat.lt_of_lt_of_le hsb hbs) (Nat.not_le.mpr hsb) hS (am_ixS hj) hd (kk _ _ hP hS)
      · cases g
    · cases g
  · obtain ⟨rfl, g⟩ := am_ifS h
    clear h
    split at g
    · rename_i j a r
      split at g
      · rename_i t n f ha
        obtain ⟨⟨rfl, hj⟩, g2⟩ := am_ifS g
        cases g2
        obtain ⟨k, hk1, -⟩ := hw a _ ha (am_tk_l (by decide))
        exact va_zald hx hb hK hPw k 1 hk1 rfl (am_ixS hj) hd (kk _ _ hP hS)
      · cases g
    · cases g
  · obtain ⟨rfl, g⟩ := am_ifS h
    clear h
    split at g
    · rename_i j a r
      split at g
      · rename_i t n f ha
        obtain ⟨⟨rfl, hj⟩, g2⟩ := am_ifS g
        cases g2
        obtain ⟨k, hk1, -⟩ := hw a _ ha (am_tk_l (by decide))
        exact va_lald hx hb hK hPw k 2 hk1 rfl (am_ixS hj) hd (kk _ _ hP hS)
      · cases g
    · cases g
  · obtain ⟨rfl, g⟩ := am_ifS h
    clear h
    split at g
    · rename_i j a r
      split at g
      · rename_i t n f ha
        obtain ⟨⟨rfl, hj⟩, g2⟩ := am_ifS g
        cases g2
        obtain ⟨k, hk1, -⟩ := hw a _ ha (am_tk_l (by decide))
        exact va_aldq hx hb hK hPw k 3 hk1 rfl (am_ixS hj) hd (kk _ _ hP hS)
      · cases g
    · cases g
  · obtain ⟨rfl, g⟩ := am_ifS h
    clear h
    split at g
    · rename_i x j a r
      split at g
      · rename_i t n f ha
        obtain ⟨⟨rfl, hj⟩, g2⟩ := am_ifS g
        cases g2
        obtain ⟨k, hk1, hk2⟩ := hw a _ ha (am_tk_l (by decide))
        exact va_iast hx hb hK hPw hDw (am_S_rf hS) k 0 hk1 rfl (am_ixS hj) hd (fun H1 locs1 q1 q2 q3 => am_put (c1 := .inl (0, _, .inl _)) hS hz hZ hk2 (am_tk_l (by decide)) q1 q2 q3 kk)
      · cases g
    · cases g
  · obtain ⟨rfl, g⟩ := am_ifS h
    clear h
    split at g
    · rename_i x j a r
      split at g
      · rename_i t n f ha
        obtain ⟨⟨rfl, hj⟩, g2⟩ := am_ifS g
        cases g2
        obtain ⟨k, hk1, hk2⟩ := hw a _ ha (am_tk_l (by decide))
        exact va_zast hx hb hK hPw hDw (am_S_rf hS) k 1 hk1 rfl (am_ixS hj) hd (fun H1 locs1 q1 q2 q3 => am_put (c1 := .inl (1, _, .inl _)) hS hz hZ hk2 (am_tk_l (by decide)) q1 q2 q3 kk)
      · cases g
    · cases g
  · obtain ⟨rfl, g⟩ := am_ifS h
    clear h
    split at g
    · rename_i x j a r
      split at g
      · rename_i t n f ha
        obtain ⟨⟨rfl, hj⟩, g2⟩ := am_ifS g
        cases g2
        obtain ⟨k, hk1, hk2⟩ := hw a _ ha (am_tk_l (by decide))
        exact va_last hx hb hK hPw hDw (am_S_rf hS) k 2 hk1 rfl (am_ixS hj) hd (fun H1 locs1 q1 q2 q3 => am_put (c1 := .inl (2, _, .inr (.inl _))) hS hz hZ hk2 (am_tk_l (by decide)) q1 q2 q3 kk)
      · cases g
    · cases g
  · obtain ⟨rfl, g⟩ := am_ifS h
    clear h
    split at g
    · rename_i x j a r
      split at g
      · rename_i t n f cj fs ha hv
        obtain ⟨⟨rfl, rfl, hj⟩, g2⟩ := am_ifS g
        cases g2
        obtain ⟨k, hk1, hk2⟩ := hw a _ ha (am_tk_l (by decide))
        obtain ⟨k', hk3, -⟩ := hw x _ hv (am_tk_r _)
        exact va_astq hx hb hK hPw hDw (am_S_rf hS) k 3 k' 3 hk1 rfl hk3 (am_cl_at (by decide)) (am_ixS hj) hd (fun H1 locs1 q1 q2 q3 => am_put (c1 := .inl (3, _, .inr (.inr (.inr (.inr _))))) hS hz hZ hk2 (am_tk_l (by decide)) q1 q2 q3 kk)
      · cases g
    · cases g
  · obtain ⟨rfl, g⟩ := am_ifS h
    clear h
    split at g
    · rename_i a r
      split at g
      · rename_i t x ha
        obtain ⟨ht, g2⟩ := am_ifS g
        cases g2
        by_cases h4 : t = 4
        · subst h4
          obtain ⟨n, y⟩ := x
          obtain ⟨rfl, rfl, rfl⟩ := am_scr hP ha
          exact va_slen hx hb hXs (Nat.lt_of_lt_of_le hsb hbs) (Nat.not_le.mpr hsb) hS hd (kk _ _ hP hS)
        · have h5 : t < 4 := Nat.lt_of_le_of_ne (Nat.le_of_lt_succ ht) h4
          obtain ⟨k, hk1, -⟩ := hw a _ ha (am_tk_l h5)
          obtain ⟨ty, hty⟩ : ∃ ty, (am_tys G.2.1)[t]? = some (G.2.1 t, ty) := by
            match t, h5 with
            | 0, _ => exact ⟨_, rfl⟩
            | 1, _ => exact ⟨_, rfl⟩
            | 2, _ => exact ⟨_, rfl⟩
            | 3, _ => exact ⟨_, rfl⟩
          exact va_alen hx hb hK hPw k t hk1 hty rfl hd (kk _ _ hP hS)
      · cases g
    · cases g
  · obtain ⟨rfl, g⟩ := am_ifS h
    clear h
    split at g
    · rename_i ci hci
      split at g
      · cases g
      · rename_i hn
        split at g
        · rename_i fs hfs
          cases g
          have a1 := am_kT_ok _ (am_lk hci)
          obtain ⟨b1, b2, b3⟩ := am_kT_in _ (am_lk hci)
          have hfs' : am_df.getD ci [] = fs := by rw [List.getD_eq_getElem?_getD, hfs]; rfl
          simp only [am_kG, Bool.and_eq_true, decide_eq_true_eq, List.all_eq_true, List.mem_range] at a1
          rw [hfs'] at a1
          obtain ⟨⟨c1, c2⟩, c3⟩ := a1
          have hKn := hK.1 ci _ (am_cl_at c1)
          have e1 : σ.2.2.1 - k0 + 1 = σ.2.2.1 + 1 - k0 := by omega
          have e2 : σ.2.2.2 - s0 + am_NN ci = σ.2.2.2 + fs.length - s0 := by omega
          refine W.newcK hx hb hown (hts _ b1) (hts _ b2) (hts _ b3) rfl hd (by rw [e1]; exact hR1) (by rw [e2]; exact hR2) hKn.2.1 rfl (fun H1 kC hkC f1 f2 f3 => ?_)
          rw [e1, e2]
          have e3 := hZ hn
          have hS1 : va_S (am_A G.2.2.1) s.heap H1 locs := ⟨Nat.le_trans hS.1 (by omega), fun x h1 h2 => (f3 x (Nat.lt_of_lt_of_le h1 hS.1)).trans (hS.2.1 x h1 h2), hS.2.2⟩
          have := kk H1 locs (hP.new hn (Nat.le_trans hbs hS.1) hsb (am_tk_r _) f2 f3 ⟨_, am_cl_at c1, (u_born (am_tyT ci) hts (am_in c1) hKn hkC f1 (am_ty_ok c1)).to (fun j hj => c3 j hj)⟩) hS1
          rw [← e3] at this
          exact this
        · cases g
    · cases g
  · obtain ⟨rfl, g⟩ := am_ifS h
    clear h
    split at g
    · rename_i n r
      split at g
      · cases g
      · rename_i hn
        cases g
        obtain ⟨hn1, hn2, hn3⟩ : σ.2.1 ≠ 0 ∧ ¬ n < 0 ∧ ¬ 100000 < n.toNatClampNeg := ⟨fun z => hn (Or.inl z), fun z => hn (Or.inr (Or.inl z)), fun z => hn (Or.inr (Or.inr z))⟩
        have e1 : σ.2.2.1 - k0 + 1 = σ.2.2.1 + 1 - k0 := by omega
        have e2 : σ.2.2.2 - s0 + n.toNatClampNeg = σ.2.2.2 + n.toNatClampNeg - s0 := by omega
        have e3 := hZ hn1
        refine va_newaK hx hb (hts _ (am_ac_in .int (Or.inl rfl))) rfl hd rfl hn2 rfl (by show n.toNatClampNeg * 4 ≤ _; omega) (by rw [e1]; exact hR1) (by rw [e2]; exact hR2) rfl (fun H1 cA f1 f2 f3 f4 f5 => ?_)
        rw [e1, e2]
        have hcA : cA = G.2.1 0 := Option.some.inj (f5.symm.trans (hK.2 0 _ rfl).2)
        subst hcA
        have hS1 : va_S (am_A G.2.2.1) s.heap H1 locs := ⟨Nat.le_trans hS.1 (by omega), fun x h1 h2 => (f3 x (Nat.lt_of_lt_of_le h1 hS.1)).trans (hS.2.1 x h1 h2), hS.2.2⟩
        have := kk H1 locs (hP.new hn1 (Nat.le_trans hbs hS.1) hsb (am_tk_l (by decide)) f2 f3 f1) hS1
        rw [← e3] at this
        exact this
    · rename_i n r
      split at g
      · cases g
      · rename_i hn
        cases g
        obtain ⟨hn1, hn2, hn3⟩ : σ.2.1 ≠ 0 ∧ ¬ n < 0 ∧ ¬ 100000 < n.toNatClampNeg := ⟨fun z => hn (Or.inl z), fun z => hn (Or.inr (Or.inl z)), fun z => hn (Or.inr (Or.inr z))⟩
        have e1 : σ.2.2.1 - k0 + 1 = σ.2.2.1 + 1 - k0 := by omega
        have e2 : σ.2.2.2 - s0 + n.toNatClampNeg = σ.2.2.2 + n.toNatClampNeg - s0 := by omega
        have e3 := hZ hn1
        refine va_newaK hx hb (hts _ (am_ac_in .boolean (Or.inr (Or.inl rfl)))) rfl hd rfl hn2 rfl (by show n.toNatClampNeg * 1 ≤ _; omega) (by rw [e1]; exact hR1) (by rw [e2]; exact hR2) rfl (fun H1 cA f1 f2 f3 f4 f5 => ?_)
        rw [e1, e2]
        have hcA : cA = G.2.1 1 := Option.some.inj (f5.symm.trans (hK.2 1 _ rfl).2)
        subst hcA
        have hS1 : va_S (am_A G.2.2.1) s.heap H1 locs := ⟨Nat.le_trans hS.1 (by omega), fun x h1 h2 => (f3 x (Nat.lt_of_lt_of_le h1 hS.1)).trans (hS.2.1 x h1 h2), hS.2.2⟩
        have := kk H1 locs (hP.new hn1 (Nat.le_trans hbs hS.1) hsb (am_tk_l (by decide)) f2 f3 f1) hS1
        rw [← e3] at this
        exact this
    · rename_i n r
      split at g
      · cases g
      · rename_i hn
        cases g
        obtain ⟨hn1, hn2, hn3⟩ : σ.2.1 ≠ 0 ∧ ¬ n < 0 ∧ ¬ 100000 < n.toNatClampNeg := ⟨fun z => hn (Or.inl z), fun z => hn (Or.inr (Or.inl z)), fun z => hn (Or.inr (Or.inr z))⟩
        have e1 : σ.2.2.1 - k0 + 1 = σ.2.2.1 + 1 - k0 := by omega
        have e2 : σ.2.2.2 - s0 + n.toNatClampNeg = σ.2.2.2 + n.toNatClampNeg - s0 := by omega
        have e3 := hZ hn1
        refine va_newaK hx hb (hts _ (am_ac_in .long (Or.inr (Or.inr rfl)))) rfl hd rfl hn2 rfl (by show n.toNatClampNeg * 8 ≤ _; omega) (by rw [e1]; exact hR1) (by rw [e2]; exact hR2) rfl (fun H1 cA f1 f2 f3 f4 f5 => ?_)
        rw [e1, e2]
        have hcA : cA = G.2.1 2 := Option.some.inj (f5.symm.trans (hK.2 2 _ rfl).2)
        subst hcA
        have hS1 : va_S (am_A G.2.2.1) s.heap H1 locs := ⟨Nat.le_trans hS.1 (by omega), fun x h1 h2 => (f3 x (Nat.lt_of_lt_of_le h1 hS.1)).trans (hS.2.1 x h1 h2), hS.2.2⟩
        have := kk H1 locs (hP.new hn1 (Nat.le_trans hbs hS.1) hsb (am_tk_l (by decide)) f2 f3 f1) hS1
        rw [← e3] at this
        exact this
    · cases g
  · obtain ⟨rfl, g⟩ := am_ifS h
    clear h
    split at g
    · rename_i n r hci
      split at g
      · cases g
      · rename_i hn
        cases g
        obtain ⟨hn1, hn2, hn3⟩ : σ.2.1 ≠ 0 ∧ ¬ n < 0 ∧ ¬ 100000 < n.toNatClampNeg := ⟨fun z => hn (Or.inl z), fun z => hn (Or.inr (Or.inl z)), fun z => hn (Or.inr (Or.inr z))⟩
        have e1 : σ.2.2.1 - k0 + 1 = σ.2.2.1 + 1 - k0 := by omega
        have e2 : σ.2.2.2 - s0 + n.toNatClampNeg = σ.2.2.2 + n.toNatClampNeg - s0 := by omega
        have e3 := hZ hn1
        obtain ⟨b1, -, -⟩ := am_kT_in _ (am_lk hci)
        refine W.anew hx hb hown (hts _ b1) (va_AO.use hAO) rfl hd rfl hn2 (by omega) (by rw [e1]; exact hR1) (by rw [e2]; exact hR2) (fun cA kA comp f1 f2 f3 f4 => ?_)
        generalize hH1 : H.push ({ cls := cA, slots := Array.replicate n.toNatClampNeg .null, vm := .none } : Cell) = H1
        have z1 : H1.size = H.size + 1 := by rw [← hH1, Array.size_push]
        have g1 : H1[H.size]? = some (arrV cA n.toNatClampNeg (fun _ => .null)) := by rw [← hH1, Array.getElem?_push_size, ← arrV_new]
        have o1 : ∀ q : Nat, q < H.size → H1[q]? = H[q]? := fun q hq => by rw [← hH1, Array.getElem?_push, if_neg (Nat.ne_of_lt hq)]
        rw [e1, e2]
        obtain ⟨kA', comp', -, -, -, f5⟩ := (hK.2 3 _ rfl).2
        have hcA : cA = G.2.1 3 := Option.some.inj (f1.symm.trans f5)
        subst hcA
        have hS1 : va_S (am_A G.2.2.1) s.heap H1 locs := ⟨Nat.le_trans hS.1 (by omega), fun x h1 h2 => (o1 x (Nat.lt_of_lt_of_le h1 hS.1)).trans (hS.2.1 x h1 h2), hS.2.2⟩
        have := kk H1 locs (hP.new hn1 (Nat.le_trans hbs hS.1) hsb (am_tk_l (by decide)) z1 o1 g1) hS1
        rw [← e3] at this
        exact this
    · cases g
  · obtain ⟨rfl, g⟩ := am_ifS h
    clear h
    split at g
    · rename_i b r hci
      obtain ⟨hr, g2⟩ := am_ifS g
      cases g2
      have hw5 := am_oW_in _ (am_lk hci)
      have hc := am_cat hr
      exact W.objInit hx hb hown (hts _ (hw5 _ (by simp [am_oW]))) (hts _ (hw5 _ (by simp [am_oW]))) (hts _ (hw5 _ (by simp [am_oW]))) rfl (hL.trans hml.symm) rfl hd (by omega) (by show 2 * 0 + _ + 12 ≤ _; omega) (kk _ _ hP hS)
    · cases g
  · obtain ⟨rfl, g⟩ := am_ifS h
    clear h
    split at g
    · rename_i n dp a sp a0 r hci
      split at g
      · rename_i t0 n0 f t1 n1 f1 ha0 ha1
        obtain ⟨⟨rfl, rfl, hr, h1, h2, h3, h4, h5⟩, g2⟩ := am_ifS g
        cases g2
        have hw5 := am_oW_in _ (am_lk hci)
        have hc := am_cat hr
        have hnw : nativeFrameWords "java/lang/System" "arraycopy" 5 ≤ 100 := by decide
        obtain ⟨k, hk1, -⟩ := hw a0 _ ha0 (am_tk_l (by decide))
        obtain ⟨k', hk3, hk2⟩ := hw a _ ha1 (am_tk_l (by decide))
        exact va_copyi hx hb (by rw [hL]; exact hml) hown (hts _ (hw5 _ (by simp [am_oW]))) (hts _ (hw5 _ (by simp [am_oW]))) (hts _ (hw5 _ (by simp [am_oW]))) (hts _ (hw5 _ (by simp [am_oW]))) hK hPw hDw (am_S_rf hS) k k' 0 0 hk1 hk3 rfl rfl rfl h1 h2 h3 h4 h5 (fun i _ => rfl) (by omega) (by omega) hd
          (fun H1 locs1 q1 q2 q3 => am_put (c1 := .inl (0, _, .inl _)) hS hz hZ hk2 (am_tk_l (by decide)) q1 q2 q3 kk)
      · cases g
    · rename_i y x r hci
      obtain ⟨hr, g2⟩ := am_ifS g
      cases g2
      have hw5 := am_oW_in _ (am_lk hci)
      have hc := am_cat hr
      exact va_mmax hx hb (by rw [hL]; exact hml) hown (hts _ (hw5 _ (by simp [am_oW]))) (hts _ (hw5 _ (by simp [am_oW]))) (hts _ (hw5 _ (by simp [am_oW]))) (hts _ (hw5 _ (by simp [am_oW]))) (by omega) (by omega) hR1 hR2 hd (kk _ _ hP hS)
    · rename_i y x r hci
      obtain ⟨hr, g2⟩ := am_ifS g
      cases g2
      have hw5 := am_oW_in _ (am_lk hci)
      have hc := am_cat hr
      exact va_mmin hx hb (by rw [hL]; exact hml) hown (hts _ (hw5 _ (by simp [am_oW]))) (hts _ (hw5 _ (by simp [am_oW]))) (hts _ (hw5 _ (by simp [am_oW]))) (hts _ (hw5 _ (by simp [am_oW]))) (by omega) (by omega) hR1 hR2 hd (kk _ _ hP hS)
    · cases g
  · cases h
end
end
section
def am_cw (M : Nat) : Cond := if (am_hh M).isEmpty then .code (am_y M) (am_cod M) (am_nL M) (am_ret M) else .codeWith (am_y M) (am_cod M) (am_nL M) (am_ret M) (am_hh M)
/-- words of a call -/
def am_cW (q : (Nat × Nat) × (Nat × Nat × Nat)) : List Cond := match q.2.1 with
  | 0 => [.methodLink (am_on q.1.1) q.1.2 (am_y q.2.2.1), .instanceMethod (am_y q.2.2.1), .selects (am_y q.2.2.1).cls (am_y q.2.2.1) (am_y q.2.2.1), .initialized (am_y q.2.2.1).cls]
  | 1 => [.methodLink (am_on q.1.1) q.1.2 (am_y q.2.2.1), .static (am_y q.2.2.1), .initialized (am_y q.2.2.1).cls]
  | 2 => [.methodLink (am_on q.1.1) q.1.2 (am_y q.2.2.1), .static (am_y q.2.2.1), .initialized (am_y q.2.2.1).cls]
  | 3 => [.methodLink (am_on q.1.1) q.1.2 (am_y q.2.2.1), .instanceMethod (am_y q.2.2.1), .initialized (am_y q.2.2.1).cls]
  | 4 => [.instanceMethod (am_y q.2.2.1), .initialized (am_y q.2.2.1).cls]
  | _ => []
theorem am_inT {ws : List Cond} (ps : List Nat) (h : ws = ps.filterMap (fun i => lw_tbl[i]?)) (hg : ws.all goodWord = true) : ∀ w ∈ ws, w ∈ am_T := by
  intro w hw
  refine List.mem_filter.mpr ⟨?_, List.all_eq_true.mp hg w hw⟩
  rw [h] at hw
  obtain ⟨i, -, hi⟩ := List.mem_filterMap.mp hw
  exact List.mem_of_getElem? hi
set_option maxRecDepth 100000 in
theorem am_cI_0 : ∀ w ∈ am_cW ((8, 61), (3, 75, 1)), w ∈ am_T := am_inT [52, 53, 31] rfl rfl
set_option maxRecDepth 100000 in
theorem am_cI_1 : ∀ w ∈ am_cW ((6, 1), (5, 0, 0)), w ∈ am_T := am_inT [] rfl rfl
set_option maxRecDepth 100000 in
theorem am_cI_2 : ∀ w ∈ am_cW ((6, 9), (4, 26, 0)), w ∈ am_T := am_inT [61, 32] rfl rfl
set_option maxRecDepth 100000 in
theorem am_cI_3 : ∀ w ∈ am_cW ((1, 3), (5, 0, 0)), w ∈ am_T := am_inT [] rfl rfl
set_option maxRecDepth 100000 in
theorem am_cI_4 : ∀ w ∈ am_cW ((1, 11), (3, 0, 1)), w ∈ am_T := am_inT [66, 67, 33] rfl rfl
set_option maxRecDepth 100000 in
theorem am_cI_5 : ∀ w ∈ am_cW ((4, 3), (5, 0, 0)), w ∈ am_T := am_inT [] rfl rfl
set_option maxRecDepth 100000 in
theorem am_cI_6 : ∀ w ∈ am_cW ((4, 9), (7, 0, 2)), w ∈ am_T := am_inT [] rfl rfl
set_option maxRecDepth 100000 in
theorem am_cI_7 : ∀ w ∈ am_cW ((6, 18), (4, 11, 0)), w ∈ am_T := am_inT [88, 35] rfl rfl
set_option maxRecDepth 100000 in
theorem am_cI_8 : ∀ w ∈ am_cW ((2, 3), (5, 0, 0)), w ∈ am_T := am_inT [] rfl rfl
set_option maxRecDepth 100000 in
theorem am_cI_9 : ∀ w ∈ am_cW ((2, 11), (3, 0, 1)), w ∈ am_T := am_inT [92, 67, 33] rfl rfl
set_option maxRecDepth 100000 in
theorem am_cI_10 : ∀ w ∈ am_cW ((6, 26), (8, 0, 2)), w ∈ am_T := am_inT [] rfl rfl
set_option maxRecDepth 100000 in
theorem am_cI_11 : ∀ w ∈ am_cW ((6, 32), (7, 0, 2)), w ∈ am_T := am_inT [] rfl rfl
set_option maxRecDepth 100000 in
theorem am_cI_12 : ∀ w ∈ am_cW ((6, 37), (3, 56, 1)), w ∈ am_T := am_inT [106, 107, 36] rfl rfl
set_option maxRecDepth 100000 in
theorem am_cI_13 : ∀ w ∈ am_cW ((5, 3), (5, 0, 0)), w ∈ am_T := am_inT [] rfl rfl
set_option maxRecDepth 100000 in
theorem am_cI_14 : ∀ w ∈ am_cW ((5, 11), (4, 37, 0)), w ∈ am_T := am_inT [113, 37] rfl rfl
set_option maxRecDepth 100000 in
theorem am_cI_15 : ∀ w ∈ am_cW ((3, 3), (5, 0, 0)), w ∈ am_T := am_inT [] rfl rfl
set_option maxRecDepth 100000 in
theorem am_cI_16 : ∀ w ∈ am_cW ((3, 11), (3, 0, 1)), w ∈ am_T := am_inT [117, 67, 33] rfl rfl
set_option maxRecDepth 100000 in
theorem am_cI_17 : ∀ w ∈ am_cW ((5, 20), (3, 0, 1)), w ∈ am_T := am_inT [126, 67, 33] rfl rfl
set_option maxRecDepth 100000 in
theorem am_cI_18 : ∀ w ∈ am_cW ((5, 37), (7, 0, 2)), w ∈ am_T := am_inT [] rfl rfl
set_option maxRecDepth 100000 in
theorem am_cI_19 : ∀ w ∈ am_cW ((6, 49), (3, 21, 1)), w ∈ am_T := am_inT [150, 151, 38] rfl rfl
set_option maxRecDepth 100000 in
theorem am_cI_20 : ∀ w ∈ am_cW ((0, 3), (5, 0, 0)), w ∈ am_T := am_inT [] rfl rfl
set_option maxRecDepth 100000 in
theorem am_cI_21 : ∀ w ∈ am_cW ((0, 17), (3, 0, 1)), w ∈ am_T := am_inT [155, 67, 33] rfl rfl
set_option maxRecDepth 100000 in
theorem am_cI_22 : ∀ w ∈ am_cW ((8, 98), (0, 76, 0)), w ∈ am_T := am_inT [182, 183, 184, 31] rfl rfl
set_option maxRecDepth 100000 in
theorem am_cI_23 : ∀ w ∈ am_cW ((6, 131), (0, 57, 0)), w ∈ am_T := am_inT [186, 187, 188, 36] rfl rfl
set_option maxRecDepth 100000 in
theorem am_cI_24 : ∀ w ∈ am_cW ((6, 113), (0, 58, 1)), w ∈ am_T := am_inT [190, 191, 192, 36] rfl rfl
set_option maxRecDepth 100000 in
theorem am_cI_25 : ∀ w ∈ am_cW ((6, 134), (0, 38, 0)), w ∈ am_T := am_inT [194, 195, 196, 37] rfl rfl
set_option maxRecDepth 100000 in
theorem am_cI_26 : ∀ w ∈ am_cW ((3, 32), (0, 1, 2)), w ∈ am_T := am_inT [198, 199, 200, 33] rfl rfl
set_option maxRecDepth 100000 in
theorem am_cI_27 : ∀ w ∈ am_cW ((3, 36), (0, 2, 1)), w ∈ am_T := am_inT [203, 204, 205, 33] rfl rfl
set_option maxRecDepth 100000 in
theorem am_cI_28 : ∀ w ∈ am_cW ((4, 21), (0, 3, 1)), w ∈ am_T := am_inT [207, 208, 209, 33] rfl rfl
set_option maxRecDepth 100000 in
theorem am_cI_29 : ∀ w ∈ am_cW ((8, 55), (1, 123, 2)), w ∈ am_T := am_inT [211, 212, 30] rfl rfl
set_option maxRecDepth 100000 in
theorem am_cI_30 : ∀ w ∈ am_cW ((8, 67), (2, 124, 3)), w ∈ am_T := am_inT [214, 215, 30] rfl rfl
set_option maxRecDepth 100000 in
theorem am_cI_31 : ∀ w ∈ am_cW ((8, 7), (0, 77, 1)), w ∈ am_T := am_inT [218, 219, 220, 31] rfl rfl
set_option maxRecDepth 100000 in
theorem am_cI_32 : ∀ w ∈ am_cW ((6, 61), (0, 12, 1)), w ∈ am_T := am_inT [290, 291, 292, 35] rfl rfl
set_option maxRecDepth 100000 in
theorem am_cI_33 : ∀ w ∈ am_cW ((2, 32), (0, 4, 2)), w ∈ am_T := am_inT [294, 295, 296, 33] rfl rfl
set_option maxRecDepth 100000 in
theorem am_cI_34 : ∀ w ∈ am_cW ((8, 74), (2, 125, 3)), w ∈ am_T := am_inT [298, 299, 30] rfl rfl
set_option maxRecDepth 100000 in
theorem am_cI_35 : ∀ w ∈ am_cW ((8, 15), (0, 78, 1)), w ∈ am_T := am_inT [302, 303, 304, 31] rfl rfl
set_option maxRecDepth 100000 in
theorem am_cI_36 : ∀ w ∈ am_cW ((6, 65), (0, 79, 0)), w ∈ am_T := am_inT [306, 308, 1, 31] rfl rfl
set_option maxRecDepth 100000 in
theorem am_cI_37 : ∀ w ∈ am_cW ((6, 83), (0, 80, 0)), w ∈ am_T := am_inT [310, 312, 2, 31] rfl rfl
set_option maxRecDepth 100000 in
theorem am_cI_38 : ∀ w ∈ am_cW ((6, 158), (0, 22, 0)), w ∈ am_T := am_inT [314, 315, 316, 38] rfl rfl
set_option maxRecDepth 100000 in
theorem am_cI_39 : ∀ w ∈ am_cW ((6, 166), (0, 13, 0)), w ∈ am_T := am_inT [334, 335, 336, 35] rfl rfl
set_option maxRecDepth 100000 in
theorem am_cI_40 : ∀ w ∈ am_cW ((6, 68), (0, 81, 1)), w ∈ am_T := am_inT [339, 341, 3, 31] rfl rfl
set_option maxRecDepth 100000 in
theorem am_cI_41 : ∀ w ∈ am_cW ((6, 173), (0, 27, 1)), w ∈ am_T := am_inT [343, 344, 345, 32] rfl rfl
set_option maxRecDepth 100000 in
theorem am_cI_42 : ∀ w ∈ am_cW ((1, 24), (0, 14, 0)), w ∈ am_T := am_inT [347, 348, 349, 35] rfl rfl
set_option maxRecDepth 100000 in
theorem am_cI_43 : ∀ w ∈ am_cW ((2, 24), (1, 15, 1)), w ∈ am_T := am_inT [351, 352, 35] rfl rfl
set_option maxRecDepth 100000 in
theorem am_cI_44 : ∀ w ∈ am_cW ((6, 93), (0, 59, 0)), w ∈ am_T := am_inT [354, 355, 356, 36] rfl rfl
set_option maxRecDepth 100000 in
theorem am_cI_45 : ∀ w ∈ am_cW ((6, 176), (0, 60, 2)), w ∈ am_T := am_inT [358, 359, 360, 36] rfl rfl
set_option maxRecDepth 100000 in
theorem am_cI_46 : ∀ w ∈ am_cW ((5, 55), (0, 16, 0)), w ∈ am_T := am_inT [362, 363, 364, 35] rfl rfl
set_option maxRecDepth 100000 in
theorem am_cI_47 : ∀ w ∈ am_cW ((2, 28), (0, 1, 2)), w ∈ am_T := am_inT [366, 199, 200, 33] rfl rfl
set_option maxRecDepth 100000 in
theorem am_cI_48 : ∀ w ∈ am_cW ((5, 60), (0, 61, 1)), w ∈ am_T := am_inT [367, 369, 4, 36] rfl rfl
set_option maxRecDepth 100000 in
theorem am_cI_49 : ∀ w ∈ am_cW ((5, 82), (0, 62, 1)), w ∈ am_T := am_inT [371, 373, 5, 36] rfl rfl
set_option maxRecDepth 100000 in
theorem am_cI_50 : ∀ w ∈ am_cW ((5, 102), (0, 63, 0)), w ∈ am_T := am_inT [375, 376, 377, 36] rfl rfl
set_option maxRecDepth 100000 in
theorem am_cI_51 : ∀ w ∈ am_cW ((5, 47), (0, 3, 1)), w ∈ am_T := am_inT [379, 208, 209, 33] rfl rfl
set_option maxRecDepth 100000 in
theorem am_cI_52 : ∀ w ∈ am_cW ((5, 92), (0, 58, 1)), w ∈ am_T := am_inT [380, 191, 192, 36] rfl rfl
set_option maxRecDepth 100000 in
theorem am_cI_53 : ∀ w ∈ am_cW ((5, 64), (0, 39, 1)), w ∈ am_T := am_inT [381, 382, 383, 37] rfl rfl
set_option maxRecDepth 100000 in
theorem am_cI_54 : ∀ w ∈ am_cW ((3, 39), (0, 40, 0)), w ∈ am_T := am_inT [385, 386, 387, 37] rfl rfl
set_option maxRecDepth 100000 in
theorem am_cI_55 : ∀ w ∈ am_cW ((3, 24), (0, 3, 1)), w ∈ am_T := am_inT [389, 208, 209, 33] rfl rfl
set_option maxRecDepth 100000 in
theorem am_cI_56 : ∀ w ∈ am_cW ((3, 43), (0, 17, 2)), w ∈ am_T := am_inT [390, 391, 392, 35] rfl rfl
set_option maxRecDepth 100000 in
theorem am_cI_57 : ∀ w ∈ am_cW ((2, 36), (0, 3, 1)), w ∈ am_T := am_inT [394, 208, 209, 33] rfl rfl
set_option maxRecDepth 100000 in
theorem am_cI_58 : ∀ w ∈ am_cW ((2, 39), (0, 5, 4)), w ∈ am_T := am_inT [395, 396, 397, 33] rfl rfl
set_option maxRecDepth 100000 in
theorem am_cI_59 : ∀ w ∈ am_cW ((3, 49), (0, 41, 1)), w ∈ am_T := am_inT [399, 401, 6, 37] rfl rfl
set_option maxRecDepth 100000 in
theorem am_cI_60 : ∀ w ∈ am_cW ((3, 88), (1, 15, 1)), w ∈ am_T := am_inT [403, 352, 35] rfl rfl
set_option maxRecDepth 100000 in
theorem am_cI_61 : ∀ w ∈ am_cW ((5, 71), (0, 42, 2)), w ∈ am_T := am_inT [404, 405, 406, 37] rfl rfl
set_option maxRecDepth 100000 in
theorem am_cI_62 : ∀ w ∈ am_cW ((3, 52), (0, 43, 1)), w ∈ am_T := am_inT [408, 410, 7, 37] rfl rfl
set_option maxRecDepth 100000 in
theorem am_cI_63 : ∀ w ∈ am_cW ((3, 55), (0, 6, 2)), w ∈ am_T := am_inT [412, 413, 414, 33] rfl rfl
set_option maxRecDepth 100000 in
theorem am_cI_64 : ∀ w ∈ am_cW ((4, 25), (0, 4, 2)), w ∈ am_T := am_inT [416, 295, 296, 33] rfl rfl
set_option maxRecDepth 100000 in
theorem am_cI_65 : ∀ w ∈ am_cW ((3, 58), (0, 44, 0)), w ∈ am_T := am_inT [417, 418, 419, 37] rfl rfl
set_option maxRecDepth 100000 in
theorem am_cI_66 : ∀ w ∈ am_cW ((5, 75), (0, 14, 0)), w ∈ am_T := am_inT [421, 348, 349, 35] rfl rfl
set_option maxRecDepth 100000 in
theorem am_cI_67 : ∀ w ∈ am_cW ((5, 78), (0, 64, 3)), w ∈ am_T := am_inT [422, 424, 8, 36] rfl rfl
set_option maxRecDepth 100000 in
theorem am_cI_68 : ∀ w ∈ am_cW ((5, 105), (0, 45, 0)), w ∈ am_T := am_inT [426, 427, 428, 37] rfl rfl
set_option maxRecDepth 100000 in
theorem am_cI_69 : ∀ w ∈ am_cW ((5, 107), (0, 46, 2)), w ∈ am_T := am_inT [430, 431, 432, 37] rfl rfl
set_option maxRecDepth 100000 in
theorem am_cI_70 : ∀ w ∈ am_cW ((3, 61), (0, 47, 1)), w ∈ am_T := am_inT [434, 436, 9, 37] rfl rfl
set_option maxRecDepth 100000 in
theorem am_cI_71 : ∀ w ∈ am_cW ((5, 85), (0, 65, 1)), w ∈ am_T := am_inT [438, 440, 10, 36] rfl rfl
set_option maxRecDepth 100000 in
theorem am_cI_72 : ∀ w ∈ am_cW ((5, 110), (0, 66, 0)), w ∈ am_T := am_inT [442, 444, 11, 36] rfl rfl
set_option maxRecDepth 100000 in
theorem am_cI_73 : ∀ w ∈ am_cW ((5, 127), (0, 7, 4)), w ∈ am_T := am_inT [446, 447, 448, 33] rfl rfl
set_option maxRecDepth 100000 in
theorem am_cI_74 : ∀ w ∈ am_cW ((5, 95), (0, 48, 1)), w ∈ am_T := am_inT [450, 451, 452, 37] rfl rfl
set_option maxRecDepth 100000 in
theorem am_cI_75 : ∀ w ∈ am_cW ((3, 84), (0, 8, 1)), w ∈ am_T := am_inT [454, 455, 456, 33] rfl rfl
set_option maxRecDepth 100000 in
theorem am_cI_76 : ∀ w ∈ am_cW ((4, 30), (8, 0, 2)), w ∈ am_T := am_inT [] rfl rfl
set_option maxRecDepth 100000 in
theorem am_cI_77 : ∀ w ∈ am_cW ((4, 33), (6, 0, 5)), w ∈ am_T := am_inT [] rfl rfl
set_option maxRecDepth 100000 in
theorem am_cI_78 : ∀ w ∈ am_cW ((5, 113), (0, 49, 1)), w ∈ am_T := am_inT [462, 463, 464, 37] rfl rfl
set_option maxRecDepth 100000 in
theorem am_cI_79 : ∀ w ∈ am_cW ((3, 78), (0, 9, 0)), w ∈ am_T := am_inT [466, 467, 468, 33] rfl rfl
set_option maxRecDepth 100000 in
theorem am_cI_80 : ∀ w ∈ am_cW ((4, 39), (1, 122, 2)), w ∈ am_T := am_inT [470, 471, 46] rfl rfl
set_option maxRecDepth 100000 in
theorem am_cI_81 : ∀ w ∈ am_cW ((3, 81), (0, 4, 2)), w ∈ am_T := am_inT [473, 295, 296, 33] rfl rfl
set_option maxRecDepth 100000 in
theorem am_cI_82 : ∀ w ∈ am_cW ((5, 116), (0, 50, 3)), w ∈ am_T := am_inT [474, 475, 476, 37] rfl rfl
set_option maxRecDepth 100000 in
theorem am_cI_83 : ∀ w ∈ am_cW ((3, 74), (0, 7, 4)), w ∈ am_T := am_inT [478, 447, 448, 33] rfl rfl
set_option maxRecDepth 100000 in
theorem am_cI_84 : ∀ w ∈ am_cW ((3, 71), (0, 51, 1)), w ∈ am_T := am_inT [479, 481, 12, 37] rfl rfl
set_option maxRecDepth 100000 in
theorem am_cI_85 : ∀ w ∈ am_cW ((5, 120), (0, 44, 0)), w ∈ am_T := am_inT [483, 418, 419, 37] rfl rfl
set_option maxRecDepth 100000 in
theorem am_cI_86 : ∀ w ∈ am_cW ((5, 123), (0, 67, 3)), w ∈ am_T := am_inT [484, 486, 13, 36] rfl rfl
set_option maxRecDepth 100000 in
theorem am_cI_87 : ∀ w ∈ am_cW ((5, 131), (0, 4, 2)), w ∈ am_T := am_inT [488, 295, 296, 33] rfl rfl
set_option maxRecDepth 100000 in
theorem am_cI_88 : ∀ w ∈ am_cW ((5, 88), (0, 52, 2)), w ∈ am_T := am_inT [489, 490, 491, 37] rfl rfl
set_option maxRecDepth 100000 in
theorem am_cI_89 : ∀ w ∈ am_cW ((3, 64), (0, 18, 3)), w ∈ am_T := am_inT [493, 494, 495, 35] rfl rfl
set_option maxRecDepth 100000 in
theorem am_cI_90 : ∀ w ∈ am_cW ((2, 43), (0, 7, 4)), w ∈ am_T := am_inT [497, 447, 448, 33] rfl rfl
set_option maxRecDepth 100000 in
theorem am_cI_91 : ∀ w ∈ am_cW ((2, 47), (0, 6, 2)), w ∈ am_T := am_inT [498, 413, 414, 33] rfl rfl
set_option maxRecDepth 100000 in
theorem am_cI_92 : ∀ w ∈ am_cW ((3, 68), (0, 14, 0)), w ∈ am_T := am_inT [499, 348, 349, 35] rfl rfl
set_option maxRecDepth 100000 in
theorem am_cI_93 : ∀ w ∈ am_cW ((6, 180), (0, 28, 2)), w ∈ am_T := am_inT [500, 501, 502, 32] rfl rfl
set_option maxRecDepth 100000 in
theorem am_cI_94 : ∀ w ∈ am_cW ((1, 30), (0, 18, 3)), w ∈ am_T := am_inT [504, 494, 495, 35] rfl rfl
set_option maxRecDepth 100000 in
theorem am_cI_95 : ∀ w ∈ am_cW ((1, 34), (0, 29, 2)), w ∈ am_T := am_inT [505, 507, 14, 32] rfl rfl
set_option maxRecDepth 100000 in
theorem am_cI_96 : ∀ w ∈ am_cW ((1, 62), (0, 1, 2)), w ∈ am_T := am_inT [509, 199, 200, 33] rfl rfl
set_option maxRecDepth 100000 in
theorem am_cI_97 : ∀ w ∈ am_cW ((1, 38), (0, 4, 2)), w ∈ am_T := am_inT [510, 295, 296, 33] rfl rfl
set_option maxRecDepth 100000 in
theorem am_cI_98 : ∀ w ∈ am_cW ((6, 72), (0, 19, 0)), w ∈ am_T := am_inT [511, 512, 513, 35] rfl rfl
set_option maxRecDepth 100000 in
theorem am_cI_99 : ∀ w ∈ am_cW ((8, 77), (2, 126, 2)), w ∈ am_T := am_inT [515, 516, 30] rfl rfl
set_option maxRecDepth 100000 in
theorem am_cI_100 : ∀ w ∈ am_cW ((8, 21), (0, 82, 0)), w ∈ am_T := am_inT [518, 519, 520, 31] rfl rfl
set_option maxRecDepth 100000 in
theorem am_cI_101 : ∀ w ∈ am_cW ((6, 75), (0, 68, 1)), w ∈ am_T := am_inT [522, 523, 524, 36] rfl rfl
set_option maxRecDepth 100000 in
theorem am_cI_102 : ∀ w ∈ am_cW ((8, 81), (2, 127, 2)), w ∈ am_T := am_inT [526, 527, 30] rfl rfl
set_option maxRecDepth 100000 in
theorem am_cI_103 : ∀ w ∈ am_cW ((8, 25), (0, 83, 0)), w ∈ am_T := am_inT [529, 530, 531, 31] rfl rfl
set_option maxRecDepth 100000 in
theorem am_cI_104 : ∀ w ∈ am_cW ((6, 79), (0, 69, 1)), w ∈ am_T := am_inT [533, 534, 535, 36] rfl rfl
set_option maxRecDepth 100000 in
theorem am_cI_105 : ∀ w ∈ am_cW ((5, 68), (0, 53, 1)), w ∈ am_T := am_inT [537, 538, 539, 37] rfl rfl
set_option maxRecDepth 100000 in
theorem am_cI_106 : ∀ w ∈ am_cW ((8, 84), (2, 128, 2)), w ∈ am_T := am_inT [541, 542, 30] rfl rfl
set_option maxRecDepth 100000 in
theorem am_cI_107 : ∀ w ∈ am_cW ((8, 29), (0, 84, 0)), w ∈ am_T := am_inT [544, 545, 546, 31] rfl rfl
set_option maxRecDepth 100000 in
theorem am_cI_108 : ∀ w ∈ am_cW ((6, 86), (0, 70, 1)), w ∈ am_T := am_inT [548, 549, 550, 36] rfl rfl
set_option maxRecDepth 100000 in
theorem am_cI_109 : ∀ w ∈ am_cW ((5, 99), (0, 8, 1)), w ∈ am_T := am_inT [552, 455, 456, 33] rfl rfl
set_option maxRecDepth 100000 in
theorem am_cI_110 : ∀ w ∈ am_cW ((6, 90), (0, 30, 1)), w ∈ am_T := am_inT [553, 554, 555, 32] rfl rfl
set_option maxRecDepth 100000 in
theorem am_cI_111 : ∀ w ∈ am_cW ((8, 87), (2, 129, 3)), w ∈ am_T := am_inT [557, 558, 30] rfl rfl
set_option maxRecDepth 100000 in
theorem am_cI_112 : ∀ w ∈ am_cW ((8, 32), (0, 85, 1)), w ∈ am_T := am_inT [560, 561, 562, 31] rfl rfl
set_option maxRecDepth 100000 in
theorem am_cI_113 : ∀ w ∈ am_cW ((6, 97), (0, 31, 0)), w ∈ am_T := am_inT [564, 565, 566, 32] rfl rfl
set_option maxRecDepth 100000 in
theorem am_cI_114 : ∀ w ∈ am_cW ((6, 102), (0, 23, 0)), w ∈ am_T := am_inT [569, 570, 571, 38] rfl rfl
set_option maxRecDepth 100000 in
theorem am_cI_115 : ∀ w ∈ am_cW ((0, 36), (0, 9, 0)), w ∈ am_T := am_inT [573, 467, 468, 33] rfl rfl
set_option maxRecDepth 100000 in
theorem am_cI_116 : ∀ w ∈ am_cW ((6, 103), (0, 86, 0)), w ∈ am_T := am_inT [574, 576, 15, 31] rfl rfl
set_option maxRecDepth 100000 in
theorem am_cI_117 : ∀ w ∈ am_cW ((6, 184), (0, 32, 1)), w ∈ am_T := am_inT [578, 579, 580, 32] rfl rfl
set_option maxRecDepth 100000 in
theorem am_cI_118 : ∀ w ∈ am_cW ((1, 45), (0, 3, 1)), w ∈ am_T := am_inT [582, 208, 209, 33] rfl rfl
set_option maxRecDepth 100000 in
theorem am_cI_119 : ∀ w ∈ am_cW ((1, 49), (0, 33, 1)), w ∈ am_T := am_inT [583, 584, 585, 32] rfl rfl
set_option maxRecDepth 100000 in
theorem am_cI_120 : ∀ w ∈ am_cW ((1, 52), (1, 15, 1)), w ∈ am_T := am_inT [587, 352, 35] rfl rfl
set_option maxRecDepth 100000 in
theorem am_cI_121 : ∀ w ∈ am_cW ((6, 187), (0, 34, 2)), w ∈ am_T := am_inT [588, 589, 590, 32] rfl rfl
set_option maxRecDepth 100000 in
theorem am_cI_122 : ∀ w ∈ am_cW ((1, 55), (0, 20, 2)), w ∈ am_T := am_inT [592, 593, 594, 35] rfl rfl
set_option maxRecDepth 100000 in
theorem am_cI_123 : ∀ w ∈ am_cW ((2, 50), (8, 0, 2)), w ∈ am_T := am_inT [] rfl rfl
set_option maxRecDepth 100000 in
theorem am_cI_124 : ∀ w ∈ am_cW ((2, 55), (7, 0, 2)), w ∈ am_T := am_inT [] rfl rfl
set_option maxRecDepth 100000 in
theorem am_cI_125 : ∀ w ∈ am_cW ((6, 191), (0, 35, 1)), w ∈ am_T := am_inT [598, 599, 600, 32] rfl rfl
set_option maxRecDepth 100000 in
theorem am_cI_126 : ∀ w ∈ am_cW ((1, 59), (0, 2, 1)), w ∈ am_T := am_inT [602, 204, 205, 33] rfl rfl
set_option maxRecDepth 100000 in
theorem am_cI_127 : ∀ w ∈ am_cW ((6, 194), (0, 33, 1)), w ∈ am_T := am_inT [603, 584, 585, 32] rfl rfl
set_option maxRecDepth 100000 in
theorem am_cI_128 : ∀ w ∈ am_cW ((8, 90), (2, 130, 4)), w ∈ am_T := am_inT [604, 605, 30] rfl rfl
set_option maxRecDepth 100000 in
theorem am_cI_129 : ∀ w ∈ am_cW ((8, 35), (0, 87, 3)), w ∈ am_T := am_inT [631, 632, 633, 31] rfl rfl
set_option maxRecDepth 100000 in
theorem am_cI_130 : ∀ w ∈ am_cW ((6, 106), (0, 88, 2)), w ∈ am_T := am_inT [635, 637, 16, 31] rfl rfl
set_option maxRecDepth 100000 in
theorem am_cI_131 : ∀ w ∈ am_cW ((6, 110), (0, 89, 1)), w ∈ am_T := am_inT [642, 644, 17, 31] rfl rfl
set_option maxRecDepth 100000 in
theorem am_cI_132 : ∀ w ∈ am_cW ((6, 117), (0, 54, 2)), w ∈ am_T := am_inT [647, 648, 649, 37] rfl rfl
set_option maxRecDepth 100000 in
theorem am_cI_133 : ∀ w ∈ am_cW ((3, 28), (0, 10, 2)), w ∈ am_T := am_inT [651, 652, 653, 33] rfl rfl
set_option maxRecDepth 100000 in
theorem am_cI_134 : ∀ w ∈ am_cW ((6, 122), (0, 24, 3)), w ∈ am_T := am_inT [655, 656, 657, 38] rfl rfl
set_option maxRecDepth 100000 in
theorem am_cI_135 : ∀ w ∈ am_cW ((0, 28), (0, 25, 2)), w ∈ am_T := am_inT [659, 660, 661, 38] rfl rfl
set_option maxRecDepth 100000 in
theorem am_cI_136 : ∀ w ∈ am_cW ((0, 24), (0, 3, 1)), w ∈ am_T := am_inT [663, 208, 209, 33] rfl rfl
set_option maxRecDepth 100000 in
theorem am_cI_137 : ∀ w ∈ am_cW ((0, 32), (0, 4, 2)), w ∈ am_T := am_inT [664, 295, 296, 33] rfl rfl
set_option maxRecDepth 100000 in
theorem am_cI_138 : ∀ w ∈ am_cW ((8, 94), (2, 131, 3)), w ∈ am_T := am_inT [665, 666, 30] rfl rfl
set_option maxRecDepth 100000 in
theorem am_cI_139 : ∀ w ∈ am_cW ((8, 41), (0, 90, 2)), w ∈ am_T := am_inT [668, 669, 670, 31] rfl rfl
set_option maxRecDepth 100000 in
theorem am_cI_140 : ∀ w ∈ am_cW ((6, 130), (0, 36, 2)), w ∈ am_T := am_inT [673, 674, 675, 32] rfl rfl
set_option maxRecDepth 100000 in
theorem am_cI_141 : ∀ w ∈ am_cW ((1, 42), (0, 10, 2)), w ∈ am_T := am_inT [677, 652, 653, 33] rfl rfl
set_option maxRecDepth 100000 in
theorem am_cI_142 : ∀ w ∈ am_cW ((8, 102), (2, 132, 4)), w ∈ am_T := am_inT [678, 679, 30] rfl rfl
set_option maxRecDepth 100000 in
theorem am_cI_143 : ∀ w ∈ am_cW ((8, 45), (0, 91, 2)), w ∈ am_T := am_inT [681, 682, 683, 31] rfl rfl
set_option maxRecDepth 100000 in
theorem am_cI_144 : ∀ w ∈ am_cW ((6, 138), (0, 55, 1)), w ∈ am_T := am_inT [685, 686, 687, 37] rfl rfl
set_option maxRecDepth 100000 in
theorem am_cI_145 : ∀ w ∈ am_cW ((8, 106), (2, 133, 3)), w ∈ am_T := am_inT [689, 690, 30] rfl rfl
set_option maxRecDepth 100000 in
theorem am_cI_146 : ∀ w ∈ am_cW ((8, 49), (0, 92, 1)), w ∈ am_T := am_inT [692, 693, 694, 31] rfl rfl
set_option maxRecDepth 100000 in
theorem am_cI_147 : ∀ w ∈ am_cW ((6, 141), (0, 63, 0)), w ∈ am_T := am_inT [696, 376, 377, 36] rfl rfl
set_option maxRecDepth 100000 in
theorem am_cI_148 : ∀ w ∈ am_cW ((6, 146), (0, 71, 1)), w ∈ am_T := am_inT [698, 699, 700, 36] rfl rfl
set_option maxRecDepth 100000 in
theorem am_cI_149 : ∀ w ∈ am_cW ((8, 109), (2, 134, 3)), w ∈ am_T := am_inT [702, 703, 30] rfl rfl
set_option maxRecDepth 100000 in
theorem am_cI_150 : ∀ w ∈ am_cW ((8, 52), (0, 93, 1)), w ∈ am_T := am_inT [705, 706, 707, 31] rfl rfl
set_option maxRecDepth 100000 in
theorem am_cI_151 : ∀ w ∈ am_cW ((6, 149), (0, 72, 0)), w ∈ am_T := am_inT [709, 710, 711, 36] rfl rfl
set_option maxRecDepth 100000 in
theorem am_cI_152 : ∀ w ∈ am_cW ((6, 152), (0, 73, 0)), w ∈ am_T := am_inT [713, 714, 715, 36] rfl rfl
set_option maxRecDepth 100000 in
theorem am_cI_153 : ∀ w ∈ am_cW ((6, 155), (0, 74, 0)), w ∈ am_T := am_inT [717, 718, 719, 36] rfl rfl
set_option maxRecDepth 100000 in
theorem am_cI_154 : ∀ w ∈ am_cW ((5, 51), (0, 40, 0)), w ∈ am_T := am_inT [721, 386, 387, 37] rfl rfl
set_option maxRecDepth 100000 in
theorem am_cI_155 : ∀ w ∈ am_cW ((8, 66), (3, 94, 1)), w ∈ am_T := am_inT [724, 725, 39] rfl rfl
set_option maxRecDepth 100000 in
theorem am_cI_156 : ∀ w ∈ am_cW ((7, 1), (5, 0, 0)), w ∈ am_T := am_inT [] rfl rfl
set_option maxRecDepth 100000 in
theorem am_cI_157 : ∀ w ∈ am_cW ((7, 63), (0, 95, 2)), w ∈ am_T := am_inT [728, 730, 18, 39] rfl rfl
set_option maxRecDepth 100000 in
theorem am_cI_158 : ∀ w ∈ am_cW ((8, 71), (0, 96, 0)), w ∈ am_T := am_inT [794, 795, 796, 39] rfl rfl
set_option maxRecDepth 100000 in
theorem am_cI_159 : ∀ w ∈ am_cW ((8, 70), (0, 97, 1)), w ∈ am_T := am_inT [798, 799, 800, 39] rfl rfl
set_option maxRecDepth 100000 in
theorem am_cI_160 : ∀ w ∈ am_cW ((7, 71), (1, 98, 3)), w ∈ am_T := am_inT [802, 803, 39] rfl rfl
set_option maxRecDepth 100000 in
theorem am_cI_161 : ∀ w ∈ am_cW ((8, 76), (0, 99, 1)), w ∈ am_T := am_inT [805, 806, 807, 39] rfl rfl
set_option maxRecDepth 100000 in
theorem am_cI_162 : ∀ w ∈ am_cW ((7, 104), (0, 100, 0)), w ∈ am_T := am_inT [809, 811, 19, 39] rfl rfl
set_option maxRecDepth 100000 in
theorem am_cI_163 : ∀ w ∈ am_cW ((7, 78), (0, 101, 0)), w ∈ am_T := am_inT [813, 815, 20, 39] rfl rfl
set_option maxRecDepth 100000 in
theorem am_cI_164 : ∀ w ∈ am_cW ((7, 107), (0, 102, 1)), w ∈ am_T := am_inT [817, 819, 21, 39] rfl rfl
set_option maxRecDepth 100000 in
theorem am_cI_165 : ∀ w ∈ am_cW ((7, 86), (0, 103, 0)), w ∈ am_T := am_inT [821, 823, 22, 39] rfl rfl
set_option maxRecDepth 100000 in
theorem am_cI_166 : ∀ w ∈ am_cW ((7, 90), (0, 104, 0)), w ∈ am_T := am_inT [825, 827, 23, 39] rfl rfl
set_option maxRecDepth 100000 in
theorem am_cI_167 : ∀ w ∈ am_cW ((7, 82), (1, 105, 2)), w ∈ am_T := am_inT [829, 830, 39] rfl rfl
set_option maxRecDepth 100000 in
theorem am_cI_168 : ∀ w ∈ am_cW ((7, 93), (0, 106, 1)), w ∈ am_T := am_inT [833, 835, 24, 39] rfl rfl
set_option maxRecDepth 100000 in
theorem am_cI_169 : ∀ w ∈ am_cW ((7, 97), (0, 107, 1)), w ∈ am_T := am_inT [837, 839, 25, 39] rfl rfl
set_option maxRecDepth 100000 in
theorem am_cI_170 : ∀ w ∈ am_cW ((7, 110), (0, 108, 2)), w ∈ am_T := am_inT [841, 843, 26, 39] rfl rfl
set_option maxRecDepth 100000 in
theorem am_cI_171 : ∀ w ∈ am_cW ((8, 80), (0, 109, 0)), w ∈ am_T := am_inT [845, 846, 847, 39] rfl rfl
set_option maxRecDepth 100000 in
theorem am_cI_172 : ∀ w ∈ am_cW ((8, 83), (0, 110, 0)), w ∈ am_T := am_inT [849, 850, 851, 39] rfl rfl
set_option maxRecDepth 100000 in
theorem am_cI_173 : ∀ w ∈ am_cW ((8, 86), (0, 111, 0)), w ∈ am_T := am_inT [853, 854, 855, 39] rfl rfl
set_option maxRecDepth 100000 in
theorem am_cI_174 : ∀ w ∈ am_cW ((8, 89), (0, 112, 1)), w ∈ am_T := am_inT [857, 858, 859, 39] rfl rfl
set_option maxRecDepth 100000 in
theorem am_cI_175 : ∀ w ∈ am_cW ((7, 113), (0, 113, 2)), w ∈ am_T := am_inT [861, 863, 27, 39] rfl rfl
set_option maxRecDepth 100000 in
theorem am_cI_176 : ∀ w ∈ am_cW ((8, 93), (0, 114, 3)), w ∈ am_T := am_inT [865, 866, 867, 39] rfl rfl
set_option maxRecDepth 100000 in
theorem am_cI_177 : ∀ w ∈ am_cW ((8, 97), (0, 115, 2)), w ∈ am_T := am_inT [869, 870, 871, 39] rfl rfl
set_option maxRecDepth 100000 in
theorem am_cI_178 : ∀ w ∈ am_cW ((8, 101), (0, 116, 0)), w ∈ am_T := am_inT [873, 874, 875, 39] rfl rfl
set_option maxRecDepth 100000 in
theorem am_cI_179 : ∀ w ∈ am_cW ((7, 117), (0, 117, 1)), w ∈ am_T := am_inT [877, 879, 28, 39] rfl rfl
set_option maxRecDepth 100000 in
theorem am_cI_180 : ∀ w ∈ am_cW ((8, 105), (0, 118, 2)), w ∈ am_T := am_inT [881, 882, 883, 39] rfl rfl
set_option maxRecDepth 100000 in
theorem am_cI_181 : ∀ w ∈ am_cW ((8, 108), (0, 119, 1)), w ∈ am_T := am_inT [885, 886, 887, 39] rfl rfl
set_option maxRecDepth 100000 in
theorem am_cI_182 : ∀ w ∈ am_cW ((8, 111), (0, 120, 1)), w ∈ am_T := am_inT [889, 890, 891, 39] rfl rfl
set_option maxRecDepth 100000 in
theorem am_cI_183 : ∀ w ∈ am_cW ((7, 121), (0, 121, 1)), w ∈ am_T := am_inT [893, 895, 29, 39] rfl rfl
def am_cT0 : List ((Nat × Nat) × (Nat × Nat × Nat)) := [((8, 61), (3, 75, 1)), ((6, 1), (5, 0, 0)), ((6, 9), (4, 26, 0)), ((1, 3), (5, 0, 0)), ((1, 11), (3, 0, 1)), ((4, 3), (5, 0, 0)), ((4, 9), (7, 0, 2)), ((6, 18), (4, 11, 0)), ((2, 3), (5, 0, 0)), ((2, 11), (3, 0, 1)), ((6, 26), (8, 0, 2)), ((6, 32), (7, 0, 2)), ((6, 37), (3, 56, 1)), ((5, 3), (5, 0, 0)), ((5, 11), (4, 37, 0)), ((3, 3), (5, 0, 0)), ((3, 11), (3, 0, 1)), ((5, 20), (3, 0, 1)), ((5, 37), (7, 0, 2)), ((6, 49), (3, 21, 1)), ((0, 3), (5, 0, 0)), ((0, 17), (3, 0, 1)), ((8, 98), (0, 76, 0)), ((6, 131), (0, 57, 0)), ((6, 113), (0, 58, 1)), ((6, 134), (0, 38, 0)), ((3, 32), (0, 1, 2)), ((3, 36), (0, 2, 1))]
theorem am_cTi0 : ∀ q ∈ am_cT0, ∀ w ∈ am_cW q, w ∈ am_T := List.forall_mem_cons.mpr ⟨am_cI_0, List.forall_mem_cons.mpr ⟨am_cI_1, List.forall_mem_cons.mpr ⟨am_cI_2, List.forall_mem_cons.mpr ⟨am_cI_3, List.forall_mem_cons.mpr ⟨am_cI_4, List.forall_mem_cons.mpr ⟨am_cI_5, List.forall_mem_cons.mpr ⟨am_cI_6, List.forall_mem_cons.mpr ⟨am_cI_7, List.forall_mem_cons.mpr ⟨am_cI_8, List.forall_mem_cons.mpr ⟨am_cI_9, List.forall_mem_cons.mpr ⟨am_cI_10, List.forall_mem_cons.mpr ⟨am_cI_11, List.forall_mem_cons.mpr ⟨am_cI_12, List.forall_mem_cons.mpr ⟨am_cI_13, List.forall_mem_cons.mpr ⟨am_cI_14, List.forall_mem_cons.mpr ⟨am_cI_15, List.forall_mem_cons.mpr ⟨am_cI_16, List.forall_mem_cons.mpr ⟨am_cI_17, List.forall_mem_cons.mpr ⟨am_cI_18, List.forall_mem_cons.mpr ⟨am_cI_19, List.forall_mem_cons.mpr ⟨am_cI_20, List.forall_mem_cons.mpr ⟨am_cI_21, List.forall_mem_cons.mpr ⟨am_cI_22, List.forall_mem_cons.mpr ⟨am_cI_23, List.forall_mem_cons.mpr ⟨am_cI_24, List.forall_mem_cons.mpr ⟨am_cI_25, List.forall_mem_cons.mpr ⟨am_cI_26, List.forall_mem_cons.mpr ⟨am_cI_27, fun _ h => absurd h List.not_mem_nil⟩⟩⟩⟩⟩⟩⟩⟩⟩⟩⟩⟩⟩⟩⟩⟩⟩⟩⟩⟩⟩⟩⟩⟩⟩⟩⟩⟩
def am_cT1 : List ((Nat × Nat) × (Nat × Nat × Nat)) := [((4, 21), (0, 3, 1)), ((8, 55), (1, 123, 2)), ((8, 67), (2, 124, 3)), ((8, 7), (0, 77, 1)), ((6, 61), (0, 12, 1)), ((2, 32), (0, 4, 2)), ((8, 74), (2, 125, 3)), ((8, 15), (0, 78, 1)), ((6, 65), (0, 79, 0)), ((6, 83), (0, 80, 0)), ((6, 158), (0, 22, 0)), ((6, 166), (0, 13, 0)), ((6, 68), (0, 81, 1)), ((6, 173), (0, 27, 1)), ((1, 24), (0, 14, 0)), ((2, 24), (1, 15, 1)), ((6, 93), (0, 59, 0)), ((6, 176), (0, 60, 2)), ((5, 55), (0, 16, 0)), ((2, 28), (0, 1, 2)), ((5, 60), (0, 61, 1)), ((5, 82), (0, 62, 1)), ((5, 102), (0, 63, 0)), ((5, 47), (0, 3, 1)), ((5, 92), (0, 58, 1)), ((5, 64), (0, 39, 1)), ((3, 39), (0, 40, 0)), ((3, 24), (0, 3, 1))]
theorem am_cTi1 : ∀ q ∈ am_cT1, ∀ w ∈ am_cW q, w ∈ am_T := List.forall_mem_cons.mpr ⟨am_cI_28, List.forall_mem_cons.mpr ⟨am_cI_29, List.forall_mem_cons.mpr ⟨am_cI_30, List.forall_mem_cons.mpr ⟨am_cI_31, List.forall_mem_cons.mpr ⟨am_cI_32, List.forall_mem_cons.mpr ⟨am_cI_33, List.forall_mem_cons.mpr ⟨am_cI_34, List.forall_mem_cons.mpr ⟨am_cI_35, List.forall_mem_cons.mpr ⟨am_cI_36, List.forall_mem_cons.mpr ⟨am_cI_37, List.forall_mem_cons.mpr ⟨am_cI_38, List.forall_mem_cons.mpr ⟨am_cI_39, List.forall_mem_cons.mpr ⟨am_cI_40, List.forall_mem_cons.mpr ⟨am_cI_41, List.forall_mem_cons.mpr ⟨am_cI_42, List.forall_mem_cons.mpr ⟨am_cI_43, List.forall_mem_cons.mpr ⟨am_cI_44, List.forall_mem_cons.mpr ⟨am_cI_45, List.forall_mem_cons.mpr ⟨am_cI_46, List.forall_mem_cons.mpr ⟨am_cI_47, List.forall_mem_cons.mpr ⟨am_cI_48, List.forall_mem_cons.mpr ⟨am_cI_49, List.forall_mem_cons.mpr ⟨am_cI_50, List.forall_mem_cons.mpr ⟨am_cI_51, List.forall_mem_cons.mpr ⟨am_cI_52, List.forall_mem_cons.mpr ⟨am_cI_53, List.forall_mem_cons.mpr ⟨am_cI_54, List.forall_mem_cons.mpr ⟨am_cI_55, fun _ h => absurd h List.not_mem_nil⟩⟩⟩⟩⟩⟩⟩⟩⟩⟩⟩⟩⟩⟩⟩⟩⟩⟩⟩⟩⟩⟩⟩⟩⟩⟩⟩⟩
def am_cT2 : List ((Nat × Nat) × (Nat × Nat × Nat)) := [((3, 43), (0, 17, 2)), ((2, 36), (0, 3, 1)), ((2, 39), (0, 5, 4)), ((3, 49), (0, 41, 1)), ((3, 88), (1, 15, 1)), ((5, 71), (0, 42, 2)), ((3, 52), (0, 43, 1)), ((3, 55), (0, 6, 2)), ((4, 25), (0, 4, 2)), ((3, 58), (0, 44, 0)), ((5, 75), (0, 14, 0)), ((5, 78), (0, 64, 3)), ((5, 105), (0, 45, 0)), ((5, 107), (0, 46, 2)), ((3, 61), (0, 47, 1)), ((5, 85), (0, 65, 1)), ((5, 110), (0, 66, 0)), ((5, 127), (0, 7, 4)), ((5, 95), (0, 48, 1)), ((3, 84), (0, 8, 1)), ((4, 30), (8, 0, 2)), ((4, 33), (6, 0, 5)), ((5, 113), (0, 49, 1)), ((3, 78), (0, 9, 0)), ((4, 39), (1, 122, 2)), ((3, 81), (0, 4, 2)), ((5, 116), (0, 50, 3)), ((3, 74), (0, 7, 4))]
theorem am_cTi2 : ∀ q ∈ am_cT2, ∀ w ∈ am_cW q, w ∈ am_T := List.forall_mem_cons.mpr ⟨am_cI_56, List.forall_mem_cons.mpr ⟨am_cI_57, List.forall_mem_cons.mpr ⟨am_cI_58, List.forall_mem_cons.mpr ⟨am_cI_59, List.forall_mem_cons.mpr ⟨am_cI_60, List.forall_mem_cons.mpr ⟨am_cI_61, List.forall_mem_cons.mpr ⟨am_cI_62, List.forall_mem_cons.mpr ⟨am_cI_63, List.forall_mem_cons.mpr ⟨am_cI_64, List.forall_mem_cons.mpr ⟨am_cI_65, List.forall_mem_cons.mpr ⟨am_cI_66, List.forall_mem_cons.mpr ⟨am_cI_67, List.forall_mem_cons.mpr ⟨am_cI_68, List.forall_mem_cons.mpr ⟨am_cI_69, List.forall_mem_cons.mpr ⟨am_cI_70, List.forall_mem_cons.mpr ⟨am_cI_71, List.forall_mem_cons.mpr ⟨am_cI_72, List.forall_mem_cons.mpr ⟨am_cI_73, List.forall_mem_cons.mpr ⟨am_cI_74, List.forall_mem_cons.mpr ⟨am_cI_75, List.forall_mem_cons.mpr ⟨am_cI_76, List.forall_mem_cons.mpr ⟨am_cI_77, List.forall_mem_cons.mpr ⟨am_cI_78, List.forall_mem_cons.mpr ⟨am_cI_79, List.forall_mem_cons.mpr ⟨am_cI_80, List.forall_mem_cons.mpr ⟨am_cI_81, List.forall_mem_cons.mpr ⟨am_cI_82, List.forall_mem_cons.mpr ⟨am_cI_83, fun _ h => absurd h List.not_mem_nil⟩⟩⟩⟩⟩⟩⟩⟩⟩⟩⟩⟩⟩⟩⟩⟩⟩⟩⟩⟩⟩⟩⟩⟩⟩⟩⟩⟩
def am_cT3 : List ((Nat × Nat) × (Nat × Nat × Nat)) := [((3, 71), (0, 51, 1)), ((5, 120), (0, 44, 0)), ((5, 123), (0, 67, 3)), ((5, 131), (0, 4, 2)), ((5, 88), (0, 52, 2)), ((3, 64), (0, 18, 3)), ((2, 43), (0, 7, 4)), ((2, 47), (0, 6, 2)), ((3, 68), (0, 14, 0)), ((6, 180), (0, 28, 2)), ((1, 30), (0, 18, 3)), ((1, 34), (0, 29, 2)), ((1, 62), (0, 1, 2)), ((1, 38), (0, 4, 2)), ((6, 72), (0, 19, 0)), ((8, 77), (2, 126, 2)), ((8, 21), (0, 82, 0)), ((6, 75), (0, 68, 1)), ((8, 81), (2, 127, 2)), ((8, 25), (0, 83, 0)), ((6, 79), (0, 69, 1)), ((5, 68), (0, 53, 1)), ((8, 84), (2, 128, 2)), ((8, 29), (0, 84, 0)), ((6, 86), (0, 70, 1)), ((5, 99), (0, 8, 1)), ((6, 90), (0, 30, 1)), ((8, 87), (2, 129, 3))]
theorem am_cTi3 : ∀ q ∈ am_cT3, ∀ w ∈ am_cW q, w ∈ am_T := List.forall_mem_cons.mpr ⟨am_cI_84, List.forall_mem_cons.mpr ⟨am_cI_85, List.forall_mem_cons.mpr ⟨am_cI_86, List.forall_mem_cons.mpr ⟨am_cI_87, List.forall_mem_cons.mpr ⟨am_cI_88, List.forall_mem_cons.mpr ⟨am_cI_89, List.forall_mem_cons.mpr ⟨am_cI_90, List.forall_mem_cons.mpr ⟨am_cI_91, List.forall_mem_cons.mpr ⟨am_cI_92, List.forall_mem_cons.mpr ⟨am_cI_93, List.forall_mem_cons.mpr ⟨am_cI_94, List.forall_mem_cons.mpr ⟨am_cI_95, List.forall_mem_cons.mpr ⟨am_cI_96, List.forall_mem_cons.mpr ⟨am_cI_97, List.forall_mem_cons.mpr ⟨am_cI_98, List.forall_mem_cons.mpr ⟨am_cI_99, List.forall_mem_cons.mpr ⟨am_cI_100, List.forall_mem_cons.mpr ⟨am_cI_101, List.forall_mem_cons.mpr ⟨am_cI_102, List.forall_mem_cons.mpr ⟨am_cI_103, List.forall_mem_cons.mpr ⟨am_cI_104, List.forall_mem_cons.mpr ⟨am_cI_105, List.forall_mem_cons.mpr ⟨am_cI_106, List.forall_mem_cons.mpr ⟨am_cI_107, List.forall_mem_cons.mpr ⟨am_cI_108, List.forall_mem_cons.mpr ⟨am_cI_109, List.forall_mem_cons.mpr ⟨am_cI_110, List.forall_mem_cons.mpr ⟨am_cI_111, fun _ h => absurd h List.not_mem_nil⟩⟩⟩⟩⟩⟩⟩⟩⟩⟩⟩⟩⟩⟩⟩⟩⟩⟩⟩⟩⟩⟩⟩⟩⟩⟩⟩⟩
def am_cT4 : List ((Nat × Nat) × (Nat × Nat × Nat)) := [((8, 32), (0, 85, 1)), ((6, 97), (0, 31, 0)), ((6, 102), (0, 23, 0)), ((0, 36), (0, 9, 0)), ((6, 103), (0, 86, 0)), ((6, 184), (0, 32, 1)), ((1, 45), (0, 3, 1)), ((1, 49), (0, 33, 1)), ((1, 52), (1, 15, 1)), ((6, 187), (0, 34, 2)), ((1, 55), (0, 20, 2)), ((2, 50), (8, 0, 2)), ((2, 55), (7, 0, 2)), ((6, 191), (0, 35, 1)), ((1, 59), (0, 2, 1)), ((6, 194), (0, 33, 1)), ((8, 90), (2, 130, 4)), ((8, 35), (0, 87, 3)), ((6, 106), (0, 88, 2)), ((6, 110), (0, 89, 1)), ((6, 117), (0, 54, 2)), ((3, 28), (0, 10, 2)), ((6, 122), (0, 24, 3)), ((0, 28), (0, 25, 2)), ((0, 24), (0, 3, 1)), ((0, 32), (0, 4, 2)), ((8, 94), (2, 131, 3)), ((8, 41), (0, 90, 2))]
theorem am_cTi4 : ∀ q ∈ am_cT4, ∀ w ∈ am_cW q, w ∈ am_T := List.forall_mem_cons.mpr ⟨am_cI_112, List.forall_mem_cons.mpr ⟨am_cI_113, List.forall_mem_cons.mpr ⟨am_cI_114, List.forall_mem_cons.mpr ⟨am_cI_115, List.forall_mem_cons.mpr ⟨am_cI_116, List.forall_mem_cons.mpr ⟨am_cI_117, List.forall_mem_cons.mpr ⟨am_cI_118, List.forall_mem_cons.mpr ⟨am_cI_119, List.forall_mem_cons.mpr ⟨am_cI_120, List.forall_mem_cons.mpr ⟨am_cI_121, List.forall_mem_cons.mpr ⟨am_cI_122, List.forall_mem_cons.mpr ⟨am_cI_123, List.forall_mem_cons.mpr ⟨am_cI_124, List.forall_mem_cons.mpr ⟨am_cI_125, List.forall_mem_cons.mpr ⟨am_cI_126, List.forall_mem_cons.mpr ⟨am_cI_127, List.forall_mem_cons.mpr ⟨am_cI_128, List.forall_mem_cons.mpr ⟨am_cI_129, List.forall_mem_cons.mpr ⟨am_cI_130, List.forall_mem_cons.mpr ⟨am_cI_131, List.forall_mem_cons.mpr ⟨am_cI_132, List.forall_mem_cons.mpr ⟨am_cI_133, List.forall_mem_cons.mpr ⟨am_cI_134, List.forall_mem_cons.mpr ⟨am_cI_135, List.forall_mem_cons.mpr ⟨am_cI_136, List.forall_mem_cons.mpr ⟨am_cI_137, List.forall_mem_cons.mpr ⟨am_cI_138, List.forall_mem_cons.mpr ⟨am_cI_139, fun _ h => absurd h List.not_mem_nil⟩⟩⟩⟩⟩⟩⟩⟩⟩⟩⟩⟩⟩⟩⟩⟩⟩⟩⟩⟩⟩⟩⟩⟩⟩⟩⟩⟩
def am_cT5 : List ((Nat × Nat) × (Nat × Nat × Nat)) := [((6, 130), (0, 36, 2)), ((1, 42), (0, 10, 2)), ((8, 102), (2, 132, 4)), ((8, 45), (0, 91, 2)), ((6, 138), (0, 55, 1)), ((8, 106), (2, 133, 3)), ((8, 49), (0, 92, 1)), ((6, 141), (0, 63, 0)), ((6, 146), (0, 71, 1)), ((8, 109), (2, 134, 3)), ((8, 52), (0, 93, 1)), ((6, 149), (0, 72, 0)), ((6, 152), (0, 73, 0)), ((6, 155), (0, 74, 0)), ((5, 51), (0, 40, 0)), ((8, 66), (3, 94, 1)), ((7, 1), (5, 0, 0)), ((7, 63), (0, 95, 2)), ((8, 71), (0, 96, 0)), ((8, 70), (0, 97, 1)), ((7, 71), (1, 98, 3)), ((8, 76), (0, 99, 1)), ((7, 104), (0, 100, 0)), ((7, 78), (0, 101, 0)), ((7, 107), (0, 102, 1)), ((7, 86), (0, 103, 0)), ((7, 90), (0, 104, 0)), ((7, 82), (1, 105, 2))]
theorem am_cTi5 : ∀ q ∈ am_cT5, ∀ w ∈ am_cW q, w ∈ am_T := List.forall_mem_cons.mpr ⟨am_cI_140, List.forall_mem_cons.mpr ⟨am_cI_141, List.forall_mem_cons.mpr ⟨am_cI_142, List.forall_mem_cons.mpr ⟨am_cI_143, List.forall_mem_cons.mpr ⟨am_cI_144, List.forall_mem_cons.mpr ⟨am_cI_145, List.forall_mem_cons.mpr ⟨am_cI_146, List.forall_mem_cons.mpr ⟨am_cI_147, List.forall_mem_cons.mpr ⟨am_cI_148, List.forall_mem_cons.mpr ⟨am_cI_149, List.forall_mem_cons.mpr ⟨am_cI_150, List.forall_mem_cons.mpr ⟨am_cI_151, List.forall_mem_cons.mpr ⟨am_cI_152, List.forall_mem_cons.mpr ⟨am_cI_153, List.forall_mem_cons.mpr ⟨am_cI_154, List.forall_mem_cons.mpr ⟨am_cI_155, List.forall_mem_cons.mpr ⟨am_cI_156, List.forall_mem_cons.mpr ⟨am_cI_157, List.forall_mem_cons.mpr ⟨am_cI_158, List.forall_mem_cons.mpr ⟨am_cI_159, List.forall_mem_cons.mpr ⟨am_cI_160, List.forall_mem_cons.mpr ⟨am_cI_161, List.forall_mem_cons.mpr ⟨am_cI_162, List.forall_mem_cons.mpr ⟨am_cI_163, List.forall_mem_cons.mpr ⟨am_cI_164, List.forall_mem_cons.mpr ⟨am_cI_165, List.forall_mem_cons.mpr ⟨am_cI_166, List.forall_mem_cons.mpr ⟨am_cI_167, fun _ h => absurd h List.not_mem_nil⟩⟩⟩⟩⟩⟩⟩⟩⟩⟩⟩⟩⟩⟩⟩⟩⟩⟩⟩⟩⟩⟩⟩⟩⟩⟩⟩⟩
def am_cT6 : List ((Nat × Nat) × (Nat × Nat × Nat)) := [((7, 93), (0, 106, 1)), ((7, 97), (0, 107, 1)), ((7, 110), (0, 108, 2)), ((8, 80), (0, 109, 0)), ((8, 83), (0, 110, 0)), ((8, 86), (0, 111, 0)), ((8, 89), (0, 112, 1)), ((7, 113), (0, 113, 2)), ((8, 93), (0, 114, 3)), ((8, 97), (0, 115, 2)), ((8, 101), (0, 116, 0)), ((7, 117), (0, 117, 1)), ((8, 105), (0, 118, 2)), ((8, 108), (0, 119, 1)), ((8, 111), (0, 120, 1)), ((7, 121), (0, 121, 1))]
theorem am_cTi6 : ∀ q ∈ am_cT6, ∀ w ∈ am_cW q, w ∈ am_T := List.forall_mem_cons.mpr ⟨am_cI_168, List.forall_mem_cons.mpr ⟨am_cI_169, List.forall_mem_cons.mpr ⟨am_cI_170, List.forall_mem_cons.mpr ⟨am_cI_171, List.forall_mem_cons.mpr ⟨am_cI_172, List.forall_mem_cons.mpr ⟨am_cI_173, List.forall_mem_cons.mpr ⟨am_cI_174, List.forall_mem_cons.mpr ⟨am_cI_175, List.forall_mem_cons.mpr ⟨am_cI_176, List.forall_mem_cons.mpr ⟨am_cI_177, List.forall_mem_cons.mpr ⟨am_cI_178, List.forall_mem_cons.mpr ⟨am_cI_179, List.forall_mem_cons.mpr ⟨am_cI_180, List.forall_mem_cons.mpr ⟨am_cI_181, List.forall_mem_cons.mpr ⟨am_cI_182, List.forall_mem_cons.mpr ⟨am_cI_183, fun _ h => absurd h List.not_mem_nil⟩⟩⟩⟩⟩⟩⟩⟩⟩⟩⟩⟩⟩⟩⟩⟩
theorem am_cT_in : ∀ q ∈ am_cT, ∀ w ∈ am_cW q, w ∈ am_T := by
  show ∀ q ∈ am_cT0 ++ (am_cT1 ++ (am_cT2 ++ (am_cT3 ++ (am_cT4 ++ (am_cT5 ++ (am_cT6)))))), ∀ w ∈ am_cW q, w ∈ am_T
  exact List.forall_mem_append.mpr ⟨am_cTi0, List.forall_mem_append.mpr ⟨am_cTi1, List.forall_mem_append.mpr ⟨am_cTi2, List.forall_mem_append.mpr ⟨am_cTi3, List.forall_mem_append.mpr ⟨am_cTi4, List.forall_mem_append.mpr ⟨am_cTi5, am_cTi6⟩⟩⟩⟩⟩⟩
set_option maxRecDepth 100000 in
theorem am_cwI_0 : ∀ w ∈ [am_cw 0], w ∈ am_T := am_inT [68] rfl rfl
set_option maxRecDepth 100000 in
theorem am_cwI_1 : ∀ w ∈ [am_cw 1], w ∈ am_T := am_inT [201] rfl rfl
set_option maxRecDepth 100000 in
theorem am_cwI_2 : ∀ w ∈ [am_cw 2], w ∈ am_T := am_inT [206] rfl rfl
set_option maxRecDepth 100000 in
theorem am_cwI_3 : ∀ w ∈ [am_cw 3], w ∈ am_T := am_inT [210] rfl rfl
set_option maxRecDepth 100000 in
theorem am_cwI_4 : ∀ w ∈ [am_cw 4], w ∈ am_T := am_inT [297] rfl rfl
set_option maxRecDepth 100000 in
theorem am_cwI_5 : ∀ w ∈ [am_cw 5], w ∈ am_T := am_inT [398] rfl rfl
set_option maxRecDepth 100000 in
theorem am_cwI_6 : ∀ w ∈ [am_cw 6], w ∈ am_T := am_inT [415] rfl rfl
set_option maxRecDepth 100000 in
theorem am_cwI_7 : ∀ w ∈ [am_cw 7], w ∈ am_T := am_inT [449] rfl rfl
set_option maxRecDepth 100000 in
theorem am_cwI_8 : ∀ w ∈ [am_cw 8], w ∈ am_T := am_inT [457] rfl rfl
set_option maxRecDepth 100000 in
theorem am_cwI_9 : ∀ w ∈ [am_cw 9], w ∈ am_T := am_inT [469] rfl rfl
set_option maxRecDepth 100000 in
theorem am_cwI_10 : ∀ w ∈ [am_cw 10], w ∈ am_T := am_inT [654] rfl rfl
set_option maxRecDepth 100000 in
theorem am_cwI_11 : ∀ w ∈ [am_cw 11], w ∈ am_T := am_inT [89] rfl rfl
set_option maxRecDepth 100000 in
theorem am_cwI_12 : ∀ w ∈ [am_cw 12], w ∈ am_T := am_inT [293] rfl rfl
set_option maxRecDepth 100000 in
theorem am_cwI_13 : ∀ w ∈ [am_cw 13], w ∈ am_T := am_inT [337] rfl rfl
set_option maxRecDepth 100000 in
theorem am_cwI_14 : ∀ w ∈ [am_cw 14], w ∈ am_T := am_inT [350] rfl rfl
set_option maxRecDepth 100000 in
theorem am_cwI_15 : ∀ w ∈ [am_cw 15], w ∈ am_T := am_inT [353] rfl rfl
set_option maxRecDepth 100000 in
theorem am_cwI_16 : ∀ w ∈ [am_cw 16], w ∈ am_T := am_inT [365] rfl rfl
set_option maxRecDepth 100000 in
theorem am_cwI_17 : ∀ w ∈ [am_cw 17], w ∈ am_T := am_inT [393] rfl rfl
set_option maxRecDepth 100000 in
theorem am_cwI_18 : ∀ w ∈ [am_cw 18], w ∈ am_T := am_inT [496] rfl rfl
set_option maxRecDepth 100000 in
theorem am_cwI_19 : ∀ w ∈ [am_cw 19], w ∈ am_T := am_inT [514] rfl rfl
set_option maxRecDepth 100000 in
theorem am_cwI_20 : ∀ w ∈ [am_cw 20], w ∈ am_T := am_inT [595] rfl rfl
set_option maxRecDepth 100000 in
theorem am_cwI_21 : ∀ w ∈ [am_cw 21], w ∈ am_T := am_inT [152] rfl rfl
set_option maxRecDepth 100000 in
theorem am_cwI_22 : ∀ w ∈ [am_cw 22], w ∈ am_T := am_inT [317] rfl rfl
set_option maxRecDepth 100000 in
theorem am_cwI_23 : ∀ w ∈ [am_cw 23], w ∈ am_T := am_inT [572] rfl rfl
set_option maxRecDepth 100000 in
theorem am_cwI_24 : ∀ w ∈ [am_cw 24], w ∈ am_T := am_inT [658] rfl rfl
set_option maxRecDepth 100000 in
theorem am_cwI_25 : ∀ w ∈ [am_cw 25], w ∈ am_T := am_inT [662] rfl rfl
set_option maxRecDepth 100000 in
theorem am_cwI_26 : ∀ w ∈ [am_cw 26], w ∈ am_T := am_inT [62] rfl rfl
set_option maxRecDepth 100000 in
theorem am_cwI_27 : ∀ w ∈ [am_cw 27], w ∈ am_T := am_inT [346] rfl rfl
set_option maxRecDepth 100000 in
theorem am_cwI_28 : ∀ w ∈ [am_cw 28], w ∈ am_T := am_inT [503] rfl rfl
set_option maxRecDepth 100000 in
theorem am_cwI_29 : ∀ w ∈ [am_cw 29], w ∈ am_T := am_inT [508] rfl rfl
set_option maxRecDepth 100000 in
theorem am_cwI_30 : ∀ w ∈ [am_cw 30], w ∈ am_T := am_inT [556] rfl rfl
set_option maxRecDepth 100000 in
theorem am_cwI_31 : ∀ w ∈ [am_cw 31], w ∈ am_T := am_inT [567] rfl rfl
set_option maxRecDepth 100000 in
theorem am_cwI_32 : ∀ w ∈ [am_cw 32], w ∈ am_T := am_inT [581] rfl rfl
set_option maxRecDepth 100000 in
theorem am_cwI_33 : ∀ w ∈ [am_cw 33], w ∈ am_T := am_inT [586] rfl rfl
set_option maxRecDepth 100000 in
theorem am_cwI_34 : ∀ w ∈ [am_cw 34], w ∈ am_T := am_inT [591] rfl rfl
set_option maxRecDepth 100000 in
theorem am_cwI_35 : ∀ w ∈ [am_cw 35], w ∈ am_T := am_inT [601] rfl rfl
set_option maxRecDepth 100000 in
theorem am_cwI_36 : ∀ w ∈ [am_cw 36], w ∈ am_T := am_inT [676] rfl rfl
set_option maxRecDepth 100000 in
theorem am_cwI_37 : ∀ w ∈ [am_cw 37], w ∈ am_T := am_inT [114] rfl rfl
set_option maxRecDepth 100000 in
theorem am_cwI_38 : ∀ w ∈ [am_cw 38], w ∈ am_T := am_inT [197] rfl rfl
set_option maxRecDepth 100000 in
theorem am_cwI_39 : ∀ w ∈ [am_cw 39], w ∈ am_T := am_inT [384] rfl rfl
set_option maxRecDepth 100000 in
theorem am_cwI_40 : ∀ w ∈ [am_cw 40], w ∈ am_T := am_inT [388] rfl rfl
set_option maxRecDepth 100000 in
theorem am_cwI_41 : ∀ w ∈ [am_cw 41], w ∈ am_T := am_inT [402] rfl rfl
set_option maxRecDepth 100000 in
theorem am_cwI_42 : ∀ w ∈ [am_cw 42], w ∈ am_T := am_inT [407] rfl rfl
set_option maxRecDepth 100000 in
theorem am_cwI_43 : ∀ w ∈ [am_cw 43], w ∈ am_T := am_inT [411] rfl rfl
set_option maxRecDepth 100000 in
theorem am_cwI_44 : ∀ w ∈ [am_cw 44], w ∈ am_T := am_inT [420] rfl rfl
set_option maxRecDepth 100000 in
theorem am_cwI_45 : ∀ w ∈ [am_cw 45], w ∈ am_T := am_inT [429] rfl rfl
set_option maxRecDepth 100000 in
theorem am_cwI_46 : ∀ w ∈ [am_cw 46], w ∈ am_T := am_inT [433] rfl rfl
set_option maxRecDepth 100000 in
theorem am_cwI_47 : ∀ w ∈ [am_cw 47], w ∈ am_T := am_inT [437] rfl rfl
set_option maxRecDepth 100000 in
theorem am_cwI_48 : ∀ w ∈ [am_cw 48], w ∈ am_T := am_inT [453] rfl rfl
set_option maxRecDepth 100000 in
theorem am_cwI_49 : ∀ w ∈ [am_cw 49], w ∈ am_T := am_inT [465] rfl rfl
set_option maxRecDepth 100000 in
theorem am_cwI_50 : ∀ w ∈ [am_cw 50], w ∈ am_T := am_inT [477] rfl rfl
set_option maxRecDepth 100000 in
theorem am_cwI_51 : ∀ w ∈ [am_cw 51], w ∈ am_T := am_inT [482] rfl rfl
set_option maxRecDepth 100000 in
theorem am_cwI_52 : ∀ w ∈ [am_cw 52], w ∈ am_T := am_inT [492] rfl rfl
set_option maxRecDepth 100000 in
theorem am_cwI_53 : ∀ w ∈ [am_cw 53], w ∈ am_T := am_inT [540] rfl rfl
set_option maxRecDepth 100000 in
theorem am_cwI_54 : ∀ w ∈ [am_cw 54], w ∈ am_T := am_inT [650] rfl rfl
set_option maxRecDepth 100000 in
theorem am_cwI_55 : ∀ w ∈ [am_cw 55], w ∈ am_T := am_inT [688] rfl rfl
set_option maxRecDepth 100000 in
theorem am_cwI_56 : ∀ w ∈ [am_cw 56], w ∈ am_T := am_inT [108] rfl rfl
set_option maxRecDepth 100000 in
theorem am_cwI_57 : ∀ w ∈ [am_cw 57], w ∈ am_T := am_inT [189] rfl rfl
set_option maxRecDepth 100000 in
theorem am_cwI_58 : ∀ w ∈ [am_cw 58], w ∈ am_T := am_inT [193] rfl rfl
set_option maxRecDepth 100000 in
theorem am_cwI_59 : ∀ w ∈ [am_cw 59], w ∈ am_T := am_inT [357] rfl rfl
set_option maxRecDepth 100000 in
theorem am_cwI_60 : ∀ w ∈ [am_cw 60], w ∈ am_T := am_inT [361] rfl rfl
set_option maxRecDepth 100000 in
theorem am_cwI_61 : ∀ w ∈ [am_cw 61], w ∈ am_T := am_inT [370] rfl rfl
set_option maxRecDepth 100000 in
theorem am_cwI_62 : ∀ w ∈ [am_cw 62], w ∈ am_T := am_inT [374] rfl rfl
set_option maxRecDepth 100000 in
theorem am_cwI_63 : ∀ w ∈ [am_cw 63], w ∈ am_T := am_inT [378] rfl rfl
set_option maxRecDepth 100000 in
theorem am_cwI_64 : ∀ w ∈ [am_cw 64], w ∈ am_T := am_inT [425] rfl rfl
set_option maxRecDepth 100000 in
theorem am_cwI_65 : ∀ w ∈ [am_cw 65], w ∈ am_T := am_inT [441] rfl rfl
set_option maxRecDepth 100000 in
theorem am_cwI_66 : ∀ w ∈ [am_cw 66], w ∈ am_T := am_inT [445] rfl rfl
set_option maxRecDepth 100000 in
theorem am_cwI_67 : ∀ w ∈ [am_cw 67], w ∈ am_T := am_inT [487] rfl rfl
set_option maxRecDepth 100000 in
theorem am_cwI_68 : ∀ w ∈ [am_cw 68], w ∈ am_T := am_inT [525] rfl rfl
set_option maxRecDepth 100000 in
theorem am_cwI_69 : ∀ w ∈ [am_cw 69], w ∈ am_T := am_inT [536] rfl rfl
set_option maxRecDepth 100000 in
theorem am_cwI_70 : ∀ w ∈ [am_cw 70], w ∈ am_T := am_inT [551] rfl rfl
set_option maxRecDepth 100000 in
theorem am_cwI_71 : ∀ w ∈ [am_cw 71], w ∈ am_T := am_inT [701] rfl rfl
set_option maxRecDepth 100000 in
theorem am_cwI_72 : ∀ w ∈ [am_cw 72], w ∈ am_T := am_inT [712] rfl rfl
set_option maxRecDepth 100000 in
theorem am_cwI_73 : ∀ w ∈ [am_cw 73], w ∈ am_T := am_inT [716] rfl rfl
set_option maxRecDepth 100000 in
theorem am_cwI_74 : ∀ w ∈ [am_cw 74], w ∈ am_T := am_inT [720] rfl rfl
set_option maxRecDepth 100000 in
theorem am_cwI_75 : ∀ w ∈ [am_cw 75], w ∈ am_T := am_inT [54] rfl rfl
set_option maxRecDepth 100000 in
theorem am_cwI_76 : ∀ w ∈ [am_cw 76], w ∈ am_T := am_inT [185] rfl rfl
set_option maxRecDepth 100000 in
theorem am_cwI_77 : ∀ w ∈ [am_cw 77], w ∈ am_T := am_inT [221] rfl rfl
set_option maxRecDepth 100000 in
theorem am_cwI_78 : ∀ w ∈ [am_cw 78], w ∈ am_T := am_inT [305] rfl rfl
set_option maxRecDepth 100000 in
theorem am_cwI_79 : ∀ w ∈ [am_cw 79], w ∈ am_T := am_inT [309] rfl rfl
set_option maxRecDepth 100000 in
theorem am_cwI_80 : ∀ w ∈ [am_cw 80], w ∈ am_T := am_inT [313] rfl rfl
set_option maxRecDepth 100000 in
theorem am_cwI_81 : ∀ w ∈ [am_cw 81], w ∈ am_T := am_inT [342] rfl rfl
set_option maxRecDepth 100000 in
theorem am_cwI_82 : ∀ w ∈ [am_cw 82], w ∈ am_T := am_inT [521] rfl rfl
set_option maxRecDepth 100000 in
theorem am_cwI_83 : ∀ w ∈ [am_cw 83], w ∈ am_T := am_inT [532] rfl rfl
set_option maxRecDepth 100000 in
theorem am_cwI_84 : ∀ w ∈ [am_cw 84], w ∈ am_T := am_inT [547] rfl rfl
set_option maxRecDepth 100000 in
theorem am_cwI_85 : ∀ w ∈ [am_cw 85], w ∈ am_T := am_inT [563] rfl rfl
set_option maxRecDepth 100000 in
theorem am_cwI_86 : ∀ w ∈ [am_cw 86], w ∈ am_T := am_inT [577] rfl rfl
set_option maxRecDepth 100000 in
theorem am_cwI_87 : ∀ w ∈ [am_cw 87], w ∈ am_T := am_inT [634] rfl rfl
set_option maxRecDepth 100000 in
theorem am_cwI_88 : ∀ w ∈ [am_cw 88], w ∈ am_T := am_inT [638] rfl rfl
set_option maxRecDepth 100000 in
theorem am_cwI_89 : ∀ w ∈ [am_cw 89], w ∈ am_T := am_inT [645] rfl rfl
set_option maxRecDepth 100000 in
theorem am_cwI_90 : ∀ w ∈ [am_cw 90], w ∈ am_T := am_inT [671] rfl rfl
set_option maxRecDepth 100000 in
theorem am_cwI_91 : ∀ w ∈ [am_cw 91], w ∈ am_T := am_inT [684] rfl rfl
set_option maxRecDepth 100000 in
theorem am_cwI_92 : ∀ w ∈ [am_cw 92], w ∈ am_T := am_inT [695] rfl rfl
set_option maxRecDepth 100000 in
theorem am_cwI_93 : ∀ w ∈ [am_cw 93], w ∈ am_T := am_inT [708] rfl rfl
set_option maxRecDepth 100000 in
theorem am_cwI_94 : ∀ w ∈ [am_cw 94], w ∈ am_T := am_inT [726] rfl rfl
set_option maxRecDepth 100000 in
theorem am_cwI_95 : ∀ w ∈ [am_cw 95], w ∈ am_T := am_inT [731] rfl rfl
set_option maxRecDepth 100000 in
theorem am_cwI_96 : ∀ w ∈ [am_cw 96], w ∈ am_T := am_inT [797] rfl rfl
set_option maxRecDepth 100000 in
theorem am_cwI_97 : ∀ w ∈ [am_cw 97], w ∈ am_T := am_inT [801] rfl rfl
set_option maxRecDepth 100000 in
theorem am_cwI_98 : ∀ w ∈ [am_cw 98], w ∈ am_T := am_inT [804] rfl rfl
set_option maxRecDepth 100000 in
theorem am_cwI_99 : ∀ w ∈ [am_cw 99], w ∈ am_T := am_inT [808] rfl rfl
set_option maxRecDepth 100000 in
theorem am_cwI_100 : ∀ w ∈ [am_cw 100], w ∈ am_T := am_inT [812] rfl rfl
set_option maxRecDepth 100000 in
theorem am_cwI_101 : ∀ w ∈ [am_cw 101], w ∈ am_T := am_inT [816] rfl rfl
set_option maxRecDepth 100000 in
theorem am_cwI_102 : ∀ w ∈ [am_cw 102], w ∈ am_T := am_inT [820] rfl rfl
set_option maxRecDepth 100000 in
theorem am_cwI_103 : ∀ w ∈ [am_cw 103], w ∈ am_T := am_inT [824] rfl rfl
set_option maxRecDepth 100000 in
theorem am_cwI_104 : ∀ w ∈ [am_cw 104], w ∈ am_T := am_inT [828] rfl rfl
set_option maxRecDepth 100000 in
theorem am_cwI_105 : ∀ w ∈ [am_cw 105], w ∈ am_T := am_inT [831] rfl rfl
set_option maxRecDepth 100000 in
theorem am_cwI_106 : ∀ w ∈ [am_cw 106], w ∈ am_T := am_inT [836] rfl rfl
set_option maxRecDepth 100000 in
theorem am_cwI_107 : ∀ w ∈ [am_cw 107], w ∈ am_T := am_inT [840] rfl rfl
set_option maxRecDepth 100000 in
theorem am_cwI_108 : ∀ w ∈ [am_cw 108], w ∈ am_T := am_inT [844] rfl rfl
set_option maxRecDepth 100000 in
theorem am_cwI_109 : ∀ w ∈ [am_cw 109], w ∈ am_T := am_inT [848] rfl rfl
set_option maxRecDepth 100000 in
theorem am_cwI_110 : ∀ w ∈ [am_cw 110], w ∈ am_T := am_inT [852] rfl rfl
set_option maxRecDepth 100000 in
theorem am_cwI_111 : ∀ w ∈ [am_cw 111], w ∈ am_T := am_inT [856] rfl rfl
set_option maxRecDepth 100000 in
theorem am_cwI_112 : ∀ w ∈ [am_cw 112], w ∈ am_T := am_inT [860] rfl rfl
set_option maxRecDepth 100000 in
theorem am_cwI_113 : ∀ w ∈ [am_cw 113], w ∈ am_T := am_inT [864] rfl rfl
set_option maxRecDepth 100000 in
theorem am_cwI_114 : ∀ w ∈ [am_cw 114], w ∈ am_T := am_inT [868] rfl rfl
set_option maxRecDepth 100000 in
theorem am_cwI_115 : ∀ w ∈ [am_cw 115], w ∈ am_T := am_inT [872] rfl rfl
set_option maxRecDepth 100000 in
theorem am_cwI_116 : ∀ w ∈ [am_cw 116], w ∈ am_T := am_inT [876] rfl rfl
set_option maxRecDepth 100000 in
theorem am_cwI_117 : ∀ w ∈ [am_cw 117], w ∈ am_T := am_inT [880] rfl rfl
set_option maxRecDepth 100000 in
theorem am_cwI_118 : ∀ w ∈ [am_cw 118], w ∈ am_T := am_inT [884] rfl rfl
set_option maxRecDepth 100000 in
theorem am_cwI_119 : ∀ w ∈ [am_cw 119], w ∈ am_T := am_inT [888] rfl rfl
set_option maxRecDepth 100000 in
theorem am_cwI_120 : ∀ w ∈ [am_cw 120], w ∈ am_T := am_inT [892] rfl rfl
set_option maxRecDepth 100000 in
theorem am_cwI_121 : ∀ w ∈ [am_cw 121], w ∈ am_T := am_inT [896] rfl rfl
set_option maxRecDepth 100000 in
theorem am_cwI_122 : ∀ w ∈ [am_cw 122], w ∈ am_T := am_inT [472] rfl rfl
set_option maxRecDepth 100000 in
theorem am_cwI_123 : ∀ w ∈ [am_cw 123], w ∈ am_T := am_inT [213] rfl rfl
set_option maxRecDepth 100000 in
theorem am_cwI_124 : ∀ w ∈ [am_cw 124], w ∈ am_T := am_inT [216] rfl rfl
set_option maxRecDepth 100000 in
theorem am_cwI_125 : ∀ w ∈ [am_cw 125], w ∈ am_T := am_inT [300] rfl rfl
set_option maxRecDepth 100000 in
theorem am_cwI_126 : ∀ w ∈ [am_cw 126], w ∈ am_T := am_inT [517] rfl rfl
set_option maxRecDepth 100000 in
theorem am_cwI_127 : ∀ w ∈ [am_cw 127], w ∈ am_T := am_inT [528] rfl rfl
set_option maxRecDepth 100000 in
theorem am_cwI_128 : ∀ w ∈ [am_cw 128], w ∈ am_T := am_inT [543] rfl rfl
set_option maxRecDepth 100000 in
theorem am_cwI_129 : ∀ w ∈ [am_cw 129], w ∈ am_T := am_inT [559] rfl rfl
set_option maxRecDepth 100000 in
theorem am_cwI_130 : ∀ w ∈ [am_cw 130], w ∈ am_T := am_inT [606] rfl rfl
set_option maxRecDepth 100000 in
theorem am_cwI_131 : ∀ w ∈ [am_cw 131], w ∈ am_T := am_inT [667] rfl rfl
set_option maxRecDepth 100000 in
theorem am_cwI_132 : ∀ w ∈ [am_cw 132], w ∈ am_T := am_inT [680] rfl rfl
set_option maxRecDepth 100000 in
theorem am_cwI_133 : ∀ w ∈ [am_cw 133], w ∈ am_T := am_inT [691] rfl rfl
set_option maxRecDepth 100000 in
theorem am_cwI_134 : ∀ w ∈ [am_cw 134], w ∈ am_T := am_inT [704] rfl rfl
theorem am_cw_in : ∀ M, M < 135 → am_cw M ∈ am_T := fun M h => match M, h with
  | 0, _ => am_cwI_0 _ List.mem_cons_self
  | 1, _ => am_cwI_1 _ List.mem_cons_self
  | 2, _ => am_cwI_2 _ List.mem_cons_self
  | 3, _ => am_cwI_3 _ List.mem_cons_self
  | 4, _ => am_cwI_4 _ List.mem_cons_self
  | 5, _ => am_cwI_5 _ List.mem_cons_self
  | 6, _ => am_cwI_6 _ List.mem_cons_self
  | 7, _ => am_cwI_7 _ List.mem_cons_self
  | 8, _ => am_cwI_8 _ List.mem_cons_self
  | 9, _ => am_cwI_9 _ List.mem_cons_self
  | 10, _ => am_cwI_10 _ List.mem_cons_self
  | 11, _ => am_cwI_11 _ List.mem_cons_self
  | 12, _ => am_cwI_12 _ List.mem_cons_self
  | 13, _ => am_cwI_13 _ List.mem_cons_self
  | 14, _ => am_cwI_14 _ List.mem_cons_self
  | 15, _ => am_cwI_15 _ List.mem_cons_self
  | 16, _ => am_cwI_16 _ List.mem_cons_self
  | 17, _ => am_cwI_17 _ List.mem_cons_self
  | 18, _ => am_cwI_18 _ List.mem_cons_self
  | 19, _ => am_cwI_19 _ List.mem_cons_self
  | 20, _ => am_cwI_20 _ List.mem_cons_self
  | 21, _ => am_cwI_21 _ List.mem_cons_self
  | 22, _ => am_cwI_22 _ List.mem_cons_self
  | 23, _ => am_cwI_23 _ List.mem_cons_self
  | 24, _ => am_cwI_24 _ List.mem_cons_self
  | 25, _ => am_cwI_25 _ List.mem_cons_self
  | 26, _ => am_cwI_26 _ List.mem_cons_self
  | 27, _ => am_cwI_27 _ List.mem_cons_self
  | 28, _ => am_cwI_28 _ List.mem_cons_self
  | 29, _ => am_cwI_29 _ List.mem_cons_self
  | 30, _ => am_cwI_30 _ List.mem_cons_self
  | 31, _ => am_cwI_31 _ List.mem_cons_self
  | 32, _ => am_cwI_32 _ List.mem_cons_self
  | 33, _ => am_cwI_33 _ List.mem_cons_self
  | 34, _ => am_cwI_34 _ List.mem_cons_self
  | 35, _ => am_cwI_35 _ List.mem_cons_self
  | 36, _ => am_cwI_36 _ List.mem_cons_self
  | 37, _ => am_cwI_37 _ List.mem_cons_self
  | 38, _ => am_cwI_38 _ List.mem_cons_self
  | 39, _ => am_cwI_39 _ List.mem_cons_self
  | 40, _ => am_cwI_40 _ List.mem_cons_self
  | 41, _ => am_cwI_41 _ List.mem_cons_self
  | 42, _ => am_cwI_42 _ List.mem_cons_self
  | 43, _ => am_cwI_43 _ List.mem_cons_self
  | 44, _ => am_cwI_44 _ List.mem_cons_self
  | 45, _ => am_cwI_45 _ List.mem_cons_self
  | 46, _ => am_cwI_46 _ List.mem_cons_self
  | 47, _ => am_cwI_47 _ List.mem_cons_self
  | 48, _ => am_cwI_48 _ List.mem_cons_self
  | 49, _ => am_cwI_49 _ List.mem_cons_self
  | 50, _ => am_cwI_50 _ List.mem_cons_self
  | 51, _ => am_cwI_51 _ List.mem_cons_self
  | 52, _ => am_cwI_52 _ List.mem_cons_self
  | 53, _ => am_cwI_53 _ List.mem_cons_self
  | 54, _ => am_cwI_54 _ List.mem_cons_self
  | 55, _ => am_cwI_55 _ List.mem_cons_self
  | 56, _ => am_cwI_56 _ List.mem_cons_self
  | 57, _ => am_cwI_57 _ List.mem_cons_self
  | 58, _ => am_cwI_58 _ List.mem_cons_self
  | 59, _ => am_cwI_59 _ List.mem_cons_self
  | 60, _ => am_cwI_60 _ List.mem_cons_self
  | 61, _ => am_cwI_61 _ List.mem_cons_self
  | 62, _ => am_cwI_62 _ List.mem_cons_self
  | 63, _ => am_cwI_63 _ List.mem_cons_self
  | 64, _ => am_cwI_64 _ List.mem_cons_self
  | 65, _ => am_cwI_65 _ List.mem_cons_self
  | 66, _ => am_cwI_66 _ List.mem_cons_self
  | 67, _ => am_cwI_67 _ List.mem_cons_self
  | 68, _ => am_cwI_68 _ List.mem_cons_self
  | 69, _ => am_cwI_69 _ List.mem_cons_self
  | 70, _ => am_cwI_70 _ List.mem_cons_self
  | 71, _ => am_cwI_71 _ List.mem_cons_self
  | 72, _ => am_cwI_72 _ List.mem_cons_self
  | 73, _ => am_cwI_73 _ List.mem_cons_self
  | 74, _ => am_cwI_74 _ List.mem_cons_self
  | 75, _ => am_cwI_75 _ List.mem_cons_self
  | 76, _ => am_cwI_76 _ List.mem_cons_self
  | 77, _ => am_cwI_77 _ List.mem_cons_self
  | 78, _ => am_cwI_78 _ List.mem_cons_self
  | 79, _ => am_cwI_79 _ List.mem_cons_self
  | 80, _ => am_cwI_80 _ List.mem_cons_self
  | 81, _ => am_cwI_81 _ List.mem_cons_self
  | 82, _ => am_cwI_82 _ List.mem_cons_self
  | 83, _ => am_cwI_83 _ List.mem_cons_self
  | 84, _ => am_cwI_84 _ List.mem_cons_self
  | 85, _ => am_cwI_85 _ List.mem_cons_self
  | 86, _ => am_cwI_86 _ List.mem_cons_self
  | 87, _ => am_cwI_87 _ List.mem_cons_self
  | 88, _ => am_cwI_88 _ List.mem_cons_self
  | 89, _ => am_cwI_89 _ List.mem_cons_self
  | 90, _ => am_cwI_90 _ List.mem_cons_self
  | 91, _ => am_cwI_91 _ List.mem_cons_self
  | 92, _ => am_cwI_92 _ List.mem_cons_self
  | 93, _ => am_cwI_93 _ List.mem_cons_self
  | 94, _ => am_cwI_94 _ List.mem_cons_self
  | 95, _ => am_cwI_95 _ List.mem_cons_self
  | 96, _ => am_cwI_96 _ List.mem_cons_self
  | 97, _ => am_cwI_97 _ List.mem_cons_self
  | 98, _ => am_cwI_98 _ List.mem_cons_self
  | 99, _ => am_cwI_99 _ List.mem_cons_self
  | 100, _ => am_cwI_100 _ List.mem_cons_self
  | 101, _ => am_cwI_101 _ List.mem_cons_self
  | 102, _ => am_cwI_102 _ List.mem_cons_self
  | 103, _ => am_cwI_103 _ List.mem_cons_self
  | 104, _ => am_cwI_104 _ List.mem_cons_self
  | 105, _ => am_cwI_105 _ List.mem_cons_self
  | 106, _ => am_cwI_106 _ List.mem_cons_self
  | 107, _ => am_cwI_107 _ List.mem_cons_self
  | 108, _ => am_cwI_108 _ List.mem_cons_self
  | 109, _ => am_cwI_109 _ List.mem_cons_self
  | 110, _ => am_cwI_110 _ List.mem_cons_self
  | 111, _ => am_cwI_111 _ List.mem_cons_self
  | 112, _ => am_cwI_112 _ List.mem_cons_self
  | 113, _ => am_cwI_113 _ List.mem_cons_self
  | 114, _ => am_cwI_114 _ List.mem_cons_self
  | 115, _ => am_cwI_115 _ List.mem_cons_self
  | 116, _ => am_cwI_116 _ List.mem_cons_self
  | 117, _ => am_cwI_117 _ List.mem_cons_self
  | 118, _ => am_cwI_118 _ List.mem_cons_self
  | 119, _ => am_cwI_119 _ List.mem_cons_self
  | 120, _ => am_cwI_120 _ List.mem_cons_self
  | 121, _ => am_cwI_121 _ List.mem_cons_self
  | 122, _ => am_cwI_122 _ List.mem_cons_self
  | 123, _ => am_cwI_123 _ List.mem_cons_self
  | 124, _ => am_cwI_124 _ List.mem_cons_self
  | 125, _ => am_cwI_125 _ List.mem_cons_self
  | 126, _ => am_cwI_126 _ List.mem_cons_self
  | 127, _ => am_cwI_127 _ List.mem_cons_self
  | 128, _ => am_cwI_128 _ List.mem_cons_self
  | 129, _ => am_cwI_129 _ List.mem_cons_self
  | 130, _ => am_cwI_130 _ List.mem_cons_self
  | 131, _ => am_cwI_131 _ List.mem_cons_self
  | 132, _ => am_cwI_132 _ List.mem_cons_self
  | 133, _ => am_cwI_133 _ List.mem_cons_self
  | 134, _ => am_cwI_134 _ List.mem_cons_self
  | n + 135, h => absurd h (by omega)
def am_cG (q : (Nat × Nat) × (Nat × Nat × Nat)) : Bool := match q.2.1 with
  | 0 => decide (q.2.2.1 < 135) && (am_hh q.2.2.1).isEmpty && decide (am_own q.2.2.1 < 8) && decide ((am_y q.2.2.1).cls = am_CN (am_own q.2.2.1)) && decide ((parseMethodDescriptor (am_y q.2.2.1).desc).map (fun d => d.parameters.length) = some q.2.2.2)
  | 1 => decide (q.2.2.1 < 135) && (am_hh q.2.2.1).isEmpty && decide ((parseMethodDescriptor (am_y q.2.2.1).desc).map (fun d => d.parameters.length) = some q.2.2.2)
  | 2 => decide (q.2.2.1 < 135) && !(am_hh q.2.2.1).isEmpty && decide ((parseMethodDescriptor (am_y q.2.2.1).desc).map (fun d => d.parameters.length) = some q.2.2.2)
  | 3 => decide (q.2.2.1 < 135) && (am_hh q.2.2.1).isEmpty && decide ((am_y q.2.2.1).name = "<init>") && decide (am_ret q.2.2.1 = none) && decide ((parseMethodDescriptor (am_y q.2.2.1).desc).map (fun d => d.parameters.length) = some q.2.2.2)
  | 4 => decide (q.2.2.1 < 135) && (am_hh q.2.2.1).isEmpty && decide ((am_y q.2.2.1).name = "<init>") && decide (am_ret q.2.2.1 = none) && decide ((am_on q.1.1, q.1.2, am_y q.2.2.1) ∈ am_nw) && decide ((parseMethodDescriptor (am_y q.2.2.1).desc).map (fun d => d.parameters.length) = some q.2.2.2)
  | _ => true
theorem am_cT_ok : ∀ q ∈ am_cT, am_cG q = true := by decide +kernel
theorem am_yG : ∀ M, M < 136 → (am_y M).cls ≠ "java/lang/invoke/MethodHandle" ∧ (am_y M).cls ≠ "java/lang/invoke/VarHandle" ∧ am_nL M ≤ 20 := by decide +kernel
theorem am_yO : ∀ M, M < 136 → (am_y M).cls = am_on (am_own M) := by decide +kernel
theorem am_yP : ∀ M, M < 136 → _root_.Jvm.plainName (am_y M).cls = true := by decide +kernel
theorem am_xT_ok : ∀ q ∈ am_xT, Cond.classLink (am_on q.1.1) q.1.2 (am_en q.2) ∈ am_T ∧ q.2 < 3 ∧ q.1.2 ≠ 0 := by decide +kernel
def am_nms (E : Nat) : List String := match E with
  | 2 => ["java/lang/IndexOutOfBoundsException", "java/lang/RuntimeException", "java/lang/Exception"]
  | _ => ["java/lang/RuntimeException", "java/lang/Exception"]
theorem am_iT_own : ∀ q ∈ am_iT, q.1.1 = 6 ∧ q.2 < 3 := by decide +kernel
theorem am_iT_at : ∀ q ∈ am_iT, ∀ w ∈ vx_atS (am_on q.1.1) q.1.2 (am_en q.2) (am_nms q.2), w ∈ am_T ∨ w ∈ am_bw ∨ w ∈ am_dw.map Cond.declares := by decide +kernel
theorem am_iT_good : ∀ q ∈ am_iT, ∀ w ∈ vx_atS (am_on q.1.1) q.1.2 (am_en q.2) (am_nms q.2), vx_ot w = true := by decide +kernel
theorem am_sT_ok : ∀ q ∈ am_sT, q.1 = 6 ∧ ∃ t, (q.2, t) ∈ am_sR := by
  intro q hq
  have h : ∀ q ∈ am_sT, q.1 = 6 ∧ q.2 ∈ am_sR.map Prod.fst := by decide +kernel
  refine ⟨(h q hq).1, ?_⟩
  obtain ⟨x, hx, he⟩ := List.mem_map.mp (h q hq).2
  exact ⟨x.2, by rw [← he]; exact hx⟩
theorem am_en_ok : ∀ E, E < 3 → Bundle.fit (am_en E) = true ∧ (∀ n ∈ am_nms E, Bundle.fit n = true) ∧ Cond.initialized (am_en E) ∈ am_T ∧ am_en E ∈ am_ens ∧ (am_nms E).length ≤ 3 ∧ Cond.castable (am_en E) (am_en E) ∈ am_bw := by decide +kernel
theorem am_en_ne : ∀ E, E < 3 → ∀ F, F < 3 → E ≠ F → am_en E ≠ am_en F := by decide +kernel
end
section
/-! soundness, fourth part: returns, throws, calls; the whole -/
def am_Q (G : am_Ev) (r : am_R) : Array Value → State → Outcome → State → Prop := fun _ st o t => match r.1 with
  | .inl v => o = .returned v ∧ am_P G r.2 t.heap ∧ va_F (am_A G.2.2.1) st t
  | .inr _ => False
def am_XC (G : am_Ev) (r : am_R) : String → State → State → Prop := fun E st t => match r.1 with
  | .inl _ => False
  | .inr x => E = am_en x ∧ x < 3 ∧ am_P G r.2 t.heap ∧ va_F (am_A G.2.2.1) st t
def am_Pc (G : am_Ev) (As : List Value) (σ : am_S) : Array Value → State → Prop := va_Pc As (fun U => am_G G U ∧ am_P G σ U.heap)
def am_rm (M mc ms : Nat) : Room := { frames := am_fr M, cells := mc, slots := ms, locals := 500 * am_fr M }
theorem am_goodT {w : Cond} (h : w ∈ am_T) : (w.onTables && w.keeps) = true ∨ ∃ ty, w = .arrayClass ty := good_of_word (List.mem_filter.mp h).2
theorem am_goodW {M : Nat} (h : M < 135) : GoodIn am_T (am_cw M :: am_T) := fun w hw => by
  rcases List.mem_cons.mp hw with rfl | hw
  · exact ⟨am_cw_in M h, am_goodT (am_cw_in M h)⟩
  · exact ⟨hw, am_goodT hw⟩
theorem am_goodC {M : Nat} {ws : List Cond} (h : M < 135) (hw : ∀ w ∈ ws, w ∈ am_T) : GoodIn am_T (ws ++ (am_cw M :: am_T)) := fun w h1 => by
  rcases List.mem_append.mp h1 with h2 | h2
  · exact ⟨hw w h2, am_goodT (hw w h2)⟩
  · exact am_goodW h w h2
theorem am_hM {M : Nat} (h : M < 136) {l : Launch} {ws' : List Cond} {rm : Room} {Pc : Array Value → State → Prop} {Qc : Array Value → State → Outcome → State → Prop} {XC : String → State → State → Prop} {mc ms : Nat} {free : Addr → Prop} (he : am_hh M = [])
    (body : ∀ p e s m args below meth c s₁, BodyLoose p l (am_y M) (headSpec (am_cw M :: ws') rm) (am_cod M) (am_nL M) (am_ret M) e s m args below meth c s₁ → c.maxLocals = am_nL M → (∀ x ∈ c.exceptionTable.toList, False) → Pc args s →
      W p l e (headSpec (am_cw M :: ws') rm).room s m args below meth c s.heap [] 0 0 (vx_MQ below Qc XC args s mc ms free) (entryFrame m args (am_nL M))) : vx_Met l (am_y M) (am_cw M :: ws') rm Pc Qc XC mc ms free :=
  vx_ofW (ws' := ws') (am_yP M h) (by rw [am_cw, he]; rfl) body
theorem am_hMW {M : Nat} (h : M < 136) {l : Launch} {ws' : List Cond} {rm : Room} {Pc : Array Value → State → Prop} {Qc : Array Value → State → Outcome → State → Prop} {XC : String → State → State → Prop} {mc ms : Nat} {free : Addr → Prop} (he : am_hh M ≠ [])
    (body : ∀ p e s m args below meth c s₁, BodyLoose p l (am_y M) (headSpec (am_cw M :: ws') rm) (am_cod M) (am_nL M) (am_ret M) e s m args below meth c s₁ → c.maxLocals = am_nL M → Pc args s →
      W p l e (headSpec (am_cw M :: ws') rm).room s m args below meth c s.heap [] 0 0 (vx_MQ below Qc XC args s mc ms free) (entryFrame m args (am_nL M))) : vx_Met l (am_y M) (am_cw M :: ws') rm Pc Qc XC mc ms free :=
  vx_ofWH (ws' := ws') (hh := am_hh M) (am_yP M h) (by rw [am_cw, if_neg (by simpa using he)]) body
def am_rel (σ σ' : am_S) : Prop := σ.2.2.1 ≤ σ'.2.2.1 ∧ σ.2.2.2 ≤ σ'.2.2.2 ∧ (σ'.2.1 ≠ 0 → σ.2.1 ≠ 0 ∧ σ'.2.1 + σ.2.2.1 = σ.2.1 + σ'.2.2.1)
theorem am_rel.rf (σ : am_S) : am_rel σ σ := ⟨Nat.le_refl _, Nat.le_refl _, fun h => ⟨h, rfl⟩⟩
theorem am_rel.tr {a b c : am_S} (h : am_rel a b) (g : am_rel b c) : am_rel a c := by
  obtain ⟨h1, h2, h3⟩ := h
  obtain ⟨g1, g2, g3⟩ := g
  refine ⟨Nat.le_trans h1 g1, Nat.le_trans h2 g2, fun hc => ?_⟩
  obtain ⟨x1, x2⟩ := g3 hc
  obtain ⟨y1, y2⟩ := h3 x1
  exact ⟨y1, by omega⟩
theorem am_rel.eq {σ σ' : am_S} (h : σ'.2 = σ.2) : am_rel σ σ' := by
  unfold am_rel
  rw [h]
  exact ⟨Nat.le_refl _, Nat.le_refl _, fun h => ⟨h, rfl⟩⟩
theorem am_rel.mk {σ : am_S} {f : Nat → Option va_E} {n : Nat} (h : σ.2.1 ≠ 0) : am_rel σ (f, σ.2.1 + 1, σ.2.2.1 + 1, σ.2.2.2 + n) := ⟨Nat.le_succ _, Nat.le_add_right _ _, fun _ => ⟨h, by show σ.2.1 + 1 + σ.2.2.1 = σ.2.1 + (σ.2.2.1 + 1); omega⟩⟩
set_option maxHeartbeats 4000000 in
theorem am_i2_rel {M len pc pc' : Nat} {i : Instr} {st st' : List Value} {σ σ' : am_S} (h : am_i2 M i len pc st σ = some (pc', st', σ')) : am_rel σ σ' := by
  unfold am_i2 at h
  repeat' split at h
  all_goals first
    | (cases h; done)
    | (cases h; exact am_rel.rf _)
    | (cases h; exact am_rel.eq rfl)
    | (cases h; exact am_rel.mk (by assumption))
    | (cases h; exact am_rel.mk (by rename_i hh; exact fun z => hh (Or.inl z)))
def am_xr (σ : am_S) (x : am_C ⊕ am_R) : Prop := match x with
  | .inl c => c.2.2.2.2 = σ
  | .inr r => r.2 = σ
def am_nr (σ : am_S) (M pc : Nat) (ls : List Value) (x : am_N) : Prop := match x with
  | .inl c => am_rel σ c.2.2.2.2
  | .inr (.inl r) => am_rel σ r.2
  | .inr (.inr (c, k)) => c.2.2.2.2 = σ ∧ ∃ ini rest, k = am_k ini M pc ls rest
theorem am_ct_rel {M pc : Nat} {ls : List Value} {E : Nat} {σ : am_S} : ∀ {hs : List (Nat × Nat × Nat × Nat)} {x : am_C ⊕ am_R}, am_ct M pc ls E σ hs = some x → am_xr σ x
  | [], x, h => by cases h; rfl
  | (a, b, hd, t) :: r, x, h => by
    unfold am_ct at h
    split at h
    · split at h
      · split at h
        · split at h
          · split at h
            · cases h; rfl
            · cases h
          · split at h
            · cases h; rfl
            · cases h
          · cases h
        · exact am_ct_rel h
      · cases h
    · exact am_ct_rel h
theorem am_k_rel {ini : Bool} {M pc : Nat} {ls rest : List Value} {r : am_R} {x : am_C ⊕ am_R} (h : am_k ini M pc ls rest r = some x) : am_xr r.2 x := by
  obtain ⟨o, σ⟩ := r
  cases o with
  | inl v => cases h; rfl
  | inr E =>
    have h' : (if ini = true then none else am_ct M pc ls E σ (am_hh M)) = some x := h
    by_cases hi : ini = true
    · rw [if_pos hi] at h'; cases h'
    · rw [if_neg hi] at h'
      exact am_ct_rel h'
theorem am_call_rel {ini : Bool} {M pc M' : Nat} {ls rest As : List Value} {σ : am_S} {x : am_N} (h : am_call ini M pc ls rest M' As σ = some x) : am_nr σ M pc ls x := by
  unfold am_call at h
  obtain ⟨-, h⟩ := am_ifS h
  cases h
  exact ⟨rfl, _, _, rfl⟩
set_option maxHeartbeats 4000000 in
/-- the three ways of a step -/
theorem am_i3_rel {M len pc : Nat} {i : Instr} {ls st : List Value} {σ : am_S} {x : am_N} (h : am_i3 M i len pc ls st σ = some x) : am_nr σ M pc ls x := by
  unfold am_i3 at h
  repeat' split at h
  all_goals first
    | (cases h; done)
    | exact am_call_rel h
    | (cases h; exact am_rel.rf _)
    | (cases h; exact ⟨Nat.le_succ _, Nat.le_add_right _ _, fun z => absurd rfl z⟩)
theorem am_step_rel {c : am_C} {x : am_N} (h : am_step c = some x) : am_nr c.2.2.2.2 c.1 c.2.1 c.2.2.1 x := by
  obtain ⟨M, pc, ls, st, σ⟩ := c
  unfold am_step at h
  dsimp only at h
  split at h
  · split at h
    · cases h; exact am_rel.rf _
    · split at h
      · rename_i h2
        cases h; exact am_i2_rel h2
      · exact am_i3_rel h
  · cases h
theorem am_ex_rel : ∀ (n : Nat) (c : am_C) (r : am_R), am_ex n c = some r → am_rel c.2.2.2.2 r.2 := by
  intro n
  induction n with
  | zero => intro c r h; simp [am_ex] at h
  | succ n ih =>
    intro c r h
    rw [am_ex] at h
    cases hs : am_step c with
    | none => simp [hs] at h
    | some x =>
      have hr := am_step_rel hs
      rw [hs] at h
      match x, h, hr with
      | .inl c', h, hr => exact hr.tr (ih _ _ h)
      | .inr (.inl r'), h, hr => cases h; exact hr
      | .inr (.inr (c', k)), h, hr =>
        dsimp only at h hr
        obtain ⟨hr1, ini, rest, hr2⟩ := hr
        cases h1 : am_ex n c' with
        | none => simp [h1] at h
        | some r1 =>
          rw [h1] at h
          dsimp only at h
          have q1 := ih _ _ h1
          rw [hr1] at q1
          cases h2 : k r1 with
          | none => simp [h2] at h
          | some y =>
            rw [h2] at h
            rw [hr2] at h2
            have q2 := am_k_rel h2
            match y, h, q2 with
            | .inl c2, h, q2 =>
              have q3 := ih _ _ h
              have q2 : c2.2.2.2.2 = r1.2 := q2
              rw [q2] at q3
              exact q1.tr q3
            | .inr r2, h, q2 =>
              cases h
              have q2 : r.2 = r1.2 := q2
              rw [q2]
              exact q1
end
section
/-! soundness, fifth part: entries, contracts, catches, the whole -/
theorem am_lg {As : List Value} (h : ∀ v ∈ As, v.category = 1) : lg_sl As = As.map Slot.val := by
  induction As with
  | nil => rfl
  | cons a t ih =>
    have h1 : a.category = 1 := h a List.mem_cons_self
    have h2 := ih (fun v hv => h v (List.mem_cons_of_mem _ hv))
    unfold lg_sl at h2 ⊢
    rw [List.flatMap_cons, h2, if_neg (by rw [h1]; decide)]
    rfl
theorem am_L_entry {As : List Value} {n : Nat} (hn : As.length ≤ n) (hc : ∀ v ∈ As, v.category = 1) : am_L (As ++ List.replicate (n - As.length) am_jk) ((lg_sl As ++ List.replicate (n - (lg_sl As).length) Slot.unset).toArray) n := by
  have hsl := am_lg hc
  have hlen : (lg_sl As).length = As.length := by rw [hsl, List.length_map]
  have hv := lv_entry As (n := n) (by rw [hlen]; exact hn)
  refine ⟨by simp; omega, hv.1, hv.2.1, fun i v hi hj => ?_⟩
  by_cases h1 : i < As.length
  · rw [List.getElem?_append_left h1] at hi
    refine ⟨?_, hc v (List.mem_of_getElem? hi)⟩
    rw [List.getElem?_toArray, List.getElem?_append_left (by rw [hlen]; exact h1), hsl, List.getElem?_map, hi]
    rfl
  · rw [List.getElem?_append_right (by omega)] at hi
    have := List.mem_of_getElem? hi
    exact absurd (List.eq_of_mem_replicate this) hj
theorem am_setjk {ls : List Value} {k j : Nat} {v w : Value} (hj : (ls.set k am_jk)[j]? = some v) (hv : v ≠ am_jk) : (ls.set k w)[j]? = some v := by
  by_cases hjk : k = j
  · subst hjk
    by_cases hk : k < ls.length
    · rw [List.getElem?_set_self hk] at hj
      cases hj
      exact absurd rfl hv
    · rw [List.getElem?_eq_none (by rw [List.length_set]; omega)] at hj
      cases hj
  · rw [List.getElem?_set_ne hjk] at hj ⊢
    exact hj
theorem am_castW {a b : String} {s U : State} (hW : s.WarmedH U.vm) (h : va_Nw (.castable a b) s) : va_Nw (.castable a b) U := va_tabs rfl (rfl : (s.setVm U.vm).vm = U.vm) (by rw [Cond.castable_setVm hW.alike]; exact h)
theorem am_G.mv {G : am_Ev} {s U : State} {locs : List Loc} (h : am_G G s) (hW : s.WarmedH U.vm) (hS : va_S (am_A G.2.2.1) s.heap U.heap locs) : am_G G U := by
  obtain ⟨h1, h2, h3, h4, h5, h6, h7, h8, h9, h10, h11, h12⟩ := h
  have hq : ∀ a : Nat, a < s.heap.size → ¬ am_A G.2.2.1 a → U.heap[a]? = s.heap[a]? := hS.2.1
  refine ⟨va_K.moved hW.alike h1, va_X.moved hW.alike (va_X.kept h2 (hq _ (Nat.lt_of_lt_of_le h3 h4) (Nat.not_le.mpr h3))), h3, Nat.le_trans h4 hS.1, vx_Zq.moved hW.alike (vx_Zq.kept h5 hq), vx_Zq.moved hW.alike (vx_Zq.kept h6 hq), va_AO.moved hW.alike h7, fun w hw => ?_,
    fun w hw => va_Nw.warmD hW (h9 w hw), fun q hq => va_Nw.warmM hW (h10 q hq), fun q hq => vk_R.warm hW (h11 q hq), fun a ha b hb hab => va_Nc.moved hW.alike (h12 a ha b hb hab)⟩
  have h8' := h8 w hw
  simp only [am_bw, List.mem_cons, List.not_mem_nil, or_false] at hw
  rcases hw with rfl | rfl | rfl <;> exact am_castW hW h8'
theorem am_blind {G : am_Ev} {As : List Value} {σ : am_S} : FrameBlind (am_Pc G As σ) := fun a U g mk h => by
  obtain ⟨h1, h2, h3⟩ := h
  exact ⟨h1, am_G.mv (U := U.calling g mk a) (locs := []) h2 (State.WarmedH.refl U) ⟨Nat.le_refl _, fun _ _ _ => rfl, fun _ h => nomatch h⟩, h3⟩
theorem am_pre {G : am_Ev} {As : List Value} {σ : am_S} {s : State} {H : Heap} {locs : List Loc} (hG : am_G G s) (hP : am_P G σ H) (hS : va_S (am_A G.2.2.1) s.heap H locs) : ∀ U : State, U.heap = H → s.WarmedH U.vm → am_Pc G As σ As.toArray U := fun U hU hW =>
  ⟨rfl, am_G.mv (locs := locs) hG hW (by rw [hU]; exact hS), by rw [hU]; exact hP⟩
section
variable {p : Program} {l : Launch} {e : Env} {R : Room} {s : State} {m : MethodId} {args : Array Value} {below : List Frame} {meth : Method} {c : Code} {H : Heap} {locs : List Loc} {cells slots : Nat} {Q : State → Prop}
theorem am_vxm {y : MethodName} {ws : List Cond} {rm : Room} {Pc : Array Value → State → Prop} {Qc : Array Value → State → Outcome → State → Prop} {XC : String → State → State → Prop} {mc ms : Nat} {free : Addr → Prop} (h : vx_Met l y ws rm Pc Qc XC mc ms free) (hx : ∀ E st t, ¬ XC E st t) : Met l y ws rm Pc Qc mc ms free := by
  intro p e ha hc hk s m args below hf hap hP hK
  obtain ⟨n, o, h1, h2, h3, h4⟩ := h p e ha hc hk s m args below hf hap hP hK
  refine ⟨n, o, h1, h2, h3, ?_⟩
  rcases h4 with h4 | ⟨q, -, E, ce, L, hX, -⟩
  · exact h4
  · exact absurd hX (hx _ _ _)
theorem am_vxr {mc ms : Nat} {g : JFrame} {rest : List Value} {Qa : State → Outcome → State → Prop} {XC : String → State → State → Prop} {free : Addr → Prop} (h : va_Run p l e R s m args below meth c H locs cells slots mc ms g rest Qa free) : vx_Run p l e R s m args below meth c H locs cells slots mc ms g rest Qa XC free :=
  fun T hT X => Or.inl (h T hT X)
/-- behind a call -/
theorem am_cont {G : am_Ev} {r : am_R} {mc ms pc : Nat} {Ls : Array Slot} {st0 rest : List Value} {a : Array Value} (hr : vx_Run p l e R s m args below meth c H locs cells slots mc ms (F0 m pc Ls st0) rest (am_Q G r a) (am_XC G r) (am_A G.2.2.1)) (hS : va_S (am_A G.2.2.1) s.heap H locs)
    (kk : ∀ (v : Option Value) (σ' : am_S), r = (.inl v, σ') → ∀ (H' : Heap) (locs' : List Loc), am_P G σ' H' → va_S (am_A G.2.2.1) s.heap H' locs' → W p l e R s m args below meth c H' locs' (cells + mc) (slots + ms) Q (F0 m (pc + 3) Ls (v.toList ++ rest)))
    (kx : ∀ (E : Nat) (σ' : am_S), r = (.inr E, σ') → E < 3 → ∀ (H' : Heap) (locs' : List Loc) (q : Addr) (ce : Cell), am_P G σ' H' → va_S (am_A G.2.2.1) s.heap H' locs' → H'[q]? = some ce → ce.vm = .none → s.vm.findClass (am_en E) = some ce.cls → vx_W p l e R s m args below meth c H' locs' (cells + mc) (slots + ms) Q (F0 m pc Ls rest) q) :
    W p l e R s m args below meth c H locs cells slots Q (F0 m pc Ls st0) := by
  intro T hT X
  rcases hr T hT X with ⟨v, st₀, t, T', L, h0, X', hL, e1, e2, hq, st⟩ | ⟨q, st₀, t, T', L, E, ce, h0, X', hL, e1, e2, hq, hce, hcv, hcl, st⟩
  · obtain ⟨o, σ'⟩ := r
    cases o with
    | inr E => exact hq.elim
    | inl v' =>
      obtain ⟨hv, hP', hF⟩ := hq
      cases hv
      obtain ⟨k1, k2, k3⟩ := vx_keep h0 e1 hS (fun q _ h => h) (fun q h => h) hL hF
      obtain ⟨t2, a1, b1⟩ := kk v σ' rfl T'.heap (locs ++ L) (by rw [e1]; exact hP') k3 T' rfl X'
      exact ⟨t2, st t2 a1, b1⟩
  · obtain ⟨o, σ'⟩ := r
    cases o with
    | inl v => exact hq.elim
    | inr E' =>
      obtain ⟨rfl, hE, hP', hF⟩ := hq
      obtain ⟨k1, k2, k3⟩ := vx_keep h0 e1 hS (fun q _ h => h) (fun q h => h) hL hF
      obtain ⟨t2, a1, b1⟩ := kx E' σ' rfl hE T'.heap (locs ++ L) q ce (by rw [e1]; exact hP') k3 (by rw [e1]; exact hce) hcv hcl T' rfl X'
      exact ⟨t2, st.trans a1, b1⟩
theorem am_covers {a b h t pc : Nat} : covers ⟨a, b, h, t⟩ pc = true ↔ a ≤ pc ∧ pc < b := by simp [covers]
/-- what is thrown, at the table of the method -/
theorem am_ctS {G : am_Ev} {M pc E : Nat} {ls rest : List Value} {σ : am_S} {Ls : Array Slot} {q : Addr} {ce : Cell} {Qc : Array Value → State → Outcome → State → Prop} {XC : String → State → State → Prop} {mc ms : Nat}
    (hX : am_X M p l R s m args meth c) (hG : am_G G s) (hE : E < 3) (hL : am_L ls Ls (am_nL M)) (hcell : H[q]? = some ce) (hv : ce.vm = .none) (hcl : s.vm.findClass (am_en E) = some ce.cls) (hS : va_S (am_A G.2.2.1) s.heap H locs) (hmc : cells ≤ mc) (hms : slots ≤ ms) (hP : am_P G σ H) :
    ∀ (hs pre : List (Nat × Nat × Nat × Nat)), am_hh M = pre ++ hs → (∀ z ∈ tableOf pre, covers z pc = false ∨ (z.catchType ≠ 0 ∧ ∃ nm : String, (Cond.classLink (am_on (am_own M)) z.catchType nm).before args s = true ∧ va_Nc (am_en E) nm s)) → ∀ x : am_C ⊕ am_R, am_ct M pc ls E σ hs = some x →
    (∀ r, x = .inr r → XC = am_XC G r) →
    (∀ M' pc' ls' st' σ', x = .inl (M', pc', ls', st', σ') → M' = M ∧ σ' = σ ∧ ∀ Ls', am_L ls' Ls' (am_nL M) → W p l e R s m args below meth c H locs cells slots (vx_MQ below Qc XC args s mc ms (am_A G.2.2.1)) (F0 m pc' Ls' st')) →
    vx_W p l e R s m args below meth c H locs cells slots (vx_MQ below Qc XC args s mc ms (am_A G.2.2.1)) (F0 m pc Ls rest) q := by
  obtain ⟨hx, hb, -, hml, hown, hts, hlocks, htab, -⟩ := hX
  intro hs
  induction hs with
  | nil =>
    intro pre hpre hpass x h kr kc
    cases h
    have := kr _ rfl
    subst this
    exact vx_outP hown hlocks (by rw [htab, hpre, List.append_nil]; exact hpass) hcell hv hcl (fun t ht _ => ⟨rfl, hE, by rw [ht]; exact hP, hS.F ht⟩) hS.2.2 hmc hms
  | cons y r ih =>
    obtain ⟨a, b, hp, t⟩ := y
    intro pre hpre hpass x h kr kc
    have hsplit : am_hh M = (pre ++ [(a, b, hp, t)]) ++ r := by rw [hpre]; simp
    unfold am_ct at h
    split at h
    · rename_i hcov
      split at h
      · rename_i E' hlk
        obtain ⟨w1, w2, w3⟩ := am_xT_ok _ (am_lk hlk)
        split at h
        · rename_i hEE
          subst hEE
          have hcast : (Cond.castable (am_en E') (am_en E')).before args s = true := va_Nw.use rfl (hG.2.2.2.2.2.2.2.1 _ (am_en_ok E' w2).2.2.2.2.2)
          refine vx_catch (own := am_on (am_own M)) (name := am_en E') hown (tableOf pre) ⟨a, b, hp, t⟩ (tableOf r) (by rw [htab, hpre]; simp [tableOf]) hpass (am_covers.mpr hcov) w3 (hts _ w1) hcast hcell hv hcl ?_
          split at h
          · rename_i k hdk
            obtain ⟨hk, h⟩ := am_ifS h
            cases h
            obtain ⟨-, -, kc⟩ := kc _ _ _ _ _ rfl
            exact lv_astore_n hx hb hdk rfl hL.has (Nat.lt_of_lt_of_le hk hL.1) rfl (fun Ls' h' => kc Ls' (by
              have h1 := hL.set (x := .ref q) rfl h'
              obtain ⟨g1, g2, g3, g4⟩ := h1
              refine ⟨by simpa using g1, g2, g3, fun j v hj hv => ?_⟩
              refine g4 j v ?_ hv
              exact am_setjk hj hv))
          · rename_i k hdk
            obtain ⟨hk, h⟩ := am_ifS h
            cases h
            obtain ⟨-, -, kc⟩ := kc _ _ _ _ _ rfl
            exact lv_astore hx hb hdk hL.has (Nat.lt_of_lt_of_le hk hL.1) rfl (fun Ls' h' => kc Ls' (by
              have h1 := hL.set (x := .ref q) rfl h'
              obtain ⟨g1, g2, g3, g4⟩ := h1
              refine ⟨by simpa using g1, g2, g3, fun j v hj hv => ?_⟩
              refine g4 j v ?_ hv
              exact am_setjk hj hv))
          · cases h
        · rename_i hEE
          refine ih (pre ++ [(a, b, hp, t)]) hsplit (fun z hz => ?_) x h kr kc
          rw [show tableOf (pre ++ [(a, b, hp, t)]) = tableOf pre ++ [⟨a, b, hp, t⟩] by simp [tableOf]] at hz
          rcases List.mem_append.mp hz with hz | hz
          · exact hpass z hz
          · rw [List.mem_singleton] at hz
            subst hz
            exact Or.inr ⟨w3, am_en E', hts _ w1, hG.2.2.2.2.2.2.2.2.2.2.2 _ (am_en_ok E hE).2.2.2.1 _ (am_en_ok E' w2).2.2.2.1 (am_en_ne E hE E' w2 (fun z => hEE z.symm))⟩
      · cases h
    · rename_i hcov
      refine ih (pre ++ [(a, b, hp, t)]) hsplit (fun z hz => ?_) x h kr kc
      rw [show tableOf (pre ++ [(a, b, hp, t)]) = tableOf pre ++ [⟨a, b, hp, t⟩] by simp [tableOf]] at hz
      rcases List.mem_append.mp hz with hz | hz
      · exact hpass z hz
      · rw [List.mem_singleton] at hz
        subst hz
        refine Or.inl ?_
        cases hcv : covers (⟨a, b, hp, t⟩ : ExceptionTableEntry) pc with
        | false => rfl
        | true => exact absurd (am_covers.mp hcv) hcov
/-- returns and throws -/
theorem am_s3 {G : am_Ev} {M pc len k0 s0 : Nat} {i : Instr} {ls st : List Value} {σ : am_S} {r : am_R} {Ls : Array Slot} (hM : M < 136) (hX : am_X M p l R s m args meth c) (hG : am_G G s) (hd : decode (am_cod M) pc = .ok (i, len)) (h : am_i3 M i len pc ls st σ = some (.inr (.inl r))) (hP : am_P G σ H) (hS : va_S (am_A G.2.2.1) s.heap H locs) (hL : am_L ls Ls (am_nL M))
    (hk : k0 ≤ σ.2.2.1) (hs : s0 ≤ σ.2.2.2) (hR1 : r.2.2.2.1 - k0 ≤ R.cells) (hR2 : r.2.2.2.2 - s0 ≤ R.slots) :
    W p l e R s m args below meth c H locs (σ.2.2.1 - k0) (σ.2.2.2 - s0) (vx_MQ below (am_Q G r) (am_XC G r) args s (r.2.2.2.1 - k0) (r.2.2.2.2 - s0) (am_A G.2.2.1)) (F0 m pc Ls st) := by
  have hfp := am_fr_pos M hM
  obtain ⟨hx, hb, hr, hml, hown, hts, hlocks, htab, -, hfr, hlo, hl⟩ := hX
  have hnc : ∀ {ini : Bool} {rest : List Value} {M' : Nat} {As : List Value}, am_call ini M pc ls rest M' As σ = some (.inr (.inl r)) → False := by
    intro ini rest M' As h
    unfold am_call at h
    obtain ⟨-, h⟩ := am_ifS h
    cases h
  unfold am_i3 at h
  split at h
  · obtain ⟨⟨rfl, rfl, hn⟩, g⟩ := am_ifS h
    cases g
    exact vx_ret (W.vret hx hb (hr.trans hn) (fun t ht _ => ⟨rfl, by rw [ht]; exact hP, hS.F ht⟩) hS.2.2 hd hlocks)
  · obtain ⟨rfl, g⟩ := am_ifS h
    split at g
    · rename_i x hn
      cases g
      exact vx_ret (W.iret hx hb (hr.trans hn) (fun t ht _ => ⟨rfl, by rw [ht]; exact hP, hS.F ht⟩) hS.2.2 hd hlocks)
    · rename_i x hn
      obtain ⟨hx01, g2⟩ := am_ifS g
      cases g2
      exact vx_ret (W.zret hx hb (hr.trans hn) (by rcases hx01 with rfl | rfl <;> rfl) (fun t ht _ => ⟨rfl, by rw [ht]; exact hP, hS.F ht⟩) hS.2.2 hd hlocks)
    · cases g
  · obtain ⟨rfl, g⟩ := am_ifS h
    split at g
    · rename_i x o hn
      cases g
      exact vx_ret (W.aret hx hb (hr.trans hn) (Or.inl ⟨_, rfl⟩) (Or.inr ⟨_, rfl⟩) (fun t ht _ => ⟨rfl, by rw [ht]; exact hP, hS.F ht⟩) hS.2.2 hd hlocks)
    · cases g
  · obtain ⟨⟨rfl, hh, rfl, hd3, hd9⟩, g⟩ := am_ifS h
    split at g
    · rename_i E is ic hlk hd4 hd6
      obtain ⟨⟨hsT, hiT⟩, g2⟩ := am_ifS g
      cases g2
      obtain ⟨w1, w2, w3⟩ := am_xT_ok _ (am_lk hlk)
      obtain ⟨o6, -⟩ := am_iT_own _ (am_lk hiT)
      obtain ⟨-, tx, htx⟩ := am_sT_ok _ hsT
      obtain ⟨q1, q2, q3, q4, q5, q6⟩ := am_en_ok E w2
      have o6 : am_own M = 6 := o6
      have hon : am_on (am_own M) = RX6 := by rw [o6]; rfl
      have hat : ∀ w ∈ vx_atS (am_on (am_own M)) ic (am_en E) (am_nms E), w.before args s = true := fun w hw => by
        rcases am_iT_at _ (am_lk hiT) w hw with h1 | h1 | h1
        · exact hts w h1
        · have h2 := hG.2.2.2.2.2.2.2.1 w h1
          simp only [am_bw, List.mem_cons, List.not_mem_nil, or_false] at h1
          rcases h1 with rfl | rfl | rfl <;> exact va_Nw.use rfl h2
        · obtain ⟨y, hy, rfl⟩ := List.mem_map.mp h1
          exact va_Nw.use rfl (hG.2.2.2.2.2.2.2.2.1 y hy)
      have hgood : ∀ j : Nat, ∀ w ∈ Cond.classLink (am_on (am_own M)) j (am_en E) :: Cond.initialized (am_en E) :: vx_atS (am_on (am_own M)) ic (am_en E) (am_nms E), vx_ot w = true := fun j w hw => by
        rcases List.mem_cons.mp hw with rfl | hw
        · rfl
        · rcases List.mem_cons.mp hw with rfl | hw
          · rfl
          · exact am_iT_good _ (am_lk hiT) w hw
      have hstr : vk_R (am_on (am_own M)) is tx (G.2.2.2.2.2.2 is) s := by rw [hon]; exact hG.2.2.2.2.2.2.2.2.2.2.1 _ htx
      have e1 : σ.2.2.1 - k0 + 1 = σ.2.2.1 + 1 - k0 := by omega
      have e2 : σ.2.2.2 - s0 + 6 = σ.2.2.2 + 6 - s0 := by omega
      refine vx_throwS hx hb hl hown q1 q2 (hts _ w1) (hts _ q3) hstr hat (hgood _) hG.2.2.2.2.1 hG.2.2.2.2.2.1 hS (hL.2.1.trans hml.symm) hd hd3 hd4 hd6 hd9 (by rw [htab, hh]; intro x hx; cases hx) (by omega) (by show 0 + _ ≤ _; omega) (by rw [e1]; exact hR1) (by rw [e2]; exact hR2) hlocks
        (fun t hal hsz hk1 => ⟨rfl, w2, ?_, Nat.le_trans hS.1 hsz, fun q hq hn => (hk1 q (Nat.lt_of_lt_of_le hq hS.1)).trans (hS.2.1 q hq hn)⟩) hS.2.2 (by rw [e1]; exact Nat.le_refl _) (by rw [e2]; exact Nat.le_refl _)
      obtain ⟨ad, p1, p2, p3, -⟩ := hP
      exact ⟨ad, p1.kept (fun k x hx => hk1 x.1 ((p1 k x hx).lt)), p2, p3, fun z => absurd rfl z⟩
    · cases g
  · obtain ⟨rfl, g⟩ := am_ifS h
    repeat' split at g
    all_goals first
      | (cases g; done)
      | exact (hnc g).elim
  · obtain ⟨rfl, g⟩ := am_ifS h
    repeat' split at g
    all_goals first
      | (cases g; done)
      | exact (hnc g).elim
  · obtain ⟨rfl, g⟩ := am_ifS h
    repeat' split at g
    all_goals first
      | (cases g; done)
      | exact (hnc g).elim
  · cases h
end
section
variable {p : Program} {l : Launch} {e : Env} {R : Room} {s : State} {m : MethodId} {args : Array Value} {below : List Frame} {meth : Method} {c : Code} {H : Heap} {locs : List Loc} {cells slots : Nat} {Q : State → Prop}
theorem am_stk {n : Nat} {st rest : List Value} (h : st.drop n = rest) : st = (st.take n).reverse.reverse ++ rest := by
  rw [List.reverse_reverse, ← h, List.take_append_drop]
/-- a call, by the callee's contract -/
theorem am_run3 {G : am_Ev} {M pc len : Nat} {i : Instr} {ls st : List Value} {σ : am_S} {c' : am_C} {k : am_R → Option (am_C ⊕ am_R)} {Ls : Array Slot} (hX : am_X M p l R s m args meth c) (hG : am_G G s) (hd : decode (am_cod M) pc = .ok (i, len)) (h : am_i3 M i len pc ls st σ = some (.inr (.inr (c', k)))) (hP : am_P G σ H) (hS : va_S (am_A G.2.2.1) s.heap H locs) (hL : am_L ls Ls (am_nL M)) :
    ∃ (M' : Nat) (As rest : List Value) (ini : Bool), c' = (M', 0, As ++ List.replicate (am_nL M' - As.length) am_jk, [], σ) ∧ k = am_k ini M pc ls rest ∧ M' < 135 ∧ As.length ≤ am_nL M' ∧ (∀ v ∈ As, v.category = 1) ∧
      ∀ (r1 : am_R) (mc ms : Nat), (ini = true → ∃ (v : Option Value) (σ' : am_S), r1 = (.inl v, σ')) → vx_Met l (am_y M') (am_cw M' :: am_T) (am_rm M' mc ms) (am_Pc G As σ) (am_Q G r1) (am_XC G r1) mc ms (am_A G.2.2.1) → cells + mc ≤ R.cells → slots + ms ≤ R.slots →
        vx_Run p l e R s m args below meth c H locs cells slots mc ms (F0 m pc Ls st) rest (am_Q G r1 As.toArray) (am_XC G r1) (am_A G.2.2.1) := by
  obtain ⟨hx, hb, hr, hml, hown, hts, hlocks, htab, -, hfr, hlo, hl⟩ := hX
  have hK := hG.1
  have hsz : Ls.size = am_nL M := hL.2.1
  unfold am_i3 at h
  split at h
  · obtain ⟨-, g⟩ := am_ifS h; cases g
  · obtain ⟨-, g⟩ := am_ifS h
    repeat' split at g
    all_goals cases g
  · obtain ⟨-, g⟩ := am_ifS h
    repeat' split at g
    all_goals cases g
  · obtain ⟨-, g⟩ := am_ifS h
    repeat' split at g
    all_goals cases g
  · obtain ⟨rfl, g⟩ := am_ifS h
    clear h
    split at g
    · rename_i M' n hlk
      split at g
      · rename_i b rest hdr
        split at g
        · rename_i cj fs hb1
          obtain ⟨⟨rfl, hn⟩, g2⟩ := am_ifS g
          unfold am_call at g2
          obtain ⟨⟨hf1, hr4, hlen, hcat⟩, g3⟩ := am_ifS g2
          cases g3
          have hck := am_cT_ok _ (am_lk hlk)
          simp only [am_cG, Bool.and_eq_true, decide_eq_true_eq] at hck
          obtain ⟨⟨⟨⟨c1, c2⟩, c3⟩, c4⟩, c5⟩ := hck
          have hw := am_cT_in _ (am_lk hlk)
          obtain ⟨y1, y2, y3⟩ := am_yG M' (by omega)
          obtain ⟨ws, hPw, hDw, hwr⟩ := hP.at
          obtain ⟨kq, hkq, -⟩ := hwr b _ hb1 (am_tk_r _)
          refine ⟨M', _, rest, false, rfl, rfl, c1, hlen, hcat, fun r1 mc ms _ hM hc hs => ?_⟩
          exact vx_runV (C := am_CN (am_own M')) ⟨hx, hb, hml, hown, hts⟩ hM (cwV n hts (am_goodC c1 (fun w hwm => hw w (by rw [← c4] at hwm; exact hwm))) (by rw [am_cw, if_pos c2]) rfl rfl ⟨c4, y1, y2, c5⟩ ⟨by show am_fr M' + 1 ≤ _; omega, by show _ + 500 * am_fr M' ≤ _; omega⟩)
            ⟨am_blind, va_recv hK hPw (am_cl_at c3) hkq, am_pre hG hP hS⟩ rfl (by rw [List.length_reverse]; exact hn) hsz (am_stk hdr) (lv_room (am_cat hr4)) hd ⟨hc, hs⟩
        · cases g
      · cases g
    · cases g
  · obtain ⟨rfl, g⟩ := am_ifS h
    clear h
    split at g
    · rename_i M' n hlk
      obtain ⟨hn, g2⟩ := am_ifS g
      unfold am_call at g2
      obtain ⟨⟨hf1, hr4, hlen, hcat⟩, g3⟩ := am_ifS g2
      cases g3
      have hck := am_cT_ok _ (am_lk hlk)
      simp only [am_cG, Bool.and_eq_true, decide_eq_true_eq] at hck
      obtain ⟨⟨c1, c2⟩, c5⟩ := hck
      have hw := am_cT_in _ (am_lk hlk)
      obtain ⟨y1, y2, y3⟩ := am_yG M' (by omega)
      refine ⟨M', _, _, false, rfl, rfl, c1, hlen, hcat, fun r1 mc ms _ hM hc hs => ?_⟩
      exact vx_runS ⟨hx, hb, hml, hown, hts⟩ hM (va_cwS n hts (am_goodC c1 hw) (by rw [am_cw, if_pos c2]) rfl rfl ⟨y1, y2, c5⟩ ⟨by show am_fr M' + 1 ≤ _; omega, by show _ + 500 * am_fr M' ≤ _; omega⟩)
        ⟨am_blind, am_pre hG hP hS⟩ rfl (by rw [List.length_reverse]; exact hn) hsz (am_stk rfl) (lv_room (am_cat hr4)) hd ⟨hc, hs⟩
    · rename_i M' n hlk
      obtain ⟨hn, g2⟩ := am_ifS g
      unfold am_call at g2
      obtain ⟨⟨hf1, hr4, hlen, hcat⟩, g3⟩ := am_ifS g2
      cases g3
      have hck := am_cT_ok _ (am_lk hlk)
      simp only [am_cG, Bool.and_eq_true, decide_eq_true_eq] at hck
      obtain ⟨⟨c1, c2⟩, c5⟩ := hck
      have hw := am_cT_in _ (am_lk hlk)
      obtain ⟨y1, y2, y3⟩ := am_yG M' (by omega)
      refine ⟨M', _, _, false, rfl, rfl, c1, hlen, hcat, fun r1 mc ms _ hM hc hs => ?_⟩
      exact vx_runSX (hh := am_hh M') ⟨hx, hb, hml, hown, hts⟩ hM (vx_cwSW n hts (am_goodC c1 hw) (by rw [am_cw, if_neg (by intro z; rw [z] at c2; cases c2)]) rfl rfl ⟨y1, y2, c5⟩ ⟨by show am_fr M' + 1 ≤ _; omega, by show _ + 500 * am_fr M' ≤ _; omega⟩)
        ⟨am_blind, am_pre hG hP hS⟩ rfl (by rw [List.length_reverse]; exact hn) hsz (am_stk rfl) (lv_room (am_cat hr4)) hd ⟨hc, hs⟩
    · cases g
  · obtain ⟨rfl, g⟩ := am_ifS h
    clear h
    split at g
    · rename_i M' n hlk
      split at g
      · rename_i b rest hdr
        obtain ⟨hn, g2⟩ := am_ifS g
        unfold am_call at g2
        obtain ⟨⟨hf1, hr4, hlen, hcat⟩, g3⟩ := am_ifS g2
        cases g3
        have hck := am_cT_ok _ (am_lk hlk)
        simp only [am_cG, Bool.and_eq_true, decide_eq_true_eq] at hck
        obtain ⟨⟨⟨⟨c1, c2⟩, c3⟩, c4⟩, c5⟩ := hck
        have hw := am_cT_in _ (am_lk hlk)
        obtain ⟨y1, y2, y3⟩ := am_yG M' (by omega)
        refine ⟨M', _, rest, true, rfl, rfl, c1, hlen, hcat, fun r1 mc ms hi hM hc hs => ?_⟩
        obtain ⟨v, σ', rfl⟩ := hi rfl
        exact am_vxr (va_runI ⟨hx, hb, hml, hown, hts⟩ (am_vxm hM (fun _ _ _ h => h)) (cwI n hts (am_goodW c1) (by rw [am_cw, if_pos c2, c4]) rfl rfl (hts _ (hw _ (by simp [am_cW]))) (hts _ (hw _ (by simp [am_cW]))) (hts _ (hw _ (by simp [am_cW]))) c3 ⟨y1, y2, c5⟩ ⟨by show am_fr M' + 1 ≤ _; omega, by show _ + 500 * am_fr M' ≤ _; omega⟩)
          ⟨am_blind, am_pre hG hP hS⟩ rfl (by rw [List.length_reverse]; exact hn) hsz (am_stk hdr) (lv_room (am_cat hr4)) hd ⟨hc, hs⟩)
      · cases g
    · rename_i M' n hlk
      split at g
      · rename_i b rest hdr
        obtain ⟨hn, g2⟩ := am_ifS g
        unfold am_call at g2
        obtain ⟨⟨hf1, hr4, hlen, hcat⟩, g3⟩ := am_ifS g2
        cases g3
        have hck := am_cT_ok _ (am_lk hlk)
        simp only [am_cG, Bool.and_eq_true, decide_eq_true_eq] at hck
        obtain ⟨⟨⟨⟨⟨c1, c2⟩, c3⟩, c4⟩, c6⟩, c5⟩ := hck
        have hw := am_cT_in _ (am_lk hlk)
        obtain ⟨y1, y2, y3⟩ := am_yG M' (by omega)
        refine ⟨M', _, rest, true, rfl, rfl, c1, hlen, hcat, fun r1 mc ms hi hM hc hs => ?_⟩
        obtain ⟨v, σ', rfl⟩ := hi rfl
        exact am_vxr (va_runIN (host := RX6) ⟨hx, hb, hml, hown, hts⟩ (am_vxm hM (fun _ _ _ h => h)) ⟨va_cnB n hts (am_goodW c1) (by rw [am_cw, if_pos c2, c4]) rfl rfl (hG.2.2.2.2.2.2.2.2.2.1 _ c6) (hts _ (hw _ (by simp [am_cW]))) ⟨y1, y2, c5⟩ ⟨by show am_fr M' + 1 ≤ _; omega, by show _ + 500 * am_fr M' ≤ _; omega⟩, c3, hts _ (hw _ (by simp [am_cW]))⟩
          ⟨am_blind, am_pre hG hP hS⟩ rfl (by rw [List.length_reverse]; exact hn) hsz (am_stk hdr) (lv_room (am_cat hr4)) hd ⟨hc, hs⟩)
      · cases g
    · cases g
  · cases h
end
end
section
/-! soundness, the whole -/
def am_Ok (l : Launch) (G : am_Ev) (n : Nat) : Prop := ∀ (M pc : Nat) (ls st : List Value) (σ : am_S) (r : am_R), am_ex n (M, pc, ls, st, σ) = some r → M < 136 →
  ∀ {p : Program} {e : Env} {R : Room} {s : State} {m : MethodId} {args : Array Value} {below : List Frame} {meth : Method} {c : Code} {H : Heap} {locs : List Loc} {Ls : Array Slot} {k0 s0 : Nat},
    am_X M p l R s m args meth c → am_G G s → am_P G σ H → va_S (am_A G.2.2.1) s.heap H locs → am_L ls Ls (am_nL M) → k0 ≤ σ.2.2.1 → s0 ≤ σ.2.2.2 → (σ.2.1 ≠ 0 → σ.2.1 = s.heap.size + (σ.2.2.1 - k0)) → r.2.2.2.1 - k0 ≤ R.cells → r.2.2.2.2 - s0 ≤ R.slots →
    W p l e R s m args below meth c H locs (σ.2.2.1 - k0) (σ.2.2.2 - s0) (vx_MQ below (am_Q G r) (am_XC G r) args s (r.2.2.2.1 - k0) (r.2.2.2.2 - s0) (am_A G.2.2.1)) (F0 m pc Ls st)
theorem am_met {l : Launch} {G : am_Ev} {n M : Nat} {As : List Value} {σ : am_S} {r : am_R} (hl : l.stackTraces = false) (IH : am_Ok l G n) (hM : M < 135) (hlen : As.length ≤ am_nL M) (hcat : ∀ v ∈ As, v.category = 1) (h : am_ex n (M, 0, As ++ List.replicate (am_nL M - As.length) am_jk, [], σ) = some r) :
    vx_Met l (am_y M) (am_cw M :: am_T) (am_rm M (r.2.2.2.1 - σ.2.2.1) (r.2.2.2.2 - σ.2.2.2)) (am_Pc G As σ) (am_Q G r) (am_XC G r) (r.2.2.2.1 - σ.2.2.1) (r.2.2.2.2 - σ.2.2.2) (am_A G.2.2.1) := by
  have hM' : M < 136 := by omega
  have body : ∀ (p : Program) (e : Env) (s : State) (m : MethodId) (args : Array Value) (below : List Frame) (meth : Method) (c : Code) (s₁ : State), BodyLoose p l (am_y M) (headSpec (am_cw M :: am_T) (am_rm M (r.2.2.2.1 - σ.2.2.1) (r.2.2.2.2 - σ.2.2.2))) (am_cod M) (am_nL M) (am_ret M) e s m args below meth c s₁ → c.maxLocals = am_nL M → c.exceptionTable.toList = tableOf (am_hh M) → am_Pc G As σ args s →
      W p l e (headSpec (am_cw M :: am_T) (am_rm M (r.2.2.2.1 - σ.2.2.1) (r.2.2.2.2 - σ.2.2.2))).room s m args below meth c s.heap [] 0 0 (vx_MQ below (am_Q G r) (am_XC G r) args s (r.2.2.2.1 - σ.2.2.1) (r.2.2.2.2 - σ.2.2.2) (am_A G.2.2.1)) (entryFrame m args (am_nL M)) := by
    intro p e s m args below meth c s₁ B hml htab hPc
    obtain ⟨rfl, hG, hP⟩ := hPc
    have hts := atoms_spec (ws := am_cw M :: am_T) B.pre
    have hown : s.vm.findClass (am_on (am_own M)) = some m.cls := by rw [← am_yO M hM']; exact findClass_of_methodNamed B.named
    have hX : am_X M p l (headSpec (am_cw M :: am_T) (am_rm M (r.2.2.2.1 - σ.2.2.1) (r.2.2.2.2 - σ.2.2.2))).room s m As.toArray meth c :=
      ⟨B.exec, B.bytes, B.returns, hml, hown, fun w hw => hts w (List.mem_cons_of_mem _ hw), B.notSynchronized, htab, fun hn => (name_of_methodNamed B.named B.method).1.trans hn, Nat.le_refl _, Nat.le_refl _, hl⟩
    rw [lg_entry_eq]
    have := IH M 0 _ [] σ r h hM' (p := p) (e := e) (below := below) (k0 := σ.2.2.1) (s0 := σ.2.2.2) (locs := []) (H := s.heap) hX hG hP va_S.rf (am_L_entry hlen hcat) (Nat.le_refl _) (Nat.le_refl _) (fun hn => by have := am_nE hP hn; omega) (Nat.le_refl _) (Nat.le_refl _)
    rw [Nat.sub_self, Nat.sub_self] at this
    exact this
  by_cases he : am_hh M = []
  · exact am_hM hM' he (fun p e s m args below meth c s₁ B hml hno hPc => body p e s m args below meth c s₁ B hml (by
      rw [he]
      cases ht : c.exceptionTable.toList with
      | nil => rfl
      | cons x t => exact (hno x (by rw [ht]; exact List.mem_cons_self)).elim) hPc)
  · refine am_hMW hM' he (fun p e s m args below meth c s₁ B hml hPc => body p e s m args below meth c s₁ B hml ?_ hPc)
    have hts := atoms_spec (ws := am_cw M :: am_T) B.pre
    have hcw := hts _ List.mem_cons_self
    rw [am_cw, if_neg (by simpa using he)] at hcw
    exact vx_table (x := am_y M) B hcw
theorem am_hz {s : State} {k0 : Nat} {σ σ' : am_S} (hz : σ.2.1 ≠ 0 → σ.2.1 = s.heap.size + (σ.2.2.1 - k0)) (hk : k0 ≤ σ.2.2.1) (h : am_rel σ σ') : σ'.2.1 ≠ 0 → σ'.2.1 = s.heap.size + (σ'.2.2.1 - k0) := fun hn => by
  obtain ⟨h1, h2, h3⟩ := h
  obtain ⟨g1, g2⟩ := h3 hn
  have := hz g1
  omega
set_option maxHeartbeats 4000000 in
theorem am_sound {l : Launch} {G : am_Ev} (hl : l.stackTraces = false) : ∀ n, am_Ok l G n := by
  intro n
  induction n with
  | zero => intro M pc ls st σ r h; simp [am_ex] at h
  | succ n ih =>
    intro M pc ls st σ r h hM p e R s m args below meth c H locs Ls k0 s0 hX hG hP hS hL hk hs hz hR1 hR2
    rw [am_ex] at h
    cases hstep : am_step (M, pc, ls, st, σ) with
    | none => simp [hstep] at h
    | some x =>
      have hrel := am_step_rel hstep
      rw [hstep] at h
      unfold am_step at hstep
      dsimp only at hstep
      split at hstep
      · rename_i i len hd
        split at hstep
        · rename_i pc' ls' st' h1
          cases hstep
          exact am_s1 hX hd h1 hL (fun Ls' hL' => ih M pc' ls' st' σ r h hM hX hG hP hS hL' hk hs hz hR1 hR2)
        · split at hstep
          · rename_i pc' st' σ' h2
            cases hstep
            have q := am_ex_rel _ _ _ h
            have hr2 := am_i2_rel h2
            have q1 : σ'.2.2.1 ≤ r.2.2.2.1 := q.1
            have q2 : σ'.2.2.2 ≤ r.2.2.2.2 := q.2.1
            exact am_s2 hM hX hG hd h2 hP hS hL.2.1 hk hs hz (by omega) (by omega) (fun H' locs' hP' hS' => ih M pc' ls st' σ' r h hM hX hG hP' hS' hL (Nat.le_trans hk hr2.1) (Nat.le_trans hs hr2.2.1) (am_hz hz hk hr2) hR1 hR2)
          · match x, h, hstep, hrel with
            | .inl c', h, hstep, hrel =>
              exact absurd hstep (by
                intro z
                have : ∀ y, am_i3 M i len pc ls st σ = some y → ∀ c', y ≠ .inl c' := by
                  intro y hy c'
                  unfold am_i3 am_call at hy
                  repeat' split at hy
                  all_goals first
                    | (cases hy; done)
                    | (cases hy; intro h; cases h)
                exact this _ z _ rfl)
            | .inr (.inl r'), h, hstep, hrel =>
              cases h
              exact am_s3 hM hX hG hd hstep hP hS hL hk hs hR1 hR2
            | .inr (.inr (c', k)), h, hstep, hrel =>
              obtain ⟨M', As, rest, ini, rfl, rfl, hM', hlen, hcat, hrun⟩ := am_run3 (p := p) (e := e) (R := R) (below := below) (cells := σ.2.2.1 - k0) (slots := σ.2.2.2 - s0) hX hG hd hstep hP hS hL
              dsimp only at h
              cases h1 : am_ex n (M', 0, As ++ List.replicate (am_nL M' - As.length) am_jk, [], σ) with
              | none => simp [h1] at h
              | some r1 =>
                rw [h1] at h
                dsimp only at h
                have q1 := am_ex_rel _ _ _ h1
                have a1 : σ.2.2.1 ≤ r1.2.2.2.1 := q1.1
                have a2 : σ.2.2.2 ≤ r1.2.2.2.2 := q1.2.1
                cases h2 : am_k ini M pc ls rest r1 with
                | none => simp [h2] at h
                | some y =>
                  rw [h2] at h
                  have hxr := am_k_rel h2
                  have hbd : r1.2.2.2.1 ≤ r.2.2.2.1 ∧ r1.2.2.2.2 ≤ r.2.2.2.2 := by
                    match y, h, hxr with
                    | .inl c2, h, hxr =>
                      have q3 := am_ex_rel _ _ _ h
                      have hxr : c2.2.2.2.2 = r1.2 := hxr
                      rw [hxr] at q3
                      exact ⟨q3.1, q3.2.1⟩
                    | .inr r2, h, hxr =>
                      cases h
                      have hxr : r.2 = r1.2 := hxr
                      rw [hxr]
                      exact ⟨Nat.le_refl _, Nat.le_refl _⟩
                  have hini : ini = true → ∃ (v : Option Value) (σ' : am_S), r1 = (.inl v, σ') := fun hi => by
                    obtain ⟨o, σ1⟩ := r1
                    cases o with
                    | inl v => exact ⟨v, σ1, rfl⟩
                    | inr E =>
                      have h2' : (if ini = true then none else am_ct M pc ls E σ1 (am_hh M)) = some y := h2
                      rw [if_pos hi] at h2'
                      cases h2'
                  have e1 : σ.2.2.1 - k0 + (r1.2.2.2.1 - σ.2.2.1) = r1.2.2.2.1 - k0 := by omega
                  have e2 : σ.2.2.2 - s0 + (r1.2.2.2.2 - σ.2.2.2) = r1.2.2.2.2 - s0 := by omega
                  refine am_cont (hrun r1 _ _ hini (am_met hl ih hM' hlen hcat h1) (by rw [e1]; omega) (by rw [e2]; omega)) hS ?_ ?_
                  · intro v σ' hr1 H' locs' hP' hS'
                    subst hr1
                    rw [e1, e2]
                    cases h2
                    exact ih M (pc + 3) ls (v.toList ++ rest) σ' r h hM hX hG hP' hS' hL (Nat.le_trans hk a1) (Nat.le_trans hs a2) (am_hz hz hk q1) hR1 hR2
                  · intro E σ' hr1 hE H' locs' q ce hP' hS' hce hcv hcl
                    subst hr1
                    rw [e1, e2]
                    have h2' : am_ct M pc ls E σ' (am_hh M) = some y := by
                      have h3 : (if ini = true then none else am_ct M pc ls E σ' (am_hh M)) = some y := h2
                      by_cases hi : ini = true
                      · rw [if_pos hi] at h3; cases h3
                      · rw [if_neg hi] at h3; exact h3
                    refine am_ctS hX hG hE hL hce hcv hcl hS' (by have := hbd.1; show _ ≤ _; omega) (by have := hbd.2; show _ ≤ _; omega) hP' (am_hh M) [] rfl (fun z hz => by cases hz) y h2' ?_ ?_
                    · intro r2 hy
                      subst hy
                      cases h
                      rfl
                    · intro M2 pc2 ls2 st2 σ2 hy
                      subst hy
                      have hxr : σ2 = σ' := hxr
                      subst hxr
                      have hMM : M2 = M := by
                        have : ∀ (hs : List (Nat × Nat × Nat × Nat)) (x : am_C ⊕ am_R), am_ct M pc ls E σ2 hs = some x → ∀ c, x = .inl c → c.1 = M := by
                          intro hs
                          induction hs with
                          | nil => intro x hx c hc; cases hx; cases hc
                          | cons a t iht =>
                            intro x hx c hc
                            obtain ⟨a1, a2, a3, a4⟩ := a
                            unfold am_ct at hx
                            repeat' split at hx
                            all_goals first
                              | (cases hx; done)
                              | exact iht x hx c hc
                              | (cases hx; cases hc; rfl)
                        exact this _ _ h2' _ rfl
                      subst hMM
                      refine ⟨rfl, rfl, fun Ls' hL' => ?_⟩
                      exact ih M2 pc2 ls2 st2 σ2 r h hM hX hG hP' hS' hL' (Nat.le_trans hk a1) (Nat.le_trans hs a2) (am_hz hz hk q1) hR1 hR2
      · cases hstep
end
section
/-! THE CLAIM OUT OF ONE WALK OF THE LAW'S BODY. Your part is whole_start (and what it stands on); all else here is the same for every law, but numbers. -/
def R_law : String := "FormulaPagesLaw"
def lw_P (b : Addr) (xs : List Int32) (args : Array Value) (s : State) : Prop := args = #[.ref b] ∧ s.IntsAt b xs ∧ xs.length ≤ 2049 ∧ (Jvm.Cond.and given_1 narrow_1).before args s = true
def lw_Q (_ : Array Value) (s : State) (o : Outcome) (t : State) : Prop := o = .returned (some (.int 1)) ∧ Framed s o t [] 603072 7190184
def lw_Z (below : List Frame) (a : Array Value) (s : State) : State → Prop := fun t => ∃ o, t.status = .running ∧ Ended t below o ∧ lw_Q a s o t
/-- the law's own end, with 1 on the stack, nothing written that was there before, its room as the claim has it -/
theorem lw_ret {p : Program} {l : Launch} {e : Env} {s : State} {m : MethodId} {below : List Frame} {meth : Method} {c : Code} {b : Nat} (hx : p.tables.exec = Jvm.exec) (hb : c.code = code) (hr : meth.sig.returnType = ret) (hlocks : meth.locks = false) {pc : Nat} {H : Heap} {ls : Array Slot} (hdg : decode code pc = .ok (.ireturn, 1)) : W p l e room_1 s m #[Value.ref b] below meth c H [] 603072 7190184 (lw_Z below #[Value.ref b] s) (F0 m pc ls [.int 1]) := by
  intro T hT X
  obtain ⟨fs, hret, hrun, hended, hW, hframe⟩ := X.leave (v := some (.int 1)) (hlocks := hlocks) (fun h => by rw [hr] at h; cases h)
  have hmeth' : T.vm.method? m = some meth := X.method'
  refine ⟨T.setFrames fs, ?_, .returned (some (.int 1)), hrun, hended, rfl, ⟨_, rfl⟩, hW, hframe⟩
  jvm_step X.here [X.here.top, hx, hb, hdg, hmeth', hr, ret, narrow_b1]
  (try refine ⟨rfl, ?_⟩); (try refine ⟨rfl, ?_⟩)
  first | (intro acts; rw [hret _ acts rfl rfl rfl]) | rw [hret _ _ rfl rfl rfl]
  exact Steps.refl _
/-- what holds at the law's entry: the machine, the code, the tables' words (any of lw_tbl by 'hts w (by decide +kernel)'), the script of L ints xs at the cell b, what the Statement gives of the start (any of its parts by flat_of_before) -/
def lw_At (p : Program) (s : State) (m : MethodId) (meth : Method) (c : Code) (b L : Nat) (xs : Nat → Int32) : Prop :=
  p.tables.exec = Jvm.exec ∧ c.code = code ∧ meth.sig.returnType = ret ∧ c.maxLocals = 7 ∧ s.vm.findClass R_law = some m.cls ∧ (∀ w ∈ lw_tbl, w.before #[Value.ref b] s = true) ∧ va_X b L xs s s.heap ∧ b < s.heap.size ∧ meth.locks = false ∧ (Jvm.Cond.and given_1 narrow_1).before #[Value.ref b] s = true
end
section
/-! the law by the machine: what is left is pure -/
theorem am_nt {l : Launch} (h : l.flags = flags0) : l.stackTraces = false := by
  unfold Launch.stackTraces
  rw [h]
  decide +kernel
theorem am_bw_in : ∀ w ∈ am_bw, w ∈ lw_tbl := by decide +kernel
theorem am_dw_in : ∀ y ∈ am_dw, Cond.declares y ∈ lw_tbl := by decide +kernel
theorem am_nw_in : ∀ q ∈ am_nw, Cond.methodLinkNest q.1 q.2.1 q.2.2 RX6 ∈ lw_tbl := by decide +kernel
theorem am_sR_in : ∀ q ∈ am_sR, Cond.stringRef RX6 q.1 q.2 ∈ lw_tbl := by decide +kernel
theorem am_sR_ex : ∀ q ∈ am_sR, Cond.exactly (.string RX6 q.1) "java/lang/String" ∈ flatC (Jvm.Cond.and given_1 narrow_1) := by decide +kernel
theorem am_nc_in : ∀ a ∈ am_ens, ∀ b ∈ am_ens, a ≠ b → Cond.not (.castable a b) ∈ flatC (Jvm.Cond.and given_1 narrow_1) := by decide +kernel
theorem am_st_in : Cond.isRef (.static Bundle.tN "UNASSIGNED_STACK" Bundle.steD) ∈ flatC (Jvm.Cond.and given_1 narrow_1) ∧ Cond.isRef (.static Bundle.tN "SUPPRESSED_SENTINEL" Bundle.listD) ∈ flatC (Jvm.Cond.and given_1 narrow_1) := by decide +kernel
theorem am_ls_in : Cond.laysStatic Bundle.tN "UNASSIGNED_STACK" Bundle.steD ∈ lw_tbl ∧ Cond.laysStatic Bundle.tN "SUPPRESSED_SENTINEL" Bundle.listD ∈ lw_tbl ∧ Cond.initialized Bundle.tN ∈ lw_tbl ∧ Cond.arrayOver (.object RX3) ∈ lw_tbl := by decide +kernel
theorem am_ic_in : ∀ ci, ci < 8 → Cond.instantiable (am_CN ci) (am_NN ci) ∈ lw_tbl := by decide +kernel
theorem am_arr {args : Array Value} {s : State} {ty : FieldType} (h : (Cond.arrayClass ty).before args s = true) : ∃ cA, ArrOfT s cA ty ∧ s.vm.findClass ("[" ++ ty.toString) = some cA := by
  obtain ⟨cA, kA, comp, h1, h2, h3⟩ := Cond.arrayClass_spec (args := args) (first := s) (o := none) (s := s) (idx := []) h
  exact ⟨cA, fun n z => ⟨fun k h => (by cases h), kA, h2, comp, h3⟩, h1⟩
theorem am_given {s : State} {b L : Nat} {xs : Nat → Int32} (hts : ∀ w ∈ lw_tbl, w.before #[Value.ref b] s = true) (hX : va_X b L xs s s.heap) (hbl : b < s.heap.size) (hgv : (Jvm.Cond.and given_1 narrow_1).before #[Value.ref b] s = true) :
    ∃ G : am_Ev, G.2.2.1 = s.heap.size ∧ G.2.2.2.1 = b ∧ G.2.2.2.2.1 = L ∧ G.2.2.2.2.2.1 = xs ∧ am_G G s := by
  have hfl := flat_of_before _ hgv
  have hkn : ∀ ci, ∃ (cC : ClassId) (iS : Nat → Nat), ci < 8 → u_Kn s (am_CN ci) (am_TT ci) (am_NN ci) cC iS := fun ci => by
    by_cases h : ci < 8
    · obtain ⟨cC, iS, hk⟩ := u_known (C := am_CN ci) (T := am_TT ci) (N := am_NN ci) hts (fun w hw => (List.mem_filter.mp (am_in h w hw)).1) (hts _ (am_ic_in ci h))
      exact ⟨cC, iS, fun _ => hk⟩
    · exact ⟨0, fun _ => 0, fun h' => absurd h' h⟩
  obtain ⟨dC, hdC⟩ := Classical.axiomOfChoice hkn
  obtain ⟨dI, hdI⟩ := Classical.axiomOfChoice hdC
  obtain ⟨c0, a0, b0⟩ := am_arr (hts _ (List.mem_filter.mp (am_ac_in .int (Or.inl rfl))).1)
  obtain ⟨c1, a1, b1⟩ := am_arr (hts _ (List.mem_filter.mp (am_ac_in .boolean (Or.inr (Or.inl rfl)))).1)
  obtain ⟨c2, a2, b2⟩ := am_arr (hts _ (List.mem_filter.mp (am_ac_in .long (Or.inr (Or.inr rfl)))).1)
  have hov := hts _ am_ls_in.2.2.2
  obtain ⟨c3, k3, comp3, a3, b3, d3, e3⟩ : ∃ (cA : ClassId) (kA : Class) (comp : ClassId), s.vm.findClass ("[" ++ (FieldType.object RX3).toString) = some cA ∧ s.vm.classes[cA]? = some kA ∧ kA.kind = .array comp (.object RX3) ∧ s.vm.findClass RX3 = some comp := by
    obtain ⟨comp, c, k, q1, -, q3, q4, q5⟩ := Cond.arrayOver_spec (args := #[Value.ref b]) (first := s) (o := none) (s := s) (idx := []) hov
    exact ⟨c, k, comp, q5, q3, q4, q1⟩
  have hst : ∀ k : Nat, ∃ a : Nat, ∀ q ∈ am_sR, q.1 = k → vk_R RX6 q.1 q.2 a s := fun k => by
    by_cases hk : ∃ q ∈ am_sR, q.1 = k
    · obtain ⟨q, hq, rfl⟩ := hk
      obtain ⟨a, c, cA, kA, q1, -⟩ := Cond.exactly_spec (args := #[Value.ref b]) (first := s) (o := none) (s := s) (idx := []) (t := .string RX6 q.1) (cls := "java/lang/String") (hfl _ (am_sR_ex q hq))
      exact ⟨a, fun q' hq' he => vk_R.of (A := #[Value.ref b]) (hts _ (am_sR_in q' hq')) (by rw [he]; exact q1)⟩
    · exact ⟨0, fun q hq he => absurd ⟨q, hq, he⟩ hk⟩
  obtain ⟨sa, hsa⟩ := Classical.axiomOfChoice hst
  have hA : ∀ a : Nat, a < s.heap.size → ¬ am_A s.heap.size a := fun a h => Nat.not_le.mpr h
  refine ⟨((dC, dI), fun k => if k = 0 then c0 else if k = 1 then c1 else if k = 2 then c2 else c3, s.heap.size, b, L, xs, sa), rfl, rfl, rfl, rfl, ⟨fun ci q hq => ?_, fun k q hq => ?_⟩, hX, hbl, Nat.le_refl _,
    vx_Zqof (hts _ am_ls_in.1) (hts _ am_ls_in.2.2.1) (hfl _ am_st_in.1) hA, vx_Zqof (hts _ am_ls_in.2.1) (hts _ am_ls_in.2.2.1) (hfl _ am_st_in.2) hA, va_AO.of hov, fun w hw => ?_,
    fun w hw => va_Nw.of rfl (hts _ (am_dw_in w hw)), fun q hq => va_Nw.of rfl (hts _ (am_nw_in q hq)), fun q hq => hsa q.1 q hq rfl, fun a ha b hb hab => va_Nc.of (hfl _ (am_nc_in a ha b hb hab))⟩
  · have h8 : ci < 8 := by
      have := (List.getElem?_eq_some_iff.mp hq).1
      exact this
    rw [am_cl_at h8] at hq
    cases hq
    exact hdI ci h8
  · match k, hq with
    | 0, hq => cases hq; exact ⟨a0, b0⟩
    | 1, hq => cases hq; exact ⟨a1, b1⟩
    | 2, hq => cases hq; exact ⟨a2, b2⟩
    | 3, hq => cases hq; exact ⟨fun n z => ⟨fun k h => (by cases h), k3, b3, comp3, d3⟩, k3, comp3, b3, d3, e3, a3⟩
    | k + 4, hq => simp [am_tys] at hq
  · have h := hts _ (am_bw_in w hw)
    simp only [am_bw, List.mem_cons, List.not_mem_nil, or_false] at hw
    rcases hw with rfl | rfl | rfl <;> exact va_Nw.of rfl h
set_option maxHeartbeats 4000000 in
theorem am_law {p : Program} {e : Env} {s : State} {m : MethodId} {below : List Frame} {meth : Method} {c : Code} {l : Launch} (hst : l.stackTraces = false) {b L : Nat} {xs : Nat → Int32} (C0 : lw_At p s m meth c b L xs) (htab : c.exceptionTable.toList = [])
    (hrun : ∃ σ' : am_S, cl 135 [.ref b] (fun a => if a = b then some (.inl (4, L, .inl xs)) else none, s.heap.size, 0, 0) = some (.inl (some (.int 1)), σ') ∧ σ'.2.2.1 ≤ 603072 ∧ σ'.2.2.2 ≤ 7190184) :
    W p l e room_1 s m #[Value.ref b] below meth c s.heap [] 0 0 (lw_Z below #[Value.ref b] s) (entryFrame m ([Value.ref b] : List Value).toArray 7) := by
  obtain ⟨hx, hb, hr, hml, hown, hts, hX, hbl, hlocks, hgv⟩ := C0
  obtain ⟨G, g1, g2, g3, g4, hG⟩ := am_given hts hX hbl hgv
  obtain ⟨σ', hc, hk, hs⟩ := hrun
  obtain ⟨n, hn⟩ := am_run_ex hc
  have hXX : am_X 135 p l room_1 s m #[Value.ref b] meth c := ⟨hx, hb, hr, hml, hown, fun w hw => hts w (List.mem_filter.mp hw).1, hlocks, by rw [htab]; rfl, fun h => absurd h (by decide +kernel), by decide +kernel, by decide +kernel, hst⟩
  have hP : am_P G (fun a => if a = b then some (.inl (4, L, .inl xs)) else none, s.heap.size, 0, 0) s.heap := by
    refine ⟨[], fun k q h => by simp [va_pl] at h, ⟨fun i j p q h => by simp [va_pl] at h, fun k q h => by simp [va_pl] at h⟩, fun a c ha => ?_, fun _ => rfl⟩
    dsimp only at ha
    by_cases hab : a = b
    · rw [if_pos hab] at ha
      cases ha
      exact Or.inr ⟨hab.trans g2.symm, by rw [g3, g4]⟩
    · rw [if_neg hab] at ha
      cases ha
  rw [lg_entry_eq]
  have := am_sound hst (G := G) n 135 0 _ [] _ _ hn (by decide) (p := p) (e := e) (below := below) (k0 := 0) (s0 := 0) (locs := []) hXX hG hP va_S.rf (am_L_entry (As := [.ref b]) (show 1 ≤ am_nL 135 by decide +kernel) (by intro v hv; rw [List.mem_singleton] at hv; subst hv; rfl)) (Nat.le_refl _) (Nat.le_refl _) (fun _ => rfl) hk hs
  intro T hT X
  obtain ⟨t, q1, o, q2, q3, q4⟩ := this T hT X
  refine ⟨t, q1, o, q2, q3, ?_⟩
  rcases q4 with ⟨⟨rfl, -, -⟩, Lc, ⟨f1, f2, f3⟩, hLc⟩ | ⟨q, -, E, ce, Lc, hX, -⟩
  · refine ⟨rfl, f1, f2, f3.weaken (fun y hy hlt => ?_) hk hs⟩
    have := hLc y hy
    rw [show am_A G.2.2.1 y.base = (G.2.2.1 ≤ y.base) from rfl, g1] at this
    exact absurd hlt (Nat.not_lt.mpr this)
  · exact hX.elim
end
