/-! CATCHING: the handlers' classes are not resolved yet -/
section GK
variable {e : Env} {f : JFrame} {a : Addr}
theorem go_cold {Q : Handler → Pre} {E : CtlPost} {d : Bool} {acts : List Action} {x : ExceptionTableEntry} {t : List ExceptionTableEntry} {s : State} {vm' : Vm} {c : ClassId} {cell : Cell} (hx : covers x f.pc = true) (h0 : x.catchType ≠ 0) (hg : (Jvm.resolveClass f.method.cls x.catchType).Gives e.toSetting s.vm (.ok c) vm') (hsz : vm'.classes.size ≤ s.vm.classes.size) (hcell : s.heap[a]? = some cell) (hobj : ∀ k, cell.vm ≠ .statics k) (hk : ∃ k, vm'.classes[cell.cls]? = some k) (hc : ∃ k, vm'.classes[c]? = some k) :
    wp (findHandler.go f a (x :: t)) Q E e d acts s ↔ if vm'.assignable cell.cls c = true then Q (.found x.handlerPc) d acts (s.setVm vm') else wp (findHandler.go f a t) Q E e d acts (s.setVm vm') := by
  simp only [covers] at hx
  obtain ⟨ha, ht⟩ := hg.op (op := VmOp.resolveClass f.method.cls x.catchType) rfl
  cases hfit : vm'.assignable cell.cls c <;> simp [findHandler.go, hx, h0, ha, ht, hsz, hcell, hobj, hk, hc, hfit, VmOp.dirties, VmOp.acts]
def asg (s0 : State) (cell : Cell) (n : String) (b : Bool) : Prop := ∀ c, s0.vm.findClass n = some c → s0.vm.assignable cell.cls c = b
def Hit (s0 : State) (own : String) (args : Array Value) (p : Nat) (cell : Cell) : List (Nat × Nat × Nat × Nat) → List String → Nat → Prop
  | h :: hs, n :: ns, pc => (h.1 ≤ p ∧ p < h.2.1 ∧ h.2.2.2 ≠ 0 ∧ (Cond.classLink own h.2.2.2 n).before args s0 = true) ∧ ((asg s0 cell n true ∧ pc = h.2.2.1) ∨ (asg s0 cell n false ∧ Hit s0 own args p cell hs ns pc))
  | _, _, _ => False
theorem find_cold {s0 : State} {own : String} {args : Array Value} {cell : Cell} (hpl : e.platform.magicAccessors = ({} : Platform).magicAccessors) (hown : s0.vm.findClass own = some f.method.cls) (hobj : ∀ k, cell.vm ≠ .statics k) (hk : ∃ k, s0.vm.classes[cell.cls]? = some k) :
    ∀ (hs : List (Nat × Nat × Nat × Nat)) (es : List ExceptionTableEntry) (ns : List String) (pc : Nat) (s : State), es.map (fun h => (h.startPc, h.endPc, h.handlerPc, h.catchType)) = hs → s0.WarmedH s.vm → s.heap[a]? = some cell →
      Hit s0 own args f.pc cell hs ns pc → ∃ vm', s0.WarmedH vm' ∧ ∀ (Q : Handler → Pre) (E : CtlPost) (d : Bool) (acts : List Action), wp (findHandler.go f a es) Q E e d acts s ↔ Q (.found pc) d acts (s.setVm vm') := by
  intro hs
  induction hs with
  | nil => intro es ns pc s he hW hc h; cases ns <;> exact h.elim
  | cons h hs ih =>
    intro es ns pc s he hW hcell hh
    cases es with
    | nil => cases he
    | cons x es =>
      cases ns with
      | nil => exact hh.elim
      | cons n ns =>
        rw [List.map_cons, List.cons.injEq] at he
        obtain ⟨rfl, he⟩ := he
        obtain ⟨⟨h1, h2, h3, h4⟩, h5⟩ := hh
        obtain ⟨c, hcn, hl⟩ := Cond.classLink_spec hown h4 e.platform hpl
        obtain ⟨hg, hW', -⟩ := State.classEntry (e := e) hW hl
        obtain ⟨dk, _, _, ck, hd, _, _, _, _, hck, _, _⟩ := hl.here
        obtain ⟨kk, hkk⟩ := hk
        obtain ⟨kk', hkk', -⟩ := hW'.alike.2.2 _ _ hkk
        obtain ⟨ck', hck', -⟩ := hW'.alike.2.2 _ _ hck
        have hx : covers x f.pc = true := by simp [covers]; exact ⟨h1, h2⟩
        have key : ∀ (Q : Handler → Pre) (E : CtlPost) (d : Bool) (acts : List Action), _ := fun Q E d acts => go_cold (Q := Q) (E := E) (d := d) (acts := acts) (t := es) (cell := cell) (a := a) hx h3 hg (Nat.le_of_eq (Vm.size_note _ _ _ _)) hcell hobj ⟨kk', hkk'⟩ ⟨ck', hck'⟩
        have has := hW'.alike.assignable cell.cls c
        rcases h5 with ⟨h5, rfl⟩ | ⟨h5, h6⟩
        · refine ⟨_, hW', fun Q E d acts => ?_⟩
          rw [key, has, h5 c hcn, if_pos rfl]
        · obtain ⟨vm2, hW2, hf⟩ := ih es ns pc (s.setVm (s.vm.noted f.method.cls x.catchType (.cls c))) he hW' hcell h6
          refine ⟨vm2, hW2, fun Q E d acts => ?_⟩
          rw [key, has, h5 c hcn, if_neg (by decide), hf]
          rfl
theorem step_cold {s : State} {r : List Frame} {pc : Nat} {vm' : Vm} (hfind : ∀ (Q : Handler → Pre) (E : CtlPost) (d : Bool) (acts : List Action), wp (findHandler f a) Q E e d acts s ↔ Q (.found pc) d acts (s.setVm vm')) :
    (stepThrowing e s a (.java f :: r)).Is ((s.setVm vm').setFrames (.java { f with pc := pc, stack := [.ref a] } :: r)) [] := by
  simp only [stepThrowing, searchFrame, vmDo]
  generalize hr : Sem.go _ e false [] s = res
  obtain ⟨as, rfl, ha⟩ := Sem.eq_ok_of hr (a := Handler.found pc) (s' := s.setVm vm') (acts' := []) (by simp [hfind _ _ _ _])
  exact ⟨rfl, ha⟩
theorem caught_cold {tb : Tables} {s target : State} {g : JFrame} {c : Code} {below : List Frame} (h : At s g.method c below) {pc : Nat} {vm' : Vm} (hfind : ∀ (Q : Handler → Pre) (E : CtlPost) (d : Bool) (acts : List Action), wp (findHandler g a) Q E e d acts ((s.setTop g).pushFrame (.throwing a)) ↔ Q (.found pc) d acts (((s.setTop g).pushFrame (.throwing a)).setVm vm'))
    (hrest : Steps tb e below ((s.setVm vm').setTop { g with pc := pc, stack := [.ref a] }) target) : Steps tb e below ((s.setTop g).pushFrame (.throwing a)) target := by
  obtain ⟨hgo, hw⟩ := h.throwing a
  refine Steps.head hgo hw ?_
  rw [stepThread_throwing (frames_entered h.top _), (step_cold (s := (s.setTop g).pushFrame (.throwing a)) hfind).1]
  obtain ⟨g₀, hg⟩ := Option.isSome_iff_exists.mp h.top
  obtain ⟨r, hr⟩ := State.topJava?_eq_some.mp hg
  have hr' : (s.setVm vm').frames = .java g₀ :: r := hr
  rw [State.setTop_of_frames _ hr'] at hrest
  have e1 : (((s.setTop g).pushFrame (.throwing a)).setVm vm').setFrames (.java { g with pc := pc, stack := [.ref a] } :: s.frames.tail) = (s.setVm vm').setFrames (.java { g with pc := pc, stack := [.ref a] } :: r) := by
    rw [State.pushFrame, State.setTop_of_frames _ hr, State.setFrames_setFrames, hr]
    show ((s.setFrames _).setVm vm').setFrames _ = _
    rw [show (s.setFrames (.throwing a :: (s.setFrames (.java g :: r)).frames)).setVm vm' = (s.setVm vm').setFrames (.throwing a :: (s.setFrames (.java g :: r)).frames) from rfl, State.setFrames_setFrames]
    rfl
  rw [e1]
  exact hrest
end GK
/-- the thrown object's class, and the classes that the law's helpers catch -/
theorem nocast {l : Launch} {D : Dt} (hT : OkT l D) {A B : String} (hm : Cond.not (Cond.castable A B) ∈ flatC (Jvm.Cond.and given_1 narrow_1)) {s : State} (hW : D.2.2.2.WarmedH s.vm) {cell : Cell} (hc : D.2.2.2.vm.findClass A = some cell.cls) : asg s cell B false := by
  obtain ⟨-, a0, h0⟩ := hT
  have h := flat_of_before _ h0 _ hm
  intro c hcn
  have h2 : D.2.2.2.vm.findClass B = some c := by rw [← hW.alike.findClass B none]; exact hcn
  rw [hW.alike.assignable]
  simp only [Cond.before, Cond.holds, Cond.value, hc, h2] at h
  simpa using h
theorem docast {D : Dt} (hD : OkD D) {A : String} (hm : Cond.castable A A ∈ UNI) {s : State} (hW : D.2.2.2.WarmedH s.vm) {cell : Cell} (hc : D.2.2.2.vm.findClass A = some cell.cls) : asg s cell A true := by
  obtain ⟨c1, c2, h1, h2, h3⟩ := Cond.castable_spec (hD.ts hW #[] _ hm)
  have h4 : s.vm.findClass A = some cell.cls := by rw [hW.alike.findClass A none]; exact hc
  intro c hcn
  cases h1.symm.trans h4
  cases h2.symm.trans hcn
  exact h3
theorem ca_IOOBE : Cond.castable E_IOOBE E_IOOBE ∈ UNI := un 663 (by decide +kernel) (by decide +kernel)
theorem ca_ISE : Cond.castable E_ISE E_ISE ∈ UNI := un 684 (by decide +kernel) (by decide +kernel)
theorem ca_IAE : Cond.castable E_IAE E_IAE ∈ UNI := un 262 (by decide +kernel) (by decide +kernel)
theorem ca_UOE : Cond.castable E_UOE E_UOE ∈ UNI := un 779 (by decide +kernel) (by decide +kernel)
theorem nc_ISE_IOOBE : Cond.not (Cond.castable E_ISE E_IOOBE) ∈ flatC (Jvm.Cond.and given_1 narrow_1) := by decide +kernel
theorem nc_IAE_IOOBE : Cond.not (Cond.castable E_IAE E_IOOBE) ∈ flatC (Jvm.Cond.and given_1 narrow_1) := by decide +kernel
theorem nc_IAE_ISE : Cond.not (Cond.castable E_IAE E_ISE) ∈ flatC (Jvm.Cond.and given_1 narrow_1) := by decide +kernel
theorem nc_UOE_IOOBE : Cond.not (Cond.castable E_UOE E_IOOBE) ∈ flatC (Jvm.Cond.and given_1 narrow_1) := by decide +kernel
theorem nc_UOE_ISE : Cond.not (Cond.castable E_UOE E_ISE) ∈ flatC (Jvm.Cond.and given_1 narrow_1) := by decide +kernel
theorem nc_UOE_IAE : Cond.not (Cond.castable E_UOE E_IAE) ∈ flatC (Jvm.Cond.and given_1 narrow_1) := by decide +kernel
theorem lc_IOOBE : Cond.classLink "RevisionVaultLaw" 13 E_IOOBE ∈ UNI := un 651 (by decide +kernel) (by decide +kernel)
theorem lc_ISE : Cond.classLink "RevisionVaultLaw" 15 E_ISE ∈ UNI := un 652 (by decide +kernel) (by decide +kernel)
theorem lc_IAE : Cond.classLink "RevisionVaultLaw" 21 E_IAE ∈ UNI := un 708 (by decide +kernel) (by decide +kernel)
theorem lc_UOE : Cond.classLink "RevisionVaultLaw" 23 E_UOE ∈ UNI := un 709 (by decide +kernel) (by decide +kernel)
