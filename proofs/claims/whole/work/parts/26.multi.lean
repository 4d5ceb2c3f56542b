/-! multianewarray for int[4][20]: my own row; four turns, one after another. -/
section MULTI
variable {E : CtlPost} {e : Env} {d : Bool} {acts : List Action}
/-- a row of twenty -/
abbrev rwC (cI : ClassId) : Cell := arrV cI 20 (fun _ => .int 0)
theorem mk_row {s : State} {cI z : ClassId} {kI : Class} (hk : s.vm.classes[cI]? = some kI) (hz : kI.kind = .array z .int) (hl : ¬ 20 > e.platform.arrayLengthLimit) (hh : ¬ 20 * componentBytes .int > e.platform.maxHeapBytes) (hc : s.heap.size < e.platform.maxCells) (hs : s.slotsUsed + 20 ≤ e.platform.maxSlots) {Q : Addr → Pre} (hq : ∀ acts', Q s.heap.size d acts' (s.pushCell (rwC cI))) :
    wp (multianewarray.make cI [20]) Q E e d acts s := by
  have h20 : (20 : Int32).toNatClampNeg = 20 := by decide
  have hn : ¬ (20 : Int32) < 0 := by decide
  rw [multianewarray.make]
  simp only [wp_bind', W.ite, hn, if_false, wp_pure', W.theClass, hk, hz, Option.some.injEq, exists_eq_left', h20]
  refine W.newArray_of hk hz hl hh hc hs rfl (fun a' => ?_)
  have h := hq a'
  rw [show rwC cI = ({ cls := cI, slots := Array.replicate 20 (.int 0), vm := .none } : Cell) from (arrV_new cI 20 (.int 0)).symm] at h
  exact h
end MULTI
