/-! Printed by wip/v2/gen1.py out of the claim's names: classes, array types, what lies outside the pool. -/
def zT_0 : u_T := fun k => match k with
  | 0 => ("SchemaPascal", "tape", "[B", true)
  | 1 => ("SchemaPascal", "used", "I", false)
  | 2 => ("SchemaPascal", "ready", "Z", false)
  | 3 => ("SchemaPascal", "faultCode", "I", false)
  | 4 => ("SchemaPascal", "program", "LSchemaPascal$Program;", true)
  | 5 => ("SchemaPascal", "words", "LSchemaPascal$Words;", true)
  | 6 => ("SchemaPascal", "reader", "LSchemaPascal$Reader;", true)
  | _ => ("SchemaPascal", "machine", "LSchemaPascal$Machine;", true)
def zT_1 : u_T := fun k => match k with
  | 0 => ("SchemaPascal$Item", "type", "LSchemaPascal$Type;", false)
  | 1 => ("SchemaPascal$Item", "form", "I", false)
  | 2 => ("SchemaPascal$Item", "place", "I", false)
  | 3 => ("SchemaPascal$Item", "isKnown", "Z", false)
  | 4 => ("SchemaPascal$Item", "hangs", "Z", false)
  | 5 => ("SchemaPascal$Item", "isText", "Z", false)
  | 6 => ("SchemaPascal$Item", "number", "I", false)
  | 7 => ("SchemaPascal$Item", "textLength", "I", false)
  | 8 => ("SchemaPascal$Item", "sum", "I", false)
  | 9 => ("SchemaPascal$Item", "isProtected", "Z", false)
  | _ => ("SchemaPascal$Item", "tag", "LSchemaPascal$Symbol;", false)
def zT_2 : u_T := fun k => match k with
  | 0 => ("SchemaPascal$Machine", "program", "LSchemaPascal$Program;", true)
  | 1 => ("SchemaPascal$Machine", "code", "LSchemaPascal$Row;", true)
  | 2 => ("SchemaPascal$Machine", "store", "LSchemaPascal$Store;", true)
  | 3 => ("SchemaPascal$Machine", "stack", "[J", true)
  | 4 => ("SchemaPascal$Machine", "top", "I", false)
  | 5 => ("SchemaPascal$Machine", "texts", "[B", true)
  | 6 => ("SchemaPascal$Machine", "textTop", "I", false)
  | 7 => ("SchemaPascal$Machine", "chain", "[LSchemaPascal$Part;", true)
  | 8 => ("SchemaPascal$Machine", "given", "[J", true)
  | 9 => ("SchemaPascal$Machine", "at", "I", false)
  | 10 => ("SchemaPascal$Machine", "state", "I", false)
  | 11 => ("SchemaPascal$Machine", "pauses", "Z", false)
  | 12 => ("SchemaPascal$Machine", "budget", "I", false)
  | 13 => ("SchemaPascal$Machine", "steps", "I", false)
  | 14 => ("SchemaPascal$Machine", "error", "I", false)
  | 15 => ("SchemaPascal$Machine", "errorPlace", "I", false)
  | 16 => ("SchemaPascal$Machine", "out", "[B", true)
  | 17 => ("SchemaPascal$Machine", "written", "I", false)
  | 18 => ("SchemaPascal$Machine", "numbers", "[I", true)
  | 19 => ("SchemaPascal$Machine", "firstNumber", "I", false)
  | _ => ("SchemaPascal$Machine", "unread", "I", false)
def zT_3 : u_T := fun k => match k with
  | 0 => ("SchemaPascal$Part", "record", "LSchemaPascal$Type;", true)
  | 1 => ("SchemaPascal$Part", "outer", "LSchemaPascal$Part;", true)
  | 2 => ("SchemaPascal$Part", "variant", "I", true)
  | 3 => ("SchemaPascal$Part", "fields", "Ljava/util/ArrayList;", true)
  | 4 => ("SchemaPascal$Part", "tag", "LSchemaPascal$Symbol;", false)
  | 5 => ("SchemaPascal$Part", "ranges", "LSchemaPascal$Row;", false)
  | 6 => ("SchemaPascal$Part", "behind", "I", false)
  | _ => ("SchemaPascal$Part", "last", "I", false)
def zT_4 : u_T := fun k => match k with
  | 0 => ("SchemaPascal$Program", "code", "LSchemaPascal$Row;", true)
  | 1 => ("SchemaPascal$Program", "sums", "LSchemaPascal$Row;", true)
  | 2 => ("SchemaPascal$Program", "texts", "LSchemaPascal$Row;", true)
  | 3 => ("SchemaPascal$Program", "types", "Ljava/util/ArrayList;", true)
  | 4 => ("SchemaPascal$Program", "fields", "Ljava/util/ArrayList;", true)
  | 5 => ("SchemaPascal$Program", "routines", "Ljava/util/ArrayList;", true)
  | 6 => ("SchemaPascal$Program", "none", "LSchemaPascal$Type;", true)
  | 7 => ("SchemaPascal$Program", "integer", "LSchemaPascal$Type;", true)
  | 8 => ("SchemaPascal$Program", "bool", "LSchemaPascal$Type;", true)
  | 9 => ("SchemaPascal$Program", "character", "LSchemaPascal$Type;", true)
  | 10 => ("SchemaPascal$Program", "text", "LSchemaPascal$Type;", true)
  | 11 => ("SchemaPascal$Program", "nil", "LSchemaPascal$Type;", true)
  | 12 => ("SchemaPascal$Program", "emptySet", "LSchemaPascal$Type;", true)
  | 13 => ("SchemaPascal$Program", "noField", "LSchemaPascal$Symbol;", true)
  | 14 => ("SchemaPascal$Program", "noRoutine", "LSchemaPascal$Routine;", true)
  | 15 => ("SchemaPascal$Program", "operands", "[J", true)
  | 16 => ("SchemaPascal$Program", "given", "[J", true)
  | _ => ("SchemaPascal$Program", "firstTypes", "I", true)
def zT_5 : u_T := fun k => match k with
  | 0 => ("SchemaPascal$Reader", "words", "LSchemaPascal$Words;", true)
  | 1 => ("SchemaPascal$Reader", "program", "LSchemaPascal$Program;", true)
  | 2 => ("SchemaPascal$Reader", "code", "LSchemaPascal$Row;", true)
  | 3 => ("SchemaPascal$Reader", "tops", "[LSchemaPascal$Symbol;", true)
  | 4 => ("SchemaPascal$Reader", "scope", "Ljava/util/ArrayList;", true)
  | 5 => ("SchemaPascal$Reader", "withs", "Ljava/util/ArrayList;", true)
  | 6 => ("SchemaPascal$Reader", "pointers", "Ljava/util/ArrayList;", true)
  | 7 => ("SchemaPascal$Reader", "pointed", "LSchemaPascal$Row;", true)
  | 8 => ("SchemaPascal$Reader", "ranges", "LSchemaPascal$Row;", true)
  | 9 => ("SchemaPascal$Reader", "discriminants", "Ljava/util/ArrayList;", false)
  | 10 => ("SchemaPascal$Reader", "foundWith", "LSchemaPascal$Item;", false)
  | 11 => ("SchemaPascal$Reader", "inTypes", "Z", false)
  | 12 => ("SchemaPascal$Reader", "withFields", "I", false)
  | 13 => ("SchemaPascal$Reader", "level", "I", false)
  | _ => ("SchemaPascal$Reader", "routine", "LSchemaPascal$Routine;", false)
def zT_6 : u_T := fun k => match k with
  | 0 => ("SchemaPascal$Routine", "number", "I", true)
  | 1 => ("SchemaPascal$Routine", "place", "I", true)
  | 2 => ("SchemaPascal$Routine", "level", "I", true)
  | 3 => ("SchemaPascal$Routine", "isFunction", "Z", true)
  | 4 => ("SchemaPascal$Routine", "variables", "Ljava/util/ArrayList;", true)
  | 5 => ("SchemaPascal$Routine", "result", "LSchemaPascal$Type;", false)
  | 6 => ("SchemaPascal$Routine", "params", "I", false)
  | 7 => ("SchemaPascal$Routine", "resultSlot", "I", false)
  | 8 => ("SchemaPascal$Routine", "withs", "I", false)
  | 9 => ("SchemaPascal$Routine", "entry", "I", false)
  | 10 => ("SchemaPascal$Routine", "waitingRoutines", "I", false)
  | _ => ("SchemaPascal$Routine", "isWaiting", "Z", false)
def zT_7 : u_T := fun k => match k with
  | 0 => ("SchemaPascal$Row", "items", "[I", false)
  | _ => ("SchemaPascal$Row", "size", "I", false)
def zT_8 : u_T := fun k => match k with
  | 0 => ("SchemaPascal$Store", "numbers", "[J", true)
  | 1 => ("SchemaPascal$Store", "sorts", "[I", true)
  | 2 => ("SchemaPascal$Store", "rows", "[J", true)
  | 3 => ("SchemaPascal$Store", "ofCalls", "[I", true)
  | 4 => ("SchemaPascal$Store", "ofThings", "[I", true)
  | 5 => ("SchemaPascal$Store", "calls", "I", false)
  | 6 => ("SchemaPascal$Store", "taken", "I", false)
  | 7 => ("SchemaPascal$Store", "cellTop", "I", false)
  | 8 => ("SchemaPascal$Store", "rowTop", "I", false)
  | 9 => ("SchemaPascal$Store", "things", "I", false)
  | 10 => ("SchemaPascal$Store", "thingsTaken", "I", false)
  | 11 => ("SchemaPascal$Store", "thingsThere", "I", false)
  | _ => ("SchemaPascal$Store", "thingTop", "I", false)
def zT_9 : u_T := fun k => match k with
  | 0 => ("SchemaPascal$Symbol", "name", "I", true)
  | 1 => ("SchemaPascal$Symbol", "kind", "I", true)
  | 2 => ("SchemaPascal$Symbol", "type", "LSchemaPascal$Type;", false)
  | 3 => ("SchemaPascal$Symbol", "number", "I", false)
  | 4 => ("SchemaPascal$Symbol", "textLength", "I", false)
  | 5 => ("SchemaPascal$Symbol", "level", "I", false)
  | 6 => ("SchemaPascal$Symbol", "slot", "I", false)
  | 7 => ("SchemaPascal$Symbol", "mode", "I", false)
  | 8 => ("SchemaPascal$Symbol", "routine", "LSchemaPascal$Routine;", false)
  | 9 => ("SchemaPascal$Symbol", "outer", "LSchemaPascal$Symbol;", false)
  | 10 => ("SchemaPascal$Symbol", "part", "LSchemaPascal$Part;", false)
  | 11 => ("SchemaPascal$Symbol", "isTag", "Z", false)
  | _ => ("SchemaPascal$Symbol", "offset", "I", false)
def zT_10 : u_T := fun k => match k with
  | 0 => ("SchemaPascal$Type", "kind", "I", true)
  | 1 => ("SchemaPascal$Type", "id", "I", true)
  | 2 => ("SchemaPascal$Type", "host", "LSchemaPascal$Type;", false)
  | 3 => ("SchemaPascal$Type", "of", "LSchemaPascal$Type;", false)
  | 4 => ("SchemaPascal$Type", "index", "LSchemaPascal$Type;", false)
  | 5 => ("SchemaPascal$Type", "schema", "LSchemaPascal$Type;", false)
  | 6 => ("SchemaPascal$Type", "low", "I", false)
  | 7 => ("SchemaPascal$Type", "high", "I", false)
  | 8 => ("SchemaPascal$Type", "lowSum", "I", false)
  | 9 => ("SchemaPascal$Type", "highSum", "I", false)
  | 10 => ("SchemaPascal$Type", "given", "[I", false)
  | 11 => ("SchemaPascal$Type", "givenSums", "[I", false)
  | 12 => ("SchemaPascal$Type", "names", "Ljava/util/ArrayList;", false)
  | 13 => ("SchemaPascal$Type", "parts", "Ljava/util/ArrayList;", false)
  | 14 => ("SchemaPascal$Type", "hangs", "Z", false)
  | 15 => ("SchemaPascal$Type", "isMadeLate", "Z", false)
  | 16 => ("SchemaPascal$Type", "isUnsound", "Z", false)
  | 17 => ("SchemaPascal$Type", "cells", "I", false)
  | 18 => ("SchemaPascal$Type", "tall", "I", false)
  | 19 => ("SchemaPascal$Type", "pieces", "I", false)
  | 20 => ("SchemaPascal$Type", "isLaidOut", "Z", false)
  | _ => ("SchemaPascal$Type", "laidOutFor", "[J", false)
def zT_11 : u_T := fun k => match k with
  | 0 => ("SchemaPascal$Words", "tape", "[B", true)
  | 1 => ("SchemaPascal$Words", "texts", "LSchemaPascal$Row;", true)
  | 2 => ("SchemaPascal$Words", "letters", "[B", true)
  | 3 => ("SchemaPascal$Words", "begins", "[I", true)
  | 4 => ("SchemaPascal$Words", "others", "[I", true)
  | 5 => ("SchemaPascal$Words", "heads", "[I", true)
  | 6 => ("SchemaPascal$Words", "names", "I", false)
  | 7 => ("SchemaPascal$Words", "firstNames", "I", true)
  | 8 => ("SchemaPascal$Words", "length", "I", false)
  | 9 => ("SchemaPascal$Words", "at", "I", false)
  | 10 => ("SchemaPascal$Words", "kind", "I", false)
  | 11 => ("SchemaPascal$Words", "place", "I", false)
  | 12 => ("SchemaPascal$Words", "number", "I", false)
  | 13 => ("SchemaPascal$Words", "textAt", "I", false)
  | 14 => ("SchemaPascal$Words", "textLength", "I", false)
  | 15 => ("SchemaPascal$Words", "noted", "I", false)
  | 16 => ("SchemaPascal$Words", "faultCode", "I", false)
  | _ => ("SchemaPascal$Words", "faultPlace", "I", false)
def zT_12 : u_T := fun k => match k with
  | 0 => ("java/util/AbstractList", "modCount", "I", false)
  | 1 => ("java/util/ArrayList", "elementData", "[Ljava/lang/Object;", false)
  | _ => ("java/util/ArrayList", "size", "I", false)
abbrev ZV : Type := Nat × Nat
abbrev zcl : List vw_C := [("SchemaPascal", zT_0, 8), ("SchemaPascal$Item", zT_1, 11), ("SchemaPascal$Machine", zT_2, 21), ("SchemaPascal$Part", zT_3, 8), ("SchemaPascal$Program", zT_4, 18), ("SchemaPascal$Reader", zT_5, 15), ("SchemaPascal$Routine", zT_6, 12), ("SchemaPascal$Row", zT_7, 2), ("SchemaPascal$Store", zT_8, 13), ("SchemaPascal$Symbol", zT_9, 13), ("SchemaPascal$Type", zT_10, 22), ("SchemaPascal$Words", zT_11, 18), ("java/util/ArrayList", zT_12, 3)]
def zty (k : Nat) : FieldType := match k with
  | 50 => .int
  | 51 => .byte
  | 52 => .boolean
  | 60 => .long
  | 70 => .object "java/lang/Object"
  | 71 => .object "SchemaPascal$Symbol"
  | 72 => .object "SchemaPascal$Part"
  | _ => .int
abbrev zcodes : List Nat := [50, 51, 60, 70, 71, 72]
def ztb (k : Nat) : List Cond := match k with
  | 1 => tables_1_1
  | 2 => tables_1_2
  | 3 => tables_1_3
  | 4 => tables_1_4
  | 5 => tables_1_5
  | 6 => tables_1_6
  | 7 => tables_1_7
  | 8 => tables_1_8
  | 9 => tables_1_9
  | 10 => tables_1_10
  | 11 => tables_1_11
  | 12 => tables_1_12
  | 101 => k2_sels lw_privs_1
  | 102 => k2_sels lw_privs_2
  | 103 => k2_sels lw_privs_3
  | 104 => k2_sels lw_privs_4
  | 105 => k2_sels lw_privs_5
  | 106 => k2_sels lw_privs_6
  | 107 => k2_sels lw_privs_7
  | 108 => k2_sels lw_privs_8
  | 109 => k2_sels lw_privs_9
  | 110 => k2_sels lw_privs_10
  | 111 => k2_sels lw_privs_11
  | 112 => k2_sels lw_privs_12
  | 113 => k2_sels lw_privs_13
  | 114 => k2_sels lw_privs_14
  | _ => []
/-- a part's words, taken out by their place, are words of the tables -/
theorem ztb_in (k : Nat) : ∀ w ∈ ztb k, w ∈ lw_tbl := by
  intro w hw
  have ht : ∀ w ∈ tables_1, w ∈ lw_tbl := fun w h => List.mem_append_right _ h
  have hs : ∀ w ∈ k2_sels lw_privs, w ∈ lw_tbl := fun w h => List.mem_append_left _ h
  unfold ztb at hw
  split at hw
  · exact ht w (List.mem_append_left _ (hw))
  · exact ht w (List.mem_append_right _ (List.mem_append_left _ (hw)))
  · exact ht w (List.mem_append_right _ (List.mem_append_right _ (List.mem_append_left _ (hw))))
  · exact ht w (List.mem_append_right _ (List.mem_append_right _ (List.mem_append_right _ (List.mem_append_left _ (hw)))))
  · exact ht w (List.mem_append_right _ (List.mem_append_right _ (List.mem_append_right _ (List.mem_append_right _ (List.mem_append_left _ (hw))))))
  · exact ht w (List.mem_append_right _ (List.mem_append_right _ (List.mem_append_right _ (List.mem_append_right _ (List.mem_append_right _ (List.mem_append_left _ (hw)))))))
  · exact ht w (List.mem_append_right _ (List.mem_append_right _ (List.mem_append_right _ (List.mem_append_right _ (List.mem_append_right _ (List.mem_append_right _ (List.mem_append_left _ (hw))))))))
  · exact ht w (List.mem_append_right _ (List.mem_append_right _ (List.mem_append_right _ (List.mem_append_right _ (List.mem_append_right _ (List.mem_append_right _ (List.mem_append_right _ (List.mem_append_left _ (hw)))))))))
  · exact ht w (List.mem_append_right _ (List.mem_append_right _ (List.mem_append_right _ (List.mem_append_right _ (List.mem_append_right _ (List.mem_append_right _ (List.mem_append_right _ (List.mem_append_right _ (List.mem_append_left _ (hw))))))))))
  · exact ht w (List.mem_append_right _ (List.mem_append_right _ (List.mem_append_right _ (List.mem_append_right _ (List.mem_append_right _ (List.mem_append_right _ (List.mem_append_right _ (List.mem_append_right _ (List.mem_append_right _ (List.mem_append_left _ (hw)))))))))))
  · exact ht w (List.mem_append_right _ (List.mem_append_right _ (List.mem_append_right _ (List.mem_append_right _ (List.mem_append_right _ (List.mem_append_right _ (List.mem_append_right _ (List.mem_append_right _ (List.mem_append_right _ (List.mem_append_right _ (List.mem_append_left _ (hw))))))))))))
  · exact ht w (List.mem_append_right _ (List.mem_append_right _ (List.mem_append_right _ (List.mem_append_right _ (List.mem_append_right _ (List.mem_append_right _ (List.mem_append_right _ (List.mem_append_right _ (List.mem_append_right _ (List.mem_append_right _ (List.mem_append_right _ (hw))))))))))))
  · exact hs w (by unfold lw_privs; unfold k2_sels at hw ⊢; simp only [List.map_append]; exact List.mem_append_left _ (hw))
  · exact hs w (by unfold lw_privs; unfold k2_sels at hw ⊢; simp only [List.map_append]; exact List.mem_append_right _ (List.mem_append_left _ (hw)))
  · exact hs w (by unfold lw_privs; unfold k2_sels at hw ⊢; simp only [List.map_append]; exact List.mem_append_right _ (List.mem_append_right _ (List.mem_append_left _ (hw))))
  · exact hs w (by unfold lw_privs; unfold k2_sels at hw ⊢; simp only [List.map_append]; exact List.mem_append_right _ (List.mem_append_right _ (List.mem_append_right _ (List.mem_append_left _ (hw)))))
  · exact hs w (by unfold lw_privs; unfold k2_sels at hw ⊢; simp only [List.map_append]; exact List.mem_append_right _ (List.mem_append_right _ (List.mem_append_right _ (List.mem_append_right _ (List.mem_append_left _ (hw))))))
  · exact hs w (by unfold lw_privs; unfold k2_sels at hw ⊢; simp only [List.map_append]; exact List.mem_append_right _ (List.mem_append_right _ (List.mem_append_right _ (List.mem_append_right _ (List.mem_append_right _ (List.mem_append_left _ (hw)))))))
  · exact hs w (by unfold lw_privs; unfold k2_sels at hw ⊢; simp only [List.map_append]; exact List.mem_append_right _ (List.mem_append_right _ (List.mem_append_right _ (List.mem_append_right _ (List.mem_append_right _ (List.mem_append_right _ (List.mem_append_left _ (hw))))))))
  · exact hs w (by unfold lw_privs; unfold k2_sels at hw ⊢; simp only [List.map_append]; exact List.mem_append_right _ (List.mem_append_right _ (List.mem_append_right _ (List.mem_append_right _ (List.mem_append_right _ (List.mem_append_right _ (List.mem_append_right _ (List.mem_append_left _ (hw)))))))))
  · exact hs w (by unfold lw_privs; unfold k2_sels at hw ⊢; simp only [List.map_append]; exact List.mem_append_right _ (List.mem_append_right _ (List.mem_append_right _ (List.mem_append_right _ (List.mem_append_right _ (List.mem_append_right _ (List.mem_append_right _ (List.mem_append_right _ (List.mem_append_left _ (hw))))))))))
  · exact hs w (by unfold lw_privs; unfold k2_sels at hw ⊢; simp only [List.map_append]; exact List.mem_append_right _ (List.mem_append_right _ (List.mem_append_right _ (List.mem_append_right _ (List.mem_append_right _ (List.mem_append_right _ (List.mem_append_right _ (List.mem_append_right _ (List.mem_append_right _ (List.mem_append_left _ (hw)))))))))))
  · exact hs w (by unfold lw_privs; unfold k2_sels at hw ⊢; simp only [List.map_append]; exact List.mem_append_right _ (List.mem_append_right _ (List.mem_append_right _ (List.mem_append_right _ (List.mem_append_right _ (List.mem_append_right _ (List.mem_append_right _ (List.mem_append_right _ (List.mem_append_right _ (List.mem_append_right _ (List.mem_append_left _ (hw))))))))))))
  · exact hs w (by unfold lw_privs; unfold k2_sels at hw ⊢; simp only [List.map_append]; exact List.mem_append_right _ (List.mem_append_right _ (List.mem_append_right _ (List.mem_append_right _ (List.mem_append_right _ (List.mem_append_right _ (List.mem_append_right _ (List.mem_append_right _ (List.mem_append_right _ (List.mem_append_right _ (List.mem_append_right _ (List.mem_append_left _ (hw)))))))))))))
  · exact hs w (by unfold lw_privs; unfold k2_sels at hw ⊢; simp only [List.map_append]; exact List.mem_append_right _ (List.mem_append_right _ (List.mem_append_right _ (List.mem_append_right _ (List.mem_append_right _ (List.mem_append_right _ (List.mem_append_right _ (List.mem_append_right _ (List.mem_append_right _ (List.mem_append_right _ (List.mem_append_right _ (List.mem_append_right _ (List.mem_append_left _ (hw))))))))))))))
  · exact hs w (by unfold lw_privs; unfold k2_sels at hw ⊢; simp only [List.map_append]; exact List.mem_append_right _ (List.mem_append_right _ (List.mem_append_right _ (List.mem_append_right _ (List.mem_append_right _ (List.mem_append_right _ (List.mem_append_right _ (List.mem_append_right _ (List.mem_append_right _ (List.mem_append_right _ (List.mem_append_right _ (List.mem_append_right _ (List.mem_append_right _ (hw))))))))))))))
  · cases hw
def zn {α : Type} {n : Nat} (v : Option α) (l r : ZT α n) : ZT α (n + 1) := (some (v, l, r) : Option (Option α × ZT α n × ZT α n))
noncomputable def z0 {α : Type} {n : Nat} : ZT α n := zt_nil α n
noncomputable def zq_xt (k : Nat) : Option (Nat × Nat × ZT Nat 10) := match k with
  | 1 => some (70, 0, z0)
  | 2 => some (50, 16, (zn (some 0) (zn (some 1) (zn (some 5) (zn (some 9) (zn (some 10) z0 z0) z0) (zn (some 4) z0 z0)) (zn (some 4) (zn (some 7) z0 z0) (zn (some 2) z0 z0))) (zn (some 8) (zn (some 7) (zn (some 6) z0 z0) (zn (some 5) z0 z0)) (zn (some 5) (zn (some 8) z0 z0) (zn (some 3) z0 z0)))))
  | 4 => some (51, 198, (zn (some 112) (zn (some 114) (zn (some 103) (zn (some 32) (zn (some 121) (zn (some 101) (zn (some 116) (zn (some 119) z0 z0) (zn (some 32) z0 z0)) (zn (some 102) (zn (some 32) z0 z0) z0)) (zn (some 114) (zn (some 100) (zn (some 100) z0 z0) z0) (zn (some 115) (zn (some 110) z0 z0) z0))) (zn (some 112) (zn (some 111) (zn (some 101) (zn (some 97) z0 z0) z0) (zn (some 111) (zn (some 32) z0 z0) z0)) (zn (some 32) (zn (some 116) (zn (some 114) z0 z0) z0) (zn (some 104) (zn (some 114) z0 z0) z0)))) (zn (some 115) (zn (some 118) (zn (some 110) (zn (some 32) (zn (some 32) z0 z0) (zn (some 117) z0 z0)) (zn (some 116) (zn (some 32) z0 z0) z0)) (zn (some 101) (zn (some 101) (zn (some 116) z0 z0) z0) (zn (some 102) (zn (some 105) z0 z0) z0))) (zn (some 101) (zn (some 111) (zn (some 105) (zn (some 101) z0 z0) z0) (zn (some 111) (zn (some 32) z0 z0) z0)) (zn (some 32) (zn (some 116) (zn (some 32) z0 z0) z0) (zn (some 105) (zn (some 99) z0 z0) z0))))) (zn (some 97) (zn (some 111) (zn (some 101) (zn (some 102) (zn (some 101) (zn (some 116) z0 z0) (zn (some 97) z0 z0)) (zn (some 114) (zn (some 105) z0 z0) z0)) (zn (some 32) (zn (some 32) (zn (some 115) z0 z0) z0) (zn (some 32) (zn (some 116) z0 z0) z0))) (zn (some 111) (zn (some 32) (zn (some 119) (zn (some 32) z0 z0) z0) (zn (some 110) (zn (some 110) z0 z0) z0)) (zn (some 110) (zn (some 117) (zn (some 110) z0 z0) z0) (zn (some 114) (zn (some 116) z0 z0) z0)))) (zn (some 32) (zn (some 114) (zn (some 116) (zn (some 108) (zn (some 114) z0 z0) (zn (some 32) z0 z0)) (zn (some 32) (zn (some 111) z0 z0) z0)) (zn (some 105) (zn (some 101) (zn (some 115) z0 z0) z0) (zn (some 111) (zn (some 32) z0 z0) z0))) (zn (some 117) (zn (some 119) (zn (some 101) (zn (some 111) z0 z0) z0) (zn (some 99) (zn (some 114) z0 z0) z0)) (zn (some 102) (zn (some 108) (zn (some 105) z0 z0) z0) (zn (some 101) (zn (some 101) z0 z0) z0)))))) (zn (some 111) (zn (some 114) (zn (some 99) (zn (some 112) (zn (some 32) (zn (some 104) (zn (some 105) z0 z0) (zn (some 118) z0 z0)) (zn (some 111) (zn (some 100) z0 z0) z0)) (zn (some 100) (zn (some 111) (zn (some 32) z0 z0) z0) (zn (some 101) (zn (some 111) z0 z0) z0))) (zn (some 114) (zn (some 110) (zn (some 32) (zn (some 121) z0 z0) z0) (zn (some 119) (zn (some 97) z0 z0) z0)) (zn (some 101) (zn (some 32) (zn (some 105) z0 z0) z0) (zn (some 101) (zn (some 111) z0 z0) z0)))) (zn (some 116) (zn (some 97) (zn (some 99) (zn (some 101) (zn (some 97) z0 z0) (zn (some 101) z0 z0)) (zn (some 111) (zn (some 109) z0 z0) z0)) (zn (some 103) (zn (some 112) (zn (some 32) z0 z0) z0) (zn (some 32) (zn (some 110) z0 z0) z0))) (zn (some 100) (zn (some 114) (zn (some 108) (zn (some 99) z0 z0) z0) (zn (some 32) (zn (some 111) z0 z0) z0)) (zn (some 105) (zn (some 105) (zn (some 110) z0 z0) z0) (zn (some 115) (zn (some 116) z0 z0) z0))))) (zn (some 109) (zn (some 110) (zn (some 32) (zn (some 117) (zn (some 110) (zn (some 104) z0 z0) (zn (some 108) z0 z0)) (zn (some 32) (zn (some 118) z0 z0) z0)) (zn (some 98) (zn (some 114) (zn (some 101) z0 z0) z0) (zn (some 111) (zn (some 32) z0 z0) z0))) (zn (some 99) (zn (some 102) (zn (some 104) (zn (some 114) z0 z0) z0) (zn (some 116) (zn (some 100) z0 z0) z0)) (zn (some 100) (zn (some 110) (zn (some 103) z0 z0) z0) (zn (some 119) (zn (some 101) z0 z0) z0)))) (zn (some 116) (zn (some 32) (zn (some 105) (zn (some 115) (zn (some 114) z0 z0) z0) (zn (some 100) (zn (some 100) z0 z0) z0)) (zn (some 110) (zn (some 97) (zn (some 116) z0 z0) z0) (zn (some 116) (zn (some 112) z0 z0) z0))) (zn (some 114) (zn (some 97) (zn (some 32) (zn (some 114) z0 z0) z0) (zn (some 97) (zn (some 32) z0 z0) z0)) (zn (some 32) (zn (some 32) (zn (some 108) z0 z0) z0) (zn (some 32) (zn (some 100) z0 z0) z0))))))))
  | 6 => some (51, 134, (zn (some 105) (zn (some 110) (zn (some 101) (zn (some 32) (zn (some 32) (zn (some 32) (zn (some 32) (zn (some 110) z0 z0) z0) (zn (some 111) z0 z0)) (zn (some 111) (zn (some 100) z0 z0) (zn (some 101) z0 z0))) (zn (some 117) (zn (some 97) (zn (some 110) z0 z0) (zn (some 105) z0 z0)) (zn (some 99) (zn (some 115) z0 z0) (zn (some 101) z0 z0)))) (zn (some 108) (zn (some 114) (zn (some 105) (zn (some 100) (zn (some 108) z0 z0) z0) (zn (some 101) z0 z0)) (zn (some 111) (zn (some 100) z0 z0) (zn (some 119) z0 z0))) (zn (some 97) (zn (some 115) (zn (some 32) z0 z0) (zn (some 115) z0 z0)) (zn (some 115) (zn (some 116) z0 z0) (zn (some 105) z0 z0))))) (zn (some 101) (zn (some 111) (zn (some 104) (zn (some 97) (zn (some 114) (zn (some 104) z0 z0) z0) (zn (some 32) z0 z0)) (zn (some 100) (zn (some 105) z0 z0) (zn (some 100) z0 z0))) (zn (some 32) (zn (some 115) (zn (some 116) z0 z0) (zn (some 112) z0 z0)) (zn (some 114) (zn (some 98) z0 z0) (zn (some 119) z0 z0)))) (zn (some 97) (zn (some 116) (zn (some 116) (zn (some 108) (zn (some 32) z0 z0) z0) (zn (some 32) z0 z0)) (zn (some 100) (zn (some 120) z0 z0) (zn (some 105) z0 z0))) (zn (some 115) (zn (some 114) (zn (some 97) z0 z0) (zn (some 32) z0 z0)) (zn (some 99) (zn (some 32) z0 z0) (zn (some 101) z0 z0)))))) (zn (some 116) (zn (some 103) (zn (some 98) (zn (some 99) (zn (some 109) (zn (some 112) (zn (some 32) z0 z0) z0) (zn (some 102) z0 z0)) (zn (some 100) (zn (some 32) z0 z0) (zn (some 97) z0 z0))) (zn (some 101) (zn (some 98) (zn (some 103) z0 z0) (zn (some 115) z0 z0)) (zn (some 104) (zn (some 117) z0 z0) (zn (some 32) z0 z0)))) (zn (some 101) (zn (some 32) (zn (some 110) (zn (some 32) (zn (some 116) z0 z0) z0) (zn (some 119) z0 z0)) (zn (some 114) (zn (some 101) z0 z0) (zn (some 114) z0 z0))) (zn (some 108) (zn (some 113) (zn (some 99) z0 z0) (zn (some 101) z0 z0)) (zn (some 117) (zn (some 114) z0 z0) (zn (some 116) z0 z0))))) (zn (some 114) (zn (some 111) (zn (some 97) (zn (some 120) (zn (some 101) (zn (some 97) z0 z0) z0) (zn (some 110) z0 z0)) (zn (some 32) (zn (some 110) z0 z0) (zn (some 32) z0 z0))) (zn (some 102) (zn (some 32) (zn (some 104) z0 z0) (zn (some 111) z0 z0)) (zn (some 32) (zn (some 115) z0 z0) (zn (some 114) z0 z0)))) (zn (some 110) (zn (some 114) (zn (some 32) (zn (some 101) z0 z0) (zn (some 100) z0 z0)) (zn (some 32) (zn (some 32) z0 z0) (zn (some 116) z0 z0))) (zn (some 101) (zn (some 32) (zn (some 114) z0 z0) (zn (some 114) z0 z0)) (zn (some 99) (zn (some 101) z0 z0) (zn (some 108) z0 z0))))))))
  | 8 => some (51, 15, (zn (some 43) (zn (some 45) (zn (some 61) (zn (some 41) z0 z0) (zn (some 59) z0 z0)) (zn (some 62) (zn (some 93) z0 z0) (zn (some 94) z0 z0))) (zn (some 42) (zn (some 60) (zn (some 91) z0 z0) (zn (some 58) z0 z0)) (zn (some 40) (zn (some 44) z0 z0) (zn (some 46) z0 z0)))))
  | 10 => some (51, 1, (zn (some 111) z0 z0))
  | 12 => some (51, 1, (zn (some 116) z0 z0))
  | 14 => some (51, 1, (zn (some 115) z0 z0))
  | 16 => some (51, 2, (zn (some 116) (zn (some 116) z0 z0) z0))
  | 18 => some (51, 3, (zn (some 116) (zn (some 105) z0 z0) (zn (some 105) z0 z0)))
  | 20 => some (51, 0, z0)
  | 22 => some (51, 1, (zn (some 105) z0 z0))
  | _ => none
def zq_st (k : Nat) : Option (String × String × String × ZV) := match k with
  | 0 => some ("java/util/ArrayList", "DEFAULTCAPACITY_EMPTY_ELEMENTDATA", "[Ljava/lang/Object;", (4, 1))
  | 1 => some ("SchemaPascal", "CODES", "[I", (4, 2))
  | 2 => some ("java/lang/String", "COMPACT_STRINGS", "Z", (0, 1))
  | 3 => some ("jdk/internal/util/Preconditions", "SIOOBE_FORMATTER", "Ljava/util/function/BiFunction;", (7, 0))
  | _ => none
def zq_xs (k : Nat) : Option Nat := match k with
  | 3 => some 4
  | 5 => some 6
  | 7 => some 8
  | 9 => some 10
  | 11 => some 12
  | 13 => some 14
  | 15 => some 16
  | 17 => some 18
  | 19 => some 20
  | 21 => some 22
  | _ => none
/-- the exceptions; which of them is none of which other one, as far as it is asked -/
def zq_ex (k : Nat) : String := match k with
  | 0 => "java/lang/IllegalStateException"
  | 1 => "java/lang/IllegalArgumentException"
  | 2 => "java/lang/IndexOutOfBoundsException"
  | _ => "java/lang/UnsupportedOperationException"
def zq_nc : List (Nat × Nat) := [(0, 1)]
def zq_ld (k : Nat) : Option (String × Nat × String × Nat) := match k with
  | 0 => some ("SchemaPascal$Words", 39, "program const type var procedure function forward begin end if then else while do repeat until for to downto case of otherwise with array record set string nil div mod and or not in protected value ", 3)
  | 1 => some ("SchemaPascal$Words", 45, "integer boolean char true false maxint abs sqr odd ord chr succ pred length card index substr eof new dispose read write writeln halt ", 5)
  | 2 => some ("SchemaPascal$Words", 173, "+-*=<>()[],;:^.", 7)
  | 3 => some ("SchemaPascal$Reader", 824, "o", 9)
  | 4 => some ("SchemaPascal$Reader", 826, "t", 11)
  | 5 => some ("SchemaPascal$Reader", 828, "s", 13)
  | 6 => some ("SchemaPascal$Reader", 830, "tt", 15)
  | 7 => some ("SchemaPascal$Reader", 832, "tii", 17)
  | 8 => some ("SchemaPascal$Reader", 834, "", 19)
  | 9 => some ("SchemaPascal$Reader", 836, "i", 21)
  | _ => none
