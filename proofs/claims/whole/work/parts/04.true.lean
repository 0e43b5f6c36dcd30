def jn (i : Nat) : MethodName := jN.getD i ⟨"", "", ""⟩
def jb (i : Nat) : ByteArray := jB.getD i ⟨#[]⟩
def jl (i : Nat) : Nat := jL.getD i 0
def jr (i : Nat) : Option FieldType := jRt.getD i none
def jh (i : Nat) : List (Nat × Nat × Nat × Nat) := jHs.getD i []
def jo (i : Nat) : Nat := jCs.getD i 99
def jp (i : Nat) : Nat := jPs.getD i 0
def jm (i : Nat) : Room := jMr.getD i { frames := 0, cells := 0, slots := 0, locals := 0 }
def jrc (i : Nat) : Nat := (jRr.getD i (0, 0)).1
def jrs (i : Nat) : Nat := (jRr.getD i (0, 0)).2
def jcode (i pc : Nat) : Option (Instr × Nat) := ((jKs.getD i []).find? (fun q => q.1 == pc)).map (fun q => q.2)
def jfld (i x : Nat) : Option (Nat × Nat) := (jFL.find? (fun q => q.1 == (jo i, x))).map (fun q => q.2)
def jcal (i x : Nat) : Option (Nat × Nat) := (jCL.find? (fun q => q.1 == (jo i, x))).map (fun q => q.2)
def jnew (i x : Nat) : Option Nat := (jNL.find? (fun q => q.1 == (jo i, x))).map (fun q => q.2)
def jobj (i x : Nat) : Bool := jIL.contains (jo i, x)
def jthr (i pc : Nat) : Option (Nat × Nat × Nat × String × String) := (jXL.find? (fun q => q.1 == (i, pc))).map (fun q => q.2)
/-- the handler of a thrown class, by its exact name -/
def jhan (i pc : Nat) (X : String) : Option Nat := ((jHC.getD i []).find? (fun q => q.1 ≤ pc && pc < q.2.1 && q.2.2.2 == X)).map (fun q => q.2.2.1)
/-- the word of a method's code -/
def jcw (i : Nat) : Cond := if (jh i).isEmpty then .code (jn i) (jb i) (jl i) (jr i) else .codeWith (jn i) (jb i) (jl i) (jr i) (jh i)
/-- all good words -/
def jGW : List Cond := lw_tbl.filter goodWord
theorem jGW_of {w : Cond} (h1 : w ∈ lw_tbl) (h2 : goodWord w = true) : w ∈ jGW := List.mem_filter.mpr ⟨h1, h2⟩
theorem jGW_good : GoodIn lw_tbl jGW := fun w h => ⟨(List.mem_filter.mp h).1, good_of_word (List.mem_filter.mp h).2⟩
theorem jGW_self : GoodIn jGW jGW := fun w h => ⟨h, good_of_word (List.mem_filter.mp h).2⟩
theorem jfind {α β : Type} {L : List (α × β)} {f : α → Bool} {r : β} (h : (L.find? (fun q => f q.1)).map (fun q => q.2) = some r) : ∃ a, (a, r) ∈ L ∧ f a = true := by
  cases hq : L.find? (fun q => f q.1) with
  | none => rw [hq] at h; cases h
  | some q =>
    rw [hq] at h
    obtain ⟨a, r'⟩ := q
    cases h
    have h2 := List.find?_some hq
    exact ⟨a, List.mem_of_find?_eq_some hq, h2⟩

theorem jdec_all : ∀ i, i < 119 → ∀ q ∈ jKs.getD i [], decode (jb i) q.1 = .ok q.2 := by
  intro i hi
  match i, hi with
  | 0, _ => exact jD0
  | 1, _ => exact jD1
  | 2, _ => exact jD2
  | 3, _ => exact jD3
  | 4, _ => exact jD4
  | 5, _ => exact jD5
  | 6, _ => exact jD6
  | 7, _ => exact jD7
  | 8, _ => exact jD8
  | 9, _ => exact jD9
  | 10, _ => exact jD10
  | 11, _ => exact jD11
  | 12, _ => exact jD12
  | 13, _ => exact jD13
  | 14, _ => exact jD14
  | 15, _ => exact jD15
  | 16, _ => exact jD16
  | 17, _ => exact jD17
  | 18, _ => exact jD18
  | 19, _ => exact jD19
  | 20, _ => exact jD20
  | 21, _ => exact jD21
  | 22, _ => exact jD22
  | 23, _ => exact jD23
  | 24, _ => exact jD24
  | 25, _ => exact jD25
  | 26, _ => exact jD26
  | 27, _ => exact jD27
  | 28, _ => exact jD28
  | 29, _ => exact jD29
  | 30, _ => exact jD30
  | 31, _ => exact jD31
  | 32, _ => exact jD32
  | 33, _ => exact jD33
  | 34, _ => exact jD34
  | 35, _ => exact jD35
  | 36, _ => exact jD36
  | 37, _ => exact jD37
  | 38, _ => exact jD38
  | 39, _ => exact jD39
  | 40, _ => exact jD40
  | 41, _ => exact jD41
  | 42, _ => exact jD42
  | 43, _ => exact jD43
  | 44, _ => exact jD44
  | 45, _ => exact jD45
  | 46, _ => exact jD46
  | 47, _ => exact jD47
  | 48, _ => exact jD48
  | 49, _ => exact jD49
  | 50, _ => exact jD50
  | 51, _ => exact jD51
  | 52, _ => exact jD52
  | 53, _ => exact jD53
  | 54, _ => exact jD54
  | 55, _ => exact jD55
  | 56, _ => exact jD56
  | 57, _ => exact jD57
  | 58, _ => exact jD58
  | 59, _ => exact jD59
  | 60, _ => exact jD60
  | 61, _ => exact jD61
  | 62, _ => exact jD62
  | 63, _ => exact jD63
  | 64, _ => exact jD64
  | 65, _ => exact jD65
  | 66, _ => exact jD66
  | 67, _ => exact jD67
  | 68, _ => exact jD68
  | 69, _ => exact jD69
  | 70, _ => exact jD70
  | 71, _ => exact jD71
  | 72, _ => exact jD72
  | 73, _ => exact jD73
  | 74, _ => exact jD74
  | 75, _ => exact jD75
  | 76, _ => exact jD76
  | 77, _ => exact jD77
  | 78, _ => exact jD78
  | 79, _ => exact jD79
  | 80, _ => exact jD80
  | 81, _ => exact jD81
  | 82, _ => exact jD82
  | 83, _ => exact jD83
  | 84, _ => exact jD84
  | 85, _ => exact jD85
  | 86, _ => exact jD86
  | 87, _ => exact jD87
  | 88, _ => exact jD88
  | 89, _ => exact jD89
  | 90, _ => exact jD90
  | 91, _ => exact jD91
  | 92, _ => exact jD92
  | 93, _ => exact jD93
  | 94, _ => exact jD94
  | 95, _ => exact jD95
  | 96, _ => exact jD96
  | 97, _ => exact jD97
  | 98, _ => exact jD98
  | 99, _ => exact jD99
  | 100, _ => exact jD100
  | 101, _ => exact jD101
  | 102, _ => exact jD102
  | 103, _ => exact jD103
  | 104, _ => exact jD104
  | 105, _ => exact jD105
  | 106, _ => exact jD106
  | 107, _ => exact jD107
  | 108, _ => exact jD108
  | 109, _ => exact jD109
  | 110, _ => exact jD110
  | 111, _ => exact jD111
  | 112, _ => exact jD112
  | 113, _ => exact jD113
  | 114, _ => exact jD114
  | 115, _ => exact jD115
  | 116, _ => exact jD116
  | 117, _ => exact jD117
  | 118, _ => exact jD118
  | k + 119, h => exact absurd h (by omega)
theorem jdec {i pc : Nat} {r : Instr × Nat} (h : jcode i pc = some r) : decode (jb i) pc = .ok r := by
  obtain ⟨a, h1, h2⟩ := jfind (f := fun a => a == pc) (show ((jKs.getD i []).find? (fun q => q.1 == pc)).map (fun q => q.2) = some r from h)
  have ha : a = pc := by simpa using h2
  subst ha
  by_cases hi : i < 119
  · have h3 : decode (jb i) ((a, r) : Nat × Instr × Nat).1 = .ok ((a, r) : Nat × Instr × Nat).2 := jdec_all i hi (a, r) h1
    exact h3
  · have : jKs.getD i [] = [] := by
      have hl : jKs.length = 119 := by decide +kernel
      rw [List.getD_eq_getElem?_getD, List.getElem?_eq_none (by omega)]; rfl
    rw [this] at h1; cases h1
theorem jlt {i pc : Nat} {r : Instr × Nat} (h : jcode i pc = some r) : i < 119 := by
  obtain ⟨a, h1, h2⟩ := jfind (f := fun a => a == pc) (show ((jKs.getD i []).find? (fun q => q.1 == pc)).map (fun q => q.2) = some r from h)
  by_cases hi : i < 119
  · exact hi
  · have : jKs.getD i [] = [] := by
      have hl : jKs.length = 119 := by decide +kernel
      rw [List.getD_eq_getElem?_getD, List.getElem?_eq_none (by omega)]; rfl
    rw [this] at h1; cases h1

