/-! the whole program is sound; printed by wip/p29/gen_code.py -/
section
variable {B : ab_B}
theorem ab_st_sound (M pc : Nat) : ab_Sn B M pc (ab_st B M pc) := by
  have hno : ab_Sn B M pc (fun _ _ _ => ab_x) := fun _ _ _ => trivial
  unfold ab_st
  rw [List.getD_eq_getElem?_getD (l := (ab_tabs B).getD M [])]
  cases h : ((ab_tabs B).getD M [])[pc]? with
  | none => exact hno
  | some o =>
    cases o with
    | none => exact hno
    | some op =>
      have key : ∀ l : List (Option ab_O), (ab_tabs B).getD M [] = l → ab_all B M 0 l → ab_Sn B M pc op := fun l hl ha => by
        rw [hl] at h
        have := ab_all_at l 0 pc ha op h
        rwa [Nat.zero_add] at this
      show ab_Sn B M pc op
      match M, h, key with
      | 0, _, key => exact key _ rfl ab_sn0
      | 1, _, key => exact key _ rfl ab_sn1
      | 2, _, key => exact key _ rfl ab_sn2
      | 3, _, key => exact key _ rfl ab_sn3
      | 4, _, key => exact key _ rfl ab_sn4
      | 5, _, key => exact key _ rfl ab_sn5
      | 6, _, key => exact key _ rfl ab_sn6
      | 7, _, key => exact key _ rfl ab_sn7
      | 8, _, key => exact key _ rfl ab_sn8
      | 9, _, key => exact key _ rfl ab_sn9
      | 10, _, key => exact key _ rfl ab_sn10
      | 11, _, key => exact key _ rfl ab_sn11
      | 12, _, key => exact key _ rfl ab_sn12
      | 13, _, key => exact key _ rfl ab_sn13
      | 14, _, key => exact key _ rfl ab_sn14
      | 15, _, key => exact key _ rfl ab_sn15
      | 16, _, key => exact key _ rfl ab_sn16
      | 17, _, key => exact key _ rfl ab_sn17
      | 18, _, key => exact key _ rfl ab_sn18
      | 19, _, key => exact key _ rfl ab_sn19
      | 20, _, key => exact key _ rfl ab_sn20
      | 21, _, key => exact key _ rfl ab_sn21
      | 22, _, key => exact key _ rfl ab_sn22
      | 23, _, key => exact key _ rfl ab_sn23
      | 24, _, key => exact key _ rfl ab_sn24
      | 25, _, key => exact key _ rfl ab_sn25
      | 26, _, key => exact key _ rfl ab_sn26
      | 27, _, key => exact key _ rfl ab_sn27
      | 28, _, key => exact key _ rfl ab_sn28
      | 29, _, key => exact key _ rfl ab_sn29
      | 30, _, key => exact key _ rfl ab_sn30
      | 31, _, key => exact key _ rfl ab_sn31
      | 32, _, key => exact key _ rfl ab_sn32
      | 33, _, key => exact key _ rfl ab_sn33
      | 34, _, key => exact key _ rfl ab_sn34
      | 35, _, key => exact key _ rfl ab_sn35
      | 36, _, key => exact key _ rfl ab_sn36
      | 37, _, key => exact key _ rfl ab_sn37
      | 38, _, key => exact key _ rfl ab_sn38
      | 39, _, key => exact key _ rfl ab_sn39
      | 40, _, key => exact key _ rfl ab_sn40
      | 41, _, key => exact key _ rfl ab_sn41
      | 42, _, key => exact key _ rfl ab_sn42
      | 43, _, key => exact key _ rfl ab_sn43
      | 44, _, key => exact key _ rfl ab_sn44
      | 45, _, key => exact key _ rfl ab_sn45
      | 46, _, key => exact key _ rfl ab_sn46
      | 47, _, key => exact key _ rfl ab_sn47
      | 48, _, key => exact key _ rfl ab_sn48
      | 49, _, key => exact key _ rfl ab_sn49
      | 50, _, key => exact key _ rfl ab_sn50
      | 51, _, key => exact key _ rfl ab_sn51
      | 52, _, key => exact key _ rfl ab_sn52
      | 53, _, key => exact key _ rfl ab_sn53
      | 54, _, key => exact key _ rfl ab_sn54
      | 55, _, key => exact key _ rfl ab_sn55
      | 56, _, key => exact key _ rfl ab_sn56
      | 57, _, key => exact key _ rfl ab_sn57
      | 58, _, key => exact key _ rfl ab_sn58
      | 59, _, key => exact key _ rfl ab_sn59
      | 60, _, key => exact key _ rfl ab_sn60
      | 61, _, key => exact key _ rfl ab_sn61
      | 62, _, key => exact key _ rfl ab_sn62
      | 63, _, key => exact key _ rfl ab_sn63
      | 64, _, key => exact key _ rfl ab_sn64
      | 65, _, key => exact key _ rfl ab_sn65
      | 66, _, key => exact key _ rfl ab_sn66
      | 67, _, key => exact key _ rfl ab_sn67
      | 68, _, key => exact key _ rfl ab_sn68
      | 69, _, key => exact key _ rfl ab_sn69
      | 70, _, key => exact key _ rfl ab_sn70
      | 71, _, key => exact key _ rfl ab_sn71
      | 72, _, key => exact key _ rfl ab_sn72
      | 73, _, key => exact key _ rfl ab_sn73
      | 74, _, key => exact key _ rfl ab_sn74
      | 75, _, key => exact key _ rfl ab_sn75
      | 76, _, key => exact key _ rfl ab_sn76
      | 77, _, key => exact key _ rfl ab_sn77
      | 78, _, key => exact key _ rfl ab_sn78
      | 79, _, key => exact key _ rfl ab_sn79
      | 80, h, _ => cases h
      | 81, _, key => exact key _ rfl ab_sn81
      | 82, _, key => exact key _ rfl ab_sn82
      | 83, _, key => exact key _ rfl ab_sn83
      | 84, _, key => exact key _ rfl ab_sn84
      | 85, _, key => exact key _ rfl ab_sn85
      | 86, _, key => exact key _ rfl ab_sn86
      | 87, _, key => exact key _ rfl ab_sn87
      | 88, h, _ => cases h
      | 89, _, key => exact key _ rfl ab_sn89
      | 90, _, key => exact key _ rfl ab_sn90
      | 91, _, key => exact key _ rfl ab_sn91
      | 92, _, key => exact key _ rfl ab_sn92
      | 93, _, key => exact key _ rfl ab_sn93
      | 94, _, key => exact key _ rfl ab_sn94
      | 95, _, key => exact key _ rfl ab_sn95
      | 96, _, key => exact key _ rfl ab_sn96
      | M + 97, h, _ => simp [ab_tabs] at h
end
