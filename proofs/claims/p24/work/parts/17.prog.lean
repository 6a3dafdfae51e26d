set_option linter.all false
/-! the whole program is sound; printed by wip/px/gen_code.py -/
section
variable {B : ab_B}
def ab_alls (B : ab_B) : Nat → List (List (Option ab_O)) → Prop
  | _, [] => True
  | M, l :: r => ab_all B M 0 l ∧ ab_alls B (M + 1) r
theorem ab_alls_at : ∀ (L : List (List (Option ab_O))) (M i : Nat), ab_alls B M L → ab_all B (M + i) 0 (L.getD i [])
  | [], M, i, _ => by rw [List.getD_eq_getElem?_getD, List.getElem?_nil]; exact trivial
  | l :: r, M, 0, h => h.1
  | l :: r, M, i + 1, h => by rw [show M + (i + 1) = M + 1 + i by omega]; exact ab_alls_at r (M + 1) i h.2
set_option maxRecDepth 20000 in
theorem ab_tabs_all : ab_alls B 0 (ab_tabs B) := ⟨ab_sn0, ab_sn1, ab_sn2, ab_sn3, ab_sn4, ab_sn5, ab_sn6, ab_sn7, ab_sn8, ab_sn9, ab_sn10, ab_sn11, ab_sn12, ab_sn13, ab_sn14, ab_sn15, ab_sn16, ab_sn17, ab_sn18, ab_sn19, ab_sn20, ab_sn21, ab_sn22, ab_sn23, ab_sn24, ab_sn25, ab_sn26, ab_sn27, ab_sn28, ab_sn29, ab_sn30, ab_sn31, ab_sn32, ab_sn33, ab_sn34, ab_sn35, ab_sn36, ab_sn37, ab_sn38, ab_sn39, ab_sn40, ab_sn41, ab_sn42, ab_sn43, ab_sn44, ab_sn45, ab_sn46, ab_sn47, ab_sn48, ab_sn49, ab_sn50, ab_sn51, ab_sn52, ab_sn53, ab_sn54, ab_sn55, ab_sn56, ab_sn57, ab_sn58, ab_sn59, ab_sn60, ab_sn61, ab_sn62, ab_sn63, ab_sn64, ab_sn65, ab_sn66, ab_sn67, ab_sn68, ab_sn69, ab_sn70, ab_sn71, ab_sn72, ab_sn73, ab_sn74, ab_sn75, ab_sn76, ab_sn77, ab_sn78, ab_sn79, ab_sn80, ab_sn81, ab_sn82, ab_sn83, ab_sn84, ab_sn85, ab_sn86, ab_sn87, ab_sn88, ab_sn89, ab_sn90, ab_sn91, ab_sn92, ab_sn93, ab_sn94, ab_sn95, ab_sn96, ab_sn97, ab_sn98, ab_sn99, ab_sn100, ab_sn101, ab_sn102, ab_sn103, ab_sn104, ab_sn105, ab_sn106, ab_sn107, ab_sn108, ab_sn109, ab_sn110, ab_sn111, ab_sn112, ab_sn113, ab_sn114, ab_sn115, ab_sn116, ab_sn117, ab_sn118, ab_sn119, ab_sn120, ab_sn121, ab_sn122, ab_sn123, ab_sn124, ab_sn125, ab_sn126, ab_sn127, ab_sn128, ab_sn129, ab_sn130, ab_sn131, ab_sn132, ab_sn133, ab_sn134, ab_sn135, ab_sn136, ab_sn137, ab_sn138, ab_sn139, ab_sn140, ab_sn141, ab_sn142, ab_sn143, ab_sn144, ab_sn145, ab_sn146, ab_sn147, ab_sn148, ab_sn149, ab_sn150, ab_sn151, ab_sn152, ab_sn153, ab_sn154, ab_sn155, ab_sn156, ab_sn157, ab_sn158, ab_sn159, ab_sn160, ab_sn161, ab_sn162, ab_sn163, ab_sn164, ab_sn165, ab_sn166, ab_sn167, ab_sn168, ab_sn169, ab_sn170, ab_sn171, ab_sn172, ab_sn173, ab_sn174, ab_sn175, ab_sn176, ab_sn177, ab_sn178, ab_sn179, ab_sn180, ab_sn181, ab_sn182, ab_sn183, ab_sn184, ab_sn185, ab_sn186, ab_sn187, ab_sn188, ab_sn189, ab_sn190, ab_sn191, ab_sn192, ab_sn193, ab_sn194, ab_sn195, ab_sn196, ab_sn197, ab_sn198, ab_sn199, ab_sn200, ab_sn201, ab_sn202, ab_sn203, ab_sn204, ab_sn205, ab_sn206, ab_sn207, ab_sn208, ab_sn209, ab_sn210, trivial⟩
theorem ab_st_sound (M pc : Nat) : ab_Sn B M pc (ab_st B M pc) := by
  have hno : ab_Sn B M pc (fun _ _ _ => ab_x) := fun _ _ _ => trivial
  unfold ab_st
  have ha := ab_alls_at (ab_tabs B) 0 M ab_tabs_all
  rw [Nat.zero_add] at ha
  generalize (ab_tabs B).getD M [] = l at ha
  rw [List.getD_eq_getElem?_getD]
  cases h : l[pc]? with
  | none => exact hno
  | some o =>
    cases o with
    | none => exact hno
    | some op =>
      have := ab_all_at l 0 pc ha op h
      rwa [Nat.zero_add] at this
end
