/-! the house: chambers C 0 (the chamber), C 1 (the draft), C 2, C 3 (images); rows F: 0 kept, 1 .. 3 the script's, 4 .. 7 the outlook's, 8 refusals -/
abbrev sh (k : Nat) (ws : Wd) : Wd := ws.map (rc (fun r => if r < 16 then r else r + k))
def hW (C : Nat → Ch) (F : Nat → Nat → Int32) : Wd := ob 10 [.ref 17, .ref 37, .ref 57, .ref 98, .ref 99, .ref 102, .ref 107] :: (sh 1 (chW (C 0)) ++ (sh 21 (chW (C 1)) ++ (ra 4 [some 58, some 78] :: (sh 42 (chW (C 2)) ++ (sh 62 (chW (C 3)) ++ [ia 2 2 (F 0), ob 6 [.ref 100, .int (F 1 0), .int (F 1 1), .int (F 1 2), .int (F 1 3), .int (F 1 4), .ref 101], ia 1 150 (F 2), ia 0 4 (F 3), ob 3 [.ref 17, .ref 103, .ref 104, .ref 105, .ref 106], ia 0 200 (F 4), ia 0 200 (F 5), ia 0 4 (F 6), ia 0 4 (F 7), ia 0 3 (F 8)])))))
abbrev plMC : List Nat := [1, 2, 3, 4, 5, 6, 7, 8, 9, 10, 11, 12, 13, 14, 15, 16, 17, 18, 19, 20]
abbrev plMB : List Nat := [7, 8, 9, 10, 11, 12, 13, 14, 15, 16, 17, 18]
abbrev plMO : List Nat := [86, 87, 88, 89, 90, 1, 2, 3, 4, 5, 6, 7, 8, 9, 10, 11, 12, 13, 14, 15, 16, 17, 18, 19, 20]
abbrev plMS : List Nat := [83, 84, 85]
abbrev plMT : List Nat := [83, 84, 85, 21, 22, 23, 24, 25, 26, 27, 28, 29, 30, 31, 32, 33, 34, 35, 36, 37, 38, 39, 40]
abbrev plL01 : List Nat := [1, 2, 3, 4, 5, 6, 7, 8, 9, 10, 11, 12, 13, 14, 15, 16, 17, 18, 19, 20, 21, 22, 23, 24, 25, 26, 27, 28, 29, 30, 31, 32, 33, 34, 35, 36, 37, 38, 39, 40]
abbrev plL20 : List Nat := [42, 43, 44, 45, 46, 47, 48, 49, 50, 51, 52, 53, 54, 55, 56, 57, 58, 59, 60, 61, 1, 2, 3, 4, 5, 6, 7, 8, 9, 10, 11, 12, 13, 14, 15, 16, 17, 18, 19, 20]
abbrev plL30 : List Nat := [62, 63, 64, 65, 66, 67, 68, 69, 70, 71, 72, 73, 74, 75, 76, 77, 78, 79, 80, 81, 1, 2, 3, 4, 5, 6, 7, 8, 9, 10, 11, 12, 13, 14, 15, 16, 17, 18, 19, 20]
abbrev plL02 : List Nat := [1, 2, 3, 4, 5, 6, 7, 8, 9, 10, 11, 12, 13, 14, 15, 16, 17, 18, 19, 20, 42, 43, 44, 45, 46, 47, 48, 49, 50, 51, 52, 53, 54, 55, 56, 57, 58, 59, 60, 61]
abbrev plL03 : List Nat := [1, 2, 3, 4, 5, 6, 7, 8, 9, 10, 11, 12, 13, 14, 15, 16, 17, 18, 19, 20, 62, 63, 64, 65, 66, 67, 68, 69, 70, 71, 72, 73, 74, 75, 76, 77, 78, 79, 80, 81]
theorem hlen (C : Nat → Ch) (F : Nat → Nat → Int32) : (hW C F).length = 92 := rfl
section PT
variable (C : Nat → Ch) (F : Nat → Nat → Int32)
theorem pt_plMC : Pt2 plMC (chW (C 0)) (hW C F) := by
  unfold Pt2
  rw [hlen]
  simp only [plMC, hW, sh, chW, List.map_cons, List.map_nil, List.cons_append, List.nil_append, List.getElem?_cons_zero, List.getElem?_cons_succ]
  rfl
theorem pt_plMB : Pt2 plMB (bnW ((C 0).1 8) (C 0).2) (hW C F) := by
  unfold Pt2
  rw [hlen]
  simp only [plMB, hW, sh, chW, bnW, List.map_cons, List.map_nil, List.cons_append, List.nil_append, List.getElem?_cons_zero, List.getElem?_cons_succ]
  rfl
theorem pt_plMO : Pt2 plMO (olW (F 4) (F 5) (F 6) (F 7) (C 0)) (hW C F) := by
  unfold Pt2
  rw [hlen]
  simp only [plMO, hW, sh, chW, olW, List.map_cons, List.map_nil, List.cons_append, List.nil_append, List.getElem?_cons_zero, List.getElem?_cons_succ]
  rfl
theorem pt_plMS : Pt2 plMS (ssW (F 1) (F 2) (F 3)) (hW C F) := by
  unfold Pt2
  rw [hlen]
  simp only [plMS, hW, sh, chW, ssW, List.map_cons, List.map_nil, List.cons_append, List.nil_append, List.getElem?_cons_zero, List.getElem?_cons_succ]
  rfl
theorem pt_plMT : Pt2 plMT (scW (F 1) (F 2) (F 3) (C 1)) (hW C F) := by
  unfold Pt2
  rw [hlen]
  simp only [plMT, hW, sh, chW, ssW, scW, List.map_cons, List.map_nil, List.cons_append, List.nil_append, List.getElem?_cons_zero, List.getElem?_cons_succ]
  rfl
theorem pt_plL01 : Pt2 plL01 (chW2 (C 0) (C 1)) (hW C F) := by
  unfold Pt2
  rw [hlen]
  simp only [plL01, hW, sh, chW, chW2, List.map_cons, List.map_nil, List.cons_append, List.nil_append, List.getElem?_cons_zero, List.getElem?_cons_succ]
  rfl
theorem pt_plL20 : Pt2 plL20 (chW2 (C 2) (C 0)) (hW C F) := by
  unfold Pt2
  rw [hlen]
  simp only [plL20, hW, sh, chW, chW2, List.map_cons, List.map_nil, List.cons_append, List.nil_append, List.getElem?_cons_zero, List.getElem?_cons_succ]
  rfl
theorem pt_plL30 : Pt2 plL30 (chW2 (C 3) (C 0)) (hW C F) := by
  unfold Pt2
  rw [hlen]
  simp only [plL30, hW, sh, chW, chW2, List.map_cons, List.map_nil, List.cons_append, List.nil_append, List.getElem?_cons_zero, List.getElem?_cons_succ]
  rfl
theorem pt_plL02 : Pt2 plL02 (chW2 (C 0) (C 2)) (hW C F) := by
  unfold Pt2
  rw [hlen]
  simp only [plL02, hW, sh, chW, chW2, List.map_cons, List.map_nil, List.cons_append, List.nil_append, List.getElem?_cons_zero, List.getElem?_cons_succ]
  rfl
theorem pt_plL03 : Pt2 plL03 (chW2 (C 0) (C 3)) (hW C F) := by
  unfold Pt2
  rw [hlen]
  simp only [plL03, hW, sh, chW, chW2, List.map_cons, List.map_nil, List.cons_append, List.nil_append, List.getElem?_cons_zero, List.getElem?_cons_succ]
  rfl
variable (c e : Ch) (m : Int32) (a : Nat → Nat → Int32) (br bh g1 g2 : Nat → Int32)
theorem wr_plMC : wr (rn plMC 92) (hW C F) plMC (chW c) = hW (va_up C 0 c) F := by
  simp only [plMC, hW, sh, chW, List.map_cons, List.map_nil, List.cons_append, List.nil_append, wr, List.set_cons_succ, List.set_cons_zero]
  rfl
theorem wr_plMB : wr (rn plMB 92) (hW C F) plMB (bnW m a) = hW (va_up C 0 (upd (C 0).1 8 m, fun j => if 7 ≤ j then a j else (C 0).2 j)) F := by
  simp only [plMB, hW, sh, chW, bnW, List.map_cons, List.map_nil, List.cons_append, List.nil_append, wr, List.set_cons_succ, List.set_cons_zero]
  rfl
theorem wr_plMO : wr (rn plMO 92) (hW C F) plMO (olW br bh g1 g2 c) = hW (va_up C 0 c) (va_up (va_up (va_up (va_up F 4 br) 5 bh) 6 g1) 7 g2) := by
  simp only [plMO, hW, sh, chW, olW, List.map_cons, List.map_nil, List.cons_append, List.nil_append, wr, List.set_cons_succ, List.set_cons_zero]
  rfl
theorem wr_plMS : wr (rn plMS 92) (hW C F) plMS (ssW br bh g1) = hW C (va_up (va_up (va_up F 1 br) 2 bh) 3 g1) := by
  simp only [plMS, hW, sh, chW, ssW, List.map_cons, List.map_nil, List.cons_append, List.nil_append, wr, List.set_cons_succ, List.set_cons_zero]
  rfl
theorem wr_plMT : wr (rn plMT 92) (hW C F) plMT (scW br bh g1 c) = hW (va_up C 1 c) (va_up (va_up (va_up F 1 br) 2 bh) 3 g1) := by
  simp only [plMT, hW, sh, chW, ssW, scW, List.map_cons, List.map_nil, List.cons_append, List.nil_append, wr, List.set_cons_succ, List.set_cons_zero]
  rfl
theorem wr_plL01 : wr (rn plL01 92) (hW C F) plL01 (chW2 c e) = hW (va_up (va_up C 0 c) 1 e) F := by
  simp only [plL01, hW, sh, chW, chW2, List.map_cons, List.map_nil, List.cons_append, List.nil_append, wr, List.set_cons_succ, List.set_cons_zero]
  rfl
theorem wr_plL20 : wr (rn plL20 92) (hW C F) plL20 (chW2 c e) = hW (va_up (va_up C 2 c) 0 e) F := by
  simp only [plL20, hW, sh, chW, chW2, List.map_cons, List.map_nil, List.cons_append, List.nil_append, wr, List.set_cons_succ, List.set_cons_zero]
  rfl
theorem wr_plL30 : wr (rn plL30 92) (hW C F) plL30 (chW2 c e) = hW (va_up (va_up C 3 c) 0 e) F := by
  simp only [plL30, hW, sh, chW, chW2, List.map_cons, List.map_nil, List.cons_append, List.nil_append, wr, List.set_cons_succ, List.set_cons_zero]
  rfl
theorem wr_plL02 : wr (rn plL02 92) (hW C F) plL02 (chW2 c e) = hW (va_up (va_up C 0 c) 2 e) F := by
  simp only [plL02, hW, sh, chW, chW2, List.map_cons, List.map_nil, List.cons_append, List.nil_append, wr, List.set_cons_succ, List.set_cons_zero]
  rfl
theorem wr_plL03 : wr (rn plL03 92) (hW C F) plL03 (chW2 c e) = hW (va_up (va_up C 0 c) 3 e) F := by
  simp only [plL03, hW, sh, chW, chW2, List.map_cons, List.map_nil, List.cons_append, List.nil_append, wr, List.set_cons_succ, List.set_cons_zero]
  rfl
end PT
