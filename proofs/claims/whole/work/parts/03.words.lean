/-! THE WORDS STAND IN THE TABLES -/
def j_tb (t : Nat) : List Cond := match t with
  | 0 => k2_sels lw_privs
  | 1 => tables_1_1
  | 2 => tables_1_2
  | 3 => tables_1_3
  | 4 => tables_1_4
  | 5 => tables_1_5
  | 6 => tables_1_6
  | _ => []
def j_sub : List Cond → List (Nat × List Nat) → Bool
  | _, [] => true
  | l, (n, w) :: r => match l.drop n with
    | [] => false
    | c :: l' => decide (c = j_w w) && (goodWord c && j_sub l' r)
theorem j_tb_in (t : Nat) {w : Cond} (h : w ∈ j_tb t) : w ∈ lw_tbl := by
  unfold lw_tbl tables_1
  match t, h with
  | 0, h => exact List.mem_append_left _ h
  | 1, h => exact List.mem_append_right _ (List.mem_append_left _ h)
  | 2, h => exact List.mem_append_right _ (List.mem_append_right _ (List.mem_append_left _ h))
  | 3, h => exact List.mem_append_right _ (List.mem_append_right _ (List.mem_append_right _ (List.mem_append_left _ h)))
  | 4, h => exact List.mem_append_right _ (List.mem_append_right _ (List.mem_append_right _ (List.mem_append_right _ (List.mem_append_left _ h))))
  | 5, h => exact List.mem_append_right _ (List.mem_append_right _ (List.mem_append_right _ (List.mem_append_right _ (List.mem_append_right _ (List.mem_append_left _ h)))))
  | 6, h => exact List.mem_append_right _ (List.mem_append_right _ (List.mem_append_right _ (List.mem_append_right _ (List.mem_append_right _ (List.mem_append_right _ h)))))
  | (n + 7), h => cases h
theorem j_sub_in : ∀ (r : List (Nat × List Nat)) (l : List Cond), j_sub l r = true → ∀ e ∈ r, j_w e.2 ∈ l ∧ goodWord (j_w e.2) = true
  | [], _, _, _, he => absurd he List.not_mem_nil
  | (n, w) :: r, l, h, e, he => by
    rw [j_sub] at h
    cases hd : l.drop n with
    | nil => rw [hd] at h; cases h
    | cons c l' =>
      rw [hd] at h
      simp only [Bool.and_eq_true, decide_eq_true_eq] at h
      obtain ⟨h1, h2, h3⟩ := h
      have hm : ∀ q, q ∈ c :: l' → q ∈ l := fun q hq => List.mem_of_mem_drop (i := n) (by rw [hd]; exact hq)
      rcases List.mem_cons.mp he with rfl | he
      · exact ⟨hm _ (by rw [← h1]; exact List.mem_cons_self), by rw [← h1]; exact h2⟩
      · obtain ⟨g1, g2⟩ := j_sub_in r l' h3 e he
        exact ⟨hm _ (List.mem_cons_of_mem _ g1), g2⟩
theorem j_wk0 : j_sub ((j_tb 0).drop 0) j_wl0 = true := by decide +kernel
theorem j_wk1 : j_sub ((j_tb 0).drop 12) j_wl1 = true := by decide +kernel
theorem j_wk2 : j_sub ((j_tb 0).drop 24) j_wl2 = true := by decide +kernel
theorem j_wk3 : j_sub ((j_tb 0).drop 36) j_wl3 = true := by decide +kernel
theorem j_wk4 : j_sub ((j_tb 0).drop 48) j_wl4 = true := by decide +kernel
theorem j_wk5 : j_sub ((j_tb 0).drop 60) j_wl5 = true := by decide +kernel
theorem j_wk6 : j_sub ((j_tb 1).drop 1) j_wl6 = true := by decide +kernel
theorem j_wk7 : j_sub ((j_tb 1).drop 13) j_wl7 = true := by decide +kernel
theorem j_wk8 : j_sub ((j_tb 1).drop 27) j_wl8 = true := by decide +kernel
theorem j_wk9 : j_sub ((j_tb 1).drop 41) j_wl9 = true := by decide +kernel
theorem j_wk10 : j_sub ((j_tb 1).drop 53) j_wl10 = true := by decide +kernel
theorem j_wk11 : j_sub ((j_tb 1).drop 72) j_wl11 = true := by decide +kernel
theorem j_wk12 : j_sub ((j_tb 1).drop 91) j_wl12 = true := by decide +kernel
theorem j_wk13 : j_sub ((j_tb 1).drop 103) j_wl13 = true := by decide +kernel
theorem j_wk14 : j_sub ((j_tb 1).drop 128) j_wl14 = true := by decide +kernel
theorem j_wk15 : j_sub ((j_tb 1).drop 144) j_wl15 = true := by decide +kernel
theorem j_wk16 : j_sub ((j_tb 1).drop 160) j_wl16 = true := by decide +kernel
theorem j_wk17 : j_sub ((j_tb 1).drop 174) j_wl17 = true := by decide +kernel
theorem j_wk18 : j_sub ((j_tb 1).drop 195) j_wl18 = true := by decide +kernel
theorem j_wk19 : j_sub ((j_tb 1).drop 215) j_wl19 = true := by decide +kernel
theorem j_wk20 : j_sub ((j_tb 1).drop 230) j_wl20 = true := by decide +kernel
theorem j_wk21 : j_sub ((j_tb 2).drop 0) j_wl21 = true := by decide +kernel
theorem j_wk22 : j_sub ((j_tb 2).drop 12) j_wl22 = true := by decide +kernel
theorem j_wk23 : j_sub ((j_tb 2).drop 29) j_wl23 = true := by decide +kernel
theorem j_wk24 : j_sub ((j_tb 2).drop 42) j_wl24 = true := by decide +kernel
theorem j_wk25 : j_sub ((j_tb 2).drop 56) j_wl25 = true := by decide +kernel
theorem j_wk26 : j_sub ((j_tb 2).drop 69) j_wl26 = true := by decide +kernel
theorem j_wk27 : j_sub ((j_tb 2).drop 82) j_wl27 = true := by decide +kernel
theorem j_wk28 : j_sub ((j_tb 2).drop 94) j_wl28 = true := by decide +kernel
theorem j_wk29 : j_sub ((j_tb 2).drop 110) j_wl29 = true := by decide +kernel
theorem j_wk30 : j_sub ((j_tb 2).drop 127) j_wl30 = true := by decide +kernel
theorem j_wk31 : j_sub ((j_tb 2).drop 143) j_wl31 = true := by decide +kernel
theorem j_wk32 : j_sub ((j_tb 2).drop 160) j_wl32 = true := by decide +kernel
theorem j_wk33 : j_sub ((j_tb 2).drop 177) j_wl33 = true := by decide +kernel
theorem j_wk34 : j_sub ((j_tb 2).drop 193) j_wl34 = true := by decide +kernel
theorem j_wk35 : j_sub ((j_tb 2).drop 215) j_wl35 = true := by decide +kernel
theorem j_wk36 : j_sub ((j_tb 2).drop 233) j_wl36 = true := by decide +kernel
theorem j_wk37 : j_sub ((j_tb 3).drop 0) j_wl37 = true := by decide +kernel
theorem j_wk38 : j_sub ((j_tb 3).drop 41) j_wl38 = true := by decide +kernel
theorem j_wk39 : j_sub ((j_tb 3).drop 65) j_wl39 = true := by decide +kernel
theorem j_wk40 : j_sub ((j_tb 3).drop 80) j_wl40 = true := by decide +kernel
theorem j_wk41 : j_sub ((j_tb 3).drop 97) j_wl41 = true := by decide +kernel
theorem j_wk42 : j_sub ((j_tb 3).drop 115) j_wl42 = true := by decide +kernel
theorem j_wk43 : j_sub ((j_tb 3).drop 131) j_wl43 = true := by decide +kernel
theorem j_wk44 : j_sub ((j_tb 3).drop 153) j_wl44 = true := by decide +kernel
theorem j_wk45 : j_sub ((j_tb 3).drop 170) j_wl45 = true := by decide +kernel
theorem j_wk46 : j_sub ((j_tb 3).drop 189) j_wl46 = true := by decide +kernel
theorem j_wk47 : j_sub ((j_tb 3).drop 207) j_wl47 = true := by decide +kernel
theorem j_wk48 : j_sub ((j_tb 3).drop 224) j_wl48 = true := by decide +kernel
theorem j_wk49 : j_sub ((j_tb 4).drop 0) j_wl49 = true := by decide +kernel
theorem j_wk50 : j_sub ((j_tb 4).drop 15) j_wl50 = true := by decide +kernel
theorem j_wk51 : j_sub ((j_tb 4).drop 30) j_wl51 = true := by decide +kernel
theorem j_wk52 : j_sub ((j_tb 4).drop 45) j_wl52 = true := by decide +kernel
theorem j_wk53 : j_sub ((j_tb 4).drop 59) j_wl53 = true := by decide +kernel
theorem j_wk54 : j_sub ((j_tb 4).drop 75) j_wl54 = true := by decide +kernel
theorem j_wk55 : j_sub ((j_tb 4).drop 90) j_wl55 = true := by decide +kernel
theorem j_wk56 : j_sub ((j_tb 4).drop 106) j_wl56 = true := by decide +kernel
theorem j_wk57 : j_sub ((j_tb 4).drop 121) j_wl57 = true := by decide +kernel
theorem j_wk58 : j_sub ((j_tb 4).drop 139) j_wl58 = true := by decide +kernel
theorem j_wk59 : j_sub ((j_tb 4).drop 153) j_wl59 = true := by decide +kernel
theorem j_wk60 : j_sub ((j_tb 4).drop 165) j_wl60 = true := by decide +kernel
theorem j_wk61 : j_sub ((j_tb 4).drop 177) j_wl61 = true := by decide +kernel
theorem j_wk62 : j_sub ((j_tb 4).drop 189) j_wl62 = true := by decide +kernel
theorem j_wk63 : j_sub ((j_tb 4).drop 201) j_wl63 = true := by decide +kernel
theorem j_wk64 : j_sub ((j_tb 4).drop 219) j_wl64 = true := by decide +kernel
theorem j_wk65 : j_sub ((j_tb 5).drop 1) j_wl65 = true := by decide +kernel
theorem j_wk66 : j_sub ((j_tb 5).drop 25) j_wl66 = true := by decide +kernel
theorem j_wk67 : j_sub ((j_tb 5).drop 49) j_wl67 = true := by decide +kernel
theorem j_wk68 : j_sub ((j_tb 5).drop 73) j_wl68 = true := by decide +kernel
theorem j_wk69 : j_sub ((j_tb 5).drop 94) j_wl69 = true := by decide +kernel
theorem j_wk70 : j_sub ((j_tb 5).drop 111) j_wl70 = true := by decide +kernel
theorem j_wk71 : j_sub ((j_tb 5).drop 133) j_wl71 = true := by decide +kernel
theorem j_wk72 : j_sub ((j_tb 5).drop 157) j_wl72 = true := by decide +kernel
theorem j_wk73 : j_sub ((j_tb 5).drop 179) j_wl73 = true := by decide +kernel
theorem j_wk74 : j_sub ((j_tb 5).drop 203) j_wl74 = true := by decide +kernel
theorem j_wk75 : j_sub ((j_tb 5).drop 226) j_wl75 = true := by decide +kernel
theorem j_wk76 : j_sub ((j_tb 6).drop 1) j_wl76 = true := by decide +kernel
theorem j_wk77 : j_sub ((j_tb 6).drop 18) j_wl77 = true := by decide +kernel
theorem j_wk78 : j_sub ((j_tb 6).drop 34) j_wl78 = true := by decide +kernel
theorem j_wk79 : j_sub ((j_tb 6).drop 53) j_wl79 = true := by decide +kernel
theorem j_wk80 : j_sub ((j_tb 6).drop 72) j_wl80 = true := by decide +kernel
theorem j_wk81 : j_sub ((j_tb 6).drop 89) j_wl81 = true := by decide +kernel
theorem j_wk82 : j_sub ((j_tb 6).drop 107) j_wl82 = true := by decide +kernel
theorem j_wk83 : j_sub ((j_tb 6).drop 131) j_wl83 = true := by decide +kernel
theorem j_wk84 : j_sub ((j_tb 6).drop 148) j_wl84 = true := by decide +kernel
theorem j_wk85 : j_sub ((j_tb 6).drop 165) j_wl85 = true := by decide +kernel
def j_cl : List Nat := [0, 1, 2, 3, 4, 5, 6, 7, 8, 9, 10, 11, 12, 13, 14, 15, 16, 17, 18, 19, 20, 21, 22, 23, 24, 25, 26, 27, 28, 29, 30, 31, 32, 33, 34, 35, 36, 37, 38, 39, 40, 41, 42, 43, 44, 45, 46, 47, 48, 49, 50, 51, 52, 53, 54, 55, 56, 57, 58, 59, 60, 61, 62, 63, 64, 65, 66, 67, 68, 69, 70, 71, 72, 73, 74, 75, 76, 77, 78, 79, 80, 81, 82, 83, 84, 85, 86, 87, 88, 89, 90, 91, 92, 93, 94, 95, 96, 97, 98, 99, 100, 101, 102, 103, 104, 105, 106, 107, 108, 109, 110, 111, 112, 113, 114, 115, 116, 117, 118, 119, 120, 121, 122, 123, 124, 125, 126, 127, 128, 129, 130, 131, 132, 133, 134, 135, 136, 137, 138, 139, 140, 141, 142, 143, 144, 145, 146, 147, 148, 149, 150, 151, 152, 153, 154, 155, 156, 157, 158, 159, 160, 161, 162, 163, 164, 165, 166, 167, 168, 169, 170, 171, 172, 173, 174, 175, 176, 177, 178, 179, 180, 181, 182, 183, 184, 185, 186, 187, 188, 189, 190, 191, 192, 193, 194, 195, 196, 197, 198, 199, 200, 201, 202, 203, 204, 205, 206, 207, 208, 209, 210, 211, 212]
set_option maxRecDepth 100000 in
theorem j_ck0 : (j_tb 1)[34]? = some (j_w [5, 0]) := rfl
set_option maxRecDepth 100000 in
theorem j_ck1 : (j_tb 2)[107]? = some (j_w [5, 1]) := rfl
set_option maxRecDepth 100000 in
theorem j_ck2 : (j_tb 2)[99]? = some (j_w [5, 2]) := rfl
set_option maxRecDepth 100000 in
theorem j_ck3 : (j_tb 2)[170]? = some (j_w [5, 3]) := rfl
set_option maxRecDepth 100000 in
theorem j_ck4 : (j_tb 2)[191]? = some (j_w [5, 4]) := rfl
set_option maxRecDepth 100000 in
theorem j_ck5 : (j_tb 3)[239]? = some (j_w [5, 5]) := rfl
set_option maxRecDepth 100000 in
theorem j_ck6 : (j_tb 3)[68]? = some (j_w [5, 6]) := rfl
set_option maxRecDepth 100000 in
theorem j_ck7 : (j_tb 2)[153]? = some (j_w [5, 7]) := rfl
set_option maxRecDepth 100000 in
theorem j_ck8 : (j_tb 3)[81]? = some (j_w [5, 8]) := rfl
set_option maxRecDepth 100000 in
theorem j_ck9 : (j_tb 2)[149]? = some (j_w [5, 9]) := rfl
set_option maxRecDepth 100000 in
theorem j_ck10 : (j_tb 3)[76]? = some (j_w [5, 10]) := rfl
set_option maxRecDepth 100000 in
theorem j_ck11 : (j_tb 2)[111]? = some (j_w [5, 11]) := rfl
set_option maxRecDepth 100000 in
theorem j_ck12 : (j_tb 2)[128]? = some (j_w [5, 12]) := rfl
set_option maxRecDepth 100000 in
theorem j_ck13 : (j_tb 2)[67]? = some (j_w [5, 13]) := rfl
set_option maxRecDepth 100000 in
theorem j_ck14 : (j_tb 2)[135]? = some (j_w [5, 14]) := rfl
set_option maxRecDepth 100000 in
theorem j_ck15 : (j_tb 4)[72]? = some (j_w [5, 15]) := rfl
set_option maxRecDepth 100000 in
theorem j_ck16 : (j_tb 1)[220]? = some (j_w [5, 16]) := rfl
set_option maxRecDepth 100000 in
theorem j_ck17 : (j_tb 2)[171]? = some (j_w [5, 17]) := rfl
set_option maxRecDepth 100000 in
theorem j_ck18 : (j_tb 4)[40]? = some (j_w [5, 18]) := rfl
set_option maxRecDepth 100000 in
theorem j_ck19 : (j_tb 4)[64]? = some (j_w [5, 19]) := rfl
set_option maxRecDepth 100000 in
theorem j_ck20 : (j_tb 4)[89]? = some (j_w [5, 20]) := rfl
set_option maxRecDepth 100000 in
theorem j_ck21 : (j_tb 1)[87]? = some (j_w [5, 21]) := rfl
set_option maxRecDepth 100000 in
theorem j_ck22 : (j_tb 2)[203]? = some (j_w [5, 22]) := rfl
set_option maxRecDepth 100000 in
theorem j_ck23 : (j_tb 2)[116]? = some (j_w [5, 23]) := rfl
set_option maxRecDepth 100000 in
theorem j_ck24 : (j_tb 2)[120]? = some (j_w [5, 24]) := rfl
set_option maxRecDepth 100000 in
theorem j_ck25 : (j_tb 2)[207]? = some (j_w [5, 25]) := rfl
set_option maxRecDepth 100000 in
theorem j_ck26 : (j_tb 3)[38]? = some (j_w [5, 26]) := rfl
set_option maxRecDepth 100000 in
theorem j_ck27 : (j_tb 3)[42]? = some (j_w [5, 27]) := rfl
set_option maxRecDepth 100000 in
theorem j_ck28 : (j_tb 3)[46]? = some (j_w [5, 28]) := rfl
set_option maxRecDepth 100000 in
theorem j_ck29 : (j_tb 3)[34]? = some (j_w [5, 29]) := rfl
set_option maxRecDepth 100000 in
theorem j_ck30 : (j_tb 2)[211]? = some (j_w [5, 30]) := rfl
set_option maxRecDepth 100000 in
theorem j_ck31 : (j_tb 3)[30]? = some (j_w [5, 31]) := rfl
set_option maxRecDepth 100000 in
theorem j_ck32 : (j_tb 2)[218]? = some (j_w [5, 32]) := rfl
set_option maxRecDepth 100000 in
theorem j_ck33 : (j_tb 3)[55]? = some (j_w [5, 33]) := rfl
set_option maxRecDepth 100000 in
theorem j_ck34 : (j_tb 3)[50]? = some (j_w [5, 34]) := rfl
set_option maxRecDepth 100000 in
theorem j_ck35 : (j_tb 3)[60]? = some (j_w [5, 35]) := rfl
set_option maxRecDepth 100000 in
theorem j_ck36 : (j_tb 1)[217]? = some (j_w [5, 36]) := rfl
set_option maxRecDepth 100000 in
theorem j_ck37 : (j_tb 2)[142]? = some (j_w [5, 37]) := rfl
set_option maxRecDepth 100000 in
theorem j_ck38 : (j_tb 4)[49]? = some (j_w [5, 38]) := rfl
set_option maxRecDepth 100000 in
theorem j_ck39 : (j_tb 2)[43]? = some (j_w [5, 39]) := rfl
set_option maxRecDepth 100000 in
theorem j_ck40 : (j_tb 2)[145]? = some (j_w [5, 40]) := rfl
set_option maxRecDepth 100000 in
theorem j_ck41 : (j_tb 4)[80]? = some (j_w [5, 41]) := rfl
set_option maxRecDepth 100000 in
theorem j_ck42 : (j_tb 2)[31]? = some (j_w [5, 42]) := rfl
set_option maxRecDepth 100000 in
theorem j_ck43 : (j_tb 2)[138]? = some (j_w [5, 43]) := rfl
set_option maxRecDepth 100000 in
theorem j_ck44 : (j_tb 4)[18]? = some (j_w [5, 44]) := rfl
set_option maxRecDepth 100000 in
theorem j_ck45 : (j_tb 2)[55]? = some (j_w [5, 45]) := rfl
set_option maxRecDepth 100000 in
theorem j_ck46 : (j_tb 2)[161]? = some (j_w [5, 46]) := rfl
set_option maxRecDepth 100000 in
theorem j_ck47 : (j_tb 4)[29]? = some (j_w [5, 47]) := rfl
set_option maxRecDepth 100000 in
theorem j_ck48 : (j_tb 4)[56]? = some (j_w [5, 48]) := rfl
set_option maxRecDepth 100000 in
theorem j_ck49 : (j_tb 1)[133]? = some (j_w [5, 49]) := rfl
set_option maxRecDepth 100000 in
theorem j_ck50 : (j_tb 4)[117]? = some (j_w [5, 50]) := rfl
set_option maxRecDepth 100000 in
theorem j_ck51 : (j_tb 3)[221]? = some (j_w [5, 51]) := rfl
set_option maxRecDepth 100000 in
theorem j_ck52 : (j_tb 3)[225]? = some (j_w [5, 52]) := rfl
set_option maxRecDepth 100000 in
theorem j_ck53 : (j_tb 4)[142]? = some (j_w [5, 53]) := rfl
set_option maxRecDepth 100000 in
theorem j_ck54 : (j_tb 3)[229]? = some (j_w [5, 54]) := rfl
set_option maxRecDepth 100000 in
theorem j_ck55 : (j_tb 4)[126]? = some (j_w [5, 55]) := rfl
set_option maxRecDepth 100000 in
theorem j_ck56 : (j_tb 4)[130]? = some (j_w [5, 56]) := rfl
set_option maxRecDepth 100000 in
theorem j_ck57 : (j_tb 2)[79]? = some (j_w [5, 57]) := rfl
set_option maxRecDepth 100000 in
theorem j_ck58 : (j_tb 2)[166]? = some (j_w [5, 58]) := rfl
set_option maxRecDepth 100000 in
theorem j_ck59 : (j_tb 4)[60]? = some (j_w [5, 59]) := rfl
set_option maxRecDepth 100000 in
theorem j_ck60 : (j_tb 4)[36]? = some (j_w [5, 60]) := rfl
set_option maxRecDepth 100000 in
theorem j_ck61 : (j_tb 1)[153]? = some (j_w [5, 61]) := rfl
set_option maxRecDepth 100000 in
theorem j_ck62 : (j_tb 4)[11]? = some (j_w [5, 62]) := rfl
set_option maxRecDepth 100000 in
theorem j_ck63 : (j_tb 4)[22]? = some (j_w [5, 63]) := rfl
set_option maxRecDepth 100000 in
theorem j_ck64 : (j_tb 4)[98]? = some (j_w [5, 64]) := rfl
set_option maxRecDepth 100000 in
theorem j_ck65 : (j_tb 1)[26]? = some (j_w [5, 65]) := rfl
set_option maxRecDepth 100000 in
theorem j_ck66 : (j_tb 1)[209]? = some (j_w [5, 66]) := rfl
set_option maxRecDepth 100000 in
theorem j_ck67 : (j_tb 2)[103]? = some (j_w [5, 67]) := rfl
set_option maxRecDepth 100000 in
theorem j_ck68 : (j_tb 2)[175]? = some (j_w [5, 68]) := rfl
set_option maxRecDepth 100000 in
theorem j_ck69 : (j_tb 2)[182]? = some (j_w [5, 69]) := rfl
set_option maxRecDepth 100000 in
theorem j_ck70 : (j_tb 2)[186]? = some (j_w [5, 70]) := rfl
set_option maxRecDepth 100000 in
theorem j_ck71 : (j_tb 2)[195]? = some (j_w [5, 71]) := rfl
set_option maxRecDepth 100000 in
theorem j_ck72 : (j_tb 2)[199]? = some (j_w [5, 72]) := rfl
set_option maxRecDepth 100000 in
theorem j_ck73 : (j_tb 3)[64]? = some (j_w [5, 73]) := rfl
set_option maxRecDepth 100000 in
theorem j_ck74 : (j_tb 3)[72]? = some (j_w [5, 74]) := rfl
set_option maxRecDepth 100000 in
theorem j_ck75 : (j_tb 3)[86]? = some (j_w [5, 75]) := rfl
set_option maxRecDepth 100000 in
theorem j_ck76 : (j_tb 3)[90]? = some (j_w [5, 76]) := rfl
set_option maxRecDepth 100000 in
theorem j_ck77 : (j_tb 3)[98]? = some (j_w [5, 77]) := rfl
set_option maxRecDepth 100000 in
theorem j_ck78 : (j_tb 3)[102]? = some (j_w [5, 78]) := rfl
set_option maxRecDepth 100000 in
theorem j_ck79 : (j_tb 3)[119]? = some (j_w [5, 79]) := rfl
set_option maxRecDepth 100000 in
theorem j_ck80 : (j_tb 3)[123]? = some (j_w [5, 80]) := rfl
set_option maxRecDepth 100000 in
theorem j_ck81 : (j_tb 3)[128]? = some (j_w [5, 81]) := rfl
set_option maxRecDepth 100000 in
theorem j_ck82 : (j_tb 3)[140]? = some (j_w [5, 82]) := rfl
set_option maxRecDepth 100000 in
theorem j_ck83 : (j_tb 3)[160]? = some (j_w [5, 83]) := rfl
set_option maxRecDepth 100000 in
theorem j_ck84 : (j_tb 3)[164]? = some (j_w [5, 84]) := rfl
set_option maxRecDepth 100000 in
theorem j_ck85 : (j_tb 3)[168]? = some (j_w [5, 85]) := rfl
set_option maxRecDepth 100000 in
theorem j_ck86 : (j_tb 3)[197]? = some (j_w [5, 86]) := rfl
set_option maxRecDepth 100000 in
theorem j_ck87 : (j_tb 3)[205]? = some (j_w [5, 87]) := rfl
set_option maxRecDepth 100000 in
theorem j_ck88 : (j_tb 3)[209]? = some (j_w [5, 88]) := rfl
set_option maxRecDepth 100000 in
theorem j_ck89 : (j_tb 3)[213]? = some (j_w [5, 89]) := rfl
set_option maxRecDepth 100000 in
theorem j_ck90 : (j_tb 3)[235]? = some (j_w [5, 90]) := rfl
set_option maxRecDepth 100000 in
theorem j_ck91 : (j_tb 4)[3]? = some (j_w [5, 91]) := rfl
set_option maxRecDepth 100000 in
theorem j_ck92 : (j_tb 4)[7]? = some (j_w [5, 92]) := rfl
set_option maxRecDepth 100000 in
theorem j_ck93 : (j_tb 4)[94]? = some (j_w [5, 93]) := rfl
set_option maxRecDepth 100000 in
theorem j_ck94 : (j_tb 4)[102]? = some (j_w [5, 94]) := rfl
set_option maxRecDepth 100000 in
theorem j_ck95 : (j_tb 4)[109]? = some (j_w [5, 95]) := rfl
set_option maxRecDepth 100000 in
theorem j_ck96 : (j_tb 4)[113]? = some (j_w [5, 96]) := rfl
set_option maxRecDepth 100000 in
theorem j_ck97 : (j_tb 4)[122]? = some (j_w [5, 97]) := rfl
set_option maxRecDepth 100000 in
theorem j_ck98 : (j_tb 4)[134]? = some (j_w [5, 98]) := rfl
set_option maxRecDepth 100000 in
theorem j_ck99 : (j_tb 4)[138]? = some (j_w [5, 99]) := rfl
set_option maxRecDepth 100000 in
theorem j_ck100 : (j_tb 3)[217]? = some (j_w [5, 100]) := rfl
set_option maxRecDepth 100000 in
theorem j_ck101 : (j_tb 2)[178]? = some (j_w [5, 101]) := rfl
set_option maxRecDepth 100000 in
theorem j_ck102 : (j_tb 3)[108]? = some (j_w [5, 102]) := rfl
set_option maxRecDepth 100000 in
theorem j_ck103 : (j_tb 3)[182]? = some (j_w [5, 103]) := rfl
set_option maxRecDepth 100000 in
theorem j_ck104 : (j_tb 1)[212]? = some (j_w [5, 104]) := rfl
set_option maxRecDepth 100000 in
theorem j_ck105 : (j_tb 4)[105]? = some (j_w [5, 105]) := rfl
set_option maxRecDepth 100000 in
theorem j_ck106 : (j_tb 3)[94]? = some (j_w [5, 106]) := rfl
set_option maxRecDepth 100000 in
theorem j_ck107 : (j_tb 3)[112]? = some (j_w [5, 107]) := rfl
set_option maxRecDepth 100000 in
theorem j_ck108 : (j_tb 3)[132]? = some (j_w [5, 108]) := rfl
set_option maxRecDepth 100000 in
theorem j_ck109 : (j_tb 3)[136]? = some (j_w [5, 109]) := rfl
set_option maxRecDepth 100000 in
theorem j_ck110 : (j_tb 3)[144]? = some (j_w [5, 110]) := rfl
set_option maxRecDepth 100000 in
theorem j_ck111 : (j_tb 3)[148]? = some (j_w [5, 111]) := rfl
set_option maxRecDepth 100000 in
theorem j_ck112 : (j_tb 3)[152]? = some (j_w [5, 112]) := rfl
set_option maxRecDepth 100000 in
theorem j_ck113 : (j_tb 3)[156]? = some (j_w [5, 113]) := rfl
set_option maxRecDepth 100000 in
theorem j_ck114 : (j_tb 3)[171]? = some (j_w [5, 114]) := rfl
set_option maxRecDepth 100000 in
theorem j_ck115 : (j_tb 3)[176]? = some (j_w [5, 115]) := rfl
set_option maxRecDepth 100000 in
theorem j_ck116 : (j_tb 3)[186]? = some (j_w [5, 116]) := rfl
set_option maxRecDepth 100000 in
theorem j_ck117 : (j_tb 3)[201]? = some (j_w [5, 117]) := rfl
set_option maxRecDepth 100000 in
theorem j_ck118 : (j_tb 3)[190]? = some (j_w [5, 118]) := rfl
set_option maxRecDepth 100000 in
theorem j_ck119 : (j_tb 3)[193]? = some (j_w [5, 119]) := rfl
set_option maxRecDepth 100000 in
theorem j_ck120 : (j_tb 4)[147]? = some (j_w [5, 120]) := rfl
set_option maxRecDepth 100000 in
theorem j_ck121 : (j_tb 5)[92]? = some (j_w [5, 121]) := rfl
set_option maxRecDepth 100000 in
theorem j_ck122 : (j_tb 5)[220]? = some (j_w [5, 122]) := rfl
set_option maxRecDepth 100000 in
theorem j_ck123 : (j_tb 5)[204]? = some (j_w [5, 123]) := rfl
set_option maxRecDepth 100000 in
theorem j_ck124 : (j_tb 5)[104]? = some (j_w [5, 124]) := rfl
set_option maxRecDepth 100000 in
theorem j_ck125 : (j_tb 5)[88]? = some (j_w [5, 125]) := rfl
set_option maxRecDepth 100000 in
theorem j_ck126 : (j_tb 5)[96]? = some (j_w [5, 126]) := rfl
set_option maxRecDepth 100000 in
theorem j_ck127 : (j_tb 5)[100]? = some (j_w [5, 127]) := rfl
set_option maxRecDepth 100000 in
theorem j_ck128 : (j_tb 5)[108]? = some (j_w [5, 128]) := rfl
set_option maxRecDepth 100000 in
theorem j_ck129 : (j_tb 5)[112]? = some (j_w [5, 129]) := rfl
set_option maxRecDepth 100000 in
theorem j_ck130 : (j_tb 5)[132]? = some (j_w [5, 130]) := rfl
set_option maxRecDepth 100000 in
theorem j_ck131 : (j_tb 5)[140]? = some (j_w [5, 131]) := rfl
set_option maxRecDepth 100000 in
theorem j_ck132 : (j_tb 5)[136]? = some (j_w [5, 132]) := rfl
set_option maxRecDepth 100000 in
theorem j_ck133 : (j_tb 5)[148]? = some (j_w [5, 133]) := rfl
set_option maxRecDepth 100000 in
theorem j_ck134 : (j_tb 5)[144]? = some (j_w [5, 134]) := rfl
set_option maxRecDepth 100000 in
theorem j_ck135 : (j_tb 5)[164]? = some (j_w [5, 135]) := rfl
set_option maxRecDepth 100000 in
theorem j_ck136 : (j_tb 5)[168]? = some (j_w [5, 136]) := rfl
set_option maxRecDepth 100000 in
theorem j_ck137 : (j_tb 5)[172]? = some (j_w [5, 137]) := rfl
set_option maxRecDepth 100000 in
theorem j_ck138 : (j_tb 5)[160]? = some (j_w [5, 138]) := rfl
set_option maxRecDepth 100000 in
theorem j_ck139 : (j_tb 5)[156]? = some (j_w [5, 139]) := rfl
set_option maxRecDepth 100000 in
theorem j_ck140 : (j_tb 5)[152]? = some (j_w [5, 140]) := rfl
set_option maxRecDepth 100000 in
theorem j_ck141 : (j_tb 5)[128]? = some (j_w [5, 141]) := rfl
set_option maxRecDepth 100000 in
theorem j_ck142 : (j_tb 5)[124]? = some (j_w [5, 142]) := rfl
set_option maxRecDepth 100000 in
theorem j_ck143 : (j_tb 5)[120]? = some (j_w [5, 143]) := rfl
set_option maxRecDepth 100000 in
theorem j_ck144 : (j_tb 5)[116]? = some (j_w [5, 144]) := rfl
set_option maxRecDepth 100000 in
theorem j_ck145 : (j_tb 5)[188]? = some (j_w [5, 145]) := rfl
set_option maxRecDepth 100000 in
theorem j_ck146 : (j_tb 5)[192]? = some (j_w [5, 146]) := rfl
set_option maxRecDepth 100000 in
theorem j_ck147 : (j_tb 5)[232]? = some (j_w [5, 147]) := rfl
set_option maxRecDepth 100000 in
theorem j_ck148 : (j_tb 5)[200]? = some (j_w [5, 148]) := rfl
set_option maxRecDepth 100000 in
theorem j_ck149 : (j_tb 5)[196]? = some (j_w [5, 149]) := rfl
set_option maxRecDepth 100000 in
theorem j_ck150 : (j_tb 5)[184]? = some (j_w [5, 150]) := rfl
set_option maxRecDepth 100000 in
theorem j_ck151 : (j_tb 5)[180]? = some (j_w [5, 151]) := rfl
set_option maxRecDepth 100000 in
theorem j_ck152 : (j_tb 5)[208]? = some (j_w [5, 152]) := rfl
set_option maxRecDepth 100000 in
theorem j_ck153 : (j_tb 5)[216]? = some (j_w [5, 153]) := rfl
set_option maxRecDepth 100000 in
theorem j_ck154 : (j_tb 5)[224]? = some (j_w [5, 154]) := rfl
set_option maxRecDepth 100000 in
theorem j_ck155 : (j_tb 5)[212]? = some (j_w [5, 155]) := rfl
set_option maxRecDepth 100000 in
theorem j_ck156 : (j_tb 6)[0]? = some (j_w [5, 156]) := rfl
set_option maxRecDepth 100000 in
theorem j_ck157 : (j_tb 6)[12]? = some (j_w [5, 157]) := rfl
set_option maxRecDepth 100000 in
theorem j_ck158 : (j_tb 5)[176]? = some (j_w [5, 158]) := rfl
set_option maxRecDepth 100000 in
theorem j_ck159 : (j_tb 5)[228]? = some (j_w [5, 159]) := rfl
set_option maxRecDepth 100000 in
theorem j_ck160 : (j_tb 5)[236]? = some (j_w [5, 160]) := rfl
set_option maxRecDepth 100000 in
theorem j_ck161 : (j_tb 6)[4]? = some (j_w [5, 161]) := rfl
set_option maxRecDepth 100000 in
theorem j_ck162 : (j_tb 6)[8]? = some (j_w [5, 162]) := rfl
set_option maxRecDepth 100000 in
theorem j_ck163 : (j_tb 6)[16]? = some (j_w [5, 163]) := rfl
set_option maxRecDepth 100000 in
theorem j_ck164 : (j_tb 6)[20]? = some (j_w [5, 164]) := rfl
set_option maxRecDepth 100000 in
theorem j_ck165 : (j_tb 6)[24]? = some (j_w [5, 165]) := rfl
set_option maxRecDepth 100000 in
theorem j_ck166 : (j_tb 6)[28]? = some (j_w [5, 166]) := rfl
set_option maxRecDepth 100000 in
theorem j_ck167 : (j_tb 6)[32]? = some (j_w [5, 167]) := rfl
set_option maxRecDepth 100000 in
theorem j_ck168 : (j_tb 6)[44]? = some (j_w [5, 168]) := rfl
set_option maxRecDepth 100000 in
theorem j_ck169 : (j_tb 6)[40]? = some (j_w [5, 169]) := rfl
set_option maxRecDepth 100000 in
theorem j_ck170 : (j_tb 6)[36]? = some (j_w [5, 170]) := rfl
set_option maxRecDepth 100000 in
theorem j_ck171 : (j_tb 6)[48]? = some (j_w [5, 171]) := rfl
set_option maxRecDepth 100000 in
theorem j_ck172 : (j_tb 6)[52]? = some (j_w [5, 172]) := rfl
set_option maxRecDepth 100000 in
theorem j_ck173 : (j_tb 6)[70]? = some (j_w [5, 173]) := rfl
set_option maxRecDepth 100000 in
theorem j_ck174 : (j_tb 6)[66]? = some (j_w [5, 174]) := rfl
set_option maxRecDepth 100000 in
theorem j_ck175 : (j_tb 6)[61]? = some (j_w [5, 175]) := rfl
set_option maxRecDepth 100000 in
theorem j_ck176 : (j_tb 6)[56]? = some (j_w [5, 176]) := rfl
set_option maxRecDepth 100000 in
theorem j_ck177 : (j_tb 6)[74]? = some (j_w [5, 177]) := rfl
set_option maxRecDepth 100000 in
theorem j_ck178 : (j_tb 6)[78]? = some (j_w [5, 178]) := rfl
set_option maxRecDepth 100000 in
theorem j_ck179 : (j_tb 6)[82]? = some (j_w [5, 179]) := rfl
set_option maxRecDepth 100000 in
theorem j_ck180 : (j_tb 6)[86]? = some (j_w [5, 180]) := rfl
set_option maxRecDepth 100000 in
theorem j_ck181 : (j_tb 6)[94]? = some (j_w [5, 181]) := rfl
set_option maxRecDepth 100000 in
theorem j_ck182 : (j_tb 6)[98]? = some (j_w [5, 182]) := rfl
set_option maxRecDepth 100000 in
theorem j_ck183 : (j_tb 6)[110]? = some (j_w [5, 183]) := rfl
set_option maxRecDepth 100000 in
theorem j_ck184 : (j_tb 6)[114]? = some (j_w [5, 184]) := rfl
set_option maxRecDepth 100000 in
theorem j_ck185 : (j_tb 6)[106]? = some (j_w [5, 185]) := rfl
set_option maxRecDepth 100000 in
theorem j_ck186 : (j_tb 6)[126]? = some (j_w [5, 186]) := rfl
set_option maxRecDepth 100000 in
theorem j_ck187 : (j_tb 6)[122]? = some (j_w [5, 187]) := rfl
set_option maxRecDepth 100000 in
theorem j_ck188 : (j_tb 6)[118]? = some (j_w [5, 188]) := rfl
set_option maxRecDepth 100000 in
theorem j_ck189 : (j_tb 6)[134]? = some (j_w [5, 189]) := rfl
set_option maxRecDepth 100000 in
theorem j_ck190 : (j_tb 6)[130]? = some (j_w [5, 190]) := rfl
set_option maxRecDepth 100000 in
theorem j_ck191 : (j_tb 6)[102]? = some (j_w [5, 191]) := rfl
set_option maxRecDepth 100000 in
theorem j_ck192 : (j_tb 6)[138]? = some (j_w [5, 192]) := rfl
set_option maxRecDepth 100000 in
theorem j_ck193 : (j_tb 6)[142]? = some (j_w [5, 193]) := rfl
set_option maxRecDepth 100000 in
theorem j_ck194 : (j_tb 6)[146]? = some (j_w [5, 194]) := rfl
set_option maxRecDepth 100000 in
theorem j_ck195 : (j_tb 6)[90]? = some (j_w [5, 195]) := rfl
set_option maxRecDepth 100000 in
theorem j_ck196 : (j_tb 6)[150]? = some (j_w [5, 196]) := rfl
set_option maxRecDepth 100000 in
theorem j_ck197 : (j_tb 6)[158]? = some (j_w [5, 197]) := rfl
set_option maxRecDepth 100000 in
theorem j_ck198 : (j_tb 6)[154]? = some (j_w [5, 198]) := rfl
set_option maxRecDepth 100000 in
theorem j_ck199 : (j_tb 6)[162]? = some (j_w [5, 199]) := rfl
set_option maxRecDepth 100000 in
theorem j_ck200 : (j_tb 6)[166]? = some (j_w [5, 200]) := rfl
set_option maxRecDepth 100000 in
theorem j_ck201 : (j_tb 1)[224]? = some (j_w [5, 201]) := rfl
set_option maxRecDepth 100000 in
theorem j_ck202 : (j_tb 2)[156]? = some (j_w [5, 202]) := rfl
set_option maxRecDepth 100000 in
theorem j_ck203 : (j_tb 2)[124]? = some (j_w [5, 203]) := rfl
set_option maxRecDepth 100000 in
theorem j_ck204 : (j_tb 2)[222]? = some (j_w [5, 204]) := rfl
set_option maxRecDepth 100000 in
theorem j_ck205 : (j_tb 2)[232]? = some (j_w [5, 205]) := rfl
set_option maxRecDepth 100000 in
theorem j_ck206 : (j_tb 2)[226]? = some (j_w [5, 206]) := rfl
set_option maxRecDepth 100000 in
theorem j_ck207 : (j_tb 2)[236]? = some (j_w [5, 207]) := rfl
set_option maxRecDepth 100000 in
theorem j_ck208 : (j_tb 3)[2]? = some (j_w [5, 208]) := rfl
set_option maxRecDepth 100000 in
theorem j_ck209 : (j_tb 2)[239]? = some (j_w [5, 209]) := rfl
set_option maxRecDepth 100000 in
theorem j_ck210 : (j_tb 3)[179]? = some (j_w [5, 210]) := rfl
set_option maxRecDepth 100000 in
theorem j_ck211 : (j_tb 3)[105]? = some (j_w [5, 211]) := rfl
set_option maxRecDepth 100000 in
theorem j_ck212 : (j_tb 3)[7]? = some (j_w [5, 212]) := rfl
set_option maxRecDepth 100000 in
theorem j_cl_ok : ∀ y ∈ j_cl, j_w [5, y] ∈ lw_tbl := List.forall_mem_cons.mpr ⟨j_tb_in 1 (List.mem_of_getElem? j_ck0), List.forall_mem_cons.mpr ⟨j_tb_in 2 (List.mem_of_getElem? j_ck1), List.forall_mem_cons.mpr ⟨j_tb_in 2 (List.mem_of_getElem? j_ck2), List.forall_mem_cons.mpr ⟨j_tb_in 2 (List.mem_of_getElem? j_ck3), List.forall_mem_cons.mpr ⟨j_tb_in 2 (List.mem_of_getElem? j_ck4), List.forall_mem_cons.mpr ⟨j_tb_in 3 (List.mem_of_getElem? j_ck5), List.forall_mem_cons.mpr ⟨j_tb_in 3 (List.mem_of_getElem? j_ck6), List.forall_mem_cons.mpr ⟨j_tb_in 2 (List.mem_of_getElem? j_ck7), List.forall_mem_cons.mpr ⟨j_tb_in 3 (List.mem_of_getElem? j_ck8), List.forall_mem_cons.mpr ⟨j_tb_in 2 (List.mem_of_getElem? j_ck9), List.forall_mem_cons.mpr ⟨j_tb_in 3 (List.mem_of_getElem? j_ck10), List.forall_mem_cons.mpr ⟨j_tb_in 2 (List.mem_of_getElem? j_ck11), List.forall_mem_cons.mpr ⟨j_tb_in 2 (List.mem_of_getElem? j_ck12), List.forall_mem_cons.mpr ⟨j_tb_in 2 (List.mem_of_getElem? j_ck13), List.forall_mem_cons.mpr ⟨j_tb_in 2 (List.mem_of_getElem? j_ck14), List.forall_mem_cons.mpr ⟨j_tb_in 4 (List.mem_of_getElem? j_ck15), List.forall_mem_cons.mpr ⟨j_tb_in 1 (List.mem_of_getElem? j_ck16), List.forall_mem_cons.mpr ⟨j_tb_in 2 (List.mem_of_getElem? j_ck17), List.forall_mem_cons.mpr ⟨j_tb_in 4 (List.mem_of_getElem? j_ck18), List.forall_mem_cons.mpr ⟨j_tb_in 4 (List.mem_of_getElem? j_ck19), List.forall_mem_cons.mpr ⟨j_tb_in 4 (List.mem_of_getElem? j_ck20), List.forall_mem_cons.mpr ⟨j_tb_in 1 (List.mem_of_getElem? j_ck21), List.forall_mem_cons.mpr ⟨j_tb_in 2 (List.mem_of_getElem? j_ck22), List.forall_mem_cons.mpr ⟨j_tb_in 2 (List.mem_of_getElem? j_ck23), List.forall_mem_cons.mpr ⟨j_tb_in 2 (List.mem_of_getElem? j_ck24), List.forall_mem_cons.mpr ⟨j_tb_in 2 (List.mem_of_getElem? j_ck25), List.forall_mem_cons.mpr ⟨j_tb_in 3 (List.mem_of_getElem? j_ck26), List.forall_mem_cons.mpr ⟨j_tb_in 3 (List.mem_of_getElem? j_ck27), List.forall_mem_cons.mpr ⟨j_tb_in 3 (List.mem_of_getElem? j_ck28), List.forall_mem_cons.mpr ⟨j_tb_in 3 (List.mem_of_getElem? j_ck29), List.forall_mem_cons.mpr ⟨j_tb_in 2 (List.mem_of_getElem? j_ck30), List.forall_mem_cons.mpr ⟨j_tb_in 3 (List.mem_of_getElem? j_ck31), List.forall_mem_cons.mpr ⟨j_tb_in 2 (List.mem_of_getElem? j_ck32), List.forall_mem_cons.mpr ⟨j_tb_in 3 (List.mem_of_getElem? j_ck33), List.forall_mem_cons.mpr ⟨j_tb_in 3 (List.mem_of_getElem? j_ck34), List.forall_mem_cons.mpr ⟨j_tb_in 3 (List.mem_of_getElem? j_ck35), List.forall_mem_cons.mpr ⟨j_tb_in 1 (List.mem_of_getElem? j_ck36), List.forall_mem_cons.mpr ⟨j_tb_in 2 (List.mem_of_getElem? j_ck37), List.forall_mem_cons.mpr ⟨j_tb_in 4 (List.mem_of_getElem? j_ck38), List.forall_mem_cons.mpr ⟨j_tb_in 2 (List.mem_of_getElem? j_ck39), List.forall_mem_cons.mpr ⟨j_tb_in 2 (List.mem_of_getElem? j_ck40), List.forall_mem_cons.mpr ⟨j_tb_in 4 (List.mem_of_getElem? j_ck41), List.forall_mem_cons.mpr ⟨j_tb_in 2 (List.mem_of_getElem? j_ck42), List.forall_mem_cons.mpr ⟨j_tb_in 2 (List.mem_of_getElem? j_ck43), List.forall_mem_cons.mpr ⟨j_tb_in 4 (List.mem_of_getElem? j_ck44), List.forall_mem_cons.mpr ⟨j_tb_in 2 (List.mem_of_getElem? j_ck45), List.forall_mem_cons.mpr ⟨j_tb_in 2 (List.mem_of_getElem? j_ck46), List.forall_mem_cons.mpr ⟨j_tb_in 4 (List.mem_of_getElem? j_ck47), List.forall_mem_cons.mpr ⟨j_tb_in 4 (List.mem_of_getElem? j_ck48), List.forall_mem_cons.mpr ⟨j_tb_in 1 (List.mem_of_getElem? j_ck49), List.forall_mem_cons.mpr ⟨j_tb_in 4 (List.mem_of_getElem? j_ck50), List.forall_mem_cons.mpr ⟨j_tb_in 3 (List.mem_of_getElem? j_ck51), List.forall_mem_cons.mpr ⟨j_tb_in 3 (List.mem_of_getElem? j_ck52), List.forall_mem_cons.mpr ⟨j_tb_in 4 (List.mem_of_getElem? j_ck53), List.forall_mem_cons.mpr ⟨j_tb_in 3 (List.mem_of_getElem? j_ck54), List.forall_mem_cons.mpr ⟨j_tb_in 4 (List.mem_of_getElem? j_ck55), List.forall_mem_cons.mpr ⟨j_tb_in 4 (List.mem_of_getElem? j_ck56), List.forall_mem_cons.mpr ⟨j_tb_in 2 (List.mem_of_getElem? j_ck57), List.forall_mem_cons.mpr ⟨j_tb_in 2 (List.mem_of_getElem? j_ck58), List.forall_mem_cons.mpr ⟨j_tb_in 4 (List.mem_of_getElem? j_ck59), List.forall_mem_cons.mpr ⟨j_tb_in 4 (List.mem_of_getElem? j_ck60), List.forall_mem_cons.mpr ⟨j_tb_in 1 (List.mem_of_getElem? j_ck61), List.forall_mem_cons.mpr ⟨j_tb_in 4 (List.mem_of_getElem? j_ck62), List.forall_mem_cons.mpr ⟨j_tb_in 4 (List.mem_of_getElem? j_ck63), List.forall_mem_cons.mpr ⟨j_tb_in 4 (List.mem_of_getElem? j_ck64), List.forall_mem_cons.mpr ⟨j_tb_in 1 (List.mem_of_getElem? j_ck65), List.forall_mem_cons.mpr ⟨j_tb_in 1 (List.mem_of_getElem? j_ck66), List.forall_mem_cons.mpr ⟨j_tb_in 2 (List.mem_of_getElem? j_ck67), List.forall_mem_cons.mpr ⟨j_tb_in 2 (List.mem_of_getElem? j_ck68), List.forall_mem_cons.mpr ⟨j_tb_in 2 (List.mem_of_getElem? j_ck69), List.forall_mem_cons.mpr ⟨j_tb_in 2 (List.mem_of_getElem? j_ck70), List.forall_mem_cons.mpr ⟨j_tb_in 2 (List.mem_of_getElem? j_ck71), List.forall_mem_cons.mpr ⟨j_tb_in 2 (List.mem_of_getElem? j_ck72), List.forall_mem_cons.mpr ⟨j_tb_in 3 (List.mem_of_getElem? j_ck73), List.forall_mem_cons.mpr ⟨j_tb_in 3 (List.mem_of_getElem? j_ck74), List.forall_mem_cons.mpr ⟨j_tb_in 3 (List.mem_of_getElem? j_ck75), List.forall_mem_cons.mpr ⟨j_tb_in 3 (List.mem_of_getElem? j_ck76), List.forall_mem_cons.mpr ⟨j_tb_in 3 (List.mem_of_getElem? j_ck77), List.forall_mem_cons.mpr ⟨j_tb_in 3 (List.mem_of_getElem? j_ck78), List.forall_mem_cons.mpr ⟨j_tb_in 3 (List.mem_of_getElem? j_ck79), List.forall_mem_cons.mpr ⟨j_tb_in 3 (List.mem_of_getElem? j_ck80), List.forall_mem_cons.mpr ⟨j_tb_in 3 (List.mem_of_getElem? j_ck81), List.forall_mem_cons.mpr ⟨j_tb_in 3 (List.mem_of_getElem? j_ck82), List.forall_mem_cons.mpr ⟨j_tb_in 3 (List.mem_of_getElem? j_ck83), List.forall_mem_cons.mpr ⟨j_tb_in 3 (List.mem_of_getElem? j_ck84), List.forall_mem_cons.mpr ⟨j_tb_in 3 (List.mem_of_getElem? j_ck85), List.forall_mem_cons.mpr ⟨j_tb_in 3 (List.mem_of_getElem? j_ck86), List.forall_mem_cons.mpr ⟨j_tb_in 3 (List.mem_of_getElem? j_ck87), List.forall_mem_cons.mpr ⟨j_tb_in 3 (List.mem_of_getElem? j_ck88), List.forall_mem_cons.mpr ⟨j_tb_in 3 (List.mem_of_getElem? j_ck89), List.forall_mem_cons.mpr ⟨j_tb_in 3 (List.mem_of_getElem? j_ck90), List.forall_mem_cons.mpr ⟨j_tb_in 4 (List.mem_of_getElem? j_ck91), List.forall_mem_cons.mpr ⟨j_tb_in 4 (List.mem_of_getElem? j_ck92), List.forall_mem_cons.mpr ⟨j_tb_in 4 (List.mem_of_getElem? j_ck93), List.forall_mem_cons.mpr ⟨j_tb_in 4 (List.mem_of_getElem? j_ck94), List.forall_mem_cons.mpr ⟨j_tb_in 4 (List.mem_of_getElem? j_ck95), List.forall_mem_cons.mpr ⟨j_tb_in 4 (List.mem_of_getElem? j_ck96), List.forall_mem_cons.mpr ⟨j_tb_in 4 (List.mem_of_getElem? j_ck97), List.forall_mem_cons.mpr ⟨j_tb_in 4 (List.mem_of_getElem? j_ck98), List.forall_mem_cons.mpr ⟨j_tb_in 4 (List.mem_of_getElem? j_ck99), List.forall_mem_cons.mpr ⟨j_tb_in 3 (List.mem_of_getElem? j_ck100), List.forall_mem_cons.mpr ⟨j_tb_in 2 (List.mem_of_getElem? j_ck101), List.forall_mem_cons.mpr ⟨j_tb_in 3 (List.mem_of_getElem? j_ck102), List.forall_mem_cons.mpr ⟨j_tb_in 3 (List.mem_of_getElem? j_ck103), List.forall_mem_cons.mpr ⟨j_tb_in 1 (List.mem_of_getElem? j_ck104), List.forall_mem_cons.mpr ⟨j_tb_in 4 (List.mem_of_getElem? j_ck105), List.forall_mem_cons.mpr ⟨j_tb_in 3 (List.mem_of_getElem? j_ck106), List.forall_mem_cons.mpr ⟨j_tb_in 3 (List.mem_of_getElem? j_ck107), List.forall_mem_cons.mpr ⟨j_tb_in 3 (List.mem_of_getElem? j_ck108), List.forall_mem_cons.mpr ⟨j_tb_in 3 (List.mem_of_getElem? j_ck109), List.forall_mem_cons.mpr ⟨j_tb_in 3 (List.mem_of_getElem? j_ck110), List.forall_mem_cons.mpr ⟨j_tb_in 3 (List.mem_of_getElem? j_ck111), List.forall_mem_cons.mpr ⟨j_tb_in 3 (List.mem_of_getElem? j_ck112), List.forall_mem_cons.mpr ⟨j_tb_in 3 (List.mem_of_getElem? j_ck113), List.forall_mem_cons.mpr ⟨j_tb_in 3 (List.mem_of_getElem? j_ck114), List.forall_mem_cons.mpr ⟨j_tb_in 3 (List.mem_of_getElem? j_ck115), List.forall_mem_cons.mpr ⟨j_tb_in 3 (List.mem_of_getElem? j_ck116), List.forall_mem_cons.mpr ⟨j_tb_in 3 (List.mem_of_getElem? j_ck117), List.forall_mem_cons.mpr ⟨j_tb_in 3 (List.mem_of_getElem? j_ck118), List.forall_mem_cons.mpr ⟨j_tb_in 3 (List.mem_of_getElem? j_ck119), List.forall_mem_cons.mpr ⟨j_tb_in 4 (List.mem_of_getElem? j_ck120), List.forall_mem_cons.mpr ⟨j_tb_in 5 (List.mem_of_getElem? j_ck121), List.forall_mem_cons.mpr ⟨j_tb_in 5 (List.mem_of_getElem? j_ck122), List.forall_mem_cons.mpr ⟨j_tb_in 5 (List.mem_of_getElem? j_ck123), List.forall_mem_cons.mpr ⟨j_tb_in 5 (List.mem_of_getElem? j_ck124), List.forall_mem_cons.mpr ⟨j_tb_in 5 (List.mem_of_getElem? j_ck125), List.forall_mem_cons.mpr ⟨j_tb_in 5 (List.mem_of_getElem? j_ck126), List.forall_mem_cons.mpr ⟨j_tb_in 5 (List.mem_of_getElem? j_ck127), List.forall_mem_cons.mpr ⟨j_tb_in 5 (List.mem_of_getElem? j_ck128), List.forall_mem_cons.mpr ⟨j_tb_in 5 (List.mem_of_getElem? j_ck129), List.forall_mem_cons.mpr ⟨j_tb_in 5 (List.mem_of_getElem? j_ck130), List.forall_mem_cons.mpr ⟨j_tb_in 5 (List.mem_of_getElem? j_ck131), List.forall_mem_cons.mpr ⟨j_tb_in 5 (List.mem_of_getElem? j_ck132), List.forall_mem_cons.mpr ⟨j_tb_in 5 (List.mem_of_getElem? j_ck133), List.forall_mem_cons.mpr ⟨j_tb_in 5 (List.mem_of_getElem? j_ck134), List.forall_mem_cons.mpr ⟨j_tb_in 5 (List.mem_of_getElem? j_ck135), List.forall_mem_cons.mpr ⟨j_tb_in 5 (List.mem_of_getElem? j_ck136), List.forall_mem_cons.mpr ⟨j_tb_in 5 (List.mem_of_getElem? j_ck137), List.forall_mem_cons.mpr ⟨j_tb_in 5 (List.mem_of_getElem? j_ck138), List.forall_mem_cons.mpr ⟨j_tb_in 5 (List.mem_of_getElem? j_ck139), List.forall_mem_cons.mpr ⟨j_tb_in 5 (List.mem_of_getElem? j_ck140), List.forall_mem_cons.mpr ⟨j_tb_in 5 (List.mem_of_getElem? j_ck141), List.forall_mem_cons.mpr ⟨j_tb_in 5 (List.mem_of_getElem? j_ck142), List.forall_mem_cons.mpr ⟨j_tb_in 5 (List.mem_of_getElem? j_ck143), List.forall_mem_cons.mpr ⟨j_tb_in 5 (List.mem_of_getElem? j_ck144), List.forall_mem_cons.mpr ⟨j_tb_in 5 (List.mem_of_getElem? j_ck145), List.forall_mem_cons.mpr ⟨j_tb_in 5 (List.mem_of_getElem? j_ck146), List.forall_mem_cons.mpr ⟨j_tb_in 5 (List.mem_of_getElem? j_ck147), List.forall_mem_cons.mpr ⟨j_tb_in 5 (List.mem_of_getElem? j_ck148), List.forall_mem_cons.mpr ⟨j_tb_in 5 (List.mem_of_getElem? j_ck149), List.forall_mem_cons.mpr ⟨j_tb_in 5 (List.mem_of_getElem? j_ck150), List.forall_mem_cons.mpr ⟨j_tb_in 5 (List.mem_of_getElem? j_ck151), List.forall_mem_cons.mpr ⟨j_tb_in 5 (List.mem_of_getElem? j_ck152), List.forall_mem_cons.mpr ⟨j_tb_in 5 (List.mem_of_getElem? j_ck153), List.forall_mem_cons.mpr ⟨j_tb_in 5 (List.mem_of_getElem? j_ck154), List.forall_mem_cons.mpr ⟨j_tb_in 5 (List.mem_of_getElem? j_ck155), List.forall_mem_cons.mpr ⟨j_tb_in 6 (List.mem_of_getElem? j_ck156), List.forall_mem_cons.mpr ⟨j_tb_in 6 (List.mem_of_getElem? j_ck157), List.forall_mem_cons.mpr ⟨j_tb_in 5 (List.mem_of_getElem? j_ck158), List.forall_mem_cons.mpr ⟨j_tb_in 5 (List.mem_of_getElem? j_ck159), List.forall_mem_cons.mpr ⟨j_tb_in 5 (List.mem_of_getElem? j_ck160), List.forall_mem_cons.mpr ⟨j_tb_in 6 (List.mem_of_getElem? j_ck161), List.forall_mem_cons.mpr ⟨j_tb_in 6 (List.mem_of_getElem? j_ck162), List.forall_mem_cons.mpr ⟨j_tb_in 6 (List.mem_of_getElem? j_ck163), List.forall_mem_cons.mpr ⟨j_tb_in 6 (List.mem_of_getElem? j_ck164), List.forall_mem_cons.mpr ⟨j_tb_in 6 (List.mem_of_getElem? j_ck165), List.forall_mem_cons.mpr ⟨j_tb_in 6 (List.mem_of_getElem? j_ck166), List.forall_mem_cons.mpr ⟨j_tb_in 6 (List.mem_of_getElem? j_ck167), List.forall_mem_cons.mpr ⟨j_tb_in 6 (List.mem_of_getElem? j_ck168), List.forall_mem_cons.mpr ⟨j_tb_in 6 (List.mem_of_getElem? j_ck169), List.forall_mem_cons.mpr ⟨j_tb_in 6 (List.mem_of_getElem? j_ck170), List.forall_mem_cons.mpr ⟨j_tb_in 6 (List.mem_of_getElem? j_ck171), List.forall_mem_cons.mpr ⟨j_tb_in 6 (List.mem_of_getElem? j_ck172), List.forall_mem_cons.mpr ⟨j_tb_in 6 (List.mem_of_getElem? j_ck173), List.forall_mem_cons.mpr ⟨j_tb_in 6 (List.mem_of_getElem? j_ck174), List.forall_mem_cons.mpr ⟨j_tb_in 6 (List.mem_of_getElem? j_ck175), List.forall_mem_cons.mpr ⟨j_tb_in 6 (List.mem_of_getElem? j_ck176), List.forall_mem_cons.mpr ⟨j_tb_in 6 (List.mem_of_getElem? j_ck177), List.forall_mem_cons.mpr ⟨j_tb_in 6 (List.mem_of_getElem? j_ck178), List.forall_mem_cons.mpr ⟨j_tb_in 6 (List.mem_of_getElem? j_ck179), List.forall_mem_cons.mpr ⟨j_tb_in 6 (List.mem_of_getElem? j_ck180), List.forall_mem_cons.mpr ⟨j_tb_in 6 (List.mem_of_getElem? j_ck181), List.forall_mem_cons.mpr ⟨j_tb_in 6 (List.mem_of_getElem? j_ck182), List.forall_mem_cons.mpr ⟨j_tb_in 6 (List.mem_of_getElem? j_ck183), List.forall_mem_cons.mpr ⟨j_tb_in 6 (List.mem_of_getElem? j_ck184), List.forall_mem_cons.mpr ⟨j_tb_in 6 (List.mem_of_getElem? j_ck185), List.forall_mem_cons.mpr ⟨j_tb_in 6 (List.mem_of_getElem? j_ck186), List.forall_mem_cons.mpr ⟨j_tb_in 6 (List.mem_of_getElem? j_ck187), List.forall_mem_cons.mpr ⟨j_tb_in 6 (List.mem_of_getElem? j_ck188), List.forall_mem_cons.mpr ⟨j_tb_in 6 (List.mem_of_getElem? j_ck189), List.forall_mem_cons.mpr ⟨j_tb_in 6 (List.mem_of_getElem? j_ck190), List.forall_mem_cons.mpr ⟨j_tb_in 6 (List.mem_of_getElem? j_ck191), List.forall_mem_cons.mpr ⟨j_tb_in 6 (List.mem_of_getElem? j_ck192), List.forall_mem_cons.mpr ⟨j_tb_in 6 (List.mem_of_getElem? j_ck193), List.forall_mem_cons.mpr ⟨j_tb_in 6 (List.mem_of_getElem? j_ck194), List.forall_mem_cons.mpr ⟨j_tb_in 6 (List.mem_of_getElem? j_ck195), List.forall_mem_cons.mpr ⟨j_tb_in 6 (List.mem_of_getElem? j_ck196), List.forall_mem_cons.mpr ⟨j_tb_in 6 (List.mem_of_getElem? j_ck197), List.forall_mem_cons.mpr ⟨j_tb_in 6 (List.mem_of_getElem? j_ck198), List.forall_mem_cons.mpr ⟨j_tb_in 6 (List.mem_of_getElem? j_ck199), List.forall_mem_cons.mpr ⟨j_tb_in 6 (List.mem_of_getElem? j_ck200), List.forall_mem_cons.mpr ⟨j_tb_in 1 (List.mem_of_getElem? j_ck201), List.forall_mem_cons.mpr ⟨j_tb_in 2 (List.mem_of_getElem? j_ck202), List.forall_mem_cons.mpr ⟨j_tb_in 2 (List.mem_of_getElem? j_ck203), List.forall_mem_cons.mpr ⟨j_tb_in 2 (List.mem_of_getElem? j_ck204), List.forall_mem_cons.mpr ⟨j_tb_in 2 (List.mem_of_getElem? j_ck205), List.forall_mem_cons.mpr ⟨j_tb_in 2 (List.mem_of_getElem? j_ck206), List.forall_mem_cons.mpr ⟨j_tb_in 2 (List.mem_of_getElem? j_ck207), List.forall_mem_cons.mpr ⟨j_tb_in 3 (List.mem_of_getElem? j_ck208), List.forall_mem_cons.mpr ⟨j_tb_in 2 (List.mem_of_getElem? j_ck209), List.forall_mem_cons.mpr ⟨j_tb_in 3 (List.mem_of_getElem? j_ck210), List.forall_mem_cons.mpr ⟨j_tb_in 3 (List.mem_of_getElem? j_ck211), List.forall_mem_cons.mpr ⟨j_tb_in 3 (List.mem_of_getElem? j_ck212), fun _ h => absurd h List.not_mem_nil⟩⟩⟩⟩⟩⟩⟩⟩⟩⟩⟩⟩⟩⟩⟩⟩⟩⟩⟩⟩⟩⟩⟩⟩⟩⟩⟩⟩⟩⟩⟩⟩⟩⟩⟩⟩⟩⟩⟩⟩⟩⟩⟩⟩⟩⟩⟩⟩⟩⟩⟩⟩⟩⟩⟩⟩⟩⟩⟩⟩⟩⟩⟩⟩⟩⟩⟩⟩⟩⟩⟩⟩⟩⟩⟩⟩⟩⟩⟩⟩⟩⟩⟩⟩⟩⟩⟩⟩⟩⟩⟩⟩⟩⟩⟩⟩⟩⟩⟩⟩⟩⟩⟩⟩⟩⟩⟩⟩⟩⟩⟩⟩⟩⟩⟩⟩⟩⟩⟩⟩⟩⟩⟩⟩⟩⟩⟩⟩⟩⟩⟩⟩⟩⟩⟩⟩⟩⟩⟩⟩⟩⟩⟩⟩⟩⟩⟩⟩⟩⟩⟩⟩⟩⟩⟩⟩⟩⟩⟩⟩⟩⟩⟩⟩⟩⟩⟩⟩⟩⟩⟩⟩⟩⟩⟩⟩⟩⟩⟩⟩⟩⟩⟩⟩⟩⟩⟩⟩⟩⟩⟩⟩⟩⟩⟩⟩⟩⟩⟩⟩⟩⟩⟩⟩⟩⟩⟩⟩⟩⟩⟩⟩⟩
theorem j_wkx : j_wx.all (fun e => decide (lw_tbl[e.1]? = some (j_w e.2))) = true := by decide +kernel
def j_wok (l : List (Nat × List Nat)) : Prop := ∀ e ∈ l, j_w e.2 ∈ lw_tbl ∧ goodWord (j_w e.2) = true
theorem j_wok_of (t s : Nat) (l : List (Nat × List Nat)) (h : j_sub ((j_tb t).drop s) l = true) : j_wok l := fun e he => ⟨j_tb_in t (List.mem_of_mem_drop (j_sub_in l _ h e he).1), (j_sub_in l _ h e he).2⟩
theorem j_wls_ok : ∀ l ∈ j_wls, j_wok l := List.forall_mem_cons.mpr ⟨j_wok_of 0 0 _ j_wk0, List.forall_mem_cons.mpr ⟨j_wok_of 0 12 _ j_wk1, List.forall_mem_cons.mpr ⟨j_wok_of 0 24 _ j_wk2, List.forall_mem_cons.mpr ⟨j_wok_of 0 36 _ j_wk3, List.forall_mem_cons.mpr ⟨j_wok_of 0 48 _ j_wk4, List.forall_mem_cons.mpr ⟨j_wok_of 0 60 _ j_wk5, List.forall_mem_cons.mpr ⟨j_wok_of 1 1 _ j_wk6, List.forall_mem_cons.mpr ⟨j_wok_of 1 13 _ j_wk7, List.forall_mem_cons.mpr ⟨j_wok_of 1 27 _ j_wk8, List.forall_mem_cons.mpr ⟨j_wok_of 1 41 _ j_wk9, List.forall_mem_cons.mpr ⟨j_wok_of 1 53 _ j_wk10, List.forall_mem_cons.mpr ⟨j_wok_of 1 72 _ j_wk11, List.forall_mem_cons.mpr ⟨j_wok_of 1 91 _ j_wk12, List.forall_mem_cons.mpr ⟨j_wok_of 1 103 _ j_wk13, List.forall_mem_cons.mpr ⟨j_wok_of 1 128 _ j_wk14, List.forall_mem_cons.mpr ⟨j_wok_of 1 144 _ j_wk15, List.forall_mem_cons.mpr ⟨j_wok_of 1 160 _ j_wk16, List.forall_mem_cons.mpr ⟨j_wok_of 1 174 _ j_wk17, List.forall_mem_cons.mpr ⟨j_wok_of 1 195 _ j_wk18, List.forall_mem_cons.mpr ⟨j_wok_of 1 215 _ j_wk19, List.forall_mem_cons.mpr ⟨j_wok_of 1 230 _ j_wk20, List.forall_mem_cons.mpr ⟨j_wok_of 2 0 _ j_wk21, List.forall_mem_cons.mpr ⟨j_wok_of 2 12 _ j_wk22, List.forall_mem_cons.mpr ⟨j_wok_of 2 29 _ j_wk23, List.forall_mem_cons.mpr ⟨j_wok_of 2 42 _ j_wk24, List.forall_mem_cons.mpr ⟨j_wok_of 2 56 _ j_wk25, List.forall_mem_cons.mpr ⟨j_wok_of 2 69 _ j_wk26, List.forall_mem_cons.mpr ⟨j_wok_of 2 82 _ j_wk27, List.forall_mem_cons.mpr ⟨j_wok_of 2 94 _ j_wk28, List.forall_mem_cons.mpr ⟨j_wok_of 2 110 _ j_wk29, List.forall_mem_cons.mpr ⟨j_wok_of 2 127 _ j_wk30, List.forall_mem_cons.mpr ⟨j_wok_of 2 143 _ j_wk31, List.forall_mem_cons.mpr ⟨j_wok_of 2 160 _ j_wk32, List.forall_mem_cons.mpr ⟨j_wok_of 2 177 _ j_wk33, List.forall_mem_cons.mpr ⟨j_wok_of 2 193 _ j_wk34, List.forall_mem_cons.mpr ⟨j_wok_of 2 215 _ j_wk35, List.forall_mem_cons.mpr ⟨j_wok_of 2 233 _ j_wk36, List.forall_mem_cons.mpr ⟨j_wok_of 3 0 _ j_wk37, List.forall_mem_cons.mpr ⟨j_wok_of 3 41 _ j_wk38, List.forall_mem_cons.mpr ⟨j_wok_of 3 65 _ j_wk39, List.forall_mem_cons.mpr ⟨j_wok_of 3 80 _ j_wk40, List.forall_mem_cons.mpr ⟨j_wok_of 3 97 _ j_wk41, List.forall_mem_cons.mpr ⟨j_wok_of 3 115 _ j_wk42, List.forall_mem_cons.mpr ⟨j_wok_of 3 131 _ j_wk43, List.forall_mem_cons.mpr ⟨j_wok_of 3 153 _ j_wk44, List.forall_mem_cons.mpr ⟨j_wok_of 3 170 _ j_wk45, List.forall_mem_cons.mpr ⟨j_wok_of 3 189 _ j_wk46, List.forall_mem_cons.mpr ⟨j_wok_of 3 207 _ j_wk47, List.forall_mem_cons.mpr ⟨j_wok_of 3 224 _ j_wk48, List.forall_mem_cons.mpr ⟨j_wok_of 4 0 _ j_wk49, List.forall_mem_cons.mpr ⟨j_wok_of 4 15 _ j_wk50, List.forall_mem_cons.mpr ⟨j_wok_of 4 30 _ j_wk51, List.forall_mem_cons.mpr ⟨j_wok_of 4 45 _ j_wk52, List.forall_mem_cons.mpr ⟨j_wok_of 4 59 _ j_wk53, List.forall_mem_cons.mpr ⟨j_wok_of 4 75 _ j_wk54, List.forall_mem_cons.mpr ⟨j_wok_of 4 90 _ j_wk55, List.forall_mem_cons.mpr ⟨j_wok_of 4 106 _ j_wk56, List.forall_mem_cons.mpr ⟨j_wok_of 4 121 _ j_wk57, List.forall_mem_cons.mpr ⟨j_wok_of 4 139 _ j_wk58, List.forall_mem_cons.mpr ⟨j_wok_of 4 153 _ j_wk59, List.forall_mem_cons.mpr ⟨j_wok_of 4 165 _ j_wk60, List.forall_mem_cons.mpr ⟨j_wok_of 4 177 _ j_wk61, List.forall_mem_cons.mpr ⟨j_wok_of 4 189 _ j_wk62, List.forall_mem_cons.mpr ⟨j_wok_of 4 201 _ j_wk63, List.forall_mem_cons.mpr ⟨j_wok_of 4 219 _ j_wk64, List.forall_mem_cons.mpr ⟨j_wok_of 5 1 _ j_wk65, List.forall_mem_cons.mpr ⟨j_wok_of 5 25 _ j_wk66, List.forall_mem_cons.mpr ⟨j_wok_of 5 49 _ j_wk67, List.forall_mem_cons.mpr ⟨j_wok_of 5 73 _ j_wk68, List.forall_mem_cons.mpr ⟨j_wok_of 5 94 _ j_wk69, List.forall_mem_cons.mpr ⟨j_wok_of 5 111 _ j_wk70, List.forall_mem_cons.mpr ⟨j_wok_of 5 133 _ j_wk71, List.forall_mem_cons.mpr ⟨j_wok_of 5 157 _ j_wk72, List.forall_mem_cons.mpr ⟨j_wok_of 5 179 _ j_wk73, List.forall_mem_cons.mpr ⟨j_wok_of 5 203 _ j_wk74, List.forall_mem_cons.mpr ⟨j_wok_of 5 226 _ j_wk75, List.forall_mem_cons.mpr ⟨j_wok_of 6 1 _ j_wk76, List.forall_mem_cons.mpr ⟨j_wok_of 6 18 _ j_wk77, List.forall_mem_cons.mpr ⟨j_wok_of 6 34 _ j_wk78, List.forall_mem_cons.mpr ⟨j_wok_of 6 53 _ j_wk79, List.forall_mem_cons.mpr ⟨j_wok_of 6 72 _ j_wk80, List.forall_mem_cons.mpr ⟨j_wok_of 6 89 _ j_wk81, List.forall_mem_cons.mpr ⟨j_wok_of 6 107 _ j_wk82, List.forall_mem_cons.mpr ⟨j_wok_of 6 131 _ j_wk83, List.forall_mem_cons.mpr ⟨j_wok_of 6 148 _ j_wk84, List.forall_mem_cons.mpr ⟨j_wok_of 6 165 _ j_wk85, fun _ h => absurd h List.not_mem_nil⟩⟩⟩⟩⟩⟩⟩⟩⟩⟩⟩⟩⟩⟩⟩⟩⟩⟩⟩⟩⟩⟩⟩⟩⟩⟩⟩⟩⟩⟩⟩⟩⟩⟩⟩⟩⟩⟩⟩⟩⟩⟩⟩⟩⟩⟩⟩⟩⟩⟩⟩⟩⟩⟩⟩⟩⟩⟩⟩⟩⟩⟩⟩⟩⟩⟩⟩⟩⟩⟩⟩⟩⟩⟩⟩⟩⟩⟩⟩⟩⟩⟩⟩⟩⟩⟩
