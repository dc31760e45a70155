/-! MATH HALF: the verb of a line of work -/
def vbN (q : Tq) (a : Nat) : Nat := if woP q a 2015 then 0 else if woP q a 2016 then 1 else if woP q a 2017 then 2 else if woP q a 2018 then 3 else if woP q a 2019 then 4 else if woP q a 2020 then 5 else 6
section Verb
variable {q : Tq} {a b c d e i j k n p s u x A : Nat} {m m2 : Mm} {lo hi : Int32}
theorem vb_le : vbN q a ≤ 6 := by
  unfold vbN
  split
  · omega
  · split
    · omega
    · split
      · omega
      · split
        · omega
        · split
          · omega
          · split <;> omega
theorem b01 {P : Prop} [Decidable P] : (nI (if P then 1 else 0) = 0) ↔ ¬ P := by
  by_cases h : P
  · rw [if_pos h]
    exact ⟨fun e => absurd e (by decide), fun e => absurd h e⟩
  · rw [if_neg h]
    exact ⟨fun _ => h, fun _ => rfl⟩
theorem c_verb (h : CTk q a m) (hq : TW q) (ha : a ≤ q.1) : f_X9_verbInHand A m = some (if vbN q a = 6 then mo else nI (vbN q a), m) := by
  have w15 : f_X7_isWord 1015 m = _ := c_word (p := 15) h hq ha (by omega)
  have w16 : f_X7_isWord 1016 m = _ := c_word (p := 16) h hq ha (by omega)
  have w17 : f_X7_isWord 1017 m = _ := c_word (p := 17) h hq ha (by omega)
  have w18 : f_X7_isWord 1018 m = _ := c_word (p := 18) h hq ha (by omega)
  have w19 : f_X7_isWord 1019 m = _ := c_word (p := 19) h hq ha (by omega)
  have w20 : f_X7_isWord 1020 m = _ := c_word (p := 20) h hq ha (by omega)
  unfold f_X9_verbInHand vbN
  rw [w15, q_bd2]
  by_cases p15 : woP q a 2015
  · rw [if_neg (fun e => b01.mp e p15), if_pos p15]; rfl
  · rw [if_pos (b01.mpr p15), if_neg p15, w16, q_bd2]
    by_cases p16 : woP q a 2016
    · rw [if_neg (fun e => b01.mp e p16), if_pos p16]; rfl
    · rw [if_pos (b01.mpr p16), if_neg p16, w17, q_bd2]
      by_cases p17 : woP q a 2017
      · rw [if_neg (fun e => b01.mp e p17), if_pos p17]; rfl
      · rw [if_pos (b01.mpr p17), if_neg p17, w18, q_bd2]
        by_cases p18 : woP q a 2018
        · rw [if_neg (fun e => b01.mp e p18), if_pos p18]; rfl
        · rw [if_pos (b01.mpr p18), if_neg p18, w19, q_bd2]
          by_cases p19 : woP q a 2019
          · rw [if_neg (fun e => b01.mp e p19), if_pos p19]; rfl
          · rw [if_pos (b01.mpr p19), if_neg p19, w20, q_bd2]
            by_cases p20 : woP q a 2020
            · rw [if_neg (fun e => b01.mp e p20), if_pos p20]; rfl
            · rw [if_pos (b01.mpr p20), if_neg p20]; rfl
theorem r_verb (h : RTk q a m) (hq : TW q) (ha : a ≤ q.1) : f_X11_readsLine m = f_X11_readsLine_J85 (if vbN q a = 6 then mo else nI (vbN q a)) m := by
  have w15 : f_X11_isWord (357970 : Int64) m = _ := r_word2 (p := 15) (x := 357970) h hq ha (by omega) (by decide +kernel) (by decide)
  have w16 : f_X11_isWord (12584543 : Int64) m = _ := r_word2 (p := 16) (x := 12584543) h hq ha (by omega) (by decide +kernel) (by decide)
  have w17 : f_X11_isWord (247649 : Int64) m = _ := r_word2 (p := 17) (x := 247649) h hq ha (by omega) (by decide +kernel) (by decide)
  have w18 : f_X11_isWord (7054053404 : Int64) m = _ := r_word2 (p := 18) (x := 7054053404) h hq ha (by omega) (by decide +kernel) (by decide)
  have w19 : f_X11_isWord (7046796451 : Int64) m = _ := r_word2 (p := 19) (x := 7046796451) h hq ha (by omega) (by decide +kernel) (by decide)
  have w20 : f_X11_isWord (168755 : Int64) m = _ := r_word2 (p := 20) (x := 168755) h hq ha (by omega) (by decide +kernel) (by decide)
  unfold f_X11_readsLine vbN
  rw [w15, q_bd2]
  by_cases p15 : woP q a 2015
  · rw [if_neg (fun e => b01.mp e p15), if_pos p15]; rfl
  · rw [if_pos (b01.mpr p15), if_neg p15, w16, q_bd2]
    by_cases p16 : woP q a 2016
    · rw [if_neg (fun e => b01.mp e p16), if_pos p16]; rfl
    · rw [if_pos (b01.mpr p16), if_neg p16, w17, q_bd2]
      by_cases p17 : woP q a 2017
      · rw [if_neg (fun e => b01.mp e p17), if_pos p17]; rfl
      · rw [if_pos (b01.mpr p17), if_neg p17, w18, q_bd2]
        by_cases p18 : woP q a 2018
        · rw [if_neg (fun e => b01.mp e p18), if_pos p18]; rfl
        · rw [if_pos (b01.mpr p18), if_neg p18, w19, q_bd2]
          by_cases p19 : woP q a 2019
          · rw [if_neg (fun e => b01.mp e p19), if_pos p19]; rfl
          · rw [if_pos (b01.mpr p19), if_neg p19, w20, q_bd2]
            by_cases p20 : woP q a 2020
            · rw [if_neg (fun e => b01.mp e p20), if_pos p20]; rfl
            · rw [if_pos (b01.mpr p20), if_neg p20]; rfl
end Verb
