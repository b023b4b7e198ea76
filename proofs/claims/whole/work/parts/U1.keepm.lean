/-! cutting: a kept picture's bytes, model -/
section KeepM
variable {m : jM} {len z x1 x2 x3 x4 x5 x6 t hd : Int} {g : Int → Int}
theorem mCp_0 (h : m 76 47 = len) : mCp m g len 0 = m := by
  funext y i
  unfold mCp
  by_cases c1 : y = 112
  · rw [if_pos c1, c1]
    exact if_neg (by omega)
  · rw [if_neg c1]
    by_cases c2 : y = 76
    · rw [if_pos c2, c2]
      show (if i = 47 then len + 0 else m 76 i) = m 76 i
      by_cases c3 : i = 47
      · rw [if_pos c3, c3, h, Int.add_zero]
      · rw [if_neg c3]
    · rw [if_neg c2]
theorem mCp_s (t0 : 0 ≤ t) : jms (jms (mCp m g len t) 112 (len + t) (jwb (g t))) 76 47 (len + t + 1) = mCp m g len (t + 1) := by
  funext y i
  by_cases c2 : y = 76
  · rw [c2]
    by_cases c3 : i = 47
    · rw [c3, jms_e]
      unfold mCp
      rw [if_neg (by decide), if_pos rfl]
      show len + t + 1 = if (47 : Int) = 47 then len + (t + 1) else m 76 47
      rw [if_pos rfl]
      omega
    · rw [jms_i c3, jms_o (by decide)]
      unfold mCp
      show (if i = 47 then len + t else m 76 i) = if i = 47 then len + (t + 1) else m 76 i
      rw [if_neg c3, if_neg c3]
  · rw [jms_o c2]
    by_cases c1 : y = 112
    · rw [c1]
      by_cases e : i = len + t
      · rw [e, jms_e]
        unfold mCp
        rw [if_pos rfl]
        show jwb (g t) = if len ≤ len + t ∧ len + t < len + (t + 1) then jwb (g (len + t - len)) else m 112 (len + t)
        rw [if_pos (by omega), show len + t - len = t by omega]
      · rw [jms_i e]
        unfold mCp
        rw [if_pos rfl, if_pos rfl]
        show (if len ≤ i ∧ i < len + t then jwb (g (i - len)) else m 112 i) = if len ≤ i ∧ i < len + (t + 1) then jwb (g (i - len)) else m 112 i
        by_cases d : len ≤ i ∧ i < len + t
        · rw [if_pos d, if_pos (by omega)]
        · rw [if_neg d, if_neg (by omega)]
    · rw [jms_o c1]
      unfold mCp
      rw [if_neg c1, if_neg c2, if_neg c1, if_neg c2]
end KeepM
