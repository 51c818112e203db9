/-! the step by what is expected -/
theorem tak_1 {v : Int} {M S : Hp} (h : M 3 4 = 1) (e : S = scnS M) : takS v S = tkNam v S := by
  have q : S 3 4 = 1 := by rw [e, scn_r (by decide)]; exact h
  unfold takS
  rw [q]
  rfl
theorem tak_2 {v : Int} {M S : Hp} (h : M 3 4 = 2) (e : S = scnS M) : takS v S = tkInn S := by
  have q : S 3 4 = 2 := by rw [e, scn_r (by decide)]; exact h
  unfold takS
  rw [q]
  rfl
theorem tak_3 {v : Int} {M S : Hp} (h : M 3 4 = 3) (e : S = scnS M) : takS v S = tkPar v S := by
  have q : S 3 4 = 3 := by rw [e, scn_r (by decide)]; exact h
  unfold takS
  rw [q]
  rfl
theorem tak_4 {v : Int} {M S : Hp} (h : M 3 4 = 4) (e : S = scnS M) : takS v S = tkSet v S := by
  have q : S 3 4 = 4 := by rw [e, scn_r (by decide)]; exact h
  unfold takS
  rw [q]
  rfl
theorem tak_5 {v : Int} {M S : Hp} (h : M 3 4 = 5) (e : S = scnS M) : takS v S = tkVal v S := by
  have q : S 3 4 = 5 := by rw [e, scn_r (by decide)]; exact h
  unfold takS
  rw [q]
  rfl
theorem tak_6 {v : Int} {M S : Hp} (h : M 3 4 = 6) (e : S = scnS M) : takS v S = tkLim v S := by
  have q : S 3 4 = 6 := by rw [e, scn_r (by decide)]; exact h
  unfold takS
  rw [q]
  rfl
theorem tak_7 {v : Int} {M S : Hp} (h : M 3 4 = 7) (e : S = scnS M) : takS v S = tkAge v S := by
  have q : S 3 4 = 7 := by rw [e, scn_r (by decide)]; exact h
  unfold takS
  rw [q]
  rfl
theorem tak_8 {v : Int} {M S : Hp} (h : M 3 4 = 8) (e : S = scnS M) : takS v S = tkTim S := by
  have q : S 3 4 = 8 := by rw [e, scn_r (by decide)]; exact h
  unfold takS
  rw [q]
  rfl
theorem tak_9 {v : Int} {M S : Hp} (h : M 3 4 = 9) (e : S = scnS M) : takS v S = tkChN v S := by
  have q : S 3 4 = 9 := by rw [e, scn_r (by decide)]; exact h
  unfold takS
  rw [q]
  rfl
theorem tak_10 {v : Int} {M S : Hp} (h : M 3 4 = 10) (e : S = scnS M) : takS v S = tkChS S := by
  have q : S 3 4 = 10 := by rw [e, scn_r (by decide)]; exact h
  unfold takS
  rw [q]
  rfl
theorem tak_11 {v : Int} {M S : Hp} (h : M 3 4 = 11) (e : S = scnS M) : takS v S = tkChV v S := by
  have q : S 3 4 = 11 := by rw [e, scn_r (by decide)]; exact h
  unfold takS
  rw [q]
  rfl
theorem tak_12 {v : Int} {M S : Hp} (h : M 3 4 = 12) (e : S = scnS M) : takS v S = tkEnd S := by
  have q : S 3 4 = 12 := by rw [e, scn_r (by decide)]; exact h
  unfold takS
  rw [q]
  rfl

