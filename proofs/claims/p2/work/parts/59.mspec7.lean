theorem drw_s (x : Int32) : (x >>> (nI 16 &&& 31)) &&& nI 32767 = nI (drw x) := by
  rw [← drw_and]
  refine b_ext (fun i hi => ?_)
  rw [b_and, b_and, b_sshr 16 (by decide) x hi, show xu x (nI 16) = (x.toUInt32 >>> ((nI 16).toUInt32 &&& Int32.toUInt32 31)).toInt32 from rfl, b_ushr 16 (by decide) x i]
  by_cases h : 16 + i < 32
  · rw [if_pos h]
  · rw [show bt (nI 32767) i = false from ((by decide +kernel : ∀ i, i < 32 → ¬ 16 + i < 32 → bt (nI 32767) i = false) i hi h), Bool.and_false, Bool.and_false]
