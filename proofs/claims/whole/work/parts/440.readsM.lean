/-! ===== the model's reading, from the last part to the first ===== -/
section RD
variable {k55 : Int → SS → Option SS} {k w2 : Nat} {s : SS}
theorem rd_0 (hk : k < 40) (h2 : s 2 k = 0) : g_X7_reads_55 k55 (k : Int) s = k55 ((k : Int) - 1) (up (up s 5 k 1) 6 k 1) := by
  unfold g_X7_reads_55 g_X7_reads_81 g_X7_reads_136 g_X7_reads_196
  rw [if_neg (by omega)]
  simp (disch := omega) [sb_t, h2, up_q, up_k, gx_d, wr_t, up_s, X7_twofold_v, bn_t]
  rfl
theorem rd_1 {kd : Int} {b w : Nat} (hk : k + 1 < 40) (hd : kd = 4 ∨ kd = 5) (h2 : s 2 k = kd) (h5 : s 5 (k + 1) = b) (h6 : s 6 (k + 1) = w) (hb : b ≤ 1000) (hw : w ≤ 1000) : g_X7_reads_55 k55 (k : Int) s = k55 ((k : Int) - 1) (up (up (up (up (up s 5 k (if kd = 4 then 2 else 1)) 6 k 1) 8 (k + 1) k) 5 k (((if kd = 4 then 2 else 1 : Nat) + b : Nat) : Int)) 6 k ((1 + w : Nat) : Int)) := by
  unfold g_X7_reads_55 g_X7_reads_81 g_X7_reads_136 g_X7_reads_196
  rw [if_neg (by omega)]
  rcases hd with rfl | rfl
  · simp (disch := omega) [sb_t, h2, h5, h6, up_q, up_k, gx_d, wr_t, up_s, X7_twofold_v, bn_t]
    rfl
  · simp (disch := omega) [sb_t, h2, h5, h6, up_q, up_k, gx_d, wr_t, up_s, X7_twofold_v, bn_t]
    rfl
theorem rd_2 {kd : Int} {b w c w2 : Nat} (hk : k + 1 < 40) (hd : kd = 1 ∨ kd = 2 ∨ kd = 3) (h2 : s 2 k = kd) (h5 : s 5 (k + 1) = b) (h6 : s 6 (k + 1) = w) (hb : b ≤ 1000) (hw : 1 ≤ w) (hw3 : k + 1 + w < 40) (h5' : s 5 (k + 1 + w) = c) (h6' : s 6 (k + 1 + w) = w2) (hc : c ≤ 1000) (hw2 : w2 ≤ 1000) : g_X7_reads_55 k55 (k : Int) s = k55 ((k : Int) - 1) (up (up (up (up (up (up (up (up (up s 5 k 1) 6 k 1) 8 (k + 1) k) 5 k (1 + b)) 6 k (1 + w)) 7 k ((k : Int) + (1 + w))) 8 (k + 1 + w) k) 5 k (1 + b + c)) 6 k (1 + w + w2)) := by
  have hT : ((k : Int) + (1 + (w : Int))).toNat = k + 1 + w := by omega
  unfold g_X7_reads_55 g_X7_reads_81 g_X7_reads_136 g_X7_reads_196
  rw [if_neg (by omega)]
  rcases hd with rfl | rfl | rfl
  · simp (disch := omega) [sb_t, h2, h5, h6, h5', h6', hT, up_q, up_k, gx_d, wr_t, up_s, X7_twofold_v, bn_t]
    rfl
  · simp (disch := omega) [sb_t, h2, h5, h6, h5', h6', hT, up_q, up_k, gx_d, wr_t, up_s, X7_twofold_v, bn_t]
    rfl
  · simp (disch := omega) [sb_t, h2, h5, h6, h5', h6', hT, up_q, up_k, gx_d, wr_t, up_s, X7_twofold_v, bn_t]
    rfl
end RD
