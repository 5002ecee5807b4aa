theorem feed_iff {g w : Nat} (hw : w ≤ 15) : Feed (g : Int) (w : Int) ↔ FeedD g w = true := by
  rw [FeedD_iff]
  unfold Feed FeedN
  omega
theorem uRd_txt {M N : Mem} (h : Fx uRd M N) {x : Txt} (hx : TxT M x) : TxT N x := h.txt rfl rfl hx