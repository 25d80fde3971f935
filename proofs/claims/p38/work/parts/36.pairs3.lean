theorem zI3 {σ : zHp} (h : zInv σ) : zIN σ := h.2.2.2.2.2.2.2.1
