theorem zI9 {σ : zHp} (h : zInv σ) : zIR σ := h.2.2.2.2.2.2.2.2.2.1
theorem zI10 {σ : zHp} (h : zInv σ) : zIS σ := h.2.2.2.2.2.2.2.2.2.2
