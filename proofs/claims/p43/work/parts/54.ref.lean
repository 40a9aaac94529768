/-! the reference: a row mixed -/
