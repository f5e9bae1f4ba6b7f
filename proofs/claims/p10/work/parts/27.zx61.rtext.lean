/-! nothing -/
