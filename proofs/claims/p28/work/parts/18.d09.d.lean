/-! Answers alike. -/
