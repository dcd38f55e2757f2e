/-! rings() alike. -/
